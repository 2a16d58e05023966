set_option maxHeartbeats 8000000 in
set_option maxRecDepth 100000 in
theorem lw_c14 {p : Program} {l : Launch} {e : Env} {s : State} {m : MethodId} {below : List Frame} {meth : Method} {c : Code} {b L : Nat} (hx : p.tables.exec = Jvm.exec) (hb : c.code = b_La_law) (hml : c.maxLocals = 8) (hown : s.vm.findClass R_La = some m.cls) (hts : ∀ w ∈ Cond.tt :: GW, w.before #[Value.ref b] s = true) {G : va_G} {cI cL cZ cR cE : ClassId} (hK : va_K G vwCl (TYS cI cL cZ cR cE) s) (hN : NW s) (htr : l.stackTraces = false) (hTW : TW s.heap.size s) {xs : Nat → Int32} (hX : va_X b L xs s s.heap) (hbl : b < s.heap.size) (hL : L ≤ 3073) {Bm : Nat → Nat} {oa i : Nat} (hi : i + 6 ≤ L) {cells slots : Nat} (hcs : cells + 3 ≤ 601024 ∧ slots + 34 ≤ 7293000) {Q : State → Prop} {A : CAd} {sc : CS} {t : MS} {f : Nat → Int64} {H : Heap} {locs : List Loc} {ls : Array Slot} (hR : Rel sc t) (hP : va_P G vwCl (LW cI cL cZ cR cE A sc Bm t oa f) H) (hD : va_D (AL s.heap.size) (LW cI cL cZ cR cE A sc Bm t oa f)) (hS : va_S (AL s.heap.size) s.heap H locs) (hl : lv_has ls 8 [(4, .int (nI i)), (3, .ref oa), (2, .ref (Bm 0)), (1, .ref (A.h 0)), (0, .ref b)])
    (kk : ∀ (A' : CAd) (sc' : CS) (t' : MS) (f' : Nat → Int64) (H' : Heap) (locs' : List Loc) (ls' : Array Slot), A'.h 0 = A.h 0 → Rel sc' t' → va_P G vwCl (LW cI cL cZ cR cE A' sc' Bm t' oa f') H' → va_D (AL s.heap.size) (LW cI cL cZ cR cE A' sc' Bm t' oa f') → va_S (AL s.heap.size) s.heap H' locs' → lv_has ls' 8 [(4, .int (nI i)), (3, .ref oa), (2, .ref (Bm 0)), (1, .ref (A.h 0)), (0, .ref b)] → W p l e room_1 s m #[Value.ref b] below meth c H' locs' (cells + 3) (slots + 34) Q (F0 m 878 ls' [])) : W p l e room_1 s m #[Value.ref b] below meth c H locs cells slots Q (F0 m 822 ls []) := by
  have hA : ∀ q : Nat, s.heap.size ≤ q → AL s.heap.size q := fun q h => h
  have hDl : va_D (fun _ => True) (OU cL oa f ++ FW cI cL cZ cR cE A sc) := by
    have h9 := va_D_iff.mp hD
    rw [List.map_append] at h9
    exact va_D_iff.mpr ⟨(List.nodup_append.mp h9.1).1, fun _ _ => trivial⟩
  refine lv_aload_n hx hb d_La_law_822 rfl (lv_at hl 3 rfl) ?_
  refine lv_aload_n hx hb d_La_law_823 rfl (lv_at hl 4 rfl) ?_
  refine lv_iload hx hb d_La_law_824 (lv_at hl 0 rfl) ?_
  refine lv_iconst (v := 1) hx hb d_La_law_826 (by decide) ?_
  refine lv_iadd hx hb d_La_law_827 ?_
  refine va_sld hx hb hX hbl (Nat.not_le_of_lt hbl) hS (sx_in 1 (by omega) hL) d_La_law_828 ?_
  refine lv_aload_n hx hb d_La_law_829 rfl (lv_at hl 1 rfl) ?_
  refine cl_iP (cx := (OU cL oa f ++ FW cI cL cZ cR cE A sc)) (R0 := WMd cI cL cZ cR cE Bm t) (List.Perm.refl _) hK hP hD hS hA (va_runSW (n := 3) (As := [.ref (A.h 0), .int (xs ((nI i) + 1).toNatClampNeg), .ref oa]) (rest := []) (hh := [(0, 9, 12, 19)]) ⟨hx, hb, hml, hown, hts⟩ (x_lhandle l G cI cL cZ cR cE htr s.heap.size H.size A sc hR.hn oa f (xs ((nI i) + 1).toNatClampNeg)) rfl rfl (Nat.le_of_ble_eq_true rfl) (Nat.le_of_ble_eq_true rfl) (pay_in hts (gCW kw_537)) List.mem_cons_self (hts _ (List.mem_cons_of_mem _ kw_537)) (hts _ (List.mem_cons_of_mem _ kw_14)) (hts _ (List.mem_cons_of_mem _ kw_536)) (by decide) (by decide +kernel) (hts _ (List.mem_cons_of_mem _ kw_535)) ⟨preWT_blind, fun U hU hW => ⟨rfl, by rw [hU], by rw [hU]; exact hP.lf, va_K.moved hW.alike hK, hDl, hN.warm hW, hTW.keep hW (fun q hq => by rw [hU]; exact hS.2.1 q hq (Nat.not_le_of_lt hq))⟩⟩ rfl rfl hl.1 rfl (Nat.le_of_ble_eq_true rfl) d_La_law_830 ⟨by show cells + 1 ≤ 601024; omega, by show slots + 6 ≤ 7293000; omega⟩) (fun r f1 H locs hw hP hD hS => ?_)
  replace hP : va_P G vwCl (LW cI cL cZ cR cE A sc Bm t oa f1) H := hP
  replace hD : va_D (AL s.heap.size) (LW cI cL cZ cR cE A sc Bm t oa f1) := hD
  refine lv_istore (lv' := [(5, .int r), (4, .int (nI i)), (3, .ref oa), (2, .ref (Bm 0)), (1, .ref (A.h 0)), (0, .ref b)]) hx hb d_La_law_833 hl (by decide) rfl (fun ls hl => ?_)
  refine lv_aload_n hx hb d_La_law_835 rfl (lv_at hl 3 rfl) ?_
  refine lv_aload_n hx hb d_La_law_836 rfl (lv_at hl 5 rfl) ?_
  refine lv_iload hx hb d_La_law_837 (lv_at hl 1 rfl) ?_
  refine lv_iconst (v := 1) hx hb d_La_law_839 (by decide) ?_
  refine lv_iadd hx hb d_La_law_840 ?_
  refine va_sld hx hb hX hbl (Nat.not_le_of_lt hbl) hS (sx_in 1 (by omega) hL) d_La_law_841 ?_
  refine cl_iP pl_M hK hP hD hS hA (va_runV (As := [.int (xs ((nI i) + 1).toNatClampNeg)]) (rest := []) ⟨hx, hb, hml, hown, hts⟩ (xm_handle l G cI cL cZ cR cE H.size Bm t hR (xs ((nI i) + 1).toNatClampNeg)) (cwV 1 hts (gV kw_780 kw_781 kw_782 kw_21 kw_783) rfl rfl rfl (by decide +kernel) ⟨Nat.le_of_ble_eq_true rfl, Nat.le_of_ble_eq_true rfl⟩) (preWV_p (ci := 6) (wr := WMd cI cL cZ cR cE Bm t) pl_M hN hK hP hD (va_P.rg hP) rfl rfl) rfl rfl hl.1 rfl (lv_room (Nat.le_of_ble_eq_true rfl)) d_La_law_842 ⟨by show cells + 1 + 0 ≤ 601024; omega, by show slots + 6 + 0 ≤ 7293000; omega⟩) (fun r2 t2 H locs hw2 hP hD hS => ?_)
  replace hP : va_P G vwCl (LW cI cL cZ cR cE A sc Bm t2 oa f1) H := va_P.perm hP pl_M.symm
  replace hD : va_D (AL s.heap.size) (LW cI cL cZ cR cE A sc Bm t2 oa f1) := va_D.perm hD pl_M.symm
  have hR2 : Rel sc t2 := by rw [show t2 = (M_handle t (xs ((nI i) + 1).toNatClampNeg)).2 from congrArg Prod.snd hw2]; exact hR.thr
  refine lv_istore (lv' := [(6, .int r2), (5, .int r), (4, .int (nI i)), (3, .ref oa), (2, .ref (Bm 0)), (1, .ref (A.h 0)), (0, .ref b)]) hx hb d_La_law_845 hl (by decide) rfl (fun ls hl => ?_)
  refine lv_aload_n hx hb d_La_law_847 rfl (lv_at hl 4 rfl) ?_
  refine vp_callSi (W.runV (As := []) (rest := []) ⟨hx, hb, hml, hown, hts⟩ (xm_thrown l G cI cL cZ cR cE Bm t2) (cwV 0 hts (gV kw_663 kw_664 kw_665 kw_21 kw_666) rfl rfl rfl (by decide +kernel) ⟨Nat.le_of_ble_eq_true rfl, Nat.le_of_ble_eq_true rfl⟩) (preRV_w (ci := 6) hN hK (va_P.rg hP) (va_P.rg hP) rfl rfl) rfl rfl hl.1 rfl (lv_room (Nat.le_of_ble_eq_true rfl)) d_La_law_848 ⟨by show cells + 1 + 0 + 0 ≤ 601024; omega, by show slots + 6 + 0 + 0 ≤ 7293000; omega⟩) (fun r3 hw3 => ?_)
  refine lv_iload hx hb d_La_law_851 (lv_at hl 1 rfl) ?_
  have hsd : F_lhan sc (xs ((nI i) + 1).toNatClampNeg) f = (r, f1) := hw.symm
  have hmd := sim_handle hR (xs ((nI i) + 1).toNatClampNeg)
  have hpr : r3 = r ∧ (r = 0 → f1 (0 : Int32).toNatClampNeg = r2.toInt64) := by
    rw [hw3, show t2.thrown = (f_mhandle t.handles (xs ((nI i) + 1).toNatClampNeg)).2 from congrArg (fun z => (Prod.snd z).thrown) hw2, show r2 = (f_mhandle t.handles (xs ((nI i) + 1).toNatClampNeg)).1 from congrArg Prod.fst hw2, hmd]
    exact lhan_ok hsd
  obtain ⟨he3, he4⟩ := hpr
  refine lv_icmp_eq (tgt := 858) hx hb d_La_law_853 (by decide) (fun _ => ?_) (fun g => absurd he3 g)
  refine lv_iload hx hb d_La_law_858 (lv_at hl 1 rfl) ?_
  by_cases hk0 : r = 0
  · refine lv_if_ne (tgt := 875) hx hb d_La_law_860 (by decide) (fun g => absurd hk0 g) (fun _ => ?_)
    have he4 := he4 hk0
    refine lv_aload_n hx hb d_La_law_863 rfl (lv_at hl 3 rfl) ?_
    refine lv_iconst (v := 0) hx hb d_La_law_864 (by decide) ?_
    refine va_lald hx hb hK hP 0 1 rfl rfl (by unfold vp_in; decide) d_La_law_865 ?_
    refine lv_iload hx hb d_La_law_866 (lv_at hl 0 rfl) ?_
    refine lv_i2l (v := r2.toInt64) hx hb d_La_law_868 rfl ?_
    refine lc_eq (x := f1 (0 : Int32).toNatClampNeg) (y := r2.toInt64) (tgt := 875) hx hb d_La_law_869 d_La_law_870 (by decide) (fun _ => ?_) (fun g => absurd he4 g)
    refine lv_goto (tgt := 878) hx hb d_La_law_875 (by decide) ?_
    refine W.widen (k := cells + 3) (n := slots + 34) (by omega) (by omega) ?_
    exact kk A sc t2 f1 H _ ls rfl hR2 hP hD hS (lv_sub hl [2, 3, 4, 5, 6] rfl)
  · refine lv_if_ne (tgt := 875) hx hb d_La_law_860 (by decide) (fun _ => ?_) (fun g => absurd g hk0)
    refine lv_goto (tgt := 878) hx hb d_La_law_875 (by decide) ?_
    refine W.widen (k := cells + 3) (n := slots + 34) (by omega) (by omega) ?_
    exact kk A sc t2 f1 H _ ls rfl hR2 hP hD hS (lv_sub hl [2, 3, 4, 5, 6] rfl)
