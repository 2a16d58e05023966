set_option maxHeartbeats 8000000 in
set_option maxRecDepth 100000 in
theorem lw_c9 {p : Program} {l : Launch} {e : Env} {s : State} {m : MethodId} {below : List Frame} {meth : Method} {c : Code} {b L : Nat} (hx : p.tables.exec = Jvm.exec) (hb : c.code = b_La_law) (hml : c.maxLocals = 8) (hown : s.vm.findClass R_La = some m.cls) (hts : ∀ w ∈ Cond.tt :: GW, w.before #[Value.ref b] s = true) {G : va_G} {cI cL cZ cR cE : ClassId} (hK : va_K G vwCl (TYS cI cL cZ cR cE) s) (hN : NW s) (htr : l.stackTraces = false) (hTW : TW s.heap.size s) {xs : Nat → Int32} (hX : va_X b L xs s s.heap) (hbl : b < s.heap.size) (hL : L ≤ 3073) {Bm : Nat → Nat} {oa i : Nat} (hi : i + 6 ≤ L) {cells slots : Nat} (hcs : cells + 3 ≤ 601024 ∧ slots + 34 ≤ 7293000) {Q : State → Prop} {A : CAd} {sc : CS} {t : MS} {f : Nat → Int64} {H : Heap} {locs : List Loc} {ls : Array Slot} (hR : Rel sc t) (hP : va_P G vwCl (LW cI cL cZ cR cE A sc Bm t oa f) H) (hD : va_D (AL s.heap.size) (LW cI cL cZ cR cE A sc Bm t oa f)) (hS : va_S (AL s.heap.size) s.heap H locs) (hl : lv_has ls 8 [(4, .int (nI i)), (3, .ref oa), (2, .ref (Bm 0)), (1, .ref (A.h 0)), (0, .ref b)])
    (kk : ∀ (A' : CAd) (sc' : CS) (t' : MS) (f' : Nat → Int64) (H' : Heap) (locs' : List Loc) (ls' : Array Slot), A'.h 0 = A.h 0 → Rel sc' t' → va_P G vwCl (LW cI cL cZ cR cE A' sc' Bm t' oa f') H' → va_D (AL s.heap.size) (LW cI cL cZ cR cE A' sc' Bm t' oa f') → va_S (AL s.heap.size) s.heap H' locs' → lv_has ls' 8 [(4, .int (nI i)), (3, .ref oa), (2, .ref (Bm 0)), (1, .ref (A.h 0)), (0, .ref b)] → W p l e room_1 s m #[Value.ref b] below meth c H' locs' (cells + 3) (slots + 34) Q (F0 m 878 ls' [])) : W p l e room_1 s m #[Value.ref b] below meth c H locs cells slots Q (F0 m 542 ls []) := by
  have hA : ∀ q : Nat, s.heap.size ≤ q → AL s.heap.size q := fun q h => h
  refine lv_aload_n hx hb d_La_law_542 rfl (lv_at hl 3 rfl) ?_
  refine lv_aload_n hx hb d_La_law_543 rfl (lv_at hl 4 rfl) ?_
  refine lv_iload hx hb d_La_law_544 (lv_at hl 0 rfl) ?_
  refine lv_iconst (v := 1) hx hb d_La_law_546 (by decide) ?_
  refine lv_iadd hx hb d_La_law_547 ?_
  refine va_sld hx hb hX hbl (Nat.not_le_of_lt hbl) hS (sx_in 1 (by omega) hL) d_La_law_548 ?_
  refine lv_aload_n hx hb d_La_law_549 rfl (lv_at hl 4 rfl) ?_
  refine lv_iload hx hb d_La_law_550 (lv_at hl 0 rfl) ?_
  refine lv_iconst (v := 2) hx hb d_La_law_552 (by decide) ?_
  refine lv_iadd hx hb d_La_law_553 ?_
  refine va_sld hx hb hX hbl (Nat.not_le_of_lt hbl) hS (sx_in 2 (by omega) hL) d_La_law_554 ?_
  refine vp_callSi (W.runV (As := [.int (xs ((nI i) + 1).toNatClampNeg), .int (xs ((nI i) + 2).toNatClampNeg)]) (rest := []) ⟨hx, hb, hml, hown, hts⟩ (x_failed l G cI cL cZ cR cE A sc  (xs ((nI i) + 1).toNatClampNeg) (xs ((nI i) + 2).toNatClampNeg)) (cwV 2 hts (gV kw_427 kw_428 kw_429 kw_15 kw_430) rfl rfl rfl (by decide +kernel) ⟨Nat.le_of_ble_eq_true rfl, Nat.le_of_ble_eq_true rfl⟩) (preRV_w (ci := 5) hN hK hP.lf.rg (FW_hr hP.lf.rg) rfl rfl) rfl rfl hl.1 rfl (lv_room (Nat.le_of_ble_eq_true rfl)) d_La_law_555 ⟨by show cells + 0 ≤ 601024; omega, by show slots + 0 ≤ 7293000; omega⟩) (fun r hw => ?_)
  refine lv_aload_n hx hb d_La_law_558 rfl (lv_at hl 2 rfl) ?_
  refine lv_aload_n hx hb d_La_law_559 rfl (lv_at hl 4 rfl) ?_
  refine lv_iload hx hb d_La_law_560 (lv_at hl 0 rfl) ?_
  refine lv_iconst (v := 1) hx hb d_La_law_562 (by decide) ?_
  refine lv_iadd hx hb d_La_law_563 ?_
  refine va_sld hx hb hX hbl (Nat.not_le_of_lt hbl) hS (sx_in 1 (by omega) hL) d_La_law_564 ?_
  refine lv_aload_n hx hb d_La_law_565 rfl (lv_at hl 4 rfl) ?_
  refine lv_iload hx hb d_La_law_566 (lv_at hl 0 rfl) ?_
  refine lv_iconst (v := 2) hx hb d_La_law_568 (by decide) ?_
  refine lv_iadd hx hb d_La_law_569 ?_
  refine va_sld hx hb hX hbl (Nat.not_le_of_lt hbl) hS (sx_in 2 (by omega) hL) d_La_law_570 ?_
  refine cl_iP pl_M hK hP hD hS hA (va_runV (As := [.int (xs ((nI i) + 1).toNatClampNeg), .int (xs ((nI i) + 2).toNatClampNeg)]) (rest := [.int r]) ⟨hx, hb, hml, hown, hts⟩ (xm_failed l G cI cL cZ cR cE H.size Bm t hR (xs ((nI i) + 1).toNatClampNeg) (xs ((nI i) + 2).toNatClampNeg)) (cwV 2 hts (gV kw_755 kw_756 kw_757 kw_21 kw_758) rfl rfl rfl (by decide +kernel) ⟨Nat.le_of_ble_eq_true rfl, Nat.le_of_ble_eq_true rfl⟩) (preWV_p (ci := 6) (wr := WMd cI cL cZ cR cE Bm t) pl_M hN hK hP hD (va_P.rg hP) rfl rfl) rfl rfl hl.1 rfl (lv_room (Nat.le_of_ble_eq_true rfl)) d_La_law_571 ⟨by show cells + 0 ≤ 601024; omega, by show slots + 0 ≤ 7293000; omega⟩) (fun r2 t2 H locs hw2 hP hD hS => ?_)
  replace hP : va_P G vwCl (LW cI cL cZ cR cE A sc Bm t2 oa f) H := va_P.perm hP pl_M.symm
  replace hD : va_D (AL s.heap.size) (LW cI cL cZ cR cE A sc Bm t2 oa f) := va_D.perm hD pl_M.symm
  have he : r = r2 := by rw [hw, sim_failed hR (xs ((nI i) + 1).toNatClampNeg) (xs ((nI i) + 2).toNatClampNeg)]; exact (congrArg Prod.fst hw2).symm
  have hR2 : Rel sc t2 := by rw [show t2 = (M_failed t (xs ((nI i) + 1).toNatClampNeg) (xs ((nI i) + 2).toNatClampNeg)).2 from congrArg Prod.snd hw2]; exact hR.thr
  refine lv_icmp_eq (tgt := 878) hx hb d_La_law_574 (by decide) (fun _ => ?_) (fun g => absurd he g)
  refine W.widen (k := cells + 3) (n := slots + 34) (by omega) (by omega) ?_
  exact kk A sc t2 f H _ ls rfl hR2 hP hD hS (lv_sub hl [0, 1, 2, 3, 4] rfl)
