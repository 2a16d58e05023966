set_option maxHeartbeats 8000000 in
set_option maxRecDepth 100000 in
theorem lw_c13 {p : Program} {l : Launch} {e : Env} {s : State} {m : MethodId} {below : List Frame} {meth : Method} {c : Code} {b L : Nat} (hx : p.tables.exec = Jvm.exec) (hb : c.code = b_La_law) (hml : c.maxLocals = 8) (hown : s.vm.findClass R_La = some m.cls) (hts : ∀ w ∈ Cond.tt :: GW, w.before #[Value.ref b] s = true) {G : va_G} {cI cL cZ cR cE : ClassId} (hK : va_K G vwCl (TYS cI cL cZ cR cE) s) (hN : NW s) (htr : l.stackTraces = false) (hTW : TW s.heap.size s) {xs : Nat → Int32} (hX : va_X b L xs s s.heap) (hbl : b < s.heap.size) (hL : L ≤ 3073) {Bm : Nat → Nat} {oa i : Nat} (hi : i + 6 ≤ L) {cells slots : Nat} (hcs : cells + 3 ≤ 601024 ∧ slots + 34 ≤ 7293000) {Q : State → Prop} {A : CAd} {sc : CS} {t : MS} {f : Nat → Int64} {H : Heap} {locs : List Loc} {ls : Array Slot} (hR : Rel sc t) (hP : va_P G vwCl (LW cI cL cZ cR cE A sc Bm t oa f) H) (hD : va_D (AL s.heap.size) (LW cI cL cZ cR cE A sc Bm t oa f)) (hS : va_S (AL s.heap.size) s.heap H locs) (hl : lv_has ls 8 [(4, .int (nI i)), (3, .ref oa), (2, .ref (Bm 0)), (1, .ref (A.h 0)), (0, .ref b)])
    (kk : ∀ (A' : CAd) (sc' : CS) (t' : MS) (f' : Nat → Int64) (H' : Heap) (locs' : List Loc) (ls' : Array Slot), A'.h 0 = A.h 0 → Rel sc' t' → va_P G vwCl (LW cI cL cZ cR cE A' sc' Bm t' oa f') H' → va_D (AL s.heap.size) (LW cI cL cZ cR cE A' sc' Bm t' oa f') → va_S (AL s.heap.size) s.heap H' locs' → lv_has ls' 8 [(4, .int (nI i)), (3, .ref oa), (2, .ref (Bm 0)), (1, .ref (A.h 0)), (0, .ref b)] → W p l e room_1 s m #[Value.ref b] below meth c H' locs' (cells + 3) (slots + 34) Q (F0 m 878 ls' [])) : W p l e room_1 s m #[Value.ref b] below meth c H locs cells slots Q (F0 m 679 ls []) := by
  have hA : ∀ q : Nat, s.heap.size ≤ q → AL s.heap.size q := fun q h => h
  have hDl : va_D (fun _ => True) (OU cL oa f ++ FW cI cL cZ cR cE A sc) := by
    have h9 := va_D_iff.mp hD
    rw [List.map_append] at h9
    exact va_D_iff.mpr ⟨(List.nodup_append.mp h9.1).1, fun _ _ => trivial⟩
  have hk_1 := hts (.constantLong R_La 38 4294967295) (List.mem_cons_of_mem _ kw_784)
  refine lv_aload_n hx hb d_La_law_679 rfl (lv_at hl 3 rfl) ?_
  refine lv_aload_n hx hb d_La_law_680 rfl (lv_at hl 4 rfl) ?_
  refine lv_iload hx hb d_La_law_681 (lv_at hl 0 rfl) ?_
  refine lv_iconst (v := 1) hx hb d_La_law_683 (by decide) ?_
  refine lv_iadd hx hb d_La_law_684 ?_
  refine va_sld hx hb hX hbl (Nat.not_le_of_lt hbl) hS (sx_in 1 (by omega) hL) d_La_law_685 ?_
  refine lv_aload_n hx hb d_La_law_686 rfl (lv_at hl 4 rfl) ?_
  refine lv_iload hx hb d_La_law_687 (lv_at hl 0 rfl) ?_
  refine lv_iconst (v := 2) hx hb d_La_law_689 (by decide) ?_
  refine lv_iadd hx hb d_La_law_690 ?_
  refine va_sld hx hb hX hbl (Nat.not_le_of_lt hbl) hS (sx_in 2 (by omega) hL) d_La_law_691 ?_
  refine lv_i2l (v := (xs ((nI i) + 2).toNatClampNeg).toInt64) hx hb d_La_law_692 rfl ?_
  refine lv_bipush (v := 32) hx hb d_La_law_693 (by decide) ?_
  refine lv_lshl (v := ((xs ((nI i) + 2).toNatClampNeg).toInt64) <<< ((32 : Int32).toInt64 &&& 63)) hx hb d_La_law_695 rfl ?_
  refine lv_aload_n hx hb d_La_law_696 rfl (lv_at hl 4 rfl) ?_
  refine lv_iload hx hb d_La_law_697 (lv_at hl 0 rfl) ?_
  refine lv_iconst (v := 3) hx hb d_La_law_699 (by decide) ?_
  refine lv_iadd hx hb d_La_law_700 ?_
  refine va_sld hx hb hX hbl (Nat.not_le_of_lt hbl) hS (sx_in 3 (by omega) hL) d_La_law_701 ?_
  refine lv_i2l (v := (xs ((nI i) + 3).toNatClampNeg).toInt64) hx hb d_La_law_702 rfl ?_
  refine lv_ldc2 (v := 4294967295) hx hb hown hk_1 d_La_law_703 ?_
  refine lv_land hx hb d_La_law_706 ?_
  refine lv_lor hx hb d_La_law_707 ?_
  refine lv_aload_n hx hb d_La_law_708 rfl (lv_at hl 4 rfl) ?_
  refine lv_iload hx hb d_La_law_709 (lv_at hl 0 rfl) ?_
  refine lv_iconst (v := 4) hx hb d_La_law_711 (by decide) ?_
  refine lv_iadd hx hb d_La_law_712 ?_
  refine va_sld hx hb hX hbl (Nat.not_le_of_lt hbl) hS (sx_in 4 (by omega) hL) d_La_law_713 ?_
  refine lv_i2l (v := (xs ((nI i) + 4).toNatClampNeg).toInt64) hx hb d_La_law_714 rfl ?_
  refine lv_bipush (v := 32) hx hb d_La_law_715 (by decide) ?_
  refine lv_lshl (v := ((xs ((nI i) + 4).toNatClampNeg).toInt64) <<< ((32 : Int32).toInt64 &&& 63)) hx hb d_La_law_717 rfl ?_
  refine lv_aload_n hx hb d_La_law_718 rfl (lv_at hl 4 rfl) ?_
  refine lv_iload hx hb d_La_law_719 (lv_at hl 0 rfl) ?_
  refine lv_iconst (v := 5) hx hb d_La_law_721 (by decide) ?_
  refine lv_iadd hx hb d_La_law_722 ?_
  refine va_sld hx hb hX hbl (Nat.not_le_of_lt hbl) hS (sx_in 5 (by omega) hL) d_La_law_723 ?_
  refine lv_i2l (v := (xs ((nI i) + 5).toNatClampNeg).toInt64) hx hb d_La_law_724 rfl ?_
  refine lv_ldc2 (v := 4294967295) hx hb hown hk_1 d_La_law_725 ?_
  refine lv_land hx hb d_La_law_728 ?_
  refine lv_lor hx hb d_La_law_729 ?_
  refine lv_aload_n hx hb d_La_law_730 rfl (lv_at hl 1 rfl) ?_
  refine cl_iP (cx := (OU cL oa f ++ FW cI cL cZ cR cE A sc)) (R0 := WMd cI cL cZ cR cE Bm t) (List.Perm.refl _) hK hP hD hS hA (va_runSW (n := 5) (As := [.ref (A.h 0), .int (xs ((nI i) + 1).toNatClampNeg), .long ((((xs ((nI i) + 2).toNatClampNeg).toInt64) <<< ((32 : Int32).toInt64 &&& 63)) ||| (((xs ((nI i) + 3).toNatClampNeg).toInt64) &&& 4294967295)), .long ((((xs ((nI i) + 4).toNatClampNeg).toInt64) <<< ((32 : Int32).toInt64 &&& 63)) ||| (((xs ((nI i) + 5).toNatClampNeg).toInt64) &&& 4294967295)), .ref oa]) (rest := []) (hh := [(0, 12, 15, 13)]) ⟨hx, hb, hml, hown, hts⟩ (x_ldivide l G cI cL cZ cR cE htr s.heap.size H.size A sc hR.hn oa f (xs ((nI i) + 1).toNatClampNeg) ((((xs ((nI i) + 2).toNatClampNeg).toInt64) <<< ((32 : Int32).toInt64 &&& 63)) ||| (((xs ((nI i) + 3).toNatClampNeg).toInt64) &&& 4294967295)) ((((xs ((nI i) + 4).toNatClampNeg).toInt64) <<< ((32 : Int32).toInt64 &&& 63)) ||| (((xs ((nI i) + 5).toNatClampNeg).toInt64) &&& 4294967295))) rfl rfl (Nat.le_of_ble_eq_true rfl) (Nat.le_of_ble_eq_true rfl) (pay_in hts (gCW kw_460)) List.mem_cons_self (hts _ (List.mem_cons_of_mem _ kw_460)) (hts _ (List.mem_cons_of_mem _ kw_14)) (hts _ (List.mem_cons_of_mem _ kw_459)) (by decide) (by decide +kernel) (hts _ (List.mem_cons_of_mem _ kw_458)) ⟨preWT_blind, fun U hU hW => ⟨rfl, by rw [hU], by rw [hU]; exact hP.lf, va_K.moved hW.alike hK, hDl, hN.warm hW, hTW.keep hW (fun q hq => by rw [hU]; exact hS.2.1 q hq (Nat.not_le_of_lt hq))⟩⟩ rfl rfl hl.1 rfl (Nat.le_of_ble_eq_true rfl) d_La_law_731 ⟨by show cells + 1 ≤ 601024; omega, by show slots + 6 ≤ 7293000; omega⟩) (fun r f1 H locs hw hP hD hS => ?_)
  replace hP : va_P G vwCl (LW cI cL cZ cR cE A sc Bm t oa f1) H := hP
  replace hD : va_D (AL s.heap.size) (LW cI cL cZ cR cE A sc Bm t oa f1) := hD
  refine lv_istore (lv' := [(5, .int r), (4, .int (nI i)), (3, .ref oa), (2, .ref (Bm 0)), (1, .ref (A.h 0)), (0, .ref b)]) hx hb d_La_law_734 hl (by decide) rfl (fun ls hl => ?_)
  refine lv_aload_n hx hb d_La_law_736 rfl (lv_at hl 3 rfl) ?_
  refine lv_aload_n hx hb d_La_law_737 rfl (lv_at hl 5 rfl) ?_
  refine lv_iload hx hb d_La_law_738 (lv_at hl 1 rfl) ?_
  refine lv_iconst (v := 1) hx hb d_La_law_740 (by decide) ?_
  refine lv_iadd hx hb d_La_law_741 ?_
  refine va_sld hx hb hX hbl (Nat.not_le_of_lt hbl) hS (sx_in 1 (by omega) hL) d_La_law_742 ?_
  refine lv_aload_n hx hb d_La_law_743 rfl (lv_at hl 5 rfl) ?_
  refine lv_iload hx hb d_La_law_744 (lv_at hl 1 rfl) ?_
  refine lv_iconst (v := 2) hx hb d_La_law_746 (by decide) ?_
  refine lv_iadd hx hb d_La_law_747 ?_
  refine va_sld hx hb hX hbl (Nat.not_le_of_lt hbl) hS (sx_in 2 (by omega) hL) d_La_law_748 ?_
  refine lv_i2l (v := (xs ((nI i) + 2).toNatClampNeg).toInt64) hx hb d_La_law_749 rfl ?_
  refine lv_bipush (v := 32) hx hb d_La_law_750 (by decide) ?_
  refine lv_lshl (v := ((xs ((nI i) + 2).toNatClampNeg).toInt64) <<< ((32 : Int32).toInt64 &&& 63)) hx hb d_La_law_752 rfl ?_
  refine lv_aload_n hx hb d_La_law_753 rfl (lv_at hl 5 rfl) ?_
  refine lv_iload hx hb d_La_law_754 (lv_at hl 1 rfl) ?_
  refine lv_iconst (v := 3) hx hb d_La_law_756 (by decide) ?_
  refine lv_iadd hx hb d_La_law_757 ?_
  refine va_sld hx hb hX hbl (Nat.not_le_of_lt hbl) hS (sx_in 3 (by omega) hL) d_La_law_758 ?_
  refine lv_i2l (v := (xs ((nI i) + 3).toNatClampNeg).toInt64) hx hb d_La_law_759 rfl ?_
  refine lv_ldc2 (v := 4294967295) hx hb hown hk_1 d_La_law_760 ?_
  refine lv_land hx hb d_La_law_763 ?_
  refine lv_lor hx hb d_La_law_764 ?_
  refine lv_aload_n hx hb d_La_law_765 rfl (lv_at hl 5 rfl) ?_
  refine lv_iload hx hb d_La_law_766 (lv_at hl 1 rfl) ?_
  refine lv_iconst (v := 4) hx hb d_La_law_768 (by decide) ?_
  refine lv_iadd hx hb d_La_law_769 ?_
  refine va_sld hx hb hX hbl (Nat.not_le_of_lt hbl) hS (sx_in 4 (by omega) hL) d_La_law_770 ?_
  refine lv_i2l (v := (xs ((nI i) + 4).toNatClampNeg).toInt64) hx hb d_La_law_771 rfl ?_
  refine lv_bipush (v := 32) hx hb d_La_law_772 (by decide) ?_
  refine lv_lshl (v := ((xs ((nI i) + 4).toNatClampNeg).toInt64) <<< ((32 : Int32).toInt64 &&& 63)) hx hb d_La_law_774 rfl ?_
  refine lv_aload_n hx hb d_La_law_775 rfl (lv_at hl 5 rfl) ?_
  refine lv_iload hx hb d_La_law_776 (lv_at hl 1 rfl) ?_
  refine lv_iconst (v := 5) hx hb d_La_law_778 (by decide) ?_
  refine lv_iadd hx hb d_La_law_779 ?_
  refine va_sld hx hb hX hbl (Nat.not_le_of_lt hbl) hS (sx_in 5 (by omega) hL) d_La_law_780 ?_
  refine lv_i2l (v := (xs ((nI i) + 5).toNatClampNeg).toInt64) hx hb d_La_law_781 rfl ?_
  refine lv_ldc2 (v := 4294967295) hx hb hown hk_1 d_La_law_782 ?_
  refine lv_land hx hb d_La_law_785 ?_
  refine lv_lor hx hb d_La_law_786 ?_
  refine cl_lP pl_M hK hP hD hS hA (va_runV (As := [.int (xs ((nI i) + 1).toNatClampNeg), .long ((((xs ((nI i) + 2).toNatClampNeg).toInt64) <<< ((32 : Int32).toInt64 &&& 63)) ||| (((xs ((nI i) + 3).toNatClampNeg).toInt64) &&& 4294967295)), .long ((((xs ((nI i) + 4).toNatClampNeg).toInt64) <<< ((32 : Int32).toInt64 &&& 63)) ||| (((xs ((nI i) + 5).toNatClampNeg).toInt64) &&& 4294967295))]) (rest := []) ⟨hx, hb, hml, hown, hts⟩ (xm_divide l G cI cL cZ cR cE H.size Bm t hR (xs ((nI i) + 1).toNatClampNeg) ((((xs ((nI i) + 2).toNatClampNeg).toInt64) <<< ((32 : Int32).toInt64 &&& 63)) ||| (((xs ((nI i) + 3).toNatClampNeg).toInt64) &&& 4294967295)) ((((xs ((nI i) + 4).toNatClampNeg).toInt64) <<< ((32 : Int32).toInt64 &&& 63)) ||| (((xs ((nI i) + 5).toNatClampNeg).toInt64) &&& 4294967295))) (cwV 3 hts (gV kw_775 kw_776 kw_777 kw_21 kw_778) rfl rfl rfl (by decide +kernel) ⟨Nat.le_of_ble_eq_true rfl, Nat.le_of_ble_eq_true rfl⟩) (preWV_p (ci := 6) (wr := WMd cI cL cZ cR cE Bm t) pl_M hN hK hP hD (va_P.rg hP) rfl rfl) rfl rfl hl.1 rfl (lv_room (Nat.le_of_ble_eq_true rfl)) d_La_law_787 ⟨by show cells + 1 + 0 ≤ 601024; omega, by show slots + 6 + 0 ≤ 7293000; omega⟩) (fun r2 t2 H locs hw2 hP hD hS => ?_)
  replace hP : va_P G vwCl (LW cI cL cZ cR cE A sc Bm t2 oa f1) H := va_P.perm hP pl_M.symm
  replace hD : va_D (AL s.heap.size) (LW cI cL cZ cR cE A sc Bm t2 oa f1) := va_D.perm hD pl_M.symm
  have hR2 : Rel sc t2 := by rw [show t2 = (M_divide t (xs ((nI i) + 1).toNatClampNeg) ((((xs ((nI i) + 2).toNatClampNeg).toInt64) <<< ((32 : Int32).toInt64 &&& 63)) ||| (((xs ((nI i) + 3).toNatClampNeg).toInt64) &&& 4294967295)) ((((xs ((nI i) + 4).toNatClampNeg).toInt64) <<< ((32 : Int32).toInt64 &&& 63)) ||| (((xs ((nI i) + 5).toNatClampNeg).toInt64) &&& 4294967295))).2 from congrArg Prod.snd hw2]; exact hR.thr
  refine lv_lstore (lv' := [(6, .long r2), (5, .int r), (4, .int (nI i)), (3, .ref oa), (2, .ref (Bm 0)), (1, .ref (A.h 0)), (0, .ref b)]) hx hb d_La_law_790 hl (by decide) rfl (fun ls hl => ?_)
  refine lv_aload_n hx hb d_La_law_792 rfl (lv_at hl 4 rfl) ?_
  refine vp_callSi (W.runV (As := []) (rest := []) ⟨hx, hb, hml, hown, hts⟩ (xm_thrown l G cI cL cZ cR cE Bm t2) (cwV 0 hts (gV kw_663 kw_664 kw_665 kw_21 kw_666) rfl rfl rfl (by decide +kernel) ⟨Nat.le_of_ble_eq_true rfl, Nat.le_of_ble_eq_true rfl⟩) (preRV_w (ci := 6) hN hK (va_P.rg hP) (va_P.rg hP) rfl rfl) rfl rfl hl.1 rfl (lv_room (Nat.le_of_ble_eq_true rfl)) d_La_law_793 ⟨by show cells + 1 + 0 + 0 ≤ 601024; omega, by show slots + 6 + 0 + 0 ≤ 7293000; omega⟩) (fun r3 hw3 => ?_)
  refine lv_iload hx hb d_La_law_796 (lv_at hl 1 rfl) ?_
  have hsd : F_ldiv sc (xs ((nI i) + 1).toNatClampNeg) ((((xs ((nI i) + 2).toNatClampNeg).toInt64) <<< ((32 : Int32).toInt64 &&& 63)) ||| (((xs ((nI i) + 3).toNatClampNeg).toInt64) &&& 4294967295)) ((((xs ((nI i) + 4).toNatClampNeg).toInt64) <<< ((32 : Int32).toInt64 &&& 63)) ||| (((xs ((nI i) + 5).toNatClampNeg).toInt64) &&& 4294967295)) f = (r, f1) := hw.symm
  have hmd := sim_divide hR (xs ((nI i) + 1).toNatClampNeg) ((((xs ((nI i) + 2).toNatClampNeg).toInt64) <<< ((32 : Int32).toInt64 &&& 63)) ||| (((xs ((nI i) + 3).toNatClampNeg).toInt64) &&& 4294967295)) ((((xs ((nI i) + 4).toNatClampNeg).toInt64) <<< ((32 : Int32).toInt64 &&& 63)) ||| (((xs ((nI i) + 5).toNatClampNeg).toInt64) &&& 4294967295))
  have hpr : r3 = r ∧ (r = 0 → f1 (0 : Int32).toNatClampNeg = r2) := by
    rw [hw3, show t2.thrown = (f_mdivide t.rules (xs ((nI i) + 1).toNatClampNeg) ((((xs ((nI i) + 2).toNatClampNeg).toInt64) <<< ((32 : Int32).toInt64 &&& 63)) ||| (((xs ((nI i) + 3).toNatClampNeg).toInt64) &&& 4294967295)) ((((xs ((nI i) + 4).toNatClampNeg).toInt64) <<< ((32 : Int32).toInt64 &&& 63)) ||| (((xs ((nI i) + 5).toNatClampNeg).toInt64) &&& 4294967295))).2 from congrArg (fun z => (Prod.snd z).thrown) hw2, show r2 = (f_mdivide t.rules (xs ((nI i) + 1).toNatClampNeg) ((((xs ((nI i) + 2).toNatClampNeg).toInt64) <<< ((32 : Int32).toInt64 &&& 63)) ||| (((xs ((nI i) + 3).toNatClampNeg).toInt64) &&& 4294967295)) ((((xs ((nI i) + 4).toNatClampNeg).toInt64) <<< ((32 : Int32).toInt64 &&& 63)) ||| (((xs ((nI i) + 5).toNatClampNeg).toInt64) &&& 4294967295))).1 from congrArg Prod.fst hw2, hmd]
    exact ldiv_ok hsd
  obtain ⟨he3, he4⟩ := hpr
  refine lv_icmp_eq (tgt := 803) hx hb d_La_law_798 (by decide) (fun _ => ?_) (fun g => absurd he3 g)
  refine lv_iload hx hb d_La_law_803 (lv_at hl 1 rfl) ?_
  by_cases hk0 : r = 0
  · refine lv_if_ne (tgt := 819) hx hb d_La_law_805 (by decide) (fun g => absurd hk0 g) (fun _ => ?_)
    have he4 := he4 hk0
    refine lv_aload_n hx hb d_La_law_808 rfl (lv_at hl 3 rfl) ?_
    refine lv_iconst (v := 0) hx hb d_La_law_809 (by decide) ?_
    refine va_lald hx hb hK hP 0 1 rfl rfl (by unfold vp_in; decide) d_La_law_810 ?_
    refine lv_lload hx hb d_La_law_811 (lv_at hl 0 rfl) ?_
    refine lc_eq (x := f1 (0 : Int32).toNatClampNeg) (y := r2) (tgt := 819) hx hb d_La_law_813 d_La_law_814 (by decide) (fun _ => ?_) (fun g => absurd he4 g)
    refine lv_goto (tgt := 878) hx hb d_La_law_819 (by decide) ?_
    refine W.widen (k := cells + 3) (n := slots + 34) (by omega) (by omega) ?_
    exact kk A sc t2 f1 H _ ls rfl hR2 hP hD hS (lv_sub hl [2, 3, 4, 5, 6] rfl)
  · refine lv_if_ne (tgt := 819) hx hb d_La_law_805 (by decide) (fun _ => ?_) (fun g => absurd g hk0)
    refine lv_goto (tgt := 878) hx hb d_La_law_819 (by decide) ?_
    refine W.widen (k := cells + 3) (n := slots + 34) (by omega) (by omega) ?_
    exact kk A sc t2 f1 H _ ls rfl hR2 hP hD hS (lv_sub hl [2, 3, 4, 5, 6] rfl)
