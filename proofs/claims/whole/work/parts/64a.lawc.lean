set_option maxHeartbeats 8000000 in
set_option maxRecDepth 100000 in
theorem lw_c0 {p : Program} {l : Launch} {e : Env} {s : State} {m : MethodId} {below : List Frame} {meth : Method} {c : Code} {b L : Nat} (hx : p.tables.exec = Jvm.exec) (hb : c.code = b_La_law) (hml : c.maxLocals = 8) (hown : s.vm.findClass R_La = some m.cls) (hts : ∀ w ∈ Cond.tt :: GW, w.before #[Value.ref b] s = true) {G : va_G} {cI cL cZ cR cE : ClassId} (hK : va_K G vwCl (TYS cI cL cZ cR cE) s) (hN : NW s) (htr : l.stackTraces = false) (hTW : TW s.heap.size s) {xs : Nat → Int32} (hX : va_X b L xs s s.heap) (hbl : b < s.heap.size) (hL : L ≤ 3073) {Bm : Nat → Nat} {oa i : Nat} (hi : i + 6 ≤ L) {cells slots : Nat} (hcs : cells + 3 ≤ 601024 ∧ slots + 34 ≤ 7293000) {Q : State → Prop} {A : CAd} {sc : CS} {t : MS} {f : Nat → Int64} {H : Heap} {locs : List Loc} {ls : Array Slot} (hR : Rel sc t) (hP : va_P G vwCl (LW cI cL cZ cR cE A sc Bm t oa f) H) (hD : va_D (AL s.heap.size) (LW cI cL cZ cR cE A sc Bm t oa f)) (hS : va_S (AL s.heap.size) s.heap H locs) (hl : lv_has ls 8 [(4, .int (nI i)), (3, .ref oa), (2, .ref (Bm 0)), (1, .ref (A.h 0)), (0, .ref b)])
    (kk : ∀ (A' : CAd) (sc' : CS) (t' : MS) (f' : Nat → Int64) (H' : Heap) (locs' : List Loc) (ls' : Array Slot), A'.h 0 = A.h 0 → Rel sc' t' → va_P G vwCl (LW cI cL cZ cR cE A' sc' Bm t' oa f') H' → va_D (AL s.heap.size) (LW cI cL cZ cR cE A' sc' Bm t' oa f') → va_S (AL s.heap.size) s.heap H' locs' → lv_has ls' 8 [(4, .int (nI i)), (3, .ref oa), (2, .ref (Bm 0)), (1, .ref (A.h 0)), (0, .ref b)] → W p l e room_1 s m #[Value.ref b] below meth c H' locs' (cells + 3) (slots + 34) Q (F0 m 878 ls' [])) : W p l e room_1 s m #[Value.ref b] below meth c H locs cells slots Q (F0 m 124 ls []) := by
  have hA : ∀ q : Nat, s.heap.size ≤ q → AL s.heap.size q := fun q h => h
  refine lv_aload_n hx hb d_La_law_124 rfl (lv_at hl 3 rfl) ?_
  refine lv_aload_n hx hb d_La_law_125 rfl (lv_at hl 4 rfl) ?_
  refine lv_iload hx hb d_La_law_126 (lv_at hl 0 rfl) ?_
  refine lv_iconst (v := 1) hx hb d_La_law_128 (by decide) ?_
  refine lv_iadd hx hb d_La_law_129 ?_
  refine va_sld hx hb hX hbl (Nat.not_le_of_lt hbl) hS (sx_in 1 (by omega) hL) d_La_law_130 ?_
  refine lv_aload_n hx hb d_La_law_131 rfl (lv_at hl 4 rfl) ?_
  refine lv_iload hx hb d_La_law_132 (lv_at hl 0 rfl) ?_
  refine lv_iconst (v := 2) hx hb d_La_law_134 (by decide) ?_
  refine lv_iadd hx hb d_La_law_135 ?_
  refine va_sld hx hb hX hbl (Nat.not_le_of_lt hbl) hS (sx_in 2 (by omega) hL) d_La_law_136 ?_
  refine lv_aload_n hx hb d_La_law_137 rfl (lv_at hl 4 rfl) ?_
  refine lv_iload hx hb d_La_law_138 (lv_at hl 0 rfl) ?_
  refine lv_iconst (v := 3) hx hb d_La_law_140 (by decide) ?_
  refine lv_iadd hx hb d_La_law_141 ?_
  refine va_sld hx hb hX hbl (Nat.not_le_of_lt hbl) hS (sx_in 3 (by omega) hL) d_La_law_142 ?_
  refine cl_iP pl_F hK hP hD hS hA (va_runV (As := [.int (xs ((nI i) + 1).toNatClampNeg), .int (xs ((nI i) + 2).toNatClampNeg), .int (xs ((nI i) + 3).toNatClampNeg)]) (rest := []) ⟨hx, hb, hml, hown, hts⟩ (x_rule l G cI cL cZ cR cE H.size A sc hR.cinv (xs ((nI i) + 1).toNatClampNeg) (xs ((nI i) + 2).toNatClampNeg) (xs ((nI i) + 3).toNatClampNeg)) (cwV 3 hts (gV kw_169 kw_170 kw_171 kw_15 kw_172) rfl rfl rfl (by decide +kernel) ⟨Nat.le_of_ble_eq_true rfl, Nat.le_of_ble_eq_true rfl⟩) (preWV_p (ci := 5) (wr := WH cI cL cZ cR cE A sc) pl_F hN hK hP hD (FW_hr hP.lf.rg) rfl rfl) rfl rfl hl.1 rfl (lv_room (Nat.le_of_ble_eq_true rfl)) d_La_law_143 ⟨by show cells + 3 ≤ 601024; omega, by show slots + 34 ≤ 7293000; omega⟩) (fun r u H locs hw hP hD hS => ?_)
  obtain ⟨A2, u⟩ := u
  obtain ⟨hw, hhA⟩ := hw
  replace hP : va_P G vwCl (LW cI cL cZ cR cE A2 u Bm t oa f) H := va_P.perm hP pl_F.symm
  replace hD : va_D (AL s.heap.size) (LW cI cL cZ cR cE A2 u Bm t oa f) := va_D.perm hD pl_F.symm
  have hsim := sim_rule hR (xs ((nI i) + 1).toNatClampNeg) (xs ((nI i) + 2).toNatClampNeg) (xs ((nI i) + 3).toNatClampNeg)
  rw [← show (r, u) = F_rule sc (xs ((nI i) + 1).toNatClampNeg) (xs ((nI i) + 2).toNatClampNeg) (xs ((nI i) + 3).toNatClampNeg) from hw] at hsim
  refine lv_aload_n hx hb d_La_law_146 rfl (lv_at hl 2 rfl) ?_
  refine lv_aload_n hx hb d_La_law_147 rfl (lv_at hl 4 rfl) ?_
  refine lv_iload hx hb d_La_law_148 (lv_at hl 0 rfl) ?_
  refine lv_iconst (v := 1) hx hb d_La_law_150 (by decide) ?_
  refine lv_iadd hx hb d_La_law_151 ?_
  refine va_sld hx hb hX hbl (Nat.not_le_of_lt hbl) hS (sx_in 1 (by omega) hL) d_La_law_152 ?_
  refine lv_aload_n hx hb d_La_law_153 rfl (lv_at hl 4 rfl) ?_
  refine lv_iload hx hb d_La_law_154 (lv_at hl 0 rfl) ?_
  refine lv_iconst (v := 2) hx hb d_La_law_156 (by decide) ?_
  refine lv_iadd hx hb d_La_law_157 ?_
  refine va_sld hx hb hX hbl (Nat.not_le_of_lt hbl) hS (sx_in 2 (by omega) hL) d_La_law_158 ?_
  refine lv_aload_n hx hb d_La_law_159 rfl (lv_at hl 4 rfl) ?_
  refine lv_iload hx hb d_La_law_160 (lv_at hl 0 rfl) ?_
  refine lv_iconst (v := 3) hx hb d_La_law_162 (by decide) ?_
  refine lv_iadd hx hb d_La_law_163 ?_
  refine va_sld hx hb hX hbl (Nat.not_le_of_lt hbl) hS (sx_in 3 (by omega) hL) d_La_law_164 ?_
  refine cl_iP pl_M hK hP hD hS hA (va_runV (As := [.int (xs ((nI i) + 1).toNatClampNeg), .int (xs ((nI i) + 2).toNatClampNeg), .int (xs ((nI i) + 3).toNatClampNeg)]) (rest := [.int r]) ⟨hx, hb, hml, hown, hts⟩ (xm_rule l G cI cL cZ cR cE H.size Bm t hR (xs ((nI i) + 1).toNatClampNeg) (xs ((nI i) + 2).toNatClampNeg) (xs ((nI i) + 3).toNatClampNeg)) (cwV 3 hts (gV kw_667 kw_668 kw_669 kw_21 kw_670) rfl rfl rfl (by decide +kernel) ⟨Nat.le_of_ble_eq_true rfl, Nat.le_of_ble_eq_true rfl⟩) (preWV_p (ci := 6) (wr := WMd cI cL cZ cR cE Bm t) pl_M hN hK hP hD (va_P.rg hP) rfl rfl) rfl rfl hl.1 rfl (lv_room (Nat.le_of_ble_eq_true rfl)) d_La_law_165 ⟨by show cells + 3 + 0 ≤ 601024; omega, by show slots + 34 + 0 ≤ 7293000; omega⟩) (fun r2 t2 H locs hw2 hP hD hS => ?_)
  replace hP : va_P G vwCl (LW cI cL cZ cR cE A2 u Bm t2 oa f) H := va_P.perm hP pl_M.symm
  replace hD : va_D (AL s.heap.size) (LW cI cL cZ cR cE A2 u Bm t2 oa f) := va_D.perm hD pl_M.symm
  rw [← show (r2, t2) = M_rule t (xs ((nI i) + 1).toNatClampNeg) (xs ((nI i) + 2).toNatClampNeg) (xs ((nI i) + 3).toNatClampNeg) from hw2] at hsim
  have he : r = r2 := hsim.1
  have hR2 : Rel u t2 := hsim.2
  refine lv_icmp_eq (tgt := 878) hx hb d_La_law_168 (by decide) (fun _ => ?_) (fun g => absurd he g)
  refine W.widen (k := cells + 3) (n := slots + 34) (by omega) (by omega) ?_
  exact kk A2 u t2 f H _ ls (congrFun hhA 0) hR2 hP hD hS (lv_sub hl [0, 1, 2, 3, 4] rfl)
