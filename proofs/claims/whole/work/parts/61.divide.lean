def F_divide (s : CS) (k : Int32) (x y : Int64) : Int64 := if ¬ (k < 0 ∨ s.n ≤ k.toNatClampNeg) then (if y = 0 then 0 else x / y) else -101
theorem x_divide (l : Launch) (G : va_G) (cI cL cZ cR cE : ClassId)  (A : CAd) (s : CS) (hn : s.n ≤ 40) (k : Int32) (x y : Int64) (hno : ¬ (vp_in k s.n ∧ y = 0)) : Met l y_Hr_divide w_Hr_divide ({ frames := 1, cells := 0, slots := 0, locals := 24 }) (preR G (TYS cI cL cZ cR cE) [.ref (A.h 0), .int k, .long x, .long y] (FW cI cL cZ cR cE A s)) (vp_Sl (fun ans => ans = F_divide s k x y)) 0 0 (fun _ => False) := by
  by_cases ck : vp_in k s.n
  · have hy0 : ¬ y = 0 := fun h => hno ⟨ck, h⟩
    obtain ⟨j, hj, rfl⟩ := vp_in_of ck (by omega)
    have hq : f_ruleAt (rulF A s.n) (nI s.n) (nI j) = some (A.ra j) := by rw [ruleAt_iff hn, in_pos ck, nI_clamp (by omega)]; exact if_pos hj
    have hF : F_divide s (nI j) x y = f_divideR x y := by unfold F_divide f_divideR; rw [in_pos ck]; rfl
    rw [hF]
    exact Met.room (rm := { frames := 1, cells := 0, slots := 0, locals := 24 }) ((c_divideR l G cI cL cZ cR cE (A.h 0) (A.h 1) (A.h 2) (A.h 3) (A.h 4) (A.h 5) (A.h 6) (A.h 7) (A.h 8) (A.h 9) (A.h 10) (A.h 11) (A.h 12) (A.h 13) (A.h 14) (A.h 15) s.steps (edsF A) (rulF A s.n) (nI s.n) s.days s.facts s.stack s.hf s.gv s.gg s.hc s.ht s.pos s.fault s.cell s.av s.ag s.fn s.fh s.fc (nI j) x y (A.ra j) hq hy0).foc_r (fun H h => FW_hr h)) (by decide) (by decide) (by decide) (by decide)
  · have hq : f_ruleAt (rulF A s.n) (nI s.n) k = none := by rw [ruleAt_iff hn, in_neg ck]
    have hF : F_divide s k x y = f_divideN := by unfold F_divide; rw [in_neg ck]; rfl
    rw [hF]
    exact Met.room (rm := { frames := 1, cells := 0, slots := 0, locals := 21 }) ((c_divideN l G cI cL cZ cR cE (A.h 0) (A.h 1) (A.h 2) (A.h 3) (A.h 4) (A.h 5) (A.h 6) (A.h 7) (A.h 8) (A.h 9) (A.h 10) (A.h 11) (A.h 12) (A.h 13) (A.h 14) (A.h 15) s.steps (edsF A) (rulF A s.n) (nI s.n) s.days s.facts s.stack s.hf s.gv s.gg s.hc s.ht s.pos s.fault s.cell s.av s.ag s.fn s.fh s.fc k x y hq).foc_r (fun H h => FW_hr h)) (by decide) (by decide) (by decide) (by decide)
theorem x_handle (l : Launch) (G : va_G) (cI cL cZ cR cE : ClassId)  (A : CAd) (s : CS) (k : Int32) (hno : k < 0 ∨ s.hc ≤ k) : Met l y_Hr_handle w_Hr_handle ({ frames := 0, cells := 0, slots := 0, locals := 0 }) (preR G (TYS cI cL cZ cR cE) [.ref (A.h 0), .int k] (FW cI cL cZ cR cE A s)) (vp_Si (fun ans => ans = -102)) 0 0 (fun _ => False) := by
  by_cases c0 : k < 0
  · exact Met.room (rm := { frames := 0, cells := 0, slots := 0, locals := 0 }) ((c_handleA l G cI cL cZ cR cE (A.h 0) (A.h 1) (A.h 2) (A.h 3) (A.h 4) (A.h 5) (A.h 6) (A.h 7) (A.h 8) (A.h 9) (A.h 10) (A.h 11) (A.h 12) (A.h 13) (A.h 14) (A.h 15) s.steps (edsF A) (rulF A s.n) (nI s.n) s.days s.facts s.stack s.hf s.gv s.gg s.hc s.ht s.pos s.fault s.cell s.av s.ag s.fn s.fh s.fc k c0).foc_r (fun H h => FW_hr h)) (by decide) (by decide) (by decide) (by decide)
  · have c1 : ¬ k < s.hc := fun h => by
      rcases hno with g | g
      · exact c0 g
      · rw [Int32.lt_iff_toInt_lt] at h
        rw [Int32.le_iff_toInt_le] at g
        omega
    exact Met.room (rm := { frames := 0, cells := 0, slots := 0, locals := 0 }) ((c_handleB l G cI cL cZ cR cE (A.h 0) (A.h 1) (A.h 2) (A.h 3) (A.h 4) (A.h 5) (A.h 6) (A.h 7) (A.h 8) (A.h 9) (A.h 10) (A.h 11) (A.h 12) (A.h 13) (A.h 14) (A.h 15) s.steps (edsF A) (rulF A s.n) (nI s.n) s.days s.facts s.stack s.hf s.gv s.gg s.hc s.ht s.pos s.fault s.cell s.av s.ag s.fn s.fh s.fc k c0 c1).foc_r (fun H h => FW_hr h)) (by decide) (by decide) (by decide) (by decide)
set_option maxHeartbeats 4000000 in
set_option maxRecDepth 100000 in
theorem x_divideT (l : Launch) (G : va_G) (cI cL cZ cR cE : ClassId)  (htr : l.stackTraces = false) (Bz : Nat) (A : CAd) (s : CS) (hn : s.n ≤ 40) (k : Int32) (x y : Int64) (ck : vp_in k s.n) (hy0 : y = 0) : MetT l y_Hr_divide w_Hr_divide ({ frames := 6, cells := 1, slots := 6, locals := 82 }) (va_Pc [.ref (A.h 0), .int k, .long x, .long y] (fun U => va_P G vwCl (FW cI cL cZ cR cE A s) U.heap ∧ va_K G vwCl (TYS cI cL cZ cR cE) U ∧ NW U ∧ TW Bz U)) (QT AEN) 1 6 := by
  obtain ⟨j, hj, rfl⟩ := vp_in_of ck (by omega)
  have hq : f_ruleAt (rulF A s.n) (nI s.n) (nI j) = some (A.ra j) := by rw [ruleAt_iff hn, in_pos ck, nI_clamp (by omega)]; exact if_pos hj
  refine MetT.ofW (cc := b_Hr_divide) (maxL := 6) (ret := (some .long)) (by decide) rfl ?_
  intro p e s_ m args below meth c s₁ B hml hv
  obtain ⟨rfl, hP, hK, hN, hTW⟩ := hv
  have hx := B.exec
  have hb := B.bytes
  have hts := atoms_spec (ws := w_Hr_divide) B.pre
  have hown : s_.vm.findClass R_Hr = some m.cls := findClass_of_methodNamed B.named
  have hlocks := B.notSynchronized
  obtain ⟨H, hH⟩ : ∃ H, H = s_.heap := ⟨_, rfl⟩
  rw [← hH] at hP
  rw [← hH]
  have hk_1 := hts (.classLink R_Hr 182 "java/lang/ArithmeticException") (List.mem_cons_of_mem _ kw_467)
  have hk_2 := hts (.instantiable "java/lang/ArithmeticException" 6) (List.mem_cons_of_mem _ kw_468)
  have hk_3 := hts (.initialized "java/lang/ArithmeticException") (List.mem_cons_of_mem _ kw_26)
  have hl := lv_entry ([.ref (A.h 0), .int (nI j), .long x, .long y]) (n := 6) (Nat.le_of_ble_eq_true rfl)
  rw [lg_entry_eq]
  generalize (lg_sl ([.ref (A.h 0), .int (nI j), .long x, .long y]) ++ List.replicate (6 - (lg_sl ([.ref (A.h 0), .int (nI j), .long x, .long y])).length) Slot.unset).toArray = ls at hl ⊢
  replace hl : lv_has ls 6 [(0, .ref (A.h 0)), (1, .int (nI j)), (2, .long x), (4, .long y)] := hl
  refine lv_aload_n hx hb d_Hr_divide_0 rfl (lv_at hl 0 rfl) ?_
  refine lv_iload_n hx hb d_Hr_divide_1 rfl (lv_at hl 1 rfl) ?_
  refine va_csq (W.runV (As := [.int (nI j)]) (rest := []) ⟨hx, hb, hml, hown, hts⟩ (c_ruleAt l G cI cL cZ cR cE (A.h 0) (A.h 1) (A.h 2) (A.h 3) (A.h 4) (A.h 5) (A.h 6) (A.h 7) (A.h 8) (A.h 9) (A.h 10) (A.h 11) (A.h 12) (A.h 13) (A.h 14) (A.h 15) s.steps (edsF A) (rulF A s.n) (nI s.n) s.days s.facts s.stack s.hf s.gv s.gg s.hc s.ht s.pos s.fault s.cell s.av s.ag s.fn s.fh s.fc (nI j)) (cwV 1 hts (gV kw_241 kw_243 kw_1 kw_15 kw_244) rfl rfl rfl (by decide +kernel) ⟨Nat.le_of_ble_eq_true rfl, Nat.le_of_ble_eq_true rfl⟩) (preRV_of (ci := 5) hN hK (FW_hr hP) [0, 1, 2, 3, 4, 5, 6, 7, 8, 9, 10, 11, 12, 13, 14, 15] rfl rfl rfl) rfl rfl hl.1 rfl (lv_room (Nat.le_of_ble_eq_true rfl)) d_Hr_divide_2 ⟨Nat.zero_le _, Nat.zero_le _⟩) (fun r_1 hw => ?_)
  rw [hq] at hw
  subst hw
  refine W.eq (g2 := F0 m 5 ls (.ref (A.ra j) :: [])) rfl ?_
  refine lv_ifnonnull (tgt := 12) hx hb d_Hr_divide_5 (by decide) ?_
  refine lv_lload hx hb d_Hr_divide_12 (lv_at hl 3 rfl) ?_
  refine lv_lconst (v := 0) hx hb d_Hr_divide_14 (by decide) ?_
  refine lc_ne (x := y) (y := 0) (tgt := 29) hx hb d_Hr_divide_15 d_Hr_divide_16 (by decide) (fun g => absurd hy0 g) (fun _ => ?_)
  refine W.newc (C := AEN) hx hb hown hk_1 hk_2 hk_3 rfl d_Hr_divide_19 (Nat.le_of_ble_eq_true rfl) (Nat.le_of_ble_eq_true rfl) (fun cC kC g1 g2 g3 g4 => ?_)
  refine W.eq (g2 := F0 m 22 ls [.ref H.size]) rfl ?_
  refine lv_dup hx hb d_Hr_divide_22 rfl ?_
  obtain ⟨qs, hqs⟩ := hTW.1
  refine va_ldcS hx hb hown hqs d_Hr_divide_23 ?_
  exact W.thr (own := R_Hr) (names := chN) hx htr hb hown (by decide +kernel) (by decide +kernel) (hTW.own hts ow_AE) g1 g2 (by rw [hH]; simp [freshCell]) (by rw [hH]; exact Nat.le_refl _) rfl (hl.1.trans hml.symm) d_Hr_divide_25 d_Hr_divide_28 (B.noHandlers (hts _ List.mem_cons_self)) (by decide) (by decide) hlocks
set_option maxHeartbeats 4000000 in
set_option maxRecDepth 100000 in
theorem x_handleT (l : Launch) (G : va_G) (cI cL cZ cR cE : ClassId)  (htr : l.stackTraces = false) (Bz : Nat) (A : CAd) (s : CS) (k : Int32) (c0 : ¬ k < 0) (c1 : k < s.hc) : MetT l y_Hr_handle w_Hr_handle ({ frames := 6, cells := 1, slots := 6, locals := 82 }) (va_Pc [.ref (A.h 0), .int k] (fun U => va_P G vwCl (FW cI cL cZ cR cE A s) U.heap ∧ va_K G vwCl (TYS cI cL cZ cR cE) U ∧ NW U ∧ TW Bz U)) (QT ISN) 1 6 := by
  refine MetT.ofW (cc := b_Hr_handle) (maxL := 2) (ret := (some .int)) (by decide) rfl ?_
  intro p e s_ m args below meth c s₁ B hml hv
  obtain ⟨rfl, hP, hK, hN, hTW⟩ := hv
  have hx := B.exec
  have hb := B.bytes
  have hts := atoms_spec (ws := w_Hr_handle) B.pre
  have hown : s_.vm.findClass R_Hr = some m.cls := findClass_of_methodNamed B.named
  have hlocks := B.notSynchronized
  obtain ⟨H, hH⟩ : ∃ H, H = s_.heap := ⟨_, rfl⟩
  rw [← hH] at hP
  rw [← hH]
  have hi_2 : ∀ w ∈ u_ws R_Hr T_Hr 8, w ∈ w_Hr_handle := fun w h => List.mem_cons_of_mem _ (iu_Hr w h)
  have hi_4 : ∀ w ∈ u_ws R_Rn T_Rn 9, w ∈ w_Hr_handle := fun w h => List.mem_cons_of_mem _ (iu_Rn w h)
  have hk_1 := hts (.fieldLink R_Hr 31 "HandlingRules" "runner" "LHandlingRules$Runner;") (List.mem_cons_of_mem _ kw_149)
  have hk_3 := hts (.fieldLink R_Hr 193 "HandlingRules$Runner" "handleCount" "I") (List.mem_cons_of_mem _ kw_67)
  have hk_5 := hts (.classLink R_Hr 196 "java/lang/IllegalStateException") (List.mem_cons_of_mem _ kw_543)
  have hk_6 := hts (.instantiable "java/lang/IllegalStateException" 6) (List.mem_cons_of_mem _ kw_544)
  have hk_7 := hts (.initialized "java/lang/IllegalStateException") (List.mem_cons_of_mem _ kw_27)
  have hl := lv_entry ([.ref (A.h 0), .int k]) (n := 2) (Nat.le_of_ble_eq_true rfl)
  rw [lg_entry_eq]
  generalize (lg_sl ([.ref (A.h 0), .int k]) ++ List.replicate (2 - (lg_sl ([.ref (A.h 0), .int k])).length) Slot.unset).toArray = ls at hl ⊢
  replace hl : lv_has ls 2 [(0, .ref (A.h 0)), (1, .int k)] := hl
  refine lv_iload_n hx hb d_Hr_handle_0 rfl (lv_at hl 1 rfl) ?_
  refine lv_if_lt (tgt := 15) hx hb d_Hr_handle_1 (by decide) (fun g => absurd g c0) (fun _ => ?_)
  refine lv_iload_n hx hb d_Hr_handle_4 rfl (lv_at hl 1 rfl) ?_
  refine lv_aload_n hx hb d_Hr_handle_5 rfl (lv_at hl 0 rfl) ?_
  refine va_get (D := G) (ci := 5) (v := .ref (A.h 3)) (C := R_Hr) (T := T_Hr) (N := 8) hx hb hts hi_2 hown hK (FW_hr hP) 0 rfl rfl 5 (by decide) hk_1 (fun _ h9 => h9) rfl d_Hr_handle_6 ?_
  refine va_get (D := G) (ci := 4) (v := .int s.hc) (C := R_Rn) (T := T_Rn) (N := 9) hx hb hts hi_4 hown hK (FW_hr hP) 3 rfl rfl 4 (by decide) hk_3 (fun _ h9 => h9) rfl d_Hr_handle_9 ?_
  refine lv_icmp_lt (tgt := 18) hx hb d_Hr_handle_12 (by decide) (fun _ => ?_) (fun g => absurd c1 g)
  refine W.newc (C := ISN) hx hb hown hk_5 hk_6 hk_7 rfl d_Hr_handle_18 (Nat.le_of_ble_eq_true rfl) (Nat.le_of_ble_eq_true rfl) (fun cC kC g1 g2 g3 g4 => ?_)
  refine W.eq (g2 := F0 m 21 ls [.ref H.size]) rfl ?_
  refine lv_dup hx hb d_Hr_handle_21 rfl ?_
  obtain ⟨qs, hqs⟩ := hTW.2.1
  refine va_ldcS hx hb hown hqs d_Hr_handle_22 ?_
  exact W.thr (own := R_Hr) (names := chN) hx htr hb hown (by decide +kernel) (by decide +kernel) (hTW.own hts ow_IS) g1 g2 (by rw [hH]; simp [freshCell]) (by rw [hH]; exact Nat.le_refl _) rfl (hl.1.trans hml.symm) d_Hr_handle_24 d_Hr_handle_27 (B.noHandlers (hts _ List.mem_cons_self)) (by decide) (by decide) hlocks
