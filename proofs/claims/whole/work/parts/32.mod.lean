def f_mfailed (failures : Int32) (failedRule : Nat → Int32) (failedHow : Nat → Int32) (i : Int32) (what : Int32) : Int32 × Int32 := if (f_mwithin i.toInt64 0 ((failures - 1).toInt64)) = 0 then ((-1), 0) else (if (f_mwithin what.toInt64 0 1) = 0 then ((-1), 0) else (if what = 0 then (failedRule i.toNatClampNeg, 0) else (failedHow i.toNatClampNeg, 0)))
set_option maxHeartbeats 4000000 in
set_option maxRecDepth 100000 in
theorem c_mfailed (l : Launch) (G : va_G) (cI cL cZ cR cE : ClassId) (sz : Nat) (a0 a1 a2 a3 a4 a5 a6 a7 a8 a9 a10 a11 a12 a13 a14 a15 a16 a17 a18 a19 a20 a21 a22 : Nat) (thrown : Int32) (most : Int32) (rules : Int32) (editions : Nat → Int32) (orders : Nat → Int32) (sizes : Nat → Int32) (ops : Nat → Int32) (numbers : Nat → Int64) (cells : Nat → Int64) (hasFallback : Nat → Int32) (fallbackKinds : Nat → Int32) (fallbacks : Nat → Int64) (facts : Nat → Int64) (states : Nat → Int32) (counts : Nat → Int32) (days : Nat → Int32) (toldAt : Nat → Int32) (tells : Int32) (handles : Int32) (handleFacts : Nat → Int32) (failures : Int32) (failedRule : Nat → Int32) (failedHow : Nat → Int32) (answers : Nat → Int64) (givers : Nat → Int32) (stack : Nat → Int64) (high : Int32) (steps : Int32) (how : Int32) (cellNow : Int64) (own : Nat → Int64) (has : Nat → Int32) (i : Int32) (what : Int32) (hF : 0 ≤ failures.toInt ∧ failures.toInt ≤ 8) : Met l y_Mo_failed w_Mo_failed ({ frames := 1, cells := 0, slots := 0, locals := 25 }) (preW G (TYS cI cL cZ cR cE) [.ref a0, .int i, .int what] sz (W_Mod cI cL cZ cR cE a0 a1 a2 a3 a4 a5 a6 a7 a8 a9 a10 a11 a12 a13 a14 a15 a16 a17 a18 a19 a20 a21 a22 thrown most rules editions orders sizes ops numbers cells hasFallback fallbackKinds fallbacks facts states counts days toldAt tells handles handleFacts failures failedRule failedHow answers givers stack high steps how cellNow own has)) (va_Qi (fun (ans_ : Int32) (u : Int32) => (ans_, u) = f_mfailed failures failedRule failedHow i what) (fun u t => va_P G vwCl (W_Mod cI cL cZ cR cE a0 a1 a2 a3 a4 a5 a6 a7 a8 a9 a10 a11 a12 a13 a14 a15 a16 a17 a18 a19 a20 a21 a22 u most rules editions orders sizes ops numbers cells hasFallback fallbackKinds fallbacks facts states counts days toldAt tells handles handleFacts failures failedRule failedHow answers givers stack high steps how cellNow own has) t.heap ∧ va_K G vwCl (TYS cI cL cZ cR cE) t ∧ va_D (va_A (W_Mod cI cL cZ cR cE a0 a1 a2 a3 a4 a5 a6 a7 a8 a9 a10 a11 a12 a13 a14 a15 a16 a17 a18 a19 a20 a21 a22 thrown most rules editions orders sizes ops numbers cells hasFallback fallbackKinds fallbacks facts states counts days toldAt tells handles handleFacts failures failedRule failedHow answers givers stack high steps how cellNow own has) sz) (W_Mod cI cL cZ cR cE a0 a1 a2 a3 a4 a5 a6 a7 a8 a9 a10 a11 a12 a13 a14 a15 a16 a17 a18 a19 a20 a21 a22 u most rules editions orders sizes ops numbers cells hasFallback fallbackKinds fallbacks facts states counts days toldAt tells handles handleFacts failures failedRule failedHow answers givers stack high steps how cellNow own has)) (va_A (W_Mod cI cL cZ cR cE a0 a1 a2 a3 a4 a5 a6 a7 a8 a9 a10 a11 a12 a13 a14 a15 a16 a17 a18 a19 a20 a21 a22 thrown most rules editions orders sizes ops numbers cells hasFallback fallbackKinds fallbacks facts states counts days toldAt tells handles handleFacts failures failedRule failedHow answers givers stack high steps how cellNow own has) sz)) 0 0 (va_A (W_Mod cI cL cZ cR cE a0 a1 a2 a3 a4 a5 a6 a7 a8 a9 a10 a11 a12 a13 a14 a15 a16 a17 a18 a19 a20 a21 a22 thrown most rules editions orders sizes ops numbers cells hasFallback fallbackKinds fallbacks facts states counts days toldAt tells handles handleFacts failures failedRule failedHow answers givers stack high steps how cellNow own has) sz) := by
  refine Met.ofW (cc := b_Mo_failed) (maxL := 3) (ret := (some .int)) (by decide) rfl ?_
  intro p e s m args below meth c s₁ B hml hv
  obtain ⟨rfl, hsz, hP, hK, hD0, hN⟩ := hv
  have hx := B.exec
  have hb := B.bytes
  have hr := B.returns
  have hts := atoms_spec (ws := w_Mo_failed) B.pre
  have hown : s.vm.findClass R_Mo = some m.cls := findClass_of_methodNamed B.named
  have hlocks := B.notSynchronized
  subst hsz
  have hD := hD0.self (sz := s.heap.size)
  clear hD0
  generalize hAe : va_A (W_Mod cI cL cZ cR cE a0 a1 a2 a3 a4 a5 a6 a7 a8 a9 a10 a11 a12 a13 a14 a15 a16 a17 a18 a19 a20 a21 a22 thrown most rules editions orders sizes ops numbers cells hasFallback fallbackKinds fallbacks facts states counts days toldAt tells handles handleFacts failures failedRule failedHow answers givers stack high steps how cellNow own has) s.heap.size = A at hD ⊢
  have hA : ∀ q : Nat, s.heap.size ≤ q → A q := fun q h => by rw [← hAe]; exact Or.inr h
  clear hAe
  have hS : va_S A s.heap s.heap [] := va_S.rf
  obtain ⟨H, hH⟩ : ∃ H, H = s.heap := ⟨_, rfl⟩
  rw [← hH] at hP
  replace hS : va_S A s.heap H [] := by rw [hH]; exact hS
  rw [← hH]
  clear hH
  have hi_2 : ∀ w ∈ u_ws R_Mo T_Mo 32, w ∈ w_Mo_failed := fun w h => List.mem_cons_of_mem _ (iu_Mo w h)
  have hk_1 := hts (.fieldLink R_Mo 82 "HandlingRulesModel" "thrown" "I") (List.mem_cons_of_mem _ kw_565)
  have hk_3 := hts (.fieldLink R_Mo 155 "HandlingRulesModel" "failures" "I") (List.mem_cons_of_mem _ kw_585)
  have hk_4 := hts (.fieldLink R_Mo 60 "HandlingRulesModel" "failedHow" "[I") (List.mem_cons_of_mem _ kw_587)
  have hk_5 := hts (.fieldLink R_Mo 57 "HandlingRulesModel" "failedRule" "[I") (List.mem_cons_of_mem _ kw_586)
  have hl := lv_entry ([.ref a0, .int i, .int what]) (n := 3) (Nat.le_of_ble_eq_true rfl)
  rw [lg_entry_eq]
  generalize (lg_sl ([.ref a0, .int i, .int what]) ++ List.replicate (3 - (lg_sl ([.ref a0, .int i, .int what])).length) Slot.unset).toArray = ls at hl ⊢
  replace hl : lv_has ls 3 [(0, .ref a0), (1, .int i), (2, .int what)] := hl
  generalize hT : f_mfailed failures failedRule failedHow i what = T
  refine lv_aload_n hx hb d_Mo_failed_0 rfl (lv_at hl 0 rfl) ?_
  refine lv_iconst (v := 0) hx hb d_Mo_failed_1 (by decide) ?_
  refine va_put (D := G) (ci := 6) (v := .int 0) (ty := (.int)) (C := R_Mo) (T := T_Mo) (N := 32) hx hb hts hi_2 ty_Mo tyk_Mo nm_Mo hown hK hP hD hS 0 rfl rfl 0 (by decide) hk_1 (fun _ h9 => h9) rfl (by decide +kernel) rfl rfl (Nat.le_of_ble_eq_true rfl) d_Mo_failed_2 (fun H locs hP hD hS => ?_)
  replace hP : va_P G vwCl (W_Mod cI cL cZ cR cE a0 a1 a2 a3 a4 a5 a6 a7 a8 a9 a10 a11 a12 a13 a14 a15 a16 a17 a18 a19 a20 a21 a22 0 most rules editions orders sizes ops numbers cells hasFallback fallbackKinds fallbacks facts states counts days toldAt tells handles handleFacts failures failedRule failedHow answers givers stack high steps how cellNow own has) H := hP
  replace hD : va_D A (W_Mod cI cL cZ cR cE a0 a1 a2 a3 a4 a5 a6 a7 a8 a9 a10 a11 a12 a13 a14 a15 a16 a17 a18 a19 a20 a21 a22 0 most rules editions orders sizes ops numbers cells hasFallback fallbackKinds fallbacks facts states counts days toldAt tells handles handleFacts failures failedRule failedHow answers givers stack high steps how cellNow own has) := hD
  refine lv_iload_n hx hb d_Mo_failed_5 rfl (lv_at hl 1 rfl) ?_
  refine lv_i2l (v := i.toInt64) hx hb d_Mo_failed_6 rfl ?_
  refine lv_lconst (v := 0) hx hb d_Mo_failed_7 (by decide) ?_
  refine lv_aload_n hx hb d_Mo_failed_8 rfl (lv_at hl 0 rfl) ?_
  refine va_get (D := G) (ci := 6) (v := .int failures) (C := R_Mo) (T := T_Mo) (N := 32) hx hb hts hi_2 hown hK hP 0 rfl rfl 20 (by decide) hk_3 (fun _ h9 => h9) rfl d_Mo_failed_9 ?_
  refine lv_iconst (v := 1) hx hb d_Mo_failed_12 (by decide) ?_
  refine lv_isub hx hb d_Mo_failed_13 ?_
  refine lv_i2l (v := (failures - 1).toInt64) hx hb d_Mo_failed_14 rfl ?_
  refine vp_callSi (W.runS (As := [.long i.toInt64, .long 0, .long ((failures - 1).toInt64)]) (rest := []) ⟨hx, hb, hml, hown, hts⟩ (c_mwithin l G cI cL cZ cR cE  i.toInt64 0 ((failures - 1).toInt64)) (va_cwS 3 hts (gS kw_675 kw_676 kw_21 kw_677) rfl rfl rfl (by decide +kernel) ⟨Nat.le_of_ble_eq_true rfl, Nat.le_of_ble_eq_true rfl⟩) (preRS_of hN hK hP [] rfl) rfl rfl hl.1 rfl (lv_room (Nat.le_of_ble_eq_true rfl)) d_Mo_failed_15 ⟨Nat.zero_le _, Nat.zero_le _⟩) (fun r_1 hw => ?_)
  subst hw
  refine lv_if_eq (tgt := 31) hx hb d_Mo_failed_18 (by decide) (fun c_2 => ?_) (fun c_2 => ?_)
  · refine lv_iconst (v := (-1)) hx hb d_Mo_failed_31 (by decide) ?_
    exact W.iret (v := (-1)) hx hb hr (fun t ht hW => ⟨⟨(-1), 0, rfl, (by rw [← hT]; simp only [f_mfailed, if_pos c_2]), by rw [ht]; exact hP, va_K.moved hW.alike hK, hD⟩, hS.F ht⟩) hS.2.2 d_Mo_failed_32
  · refine lv_iload_n hx hb d_Mo_failed_21 rfl (lv_at hl 2 rfl) ?_
    refine lv_i2l (v := what.toInt64) hx hb d_Mo_failed_22 rfl ?_
    refine lv_lconst (v := 0) hx hb d_Mo_failed_23 (by decide) ?_
    refine lv_lconst (v := 1) hx hb d_Mo_failed_24 (by decide) ?_
    refine vp_callSi (W.runS (As := [.long what.toInt64, .long 0, .long 1]) (rest := []) ⟨hx, hb, hml, hown, hts⟩ (c_mwithin l G cI cL cZ cR cE  what.toInt64 0 1) (va_cwS 3 hts (gS kw_675 kw_676 kw_21 kw_677) rfl rfl rfl (by decide +kernel) ⟨Nat.le_of_ble_eq_true rfl, Nat.le_of_ble_eq_true rfl⟩) (preRS_of hN hK hP [] rfl) rfl rfl hl.1 rfl (lv_room (Nat.le_of_ble_eq_true rfl)) d_Mo_failed_25 ⟨Nat.zero_le _, Nat.zero_le _⟩) (fun r_3 hw => ?_)
    subst hw
    refine lv_if_ne (tgt := 33) hx hb d_Mo_failed_28 (by decide) (fun c_4 => ?_) (fun c_4 => ?_)
    · refine lv_iload_n hx hb d_Mo_failed_33 rfl (lv_at hl 2 rfl) ?_
      refine lv_if_ne (tgt := 46) hx hb d_Mo_failed_34 (by decide) (fun c_5 => ?_) (fun c_5 => ?_)
      · refine lv_aload_n hx hb d_Mo_failed_46 rfl (lv_at hl 0 rfl) ?_
        refine va_get (D := G) (ci := 6) (v := .ref a17) (C := R_Mo) (T := T_Mo) (N := 32) hx hb hts hi_2 hown hK hP 0 rfl rfl 22 (by decide) hk_4 (fun _ h9 => h9) rfl d_Mo_failed_47 ?_
        refine lv_iload_n hx hb d_Mo_failed_50 rfl (lv_at hl 1 rfl) ?_
        refine va_iald hx hb hK hP 17 0 rfl rfl (ix_mwn c_2 hF) d_Mo_failed_51 ?_
        exact W.iret (v := failedHow i.toNatClampNeg) hx hb hr (fun t ht hW => ⟨⟨failedHow i.toNatClampNeg, 0, rfl, (by rw [← hT]; simp only [f_mfailed, if_neg c_2, if_neg c_4, if_neg c_5]), by rw [ht]; exact hP, va_K.moved hW.alike hK, hD⟩, hS.F ht⟩) hS.2.2 d_Mo_failed_52
      · refine lv_aload_n hx hb d_Mo_failed_37 rfl (lv_at hl 0 rfl) ?_
        refine va_get (D := G) (ci := 6) (v := .ref a16) (C := R_Mo) (T := T_Mo) (N := 32) hx hb hts hi_2 hown hK hP 0 rfl rfl 21 (by decide) hk_5 (fun _ h9 => h9) rfl d_Mo_failed_38 ?_
        refine lv_iload_n hx hb d_Mo_failed_41 rfl (lv_at hl 1 rfl) ?_
        refine va_iald hx hb hK hP 16 0 rfl rfl (ix_mwn c_2 hF) d_Mo_failed_42 ?_
        refine lv_goto (tgt := 52) hx hb d_Mo_failed_43 (by decide) ?_
        exact W.iret (v := failedRule i.toNatClampNeg) hx hb hr (fun t ht hW => ⟨⟨failedRule i.toNatClampNeg, 0, rfl, (by rw [← hT]; simp only [f_mfailed, if_neg c_2, if_neg c_4, if_pos c_5]), by rw [ht]; exact hP, va_K.moved hW.alike hK, hD⟩, hS.F ht⟩) hS.2.2 d_Mo_failed_52
    · refine lv_iconst (v := (-1)) hx hb d_Mo_failed_31 (by decide) ?_
      exact W.iret (v := (-1)) hx hb hr (fun t ht hW => ⟨⟨(-1), 0, rfl, (by rw [← hT]; simp only [f_mfailed, if_neg c_2, if_pos c_4]), by rw [ht]; exact hP, va_K.moved hW.alike hK, hD⟩, hS.F ht⟩) hS.2.2 d_Mo_failed_32
def f_mcell (rules : Int32) (cells : Nat → Int64) (r : Int32) : Int64 × Int32 := if (f_misRule rules r) = 0 then (0, 0) else (cells r.toNatClampNeg, 0)
set_option maxHeartbeats 4000000 in
set_option maxRecDepth 100000 in
theorem c_mcell (l : Launch) (G : va_G) (cI cL cZ cR cE : ClassId) (sz : Nat) (a0 a1 a2 a3 a4 a5 a6 a7 a8 a9 a10 a11 a12 a13 a14 a15 a16 a17 a18 a19 a20 a21 a22 : Nat) (thrown : Int32) (most : Int32) (rules : Int32) (editions : Nat → Int32) (orders : Nat → Int32) (sizes : Nat → Int32) (ops : Nat → Int32) (numbers : Nat → Int64) (cells : Nat → Int64) (hasFallback : Nat → Int32) (fallbackKinds : Nat → Int32) (fallbacks : Nat → Int64) (facts : Nat → Int64) (states : Nat → Int32) (counts : Nat → Int32) (days : Nat → Int32) (toldAt : Nat → Int32) (tells : Int32) (handles : Int32) (handleFacts : Nat → Int32) (failures : Int32) (failedRule : Nat → Int32) (failedHow : Nat → Int32) (answers : Nat → Int64) (givers : Nat → Int32) (stack : Nat → Int64) (high : Int32) (steps : Int32) (how : Int32) (cellNow : Int64) (own : Nat → Int64) (has : Nat → Int32) (r : Int32) (hR : 0 ≤ rules.toInt ∧ rules.toInt ≤ 40) : Met l y_Mo_cell w_Mo_cell ({ frames := 2, cells := 0, slots := 0, locals := 46 }) (preW G (TYS cI cL cZ cR cE) [.ref a0, .int r] sz (W_Mod cI cL cZ cR cE a0 a1 a2 a3 a4 a5 a6 a7 a8 a9 a10 a11 a12 a13 a14 a15 a16 a17 a18 a19 a20 a21 a22 thrown most rules editions orders sizes ops numbers cells hasFallback fallbackKinds fallbacks facts states counts days toldAt tells handles handleFacts failures failedRule failedHow answers givers stack high steps how cellNow own has)) (va_Ql (fun (ans_ : Int64) (u : Int32) => (ans_, u) = f_mcell rules cells r) (fun u t => va_P G vwCl (W_Mod cI cL cZ cR cE a0 a1 a2 a3 a4 a5 a6 a7 a8 a9 a10 a11 a12 a13 a14 a15 a16 a17 a18 a19 a20 a21 a22 u most rules editions orders sizes ops numbers cells hasFallback fallbackKinds fallbacks facts states counts days toldAt tells handles handleFacts failures failedRule failedHow answers givers stack high steps how cellNow own has) t.heap ∧ va_K G vwCl (TYS cI cL cZ cR cE) t ∧ va_D (va_A (W_Mod cI cL cZ cR cE a0 a1 a2 a3 a4 a5 a6 a7 a8 a9 a10 a11 a12 a13 a14 a15 a16 a17 a18 a19 a20 a21 a22 thrown most rules editions orders sizes ops numbers cells hasFallback fallbackKinds fallbacks facts states counts days toldAt tells handles handleFacts failures failedRule failedHow answers givers stack high steps how cellNow own has) sz) (W_Mod cI cL cZ cR cE a0 a1 a2 a3 a4 a5 a6 a7 a8 a9 a10 a11 a12 a13 a14 a15 a16 a17 a18 a19 a20 a21 a22 u most rules editions orders sizes ops numbers cells hasFallback fallbackKinds fallbacks facts states counts days toldAt tells handles handleFacts failures failedRule failedHow answers givers stack high steps how cellNow own has)) (va_A (W_Mod cI cL cZ cR cE a0 a1 a2 a3 a4 a5 a6 a7 a8 a9 a10 a11 a12 a13 a14 a15 a16 a17 a18 a19 a20 a21 a22 thrown most rules editions orders sizes ops numbers cells hasFallback fallbackKinds fallbacks facts states counts days toldAt tells handles handleFacts failures failedRule failedHow answers givers stack high steps how cellNow own has) sz)) 0 0 (va_A (W_Mod cI cL cZ cR cE a0 a1 a2 a3 a4 a5 a6 a7 a8 a9 a10 a11 a12 a13 a14 a15 a16 a17 a18 a19 a20 a21 a22 thrown most rules editions orders sizes ops numbers cells hasFallback fallbackKinds fallbacks facts states counts days toldAt tells handles handleFacts failures failedRule failedHow answers givers stack high steps how cellNow own has) sz) := by
  refine Met.ofW (cc := b_Mo_cell) (maxL := 2) (ret := (some .long)) (by decide) rfl ?_
  intro p e s m args below meth c s₁ B hml hv
  obtain ⟨rfl, hsz, hP, hK, hD0, hN⟩ := hv
  have hx := B.exec
  have hb := B.bytes
  have hr := B.returns
  have hts := atoms_spec (ws := w_Mo_cell) B.pre
  have hown : s.vm.findClass R_Mo = some m.cls := findClass_of_methodNamed B.named
  have hlocks := B.notSynchronized
  subst hsz
  have hD := hD0.self (sz := s.heap.size)
  clear hD0
  generalize hAe : va_A (W_Mod cI cL cZ cR cE a0 a1 a2 a3 a4 a5 a6 a7 a8 a9 a10 a11 a12 a13 a14 a15 a16 a17 a18 a19 a20 a21 a22 thrown most rules editions orders sizes ops numbers cells hasFallback fallbackKinds fallbacks facts states counts days toldAt tells handles handleFacts failures failedRule failedHow answers givers stack high steps how cellNow own has) s.heap.size = A at hD ⊢
  have hA : ∀ q : Nat, s.heap.size ≤ q → A q := fun q h => by rw [← hAe]; exact Or.inr h
  clear hAe
  have hS : va_S A s.heap s.heap [] := va_S.rf
  obtain ⟨H, hH⟩ : ∃ H, H = s.heap := ⟨_, rfl⟩
  rw [← hH] at hP
  replace hS : va_S A s.heap H [] := by rw [hH]; exact hS
  rw [← hH]
  clear hH
  have hi_2 : ∀ w ∈ u_ws R_Mo T_Mo 32, w ∈ w_Mo_cell := fun w h => List.mem_cons_of_mem _ (iu_Mo w h)
  have hk_1 := hts (.fieldLink R_Mo 82 "HandlingRulesModel" "thrown" "I") (List.mem_cons_of_mem _ kw_565)
  have hk_3 := hts (.fieldLink R_Mo 26 "HandlingRulesModel" "cells" "[J") (List.mem_cons_of_mem _ kw_573)
  have hl := lv_entry ([.ref a0, .int r]) (n := 2) (Nat.le_of_ble_eq_true rfl)
  rw [lg_entry_eq]
  generalize (lg_sl ([.ref a0, .int r]) ++ List.replicate (2 - (lg_sl ([.ref a0, .int r])).length) Slot.unset).toArray = ls at hl ⊢
  replace hl : lv_has ls 2 [(0, .ref a0), (1, .int r)] := hl
  generalize hT : f_mcell rules cells r = T
  refine lv_aload_n hx hb d_Mo_cell_0 rfl (lv_at hl 0 rfl) ?_
  refine lv_iconst (v := 0) hx hb d_Mo_cell_1 (by decide) ?_
  refine va_put (D := G) (ci := 6) (v := .int 0) (ty := (.int)) (C := R_Mo) (T := T_Mo) (N := 32) hx hb hts hi_2 ty_Mo tyk_Mo nm_Mo hown hK hP hD hS 0 rfl rfl 0 (by decide) hk_1 (fun _ h9 => h9) rfl (by decide +kernel) rfl rfl (Nat.le_of_ble_eq_true rfl) d_Mo_cell_2 (fun H locs hP hD hS => ?_)
  replace hP : va_P G vwCl (W_Mod cI cL cZ cR cE a0 a1 a2 a3 a4 a5 a6 a7 a8 a9 a10 a11 a12 a13 a14 a15 a16 a17 a18 a19 a20 a21 a22 0 most rules editions orders sizes ops numbers cells hasFallback fallbackKinds fallbacks facts states counts days toldAt tells handles handleFacts failures failedRule failedHow answers givers stack high steps how cellNow own has) H := hP
  replace hD : va_D A (W_Mod cI cL cZ cR cE a0 a1 a2 a3 a4 a5 a6 a7 a8 a9 a10 a11 a12 a13 a14 a15 a16 a17 a18 a19 a20 a21 a22 0 most rules editions orders sizes ops numbers cells hasFallback fallbackKinds fallbacks facts states counts days toldAt tells handles handleFacts failures failedRule failedHow answers givers stack high steps how cellNow own has) := hD
  refine lv_aload_n hx hb d_Mo_cell_5 rfl (lv_at hl 0 rfl) ?_
  refine lv_iload_n hx hb d_Mo_cell_6 rfl (lv_at hl 1 rfl) ?_
  refine vp_callSi (W.runV (As := [.int r]) (rest := []) ⟨hx, hb, hml, hown, hts⟩ (c_misRule l G cI cL cZ cR cE a0 a1 a2 a3 a4 a5 a6 a7 a8 a9 a10 a11 a12 a13 a14 a15 a16 a17 a18 a19 a20 a21 a22 0 most rules editions orders sizes ops numbers cells hasFallback fallbackKinds fallbacks facts states counts days toldAt tells handles handleFacts failures failedRule failedHow answers givers stack high steps how cellNow own has r) (cwV 1 hts (gV kw_684 kw_686 kw_7 kw_21 kw_687) rfl rfl rfl (by decide +kernel) ⟨Nat.le_of_ble_eq_true rfl, Nat.le_of_ble_eq_true rfl⟩) (preRV_of (ci := 6) hN hK hP [0, 1, 2, 3, 4, 5, 6, 7, 8, 9, 10, 11, 12, 13, 14, 15, 16, 17, 18, 19, 20, 21, 22] rfl rfl rfl) rfl rfl hl.1 rfl (lv_room (Nat.le_of_ble_eq_true rfl)) d_Mo_cell_7 ⟨Nat.zero_le _, Nat.zero_le _⟩) (fun r_1 hw => ?_)
  subst hw
  refine lv_if_eq (tgt := 22) hx hb d_Mo_cell_10 (by decide) (fun c_2 => ?_) (fun c_2 => ?_)
  · refine lv_lconst (v := 0) hx hb d_Mo_cell_22 (by decide) ?_
    exact W.lret (v := 0) hx hb hr (fun t ht hW => ⟨⟨0, 0, rfl, (by rw [← hT]; simp only [f_mcell, if_pos c_2]), by rw [ht]; exact hP, va_K.moved hW.alike hK, hD⟩, hS.F ht⟩) hS.2.2 d_Mo_cell_23
  · refine lv_aload_n hx hb d_Mo_cell_13 rfl (lv_at hl 0 rfl) ?_
    refine va_get (D := G) (ci := 6) (v := .ref a6) (C := R_Mo) (T := T_Mo) (N := 32) hx hb hts hi_2 hown hK hP 0 rfl rfl 8 (by decide) hk_3 (fun _ h9 => h9) rfl d_Mo_cell_14 ?_
    refine lv_iload_n hx hb d_Mo_cell_17 rfl (lv_at hl 1 rfl) ?_
    refine va_lald hx hb hK hP 6 1 rfl rfl (ix_misRule c_2 hR) d_Mo_cell_18 ?_
    refine lv_goto (tgt := 23) hx hb d_Mo_cell_19 (by decide) ?_
    exact W.lret (v := cells r.toNatClampNeg) hx hb hr (fun t ht hW => ⟨⟨cells r.toNatClampNeg, 0, rfl, (by rw [← hT]; simp only [f_mcell, if_neg c_2]), by rw [ht]; exact hP, va_K.moved hW.alike hK, hD⟩, hS.F ht⟩) hS.2.2 d_Mo_cell_23
def f_medition (states : Nat → Int32) (counts : Nat → Int32) (days : Nat → Int32) (ed : Int32) (what : Int32) : Int32 × Int32 := if (f_misEdition ed) = 0 then ((-102), 0) else (if (f_mwithin what.toInt64 0 2) = 0 then ((-102), 0) else (if what = 0 then (states ed.toNatClampNeg, 0) else (if what = 1 then (counts ed.toNatClampNeg, 0) else (days ed.toNatClampNeg, 0))))
set_option maxHeartbeats 4000000 in
set_option maxRecDepth 100000 in
theorem c_medition (l : Launch) (G : va_G) (cI cL cZ cR cE : ClassId) (sz : Nat) (a0 a1 a2 a3 a4 a5 a6 a7 a8 a9 a10 a11 a12 a13 a14 a15 a16 a17 a18 a19 a20 a21 a22 : Nat) (thrown : Int32) (most : Int32) (rules : Int32) (editions : Nat → Int32) (orders : Nat → Int32) (sizes : Nat → Int32) (ops : Nat → Int32) (numbers : Nat → Int64) (cells : Nat → Int64) (hasFallback : Nat → Int32) (fallbackKinds : Nat → Int32) (fallbacks : Nat → Int64) (facts : Nat → Int64) (states : Nat → Int32) (counts : Nat → Int32) (days : Nat → Int32) (toldAt : Nat → Int32) (tells : Int32) (handles : Int32) (handleFacts : Nat → Int32) (failures : Int32) (failedRule : Nat → Int32) (failedHow : Nat → Int32) (answers : Nat → Int64) (givers : Nat → Int32) (stack : Nat → Int64) (high : Int32) (steps : Int32) (how : Int32) (cellNow : Int64) (own : Nat → Int64) (has : Nat → Int32) (ed : Int32) (what : Int32) : Met l y_Mo_edition w_Mo_edition ({ frames := 2, cells := 0, slots := 0, locals := 45 }) (preW G (TYS cI cL cZ cR cE) [.ref a0, .int ed, .int what] sz (W_Mod cI cL cZ cR cE a0 a1 a2 a3 a4 a5 a6 a7 a8 a9 a10 a11 a12 a13 a14 a15 a16 a17 a18 a19 a20 a21 a22 thrown most rules editions orders sizes ops numbers cells hasFallback fallbackKinds fallbacks facts states counts days toldAt tells handles handleFacts failures failedRule failedHow answers givers stack high steps how cellNow own has)) (va_Qi (fun (ans_ : Int32) (u : Int32) => (ans_, u) = f_medition states counts days ed what) (fun u t => va_P G vwCl (W_Mod cI cL cZ cR cE a0 a1 a2 a3 a4 a5 a6 a7 a8 a9 a10 a11 a12 a13 a14 a15 a16 a17 a18 a19 a20 a21 a22 u most rules editions orders sizes ops numbers cells hasFallback fallbackKinds fallbacks facts states counts days toldAt tells handles handleFacts failures failedRule failedHow answers givers stack high steps how cellNow own has) t.heap ∧ va_K G vwCl (TYS cI cL cZ cR cE) t ∧ va_D (va_A (W_Mod cI cL cZ cR cE a0 a1 a2 a3 a4 a5 a6 a7 a8 a9 a10 a11 a12 a13 a14 a15 a16 a17 a18 a19 a20 a21 a22 thrown most rules editions orders sizes ops numbers cells hasFallback fallbackKinds fallbacks facts states counts days toldAt tells handles handleFacts failures failedRule failedHow answers givers stack high steps how cellNow own has) sz) (W_Mod cI cL cZ cR cE a0 a1 a2 a3 a4 a5 a6 a7 a8 a9 a10 a11 a12 a13 a14 a15 a16 a17 a18 a19 a20 a21 a22 u most rules editions orders sizes ops numbers cells hasFallback fallbackKinds fallbacks facts states counts days toldAt tells handles handleFacts failures failedRule failedHow answers givers stack high steps how cellNow own has)) (va_A (W_Mod cI cL cZ cR cE a0 a1 a2 a3 a4 a5 a6 a7 a8 a9 a10 a11 a12 a13 a14 a15 a16 a17 a18 a19 a20 a21 a22 thrown most rules editions orders sizes ops numbers cells hasFallback fallbackKinds fallbacks facts states counts days toldAt tells handles handleFacts failures failedRule failedHow answers givers stack high steps how cellNow own has) sz)) 0 0 (va_A (W_Mod cI cL cZ cR cE a0 a1 a2 a3 a4 a5 a6 a7 a8 a9 a10 a11 a12 a13 a14 a15 a16 a17 a18 a19 a20 a21 a22 thrown most rules editions orders sizes ops numbers cells hasFallback fallbackKinds fallbacks facts states counts days toldAt tells handles handleFacts failures failedRule failedHow answers givers stack high steps how cellNow own has) sz) := by
  refine Met.ofW (cc := b_Mo_edition) (maxL := 3) (ret := (some .int)) (by decide) rfl ?_
  intro p e s m args below meth c s₁ B hml hv
  obtain ⟨rfl, hsz, hP, hK, hD0, hN⟩ := hv
  have hx := B.exec
  have hb := B.bytes
  have hr := B.returns
  have hts := atoms_spec (ws := w_Mo_edition) B.pre
  have hown : s.vm.findClass R_Mo = some m.cls := findClass_of_methodNamed B.named
  have hlocks := B.notSynchronized
  subst hsz
  have hD := hD0.self (sz := s.heap.size)
  clear hD0
  generalize hAe : va_A (W_Mod cI cL cZ cR cE a0 a1 a2 a3 a4 a5 a6 a7 a8 a9 a10 a11 a12 a13 a14 a15 a16 a17 a18 a19 a20 a21 a22 thrown most rules editions orders sizes ops numbers cells hasFallback fallbackKinds fallbacks facts states counts days toldAt tells handles handleFacts failures failedRule failedHow answers givers stack high steps how cellNow own has) s.heap.size = A at hD ⊢
  have hA : ∀ q : Nat, s.heap.size ≤ q → A q := fun q h => by rw [← hAe]; exact Or.inr h
  clear hAe
  have hS : va_S A s.heap s.heap [] := va_S.rf
  obtain ⟨H, hH⟩ : ∃ H, H = s.heap := ⟨_, rfl⟩
  rw [← hH] at hP
  replace hS : va_S A s.heap H [] := by rw [hH]; exact hS
  rw [← hH]
  clear hH
  have hi_2 : ∀ w ∈ u_ws R_Mo T_Mo 32, w ∈ w_Mo_edition := fun w h => List.mem_cons_of_mem _ (iu_Mo w h)
  have hk_1 := hts (.fieldLink R_Mo 82 "HandlingRulesModel" "thrown" "I") (List.mem_cons_of_mem _ kw_565)
  have hk_3 := hts (.constantLong R_Mo 173 2) (List.mem_cons_of_mem _ kw_767)
  have hk_4 := hts (.fieldLink R_Mo 48 "HandlingRulesModel" "days" "[I") (List.mem_cons_of_mem _ kw_580)
  have hk_5 := hts (.fieldLink R_Mo 45 "HandlingRulesModel" "counts" "[I") (List.mem_cons_of_mem _ kw_579)
  have hk_6 := hts (.fieldLink R_Mo 42 "HandlingRulesModel" "states" "[I") (List.mem_cons_of_mem _ kw_578)
  have hl := lv_entry ([.ref a0, .int ed, .int what]) (n := 3) (Nat.le_of_ble_eq_true rfl)
  rw [lg_entry_eq]
  generalize (lg_sl ([.ref a0, .int ed, .int what]) ++ List.replicate (3 - (lg_sl ([.ref a0, .int ed, .int what])).length) Slot.unset).toArray = ls at hl ⊢
  replace hl : lv_has ls 3 [(0, .ref a0), (1, .int ed), (2, .int what)] := hl
  generalize hT : f_medition states counts days ed what = T
  refine lv_aload_n hx hb d_Mo_edition_0 rfl (lv_at hl 0 rfl) ?_
  refine lv_iconst (v := 0) hx hb d_Mo_edition_1 (by decide) ?_
  refine va_put (D := G) (ci := 6) (v := .int 0) (ty := (.int)) (C := R_Mo) (T := T_Mo) (N := 32) hx hb hts hi_2 ty_Mo tyk_Mo nm_Mo hown hK hP hD hS 0 rfl rfl 0 (by decide) hk_1 (fun _ h9 => h9) rfl (by decide +kernel) rfl rfl (Nat.le_of_ble_eq_true rfl) d_Mo_edition_2 (fun H locs hP hD hS => ?_)
  replace hP : va_P G vwCl (W_Mod cI cL cZ cR cE a0 a1 a2 a3 a4 a5 a6 a7 a8 a9 a10 a11 a12 a13 a14 a15 a16 a17 a18 a19 a20 a21 a22 0 most rules editions orders sizes ops numbers cells hasFallback fallbackKinds fallbacks facts states counts days toldAt tells handles handleFacts failures failedRule failedHow answers givers stack high steps how cellNow own has) H := hP
  replace hD : va_D A (W_Mod cI cL cZ cR cE a0 a1 a2 a3 a4 a5 a6 a7 a8 a9 a10 a11 a12 a13 a14 a15 a16 a17 a18 a19 a20 a21 a22 0 most rules editions orders sizes ops numbers cells hasFallback fallbackKinds fallbacks facts states counts days toldAt tells handles handleFacts failures failedRule failedHow answers givers stack high steps how cellNow own has) := hD
  refine lv_iload_n hx hb d_Mo_edition_5 rfl (lv_at hl 1 rfl) ?_
  refine vp_callSi (W.runS (As := [.int ed]) (rest := []) ⟨hx, hb, hml, hown, hts⟩ (c_misEdition l G cI cL cZ cR cE  ed) (va_cwS 1 hts (gS kw_671 kw_672 kw_21 kw_673) rfl rfl rfl (by decide +kernel) ⟨Nat.le_of_ble_eq_true rfl, Nat.le_of_ble_eq_true rfl⟩) (preRS_of hN hK hP [] rfl) rfl rfl hl.1 rfl (lv_room (Nat.le_of_ble_eq_true rfl)) d_Mo_edition_6 ⟨Nat.zero_le _, Nat.zero_le _⟩) (fun r_1 hw => ?_)
  subst hw
  refine lv_if_eq (tgt := 24) hx hb d_Mo_edition_9 (by decide) (fun c_2 => ?_) (fun c_2 => ?_)
  · refine lv_bipush (v := (-102)) hx hb d_Mo_edition_24 (by decide) ?_
    exact W.iret (v := (-102)) hx hb hr (fun t ht hW => ⟨⟨(-102), 0, rfl, (by rw [← hT]; simp only [f_medition, if_pos c_2]), by rw [ht]; exact hP, va_K.moved hW.alike hK, hD⟩, hS.F ht⟩) hS.2.2 d_Mo_edition_26
  · refine lv_iload_n hx hb d_Mo_edition_12 rfl (lv_at hl 2 rfl) ?_
    refine lv_i2l (v := what.toInt64) hx hb d_Mo_edition_13 rfl ?_
    refine lv_lconst (v := 0) hx hb d_Mo_edition_14 (by decide) ?_
    refine lv_ldc2 (v := 2) hx hb hown hk_3 d_Mo_edition_15 ?_
    refine vp_callSi (W.runS (As := [.long what.toInt64, .long 0, .long 2]) (rest := []) ⟨hx, hb, hml, hown, hts⟩ (c_mwithin l G cI cL cZ cR cE  what.toInt64 0 2) (va_cwS 3 hts (gS kw_675 kw_676 kw_21 kw_677) rfl rfl rfl (by decide +kernel) ⟨Nat.le_of_ble_eq_true rfl, Nat.le_of_ble_eq_true rfl⟩) (preRS_of hN hK hP [] rfl) rfl rfl hl.1 rfl (lv_room (Nat.le_of_ble_eq_true rfl)) d_Mo_edition_18 ⟨Nat.zero_le _, Nat.zero_le _⟩) (fun r_3 hw => ?_)
    subst hw
    refine lv_if_ne (tgt := 27) hx hb d_Mo_edition_21 (by decide) (fun c_4 => ?_) (fun c_4 => ?_)
    · refine lv_iload_n hx hb d_Mo_edition_27 rfl (lv_at hl 2 rfl) ?_
      refine lv_if_ne (tgt := 40) hx hb d_Mo_edition_28 (by decide) (fun c_5 => ?_) (fun c_5 => ?_)
      · refine lv_iload_n hx hb d_Mo_edition_40 rfl (lv_at hl 2 rfl) ?_
        refine lv_iconst (v := 1) hx hb d_Mo_edition_41 (by decide) ?_
        refine lv_icmp_ne (tgt := 54) hx hb d_Mo_edition_42 (by decide) (fun c_6 => ?_) (fun c_6 => ?_)
        · refine lv_aload_n hx hb d_Mo_edition_54 rfl (lv_at hl 0 rfl) ?_
          refine va_get (D := G) (ci := 6) (v := .ref a13) (C := R_Mo) (T := T_Mo) (N := 32) hx hb hts hi_2 hown hK hP 0 rfl rfl 15 (by decide) hk_4 (fun _ h9 => h9) rfl d_Mo_edition_55 ?_
          refine lv_iload_n hx hb d_Mo_edition_58 rfl (lv_at hl 1 rfl) ?_
          refine va_iald hx hb hK hP 13 0 rfl rfl (ix_med c_2) d_Mo_edition_59 ?_
          exact W.iret (v := days ed.toNatClampNeg) hx hb hr (fun t ht hW => ⟨⟨days ed.toNatClampNeg, 0, rfl, (by rw [← hT]; simp only [f_medition, if_neg c_2, if_neg c_4, if_neg c_5, if_neg c_6]), by rw [ht]; exact hP, va_K.moved hW.alike hK, hD⟩, hS.F ht⟩) hS.2.2 d_Mo_edition_60
        · refine lv_aload_n hx hb d_Mo_edition_45 rfl (lv_at hl 0 rfl) ?_
          refine va_get (D := G) (ci := 6) (v := .ref a12) (C := R_Mo) (T := T_Mo) (N := 32) hx hb hts hi_2 hown hK hP 0 rfl rfl 14 (by decide) hk_5 (fun _ h9 => h9) rfl d_Mo_edition_46 ?_
          refine lv_iload_n hx hb d_Mo_edition_49 rfl (lv_at hl 1 rfl) ?_
          refine va_iald hx hb hK hP 12 0 rfl rfl (ix_med c_2) d_Mo_edition_50 ?_
          refine lv_goto (tgt := 60) hx hb d_Mo_edition_51 (by decide) ?_
          exact W.iret (v := counts ed.toNatClampNeg) hx hb hr (fun t ht hW => ⟨⟨counts ed.toNatClampNeg, 0, rfl, (by rw [← hT]; simp only [f_medition, if_neg c_2, if_neg c_4, if_neg c_5, if_pos c_6]), by rw [ht]; exact hP, va_K.moved hW.alike hK, hD⟩, hS.F ht⟩) hS.2.2 d_Mo_edition_60
      · refine lv_aload_n hx hb d_Mo_edition_31 rfl (lv_at hl 0 rfl) ?_
        refine va_get (D := G) (ci := 6) (v := .ref a11) (C := R_Mo) (T := T_Mo) (N := 32) hx hb hts hi_2 hown hK hP 0 rfl rfl 13 (by decide) hk_6 (fun _ h9 => h9) rfl d_Mo_edition_32 ?_
        refine lv_iload_n hx hb d_Mo_edition_35 rfl (lv_at hl 1 rfl) ?_
        refine va_iald hx hb hK hP 11 0 rfl rfl (ix_med c_2) d_Mo_edition_36 ?_
        refine lv_goto (tgt := 60) hx hb d_Mo_edition_37 (by decide) ?_
        exact W.iret (v := states ed.toNatClampNeg) hx hb hr (fun t ht hW => ⟨⟨states ed.toNatClampNeg, 0, rfl, (by rw [← hT]; simp only [f_medition, if_neg c_2, if_neg c_4, if_pos c_5]), by rw [ht]; exact hP, va_K.moved hW.alike hK, hD⟩, hS.F ht⟩) hS.2.2 d_Mo_edition_60
    · refine lv_bipush (v := (-102)) hx hb d_Mo_edition_24 (by decide) ?_
      exact W.iret (v := (-102)) hx hb hr (fun t ht hW => ⟨⟨(-102), 0, rfl, (by rw [← hT]; simp only [f_medition, if_neg c_2, if_pos c_4]), by rw [ht]; exact hP, va_K.moved hW.alike hK, hD⟩, hS.F ht⟩) hS.2.2 d_Mo_edition_26
def f_mday (states : Nat → Int32) (days : Nat → Int32) (toldAt : Nat → Int32) (tells : Int32) (ed : Int32) (fr : Int32) : Int32 × Int32 × (Nat → Int32) × (Nat → Int32) × Int32 := if (f_misEdition ed) = 0 then ((-102), (0, days, toldAt, tells)) else (if (f_mwithin fr.toInt64 0 100000) = 0 then ((-102), (0, days, toldAt, tells)) else (if (states ed.toNatClampNeg) = 2 then (1, (0, upd days ed.toNatClampNeg fr, upd toldAt ed.toNatClampNeg (tells + 1), tells + 1)) else ((-103), (0, days, toldAt, tells))))
set_option maxHeartbeats 4000000 in
set_option maxRecDepth 100000 in
theorem c_mday (l : Launch) (G : va_G) (cI cL cZ cR cE : ClassId) (sz : Nat) (a0 a1 a2 a3 a4 a5 a6 a7 a8 a9 a10 a11 a12 a13 a14 a15 a16 a17 a18 a19 a20 a21 a22 : Nat) (thrown : Int32) (most : Int32) (rules : Int32) (editions : Nat → Int32) (orders : Nat → Int32) (sizes : Nat → Int32) (ops : Nat → Int32) (numbers : Nat → Int64) (cells : Nat → Int64) (hasFallback : Nat → Int32) (fallbackKinds : Nat → Int32) (fallbacks : Nat → Int64) (facts : Nat → Int64) (states : Nat → Int32) (counts : Nat → Int32) (days : Nat → Int32) (toldAt : Nat → Int32) (tells : Int32) (handles : Int32) (handleFacts : Nat → Int32) (failures : Int32) (failedRule : Nat → Int32) (failedHow : Nat → Int32) (answers : Nat → Int64) (givers : Nat → Int32) (stack : Nat → Int64) (high : Int32) (steps : Int32) (how : Int32) (cellNow : Int64) (own : Nat → Int64) (has : Nat → Int32) (ed : Int32) (fr : Int32) : Met l y_Mo_day w_Mo_day ({ frames := 2, cells := 0, slots := 0, locals := 45 }) (preW G (TYS cI cL cZ cR cE) [.ref a0, .int ed, .int fr] sz (W_Mod cI cL cZ cR cE a0 a1 a2 a3 a4 a5 a6 a7 a8 a9 a10 a11 a12 a13 a14 a15 a16 a17 a18 a19 a20 a21 a22 thrown most rules editions orders sizes ops numbers cells hasFallback fallbackKinds fallbacks facts states counts days toldAt tells handles handleFacts failures failedRule failedHow answers givers stack high steps how cellNow own has)) (va_Qi (fun (ans_ : Int32) (u : Int32 × (Nat → Int32) × (Nat → Int32) × Int32) => (ans_, u) = f_mday states days toldAt tells ed fr) (fun u t => va_P G vwCl (W_Mod cI cL cZ cR cE a0 a1 a2 a3 a4 a5 a6 a7 a8 a9 a10 a11 a12 a13 a14 a15 a16 a17 a18 a19 a20 a21 a22 u.1 most rules editions orders sizes ops numbers cells hasFallback fallbackKinds fallbacks facts states counts u.2.1 u.2.2.1 u.2.2.2 handles handleFacts failures failedRule failedHow answers givers stack high steps how cellNow own has) t.heap ∧ va_K G vwCl (TYS cI cL cZ cR cE) t ∧ va_D (va_A (W_Mod cI cL cZ cR cE a0 a1 a2 a3 a4 a5 a6 a7 a8 a9 a10 a11 a12 a13 a14 a15 a16 a17 a18 a19 a20 a21 a22 thrown most rules editions orders sizes ops numbers cells hasFallback fallbackKinds fallbacks facts states counts days toldAt tells handles handleFacts failures failedRule failedHow answers givers stack high steps how cellNow own has) sz) (W_Mod cI cL cZ cR cE a0 a1 a2 a3 a4 a5 a6 a7 a8 a9 a10 a11 a12 a13 a14 a15 a16 a17 a18 a19 a20 a21 a22 u.1 most rules editions orders sizes ops numbers cells hasFallback fallbackKinds fallbacks facts states counts u.2.1 u.2.2.1 u.2.2.2 handles handleFacts failures failedRule failedHow answers givers stack high steps how cellNow own has)) (va_A (W_Mod cI cL cZ cR cE a0 a1 a2 a3 a4 a5 a6 a7 a8 a9 a10 a11 a12 a13 a14 a15 a16 a17 a18 a19 a20 a21 a22 thrown most rules editions orders sizes ops numbers cells hasFallback fallbackKinds fallbacks facts states counts days toldAt tells handles handleFacts failures failedRule failedHow answers givers stack high steps how cellNow own has) sz)) 0 0 (va_A (W_Mod cI cL cZ cR cE a0 a1 a2 a3 a4 a5 a6 a7 a8 a9 a10 a11 a12 a13 a14 a15 a16 a17 a18 a19 a20 a21 a22 thrown most rules editions orders sizes ops numbers cells hasFallback fallbackKinds fallbacks facts states counts days toldAt tells handles handleFacts failures failedRule failedHow answers givers stack high steps how cellNow own has) sz) := by
  refine Met.ofW (cc := b_Mo_day) (maxL := 3) (ret := (some .int)) (by decide) rfl ?_
  intro p e s m args below meth c s₁ B hml hv
  obtain ⟨rfl, hsz, hP, hK, hD0, hN⟩ := hv
  have hx := B.exec
  have hb := B.bytes
  have hr := B.returns
  have hts := atoms_spec (ws := w_Mo_day) B.pre
  have hown : s.vm.findClass R_Mo = some m.cls := findClass_of_methodNamed B.named
  have hlocks := B.notSynchronized
  subst hsz
  have hD := hD0.self (sz := s.heap.size)
  clear hD0
  generalize hAe : va_A (W_Mod cI cL cZ cR cE a0 a1 a2 a3 a4 a5 a6 a7 a8 a9 a10 a11 a12 a13 a14 a15 a16 a17 a18 a19 a20 a21 a22 thrown most rules editions orders sizes ops numbers cells hasFallback fallbackKinds fallbacks facts states counts days toldAt tells handles handleFacts failures failedRule failedHow answers givers stack high steps how cellNow own has) s.heap.size = A at hD ⊢
  have hA : ∀ q : Nat, s.heap.size ≤ q → A q := fun q h => by rw [← hAe]; exact Or.inr h
  clear hAe
  have hS : va_S A s.heap s.heap [] := va_S.rf
  obtain ⟨H, hH⟩ : ∃ H, H = s.heap := ⟨_, rfl⟩
  rw [← hH] at hP
  replace hS : va_S A s.heap H [] := by rw [hH]; exact hS
  rw [← hH]
  clear hH
  have hi_2 : ∀ w ∈ u_ws R_Mo T_Mo 32, w ∈ w_Mo_day := fun w h => List.mem_cons_of_mem _ (iu_Mo w h)
  have hk_1 := hts (.fieldLink R_Mo 82 "HandlingRulesModel" "thrown" "I") (List.mem_cons_of_mem _ kw_565)
  have hk_3 := hts (.constantLong R_Mo 164 100000) (List.mem_cons_of_mem _ kw_738)
  have hk_4 := hts (.fieldLink R_Mo 42 "HandlingRulesModel" "states" "[I") (List.mem_cons_of_mem _ kw_578)
  have hk_5 := hts (.fieldLink R_Mo 48 "HandlingRulesModel" "days" "[I") (List.mem_cons_of_mem _ kw_580)
  have hk_6 := hts (.fieldLink R_Mo 166 "HandlingRulesModel" "tells" "I") (List.mem_cons_of_mem _ kw_582)
  have hk_7 := hts (.fieldLink R_Mo 51 "HandlingRulesModel" "toldAt" "[I") (List.mem_cons_of_mem _ kw_581)
  have hl := lv_entry ([.ref a0, .int ed, .int fr]) (n := 3) (Nat.le_of_ble_eq_true rfl)
  rw [lg_entry_eq]
  generalize (lg_sl ([.ref a0, .int ed, .int fr]) ++ List.replicate (3 - (lg_sl ([.ref a0, .int ed, .int fr])).length) Slot.unset).toArray = ls at hl ⊢
  replace hl : lv_has ls 3 [(0, .ref a0), (1, .int ed), (2, .int fr)] := hl
  generalize hT : f_mday states days toldAt tells ed fr = T
  refine lv_aload_n hx hb d_Mo_day_0 rfl (lv_at hl 0 rfl) ?_
  refine lv_iconst (v := 0) hx hb d_Mo_day_1 (by decide) ?_
  refine va_put (D := G) (ci := 6) (v := .int 0) (ty := (.int)) (C := R_Mo) (T := T_Mo) (N := 32) hx hb hts hi_2 ty_Mo tyk_Mo nm_Mo hown hK hP hD hS 0 rfl rfl 0 (by decide) hk_1 (fun _ h9 => h9) rfl (by decide +kernel) rfl rfl (Nat.le_of_ble_eq_true rfl) d_Mo_day_2 (fun H locs hP hD hS => ?_)
  replace hP : va_P G vwCl (W_Mod cI cL cZ cR cE a0 a1 a2 a3 a4 a5 a6 a7 a8 a9 a10 a11 a12 a13 a14 a15 a16 a17 a18 a19 a20 a21 a22 0 most rules editions orders sizes ops numbers cells hasFallback fallbackKinds fallbacks facts states counts days toldAt tells handles handleFacts failures failedRule failedHow answers givers stack high steps how cellNow own has) H := hP
  replace hD : va_D A (W_Mod cI cL cZ cR cE a0 a1 a2 a3 a4 a5 a6 a7 a8 a9 a10 a11 a12 a13 a14 a15 a16 a17 a18 a19 a20 a21 a22 0 most rules editions orders sizes ops numbers cells hasFallback fallbackKinds fallbacks facts states counts days toldAt tells handles handleFacts failures failedRule failedHow answers givers stack high steps how cellNow own has) := hD
  refine lv_iload_n hx hb d_Mo_day_5 rfl (lv_at hl 1 rfl) ?_
  refine vp_callSi (W.runS (As := [.int ed]) (rest := []) ⟨hx, hb, hml, hown, hts⟩ (c_misEdition l G cI cL cZ cR cE  ed) (va_cwS 1 hts (gS kw_671 kw_672 kw_21 kw_673) rfl rfl rfl (by decide +kernel) ⟨Nat.le_of_ble_eq_true rfl, Nat.le_of_ble_eq_true rfl⟩) (preRS_of hN hK hP [] rfl) rfl rfl hl.1 rfl (lv_room (Nat.le_of_ble_eq_true rfl)) d_Mo_day_6 ⟨Nat.zero_le _, Nat.zero_le _⟩) (fun r_1 hw => ?_)
  subst hw
  refine lv_if_eq (tgt := 24) hx hb d_Mo_day_9 (by decide) (fun c_2 => ?_) (fun c_2 => ?_)
  · refine lv_bipush (v := (-102)) hx hb d_Mo_day_24 (by decide) ?_
    exact W.iret (v := (-102)) hx hb hr (fun t ht hW => ⟨⟨(-102), (0, days, toldAt, tells), rfl, (by rw [← hT]; simp only [f_mday, if_pos c_2]), by rw [ht]; exact hP, va_K.moved hW.alike hK, hD⟩, hS.F ht⟩) hS.2.2 d_Mo_day_26
  · refine lv_iload_n hx hb d_Mo_day_12 rfl (lv_at hl 2 rfl) ?_
    refine lv_i2l (v := fr.toInt64) hx hb d_Mo_day_13 rfl ?_
    refine lv_lconst (v := 0) hx hb d_Mo_day_14 (by decide) ?_
    refine lv_ldc2 (v := 100000) hx hb hown hk_3 d_Mo_day_15 ?_
    refine vp_callSi (W.runS (As := [.long fr.toInt64, .long 0, .long 100000]) (rest := []) ⟨hx, hb, hml, hown, hts⟩ (c_mwithin l G cI cL cZ cR cE  fr.toInt64 0 100000) (va_cwS 3 hts (gS kw_675 kw_676 kw_21 kw_677) rfl rfl rfl (by decide +kernel) ⟨Nat.le_of_ble_eq_true rfl, Nat.le_of_ble_eq_true rfl⟩) (preRS_of hN hK hP [] rfl) rfl rfl hl.1 rfl (lv_room (Nat.le_of_ble_eq_true rfl)) d_Mo_day_18 ⟨Nat.zero_le _, Nat.zero_le _⟩) (fun r_3 hw => ?_)
    subst hw
    refine lv_if_ne (tgt := 27) hx hb d_Mo_day_21 (by decide) (fun c_4 => ?_) (fun c_4 => ?_)
    · refine lv_aload_n hx hb d_Mo_day_27 rfl (lv_at hl 0 rfl) ?_
      refine va_get (D := G) (ci := 6) (v := .ref a11) (C := R_Mo) (T := T_Mo) (N := 32) hx hb hts hi_2 hown hK hP 0 rfl rfl 13 (by decide) hk_4 (fun _ h9 => h9) rfl d_Mo_day_28 ?_
      refine lv_iload_n hx hb d_Mo_day_31 rfl (lv_at hl 1 rfl) ?_
      refine va_iald hx hb hK hP 11 0 rfl rfl (ix_med c_2) d_Mo_day_32 ?_
      refine lv_iconst (v := 2) hx hb d_Mo_day_33 (by decide) ?_
      refine lv_icmp_eq (tgt := 40) hx hb d_Mo_day_34 (by decide) (fun c_5 => ?_) (fun c_5 => ?_)
      · refine lv_aload_n hx hb d_Mo_day_40 rfl (lv_at hl 0 rfl) ?_
        refine va_get (D := G) (ci := 6) (v := .ref a13) (C := R_Mo) (T := T_Mo) (N := 32) hx hb hts hi_2 hown hK hP 0 rfl rfl 15 (by decide) hk_5 (fun _ h9 => h9) rfl d_Mo_day_41 ?_
        refine lv_iload_n hx hb d_Mo_day_44 rfl (lv_at hl 1 rfl) ?_
        refine lv_iload_n hx hb d_Mo_day_45 rfl (lv_at hl 2 rfl) ?_
        refine va_iast hx hb hK hP hD hS 13 0 rfl rfl (ix_med c_2) d_Mo_day_46 (fun H locs hP hD hS => ?_)
        replace hP : va_P G vwCl (W_Mod cI cL cZ cR cE a0 a1 a2 a3 a4 a5 a6 a7 a8 a9 a10 a11 a12 a13 a14 a15 a16 a17 a18 a19 a20 a21 a22 0 most rules editions orders sizes ops numbers cells hasFallback fallbackKinds fallbacks facts states counts (upd days ed.toNatClampNeg fr) toldAt tells handles handleFacts failures failedRule failedHow answers givers stack high steps how cellNow own has) H := hP
        replace hD : va_D A (W_Mod cI cL cZ cR cE a0 a1 a2 a3 a4 a5 a6 a7 a8 a9 a10 a11 a12 a13 a14 a15 a16 a17 a18 a19 a20 a21 a22 0 most rules editions orders sizes ops numbers cells hasFallback fallbackKinds fallbacks facts states counts (upd days ed.toNatClampNeg fr) toldAt tells handles handleFacts failures failedRule failedHow answers givers stack high steps how cellNow own has) := hD
        refine lv_aload_n hx hb d_Mo_day_47 rfl (lv_at hl 0 rfl) ?_
        refine lv_dup hx hb d_Mo_day_48 rfl ?_
        refine va_get (D := G) (ci := 6) (v := .int tells) (C := R_Mo) (T := T_Mo) (N := 32) hx hb hts hi_2 hown hK hP 0 rfl rfl 17 (by decide) hk_6 (fun _ h9 => h9) rfl d_Mo_day_49 ?_
        refine lv_iconst (v := 1) hx hb d_Mo_day_52 (by decide) ?_
        refine lv_iadd hx hb d_Mo_day_53 ?_
        refine va_put (D := G) (ci := 6) (v := .int (tells + 1)) (ty := (.int)) (C := R_Mo) (T := T_Mo) (N := 32) hx hb hts hi_2 ty_Mo tyk_Mo nm_Mo hown hK hP hD hS 0 rfl rfl 17 (by decide) hk_6 (fun _ h9 => h9) rfl (by decide +kernel) rfl rfl (Nat.le_of_ble_eq_true rfl) d_Mo_day_54 (fun H locs hP hD hS => ?_)
        replace hP : va_P G vwCl (W_Mod cI cL cZ cR cE a0 a1 a2 a3 a4 a5 a6 a7 a8 a9 a10 a11 a12 a13 a14 a15 a16 a17 a18 a19 a20 a21 a22 0 most rules editions orders sizes ops numbers cells hasFallback fallbackKinds fallbacks facts states counts (upd days ed.toNatClampNeg fr) toldAt (tells + 1) handles handleFacts failures failedRule failedHow answers givers stack high steps how cellNow own has) H := hP
        replace hD : va_D A (W_Mod cI cL cZ cR cE a0 a1 a2 a3 a4 a5 a6 a7 a8 a9 a10 a11 a12 a13 a14 a15 a16 a17 a18 a19 a20 a21 a22 0 most rules editions orders sizes ops numbers cells hasFallback fallbackKinds fallbacks facts states counts (upd days ed.toNatClampNeg fr) toldAt (tells + 1) handles handleFacts failures failedRule failedHow answers givers stack high steps how cellNow own has) := hD
        refine lv_aload_n hx hb d_Mo_day_57 rfl (lv_at hl 0 rfl) ?_
        refine va_get (D := G) (ci := 6) (v := .ref a14) (C := R_Mo) (T := T_Mo) (N := 32) hx hb hts hi_2 hown hK hP 0 rfl rfl 16 (by decide) hk_7 (fun _ h9 => h9) rfl d_Mo_day_58 ?_
        refine lv_iload_n hx hb d_Mo_day_61 rfl (lv_at hl 1 rfl) ?_
        refine lv_aload_n hx hb d_Mo_day_62 rfl (lv_at hl 0 rfl) ?_
        refine va_get (D := G) (ci := 6) (v := .int (tells + 1)) (C := R_Mo) (T := T_Mo) (N := 32) hx hb hts hi_2 hown hK hP 0 rfl rfl 17 (by decide) hk_6 (fun _ h9 => h9) rfl d_Mo_day_63 ?_
        refine va_iast hx hb hK hP hD hS 14 0 rfl rfl (ix_med c_2) d_Mo_day_66 (fun H locs hP hD hS => ?_)
        replace hP : va_P G vwCl (W_Mod cI cL cZ cR cE a0 a1 a2 a3 a4 a5 a6 a7 a8 a9 a10 a11 a12 a13 a14 a15 a16 a17 a18 a19 a20 a21 a22 0 most rules editions orders sizes ops numbers cells hasFallback fallbackKinds fallbacks facts states counts (upd days ed.toNatClampNeg fr) (upd toldAt ed.toNatClampNeg (tells + 1)) (tells + 1) handles handleFacts failures failedRule failedHow answers givers stack high steps how cellNow own has) H := hP
        replace hD : va_D A (W_Mod cI cL cZ cR cE a0 a1 a2 a3 a4 a5 a6 a7 a8 a9 a10 a11 a12 a13 a14 a15 a16 a17 a18 a19 a20 a21 a22 0 most rules editions orders sizes ops numbers cells hasFallback fallbackKinds fallbacks facts states counts (upd days ed.toNatClampNeg fr) (upd toldAt ed.toNatClampNeg (tells + 1)) (tells + 1) handles handleFacts failures failedRule failedHow answers givers stack high steps how cellNow own has) := hD
        refine lv_iconst (v := 1) hx hb d_Mo_day_67 (by decide) ?_
        exact W.iret (v := 1) hx hb hr (fun t ht hW => ⟨⟨1, (0, upd days ed.toNatClampNeg fr, upd toldAt ed.toNatClampNeg (tells + 1), tells + 1), rfl, (by rw [← hT]; simp only [f_mday, if_neg c_2, if_neg c_4, if_pos c_5]), by rw [ht]; exact hP, va_K.moved hW.alike hK, hD⟩, hS.F ht⟩) hS.2.2 d_Mo_day_68
      · refine lv_bipush (v := (-103)) hx hb d_Mo_day_37 (by decide) ?_
        exact W.iret (v := (-103)) hx hb hr (fun t ht hW => ⟨⟨(-103), (0, days, toldAt, tells), rfl, (by rw [← hT]; simp only [f_mday, if_neg c_2, if_neg c_4, if_neg c_5]), by rw [ht]; exact hP, va_K.moved hW.alike hK, hD⟩, hS.F ht⟩) hS.2.2 d_Mo_day_39
    · refine lv_bipush (v := (-102)) hx hb d_Mo_day_24 (by decide) ?_
      exact W.iret (v := (-102)) hx hb hr (fun t ht hW => ⟨⟨(-102), (0, days, toldAt, tells), rfl, (by rw [← hT]; simp only [f_mday, if_neg c_2, if_pos c_4]), by rw [ht]; exact hP, va_K.moved hW.alike hK, hD⟩, hS.F ht⟩) hS.2.2 d_Mo_day_26
def f_mdivide (rules : Int32) (r : Int32) (x : Int64) (y : Int64) : Int64 × Int32 := if (f_misRule rules r) = 0 then ((-101), 0) else (if y = 0 then (0, 1) else (x / y, 0))
set_option maxHeartbeats 4000000 in
set_option maxRecDepth 100000 in
theorem c_mdivide (l : Launch) (G : va_G) (cI cL cZ cR cE : ClassId) (sz : Nat) (a0 a1 a2 a3 a4 a5 a6 a7 a8 a9 a10 a11 a12 a13 a14 a15 a16 a17 a18 a19 a20 a21 a22 : Nat) (thrown : Int32) (most : Int32) (rules : Int32) (editions : Nat → Int32) (orders : Nat → Int32) (sizes : Nat → Int32) (ops : Nat → Int32) (numbers : Nat → Int64) (cells : Nat → Int64) (hasFallback : Nat → Int32) (fallbackKinds : Nat → Int32) (fallbacks : Nat → Int64) (facts : Nat → Int64) (states : Nat → Int32) (counts : Nat → Int32) (days : Nat → Int32) (toldAt : Nat → Int32) (tells : Int32) (handles : Int32) (handleFacts : Nat → Int32) (failures : Int32) (failedRule : Nat → Int32) (failedHow : Nat → Int32) (answers : Nat → Int64) (givers : Nat → Int32) (stack : Nat → Int64) (high : Int32) (steps : Int32) (how : Int32) (cellNow : Int64) (own : Nat → Int64) (has : Nat → Int32) (r : Int32) (x : Int64) (y : Int64) : Met l y_Mo_divide w_Mo_divide ({ frames := 2, cells := 0, slots := 0, locals := 46 }) (preW G (TYS cI cL cZ cR cE) [.ref a0, .int r, .long x, .long y] sz (W_Mod cI cL cZ cR cE a0 a1 a2 a3 a4 a5 a6 a7 a8 a9 a10 a11 a12 a13 a14 a15 a16 a17 a18 a19 a20 a21 a22 thrown most rules editions orders sizes ops numbers cells hasFallback fallbackKinds fallbacks facts states counts days toldAt tells handles handleFacts failures failedRule failedHow answers givers stack high steps how cellNow own has)) (va_Ql (fun (ans_ : Int64) (u : Int32) => (ans_, u) = f_mdivide rules r x y) (fun u t => va_P G vwCl (W_Mod cI cL cZ cR cE a0 a1 a2 a3 a4 a5 a6 a7 a8 a9 a10 a11 a12 a13 a14 a15 a16 a17 a18 a19 a20 a21 a22 u most rules editions orders sizes ops numbers cells hasFallback fallbackKinds fallbacks facts states counts days toldAt tells handles handleFacts failures failedRule failedHow answers givers stack high steps how cellNow own has) t.heap ∧ va_K G vwCl (TYS cI cL cZ cR cE) t ∧ va_D (va_A (W_Mod cI cL cZ cR cE a0 a1 a2 a3 a4 a5 a6 a7 a8 a9 a10 a11 a12 a13 a14 a15 a16 a17 a18 a19 a20 a21 a22 thrown most rules editions orders sizes ops numbers cells hasFallback fallbackKinds fallbacks facts states counts days toldAt tells handles handleFacts failures failedRule failedHow answers givers stack high steps how cellNow own has) sz) (W_Mod cI cL cZ cR cE a0 a1 a2 a3 a4 a5 a6 a7 a8 a9 a10 a11 a12 a13 a14 a15 a16 a17 a18 a19 a20 a21 a22 u most rules editions orders sizes ops numbers cells hasFallback fallbackKinds fallbacks facts states counts days toldAt tells handles handleFacts failures failedRule failedHow answers givers stack high steps how cellNow own has)) (va_A (W_Mod cI cL cZ cR cE a0 a1 a2 a3 a4 a5 a6 a7 a8 a9 a10 a11 a12 a13 a14 a15 a16 a17 a18 a19 a20 a21 a22 thrown most rules editions orders sizes ops numbers cells hasFallback fallbackKinds fallbacks facts states counts days toldAt tells handles handleFacts failures failedRule failedHow answers givers stack high steps how cellNow own has) sz)) 0 0 (va_A (W_Mod cI cL cZ cR cE a0 a1 a2 a3 a4 a5 a6 a7 a8 a9 a10 a11 a12 a13 a14 a15 a16 a17 a18 a19 a20 a21 a22 thrown most rules editions orders sizes ops numbers cells hasFallback fallbackKinds fallbacks facts states counts days toldAt tells handles handleFacts failures failedRule failedHow answers givers stack high steps how cellNow own has) sz) := by
  refine Met.ofW (cc := b_Mo_divide) (maxL := 6) (ret := (some .long)) (by decide) rfl ?_
  intro p e s m args below meth c s₁ B hml hv
  obtain ⟨rfl, hsz, hP, hK, hD0, hN⟩ := hv
  have hx := B.exec
  have hb := B.bytes
  have hr := B.returns
  have hts := atoms_spec (ws := w_Mo_divide) B.pre
  have hown : s.vm.findClass R_Mo = some m.cls := findClass_of_methodNamed B.named
  have hlocks := B.notSynchronized
  subst hsz
  have hD := hD0.self (sz := s.heap.size)
  clear hD0
  generalize hAe : va_A (W_Mod cI cL cZ cR cE a0 a1 a2 a3 a4 a5 a6 a7 a8 a9 a10 a11 a12 a13 a14 a15 a16 a17 a18 a19 a20 a21 a22 thrown most rules editions orders sizes ops numbers cells hasFallback fallbackKinds fallbacks facts states counts days toldAt tells handles handleFacts failures failedRule failedHow answers givers stack high steps how cellNow own has) s.heap.size = A at hD ⊢
  have hA : ∀ q : Nat, s.heap.size ≤ q → A q := fun q h => by rw [← hAe]; exact Or.inr h
  clear hAe
  have hS : va_S A s.heap s.heap [] := va_S.rf
  obtain ⟨H, hH⟩ : ∃ H, H = s.heap := ⟨_, rfl⟩
  rw [← hH] at hP
  replace hS : va_S A s.heap H [] := by rw [hH]; exact hS
  rw [← hH]
  clear hH
  have hi_2 : ∀ w ∈ u_ws R_Mo T_Mo 32, w ∈ w_Mo_divide := fun w h => List.mem_cons_of_mem _ (iu_Mo w h)
  have hk_1 := hts (.fieldLink R_Mo 82 "HandlingRulesModel" "thrown" "I") (List.mem_cons_of_mem _ kw_565)
  have hk_3 := hts (.constantLong R_Mo 178 (-101)) (List.mem_cons_of_mem _ kw_779)
  have hl := lv_entry ([.ref a0, .int r, .long x, .long y]) (n := 6) (Nat.le_of_ble_eq_true rfl)
  rw [lg_entry_eq]
  generalize (lg_sl ([.ref a0, .int r, .long x, .long y]) ++ List.replicate (6 - (lg_sl ([.ref a0, .int r, .long x, .long y])).length) Slot.unset).toArray = ls at hl ⊢
  replace hl : lv_has ls 6 [(0, .ref a0), (1, .int r), (2, .long x), (4, .long y)] := hl
  generalize hT : f_mdivide rules r x y = T
  refine lv_aload_n hx hb d_Mo_divide_0 rfl (lv_at hl 0 rfl) ?_
  refine lv_iconst (v := 0) hx hb d_Mo_divide_1 (by decide) ?_
  refine va_put (D := G) (ci := 6) (v := .int 0) (ty := (.int)) (C := R_Mo) (T := T_Mo) (N := 32) hx hb hts hi_2 ty_Mo tyk_Mo nm_Mo hown hK hP hD hS 0 rfl rfl 0 (by decide) hk_1 (fun _ h9 => h9) rfl (by decide +kernel) rfl rfl (Nat.le_of_ble_eq_true rfl) d_Mo_divide_2 (fun H locs hP hD hS => ?_)
  replace hP : va_P G vwCl (W_Mod cI cL cZ cR cE a0 a1 a2 a3 a4 a5 a6 a7 a8 a9 a10 a11 a12 a13 a14 a15 a16 a17 a18 a19 a20 a21 a22 0 most rules editions orders sizes ops numbers cells hasFallback fallbackKinds fallbacks facts states counts days toldAt tells handles handleFacts failures failedRule failedHow answers givers stack high steps how cellNow own has) H := hP
  replace hD : va_D A (W_Mod cI cL cZ cR cE a0 a1 a2 a3 a4 a5 a6 a7 a8 a9 a10 a11 a12 a13 a14 a15 a16 a17 a18 a19 a20 a21 a22 0 most rules editions orders sizes ops numbers cells hasFallback fallbackKinds fallbacks facts states counts days toldAt tells handles handleFacts failures failedRule failedHow answers givers stack high steps how cellNow own has) := hD
  refine lv_aload_n hx hb d_Mo_divide_5 rfl (lv_at hl 0 rfl) ?_
  refine lv_iload_n hx hb d_Mo_divide_6 rfl (lv_at hl 1 rfl) ?_
  refine vp_callSi (W.runV (As := [.int r]) (rest := []) ⟨hx, hb, hml, hown, hts⟩ (c_misRule l G cI cL cZ cR cE a0 a1 a2 a3 a4 a5 a6 a7 a8 a9 a10 a11 a12 a13 a14 a15 a16 a17 a18 a19 a20 a21 a22 0 most rules editions orders sizes ops numbers cells hasFallback fallbackKinds fallbacks facts states counts days toldAt tells handles handleFacts failures failedRule failedHow answers givers stack high steps how cellNow own has r) (cwV 1 hts (gV kw_684 kw_686 kw_7 kw_21 kw_687) rfl rfl rfl (by decide +kernel) ⟨Nat.le_of_ble_eq_true rfl, Nat.le_of_ble_eq_true rfl⟩) (preRV_of (ci := 6) hN hK hP [0, 1, 2, 3, 4, 5, 6, 7, 8, 9, 10, 11, 12, 13, 14, 15, 16, 17, 18, 19, 20, 21, 22] rfl rfl rfl) rfl rfl hl.1 rfl (lv_room (Nat.le_of_ble_eq_true rfl)) d_Mo_divide_7 ⟨Nat.zero_le _, Nat.zero_le _⟩) (fun r_1 hw => ?_)
  subst hw
  refine lv_if_ne (tgt := 17) hx hb d_Mo_divide_10 (by decide) (fun c_2 => ?_) (fun c_2 => ?_)
  · refine lv_aload_n hx hb d_Mo_divide_17 rfl (lv_at hl 0 rfl) ?_
    refine lv_lload hx hb d_Mo_divide_18 (lv_at hl 3 rfl) ?_
    refine lv_lconst (v := 0) hx hb d_Mo_divide_20 (by decide) ?_
    refine lc_ne (x := y) (y := 0) (tgt := 29) hx hb d_Mo_divide_21 d_Mo_divide_22 (by decide) (fun c_3 => ?_) (fun c_3 => ?_)
    · refine lv_iconst (v := 0) hx hb d_Mo_divide_29 (by decide) ?_
      refine va_put (D := G) (ci := 6) (v := .int 0) (ty := (.int)) (C := R_Mo) (T := T_Mo) (N := 32) hx hb hts hi_2 ty_Mo tyk_Mo nm_Mo hown hK hP hD hS 0 rfl rfl 0 (by decide) hk_1 (fun _ h9 => h9) rfl (by decide +kernel) rfl rfl (Nat.le_of_ble_eq_true rfl) d_Mo_divide_30 (fun H locs hP hD hS => ?_)
      replace hP : va_P G vwCl (W_Mod cI cL cZ cR cE a0 a1 a2 a3 a4 a5 a6 a7 a8 a9 a10 a11 a12 a13 a14 a15 a16 a17 a18 a19 a20 a21 a22 0 most rules editions orders sizes ops numbers cells hasFallback fallbackKinds fallbacks facts states counts days toldAt tells handles handleFacts failures failedRule failedHow answers givers stack high steps how cellNow own has) H := hP
      replace hD : va_D A (W_Mod cI cL cZ cR cE a0 a1 a2 a3 a4 a5 a6 a7 a8 a9 a10 a11 a12 a13 a14 a15 a16 a17 a18 a19 a20 a21 a22 0 most rules editions orders sizes ops numbers cells hasFallback fallbackKinds fallbacks facts states counts days toldAt tells handles handleFacts failures failedRule failedHow answers givers stack high steps how cellNow own has) := hD
      refine lv_lload hx hb d_Mo_divide_33 (lv_at hl 3 rfl) ?_
      refine lv_lconst (v := 0) hx hb d_Mo_divide_35 (by decide) ?_
      refine lc_ne (x := y) (y := 0) (tgt := 44) hx hb d_Mo_divide_36 d_Mo_divide_37 (by decide) (fun _ => ?_) (fun k_4 => absurd k_4 c_3)
      refine lv_lload_n hx hb d_Mo_divide_44 rfl (lv_at hl 2 rfl) ?_
      refine lv_lload hx hb d_Mo_divide_45 (lv_at hl 3 rfl) ?_
      refine lv_ldiv hx hb d_Mo_divide_47 c_3 ?_
      exact W.lret (v := x / y) hx hb hr (fun t ht hW => ⟨⟨x / y, 0, rfl, (by rw [← hT]; simp only [f_mdivide, if_neg c_2, if_neg c_3]), by rw [ht]; exact hP, va_K.moved hW.alike hK, hD⟩, hS.F ht⟩) hS.2.2 d_Mo_divide_48
    · refine lv_iconst (v := 1) hx hb d_Mo_divide_25 (by decide) ?_
      refine lv_goto (tgt := 30) hx hb d_Mo_divide_26 (by decide) ?_
      refine va_put (D := G) (ci := 6) (v := .int 1) (ty := (.int)) (C := R_Mo) (T := T_Mo) (N := 32) hx hb hts hi_2 ty_Mo tyk_Mo nm_Mo hown hK hP hD hS 0 rfl rfl 0 (by decide) hk_1 (fun _ h9 => h9) rfl (by decide +kernel) rfl rfl (Nat.le_of_ble_eq_true rfl) d_Mo_divide_30 (fun H locs hP hD hS => ?_)
      replace hP : va_P G vwCl (W_Mod cI cL cZ cR cE a0 a1 a2 a3 a4 a5 a6 a7 a8 a9 a10 a11 a12 a13 a14 a15 a16 a17 a18 a19 a20 a21 a22 1 most rules editions orders sizes ops numbers cells hasFallback fallbackKinds fallbacks facts states counts days toldAt tells handles handleFacts failures failedRule failedHow answers givers stack high steps how cellNow own has) H := hP
      replace hD : va_D A (W_Mod cI cL cZ cR cE a0 a1 a2 a3 a4 a5 a6 a7 a8 a9 a10 a11 a12 a13 a14 a15 a16 a17 a18 a19 a20 a21 a22 1 most rules editions orders sizes ops numbers cells hasFallback fallbackKinds fallbacks facts states counts days toldAt tells handles handleFacts failures failedRule failedHow answers givers stack high steps how cellNow own has) := hD
      refine lv_lload hx hb d_Mo_divide_33 (lv_at hl 3 rfl) ?_
      refine lv_lconst (v := 0) hx hb d_Mo_divide_35 (by decide) ?_
      refine lc_ne (x := y) (y := 0) (tgt := 44) hx hb d_Mo_divide_36 d_Mo_divide_37 (by decide) (fun k_5 => absurd c_3 k_5) (fun _ => ?_)
      refine lv_lconst (v := 0) hx hb d_Mo_divide_40 (by decide) ?_
      refine lv_goto (tgt := 48) hx hb d_Mo_divide_41 (by decide) ?_
      exact W.lret (v := 0) hx hb hr (fun t ht hW => ⟨⟨0, 1, rfl, (by rw [← hT]; simp only [f_mdivide, if_neg c_2, if_pos c_3]), by rw [ht]; exact hP, va_K.moved hW.alike hK, hD⟩, hS.F ht⟩) hS.2.2 d_Mo_divide_48
  · refine lv_ldc2 (v := (-101)) hx hb hown hk_3 d_Mo_divide_13 ?_
    exact W.lret (v := (-101)) hx hb hr (fun t ht hW => ⟨⟨(-101), 0, rfl, (by rw [← hT]; simp only [f_mdivide, if_pos c_2]), by rw [ht]; exact hP, va_K.moved hW.alike hK, hD⟩, hS.F ht⟩) hS.2.2 d_Mo_divide_16
def f_mhandle (handles : Int32) (k : Int32) : Int32 × Int32 := if (f_mwithin k.toInt64 0 ((handles - 1).toInt64)) = 0 then ((-102), 0) else (0, 1)
set_option maxHeartbeats 4000000 in
set_option maxRecDepth 100000 in
theorem c_mhandle (l : Launch) (G : va_G) (cI cL cZ cR cE : ClassId) (sz : Nat) (a0 a1 a2 a3 a4 a5 a6 a7 a8 a9 a10 a11 a12 a13 a14 a15 a16 a17 a18 a19 a20 a21 a22 : Nat) (thrown : Int32) (most : Int32) (rules : Int32) (editions : Nat → Int32) (orders : Nat → Int32) (sizes : Nat → Int32) (ops : Nat → Int32) (numbers : Nat → Int64) (cells : Nat → Int64) (hasFallback : Nat → Int32) (fallbackKinds : Nat → Int32) (fallbacks : Nat → Int64) (facts : Nat → Int64) (states : Nat → Int32) (counts : Nat → Int32) (days : Nat → Int32) (toldAt : Nat → Int32) (tells : Int32) (handles : Int32) (handleFacts : Nat → Int32) (failures : Int32) (failedRule : Nat → Int32) (failedHow : Nat → Int32) (answers : Nat → Int64) (givers : Nat → Int32) (stack : Nat → Int64) (high : Int32) (steps : Int32) (how : Int32) (cellNow : Int64) (own : Nat → Int64) (has : Nat → Int32) (k : Int32) : Met l y_Mo_handle w_Mo_handle ({ frames := 1, cells := 0, slots := 0, locals := 25 }) (preW G (TYS cI cL cZ cR cE) [.ref a0, .int k] sz (W_Mod cI cL cZ cR cE a0 a1 a2 a3 a4 a5 a6 a7 a8 a9 a10 a11 a12 a13 a14 a15 a16 a17 a18 a19 a20 a21 a22 thrown most rules editions orders sizes ops numbers cells hasFallback fallbackKinds fallbacks facts states counts days toldAt tells handles handleFacts failures failedRule failedHow answers givers stack high steps how cellNow own has)) (va_Qi (fun (ans_ : Int32) (u : Int32) => (ans_, u) = f_mhandle handles k) (fun u t => va_P G vwCl (W_Mod cI cL cZ cR cE a0 a1 a2 a3 a4 a5 a6 a7 a8 a9 a10 a11 a12 a13 a14 a15 a16 a17 a18 a19 a20 a21 a22 u most rules editions orders sizes ops numbers cells hasFallback fallbackKinds fallbacks facts states counts days toldAt tells handles handleFacts failures failedRule failedHow answers givers stack high steps how cellNow own has) t.heap ∧ va_K G vwCl (TYS cI cL cZ cR cE) t ∧ va_D (va_A (W_Mod cI cL cZ cR cE a0 a1 a2 a3 a4 a5 a6 a7 a8 a9 a10 a11 a12 a13 a14 a15 a16 a17 a18 a19 a20 a21 a22 thrown most rules editions orders sizes ops numbers cells hasFallback fallbackKinds fallbacks facts states counts days toldAt tells handles handleFacts failures failedRule failedHow answers givers stack high steps how cellNow own has) sz) (W_Mod cI cL cZ cR cE a0 a1 a2 a3 a4 a5 a6 a7 a8 a9 a10 a11 a12 a13 a14 a15 a16 a17 a18 a19 a20 a21 a22 u most rules editions orders sizes ops numbers cells hasFallback fallbackKinds fallbacks facts states counts days toldAt tells handles handleFacts failures failedRule failedHow answers givers stack high steps how cellNow own has)) (va_A (W_Mod cI cL cZ cR cE a0 a1 a2 a3 a4 a5 a6 a7 a8 a9 a10 a11 a12 a13 a14 a15 a16 a17 a18 a19 a20 a21 a22 thrown most rules editions orders sizes ops numbers cells hasFallback fallbackKinds fallbacks facts states counts days toldAt tells handles handleFacts failures failedRule failedHow answers givers stack high steps how cellNow own has) sz)) 0 0 (va_A (W_Mod cI cL cZ cR cE a0 a1 a2 a3 a4 a5 a6 a7 a8 a9 a10 a11 a12 a13 a14 a15 a16 a17 a18 a19 a20 a21 a22 thrown most rules editions orders sizes ops numbers cells hasFallback fallbackKinds fallbacks facts states counts days toldAt tells handles handleFacts failures failedRule failedHow answers givers stack high steps how cellNow own has) sz) := by
  refine Met.ofW (cc := b_Mo_handle) (maxL := 2) (ret := (some .int)) (by decide) rfl ?_
  intro p e s m args below meth c s₁ B hml hv
  obtain ⟨rfl, hsz, hP, hK, hD0, hN⟩ := hv
  have hx := B.exec
  have hb := B.bytes
  have hr := B.returns
  have hts := atoms_spec (ws := w_Mo_handle) B.pre
  have hown : s.vm.findClass R_Mo = some m.cls := findClass_of_methodNamed B.named
  have hlocks := B.notSynchronized
  subst hsz
  have hD := hD0.self (sz := s.heap.size)
  clear hD0
  generalize hAe : va_A (W_Mod cI cL cZ cR cE a0 a1 a2 a3 a4 a5 a6 a7 a8 a9 a10 a11 a12 a13 a14 a15 a16 a17 a18 a19 a20 a21 a22 thrown most rules editions orders sizes ops numbers cells hasFallback fallbackKinds fallbacks facts states counts days toldAt tells handles handleFacts failures failedRule failedHow answers givers stack high steps how cellNow own has) s.heap.size = A at hD ⊢
  have hA : ∀ q : Nat, s.heap.size ≤ q → A q := fun q h => by rw [← hAe]; exact Or.inr h
  clear hAe
  have hS : va_S A s.heap s.heap [] := va_S.rf
  obtain ⟨H, hH⟩ : ∃ H, H = s.heap := ⟨_, rfl⟩
  rw [← hH] at hP
  replace hS : va_S A s.heap H [] := by rw [hH]; exact hS
  rw [← hH]
  clear hH
  have hi_2 : ∀ w ∈ u_ws R_Mo T_Mo 32, w ∈ w_Mo_handle := fun w h => List.mem_cons_of_mem _ (iu_Mo w h)
  have hk_1 := hts (.fieldLink R_Mo 145 "HandlingRulesModel" "handles" "I") (List.mem_cons_of_mem _ kw_583)
  have hk_3 := hts (.fieldLink R_Mo 82 "HandlingRulesModel" "thrown" "I") (List.mem_cons_of_mem _ kw_565)
  have hl := lv_entry ([.ref a0, .int k]) (n := 2) (Nat.le_of_ble_eq_true rfl)
  rw [lg_entry_eq]
  generalize (lg_sl ([.ref a0, .int k]) ++ List.replicate (2 - (lg_sl ([.ref a0, .int k])).length) Slot.unset).toArray = ls at hl ⊢
  replace hl : lv_has ls 2 [(0, .ref a0), (1, .int k)] := hl
  generalize hT : f_mhandle handles k = T
  refine lv_aload_n hx hb d_Mo_handle_0 rfl (lv_at hl 0 rfl) ?_
  refine lv_iload_n hx hb d_Mo_handle_1 rfl (lv_at hl 1 rfl) ?_
  refine lv_i2l (v := k.toInt64) hx hb d_Mo_handle_2 rfl ?_
  refine lv_lconst (v := 0) hx hb d_Mo_handle_3 (by decide) ?_
  refine lv_aload_n hx hb d_Mo_handle_4 rfl (lv_at hl 0 rfl) ?_
  refine va_get (D := G) (ci := 6) (v := .int handles) (C := R_Mo) (T := T_Mo) (N := 32) hx hb hts hi_2 hown hK hP 0 rfl rfl 18 (by decide) hk_1 (fun _ h9 => h9) rfl d_Mo_handle_5 ?_
  refine lv_iconst (v := 1) hx hb d_Mo_handle_8 (by decide) ?_
  refine lv_isub hx hb d_Mo_handle_9 ?_
  refine lv_i2l (v := (handles - 1).toInt64) hx hb d_Mo_handle_10 rfl ?_
  refine vp_callSi (W.runS (As := [.long k.toInt64, .long 0, .long ((handles - 1).toInt64)]) (rest := [.ref a0]) ⟨hx, hb, hml, hown, hts⟩ (c_mwithin l G cI cL cZ cR cE  k.toInt64 0 ((handles - 1).toInt64)) (va_cwS 3 hts (gS kw_675 kw_676 kw_21 kw_677) rfl rfl rfl (by decide +kernel) ⟨Nat.le_of_ble_eq_true rfl, Nat.le_of_ble_eq_true rfl⟩) (preRS_of hN hK hP [] rfl) rfl rfl hl.1 rfl (lv_room (Nat.le_of_ble_eq_true rfl)) d_Mo_handle_11 ⟨Nat.zero_le _, Nat.zero_le _⟩) (fun r_1 hw => ?_)
  subst hw
  refine lv_if_eq (tgt := 21) hx hb d_Mo_handle_14 (by decide) (fun c_2 => ?_) (fun c_2 => ?_)
  · refine lv_iconst (v := 0) hx hb d_Mo_handle_21 (by decide) ?_
    refine va_put (D := G) (ci := 6) (v := .int 0) (ty := (.int)) (C := R_Mo) (T := T_Mo) (N := 32) hx hb hts hi_2 ty_Mo tyk_Mo nm_Mo hown hK hP hD hS 0 rfl rfl 0 (by decide) hk_3 (fun _ h9 => h9) rfl (by decide +kernel) rfl rfl (Nat.le_of_ble_eq_true rfl) d_Mo_handle_22 (fun H locs hP hD hS => ?_)
    replace hP : va_P G vwCl (W_Mod cI cL cZ cR cE a0 a1 a2 a3 a4 a5 a6 a7 a8 a9 a10 a11 a12 a13 a14 a15 a16 a17 a18 a19 a20 a21 a22 0 most rules editions orders sizes ops numbers cells hasFallback fallbackKinds fallbacks facts states counts days toldAt tells handles handleFacts failures failedRule failedHow answers givers stack high steps how cellNow own has) H := hP
    replace hD : va_D A (W_Mod cI cL cZ cR cE a0 a1 a2 a3 a4 a5 a6 a7 a8 a9 a10 a11 a12 a13 a14 a15 a16 a17 a18 a19 a20 a21 a22 0 most rules editions orders sizes ops numbers cells hasFallback fallbackKinds fallbacks facts states counts days toldAt tells handles handleFacts failures failedRule failedHow answers givers stack high steps how cellNow own has) := hD
    refine lv_aload_n hx hb d_Mo_handle_25 rfl (lv_at hl 0 rfl) ?_
    refine va_get (D := G) (ci := 6) (v := .int 0) (C := R_Mo) (T := T_Mo) (N := 32) hx hb hts hi_2 hown hK hP 0 rfl rfl 0 (by decide) hk_3 (fun _ h9 => h9) rfl d_Mo_handle_26 ?_
    refine lv_if_le (tgt := 36) hx hb d_Mo_handle_29 (by decide) (fun _ => ?_) (fun k_3 => absurd (by decide) k_3)
    refine lv_bipush (v := (-102)) hx hb d_Mo_handle_36 (by decide) ?_
    exact W.iret (v := (-102)) hx hb hr (fun t ht hW => ⟨⟨(-102), 0, rfl, (by rw [← hT]; simp only [f_mhandle, if_pos c_2]), by rw [ht]; exact hP, va_K.moved hW.alike hK, hD⟩, hS.F ht⟩) hS.2.2 d_Mo_handle_38
  · refine lv_iconst (v := 1) hx hb d_Mo_handle_17 (by decide) ?_
    refine lv_goto (tgt := 22) hx hb d_Mo_handle_18 (by decide) ?_
    refine va_put (D := G) (ci := 6) (v := .int 1) (ty := (.int)) (C := R_Mo) (T := T_Mo) (N := 32) hx hb hts hi_2 ty_Mo tyk_Mo nm_Mo hown hK hP hD hS 0 rfl rfl 0 (by decide) hk_3 (fun _ h9 => h9) rfl (by decide +kernel) rfl rfl (Nat.le_of_ble_eq_true rfl) d_Mo_handle_22 (fun H locs hP hD hS => ?_)
    replace hP : va_P G vwCl (W_Mod cI cL cZ cR cE a0 a1 a2 a3 a4 a5 a6 a7 a8 a9 a10 a11 a12 a13 a14 a15 a16 a17 a18 a19 a20 a21 a22 1 most rules editions orders sizes ops numbers cells hasFallback fallbackKinds fallbacks facts states counts days toldAt tells handles handleFacts failures failedRule failedHow answers givers stack high steps how cellNow own has) H := hP
    replace hD : va_D A (W_Mod cI cL cZ cR cE a0 a1 a2 a3 a4 a5 a6 a7 a8 a9 a10 a11 a12 a13 a14 a15 a16 a17 a18 a19 a20 a21 a22 1 most rules editions orders sizes ops numbers cells hasFallback fallbackKinds fallbacks facts states counts days toldAt tells handles handleFacts failures failedRule failedHow answers givers stack high steps how cellNow own has) := hD
    refine lv_aload_n hx hb d_Mo_handle_25 rfl (lv_at hl 0 rfl) ?_
    refine va_get (D := G) (ci := 6) (v := .int 1) (C := R_Mo) (T := T_Mo) (N := 32) hx hb hts hi_2 hown hK hP 0 rfl rfl 0 (by decide) hk_3 (fun _ h9 => h9) rfl d_Mo_handle_26 ?_
    refine lv_if_le (tgt := 36) hx hb d_Mo_handle_29 (by decide) (fun k_4 => absurd k_4 (by decide)) (fun _ => ?_)
    refine lv_iconst (v := 0) hx hb d_Mo_handle_32 (by decide) ?_
    refine lv_goto (tgt := 38) hx hb d_Mo_handle_33 (by decide) ?_
    exact W.iret (v := 0) hx hb hr (fun t ht hW => ⟨⟨0, 1, rfl, (by rw [← hT]; simp only [f_mhandle, if_neg c_2]), by rw [ht]; exact hP, va_K.moved hW.alike hK, hD⟩, hS.F ht⟩) hS.2.2 d_Mo_handle_38
def f_mrule (rules : Int32) (editions : Nat → Int32) (orders : Nat → Int32) (states : Nat → Int32) (counts : Nat → Int32) (ed : Int32) (rank : Int32) (nam : Int32) : Int32 × Int32 × Int32 × (Nat → Int32) × (Nat → Int32) × (Nat → Int32) × (Nat → Int32) := if (f_misEdition ed) = 0 then ((-102), (0, rules, editions, orders, states, counts)) else (if (f_mwithin rank.toInt64 0 9) = 0 then ((-102), (0, rules, editions, orders, states, counts)) else (if (f_mwithin nam.toInt64 0 99) = 0 then ((-102), (0, rules, editions, orders, states, counts)) else (if (states ed.toNatClampNeg) ≤ 1 then (if rules = 40 then ((-104), (0, rules, editions, orders, states, counts)) else (if (counts ed.toNatClampNeg) = 8 then ((-104), (0, rules, editions, orders, states, counts)) else ((rules + 1) - 1, (0, rules + 1, upd editions rules.toNatClampNeg ed, upd orders rules.toNatClampNeg ((100 * rank) + nam), upd states ed.toNatClampNeg 1, upd counts ed.toNatClampNeg ((counts ed.toNatClampNeg) + 1))))) else ((-103), (0, rules, editions, orders, states, counts)))))
set_option maxHeartbeats 4000000 in
set_option maxRecDepth 100000 in
theorem c_mrule (l : Launch) (G : va_G) (cI cL cZ cR cE : ClassId) (sz : Nat) (a0 a1 a2 a3 a4 a5 a6 a7 a8 a9 a10 a11 a12 a13 a14 a15 a16 a17 a18 a19 a20 a21 a22 : Nat) (thrown : Int32) (most : Int32) (rules : Int32) (editions : Nat → Int32) (orders : Nat → Int32) (sizes : Nat → Int32) (ops : Nat → Int32) (numbers : Nat → Int64) (cells : Nat → Int64) (hasFallback : Nat → Int32) (fallbackKinds : Nat → Int32) (fallbacks : Nat → Int64) (facts : Nat → Int64) (states : Nat → Int32) (counts : Nat → Int32) (days : Nat → Int32) (toldAt : Nat → Int32) (tells : Int32) (handles : Int32) (handleFacts : Nat → Int32) (failures : Int32) (failedRule : Nat → Int32) (failedHow : Nat → Int32) (answers : Nat → Int64) (givers : Nat → Int32) (stack : Nat → Int64) (high : Int32) (steps : Int32) (how : Int32) (cellNow : Int64) (own : Nat → Int64) (has : Nat → Int32) (ed : Int32) (rank : Int32) (nam : Int32) (hR : 0 ≤ rules.toInt ∧ rules.toInt ≤ 40) : Met l y_Mo_rule w_Mo_rule ({ frames := 2, cells := 0, slots := 0, locals := 45 }) (preW G (TYS cI cL cZ cR cE) [.ref a0, .int ed, .int rank, .int nam] sz (W_Mod cI cL cZ cR cE a0 a1 a2 a3 a4 a5 a6 a7 a8 a9 a10 a11 a12 a13 a14 a15 a16 a17 a18 a19 a20 a21 a22 thrown most rules editions orders sizes ops numbers cells hasFallback fallbackKinds fallbacks facts states counts days toldAt tells handles handleFacts failures failedRule failedHow answers givers stack high steps how cellNow own has)) (va_Qi (fun (ans_ : Int32) (u : Int32 × Int32 × (Nat → Int32) × (Nat → Int32) × (Nat → Int32) × (Nat → Int32)) => (ans_, u) = f_mrule rules editions orders states counts ed rank nam) (fun u t => va_P G vwCl (W_Mod cI cL cZ cR cE a0 a1 a2 a3 a4 a5 a6 a7 a8 a9 a10 a11 a12 a13 a14 a15 a16 a17 a18 a19 a20 a21 a22 u.1 most u.2.1 u.2.2.1 u.2.2.2.1 sizes ops numbers cells hasFallback fallbackKinds fallbacks facts u.2.2.2.2.1 u.2.2.2.2.2 days toldAt tells handles handleFacts failures failedRule failedHow answers givers stack high steps how cellNow own has) t.heap ∧ va_K G vwCl (TYS cI cL cZ cR cE) t ∧ va_D (va_A (W_Mod cI cL cZ cR cE a0 a1 a2 a3 a4 a5 a6 a7 a8 a9 a10 a11 a12 a13 a14 a15 a16 a17 a18 a19 a20 a21 a22 thrown most rules editions orders sizes ops numbers cells hasFallback fallbackKinds fallbacks facts states counts days toldAt tells handles handleFacts failures failedRule failedHow answers givers stack high steps how cellNow own has) sz) (W_Mod cI cL cZ cR cE a0 a1 a2 a3 a4 a5 a6 a7 a8 a9 a10 a11 a12 a13 a14 a15 a16 a17 a18 a19 a20 a21 a22 u.1 most u.2.1 u.2.2.1 u.2.2.2.1 sizes ops numbers cells hasFallback fallbackKinds fallbacks facts u.2.2.2.2.1 u.2.2.2.2.2 days toldAt tells handles handleFacts failures failedRule failedHow answers givers stack high steps how cellNow own has)) (va_A (W_Mod cI cL cZ cR cE a0 a1 a2 a3 a4 a5 a6 a7 a8 a9 a10 a11 a12 a13 a14 a15 a16 a17 a18 a19 a20 a21 a22 thrown most rules editions orders sizes ops numbers cells hasFallback fallbackKinds fallbacks facts states counts days toldAt tells handles handleFacts failures failedRule failedHow answers givers stack high steps how cellNow own has) sz)) 0 0 (va_A (W_Mod cI cL cZ cR cE a0 a1 a2 a3 a4 a5 a6 a7 a8 a9 a10 a11 a12 a13 a14 a15 a16 a17 a18 a19 a20 a21 a22 thrown most rules editions orders sizes ops numbers cells hasFallback fallbackKinds fallbacks facts states counts days toldAt tells handles handleFacts failures failedRule failedHow answers givers stack high steps how cellNow own has) sz) := by
  refine Met.ofW (cc := b_Mo_rule) (maxL := 4) (ret := (some .int)) (by decide) rfl ?_
  intro p e s m args below meth c s₁ B hml hv
  obtain ⟨rfl, hsz, hP, hK, hD0, hN⟩ := hv
  have hx := B.exec
  have hb := B.bytes
  have hr := B.returns
  have hts := atoms_spec (ws := w_Mo_rule) B.pre
  have hown : s.vm.findClass R_Mo = some m.cls := findClass_of_methodNamed B.named
  have hlocks := B.notSynchronized
  subst hsz
  have hD := hD0.self (sz := s.heap.size)
  clear hD0
  generalize hAe : va_A (W_Mod cI cL cZ cR cE a0 a1 a2 a3 a4 a5 a6 a7 a8 a9 a10 a11 a12 a13 a14 a15 a16 a17 a18 a19 a20 a21 a22 thrown most rules editions orders sizes ops numbers cells hasFallback fallbackKinds fallbacks facts states counts days toldAt tells handles handleFacts failures failedRule failedHow answers givers stack high steps how cellNow own has) s.heap.size = A at hD ⊢
  have hA : ∀ q : Nat, s.heap.size ≤ q → A q := fun q h => by rw [← hAe]; exact Or.inr h
  clear hAe
  have hS : va_S A s.heap s.heap [] := va_S.rf
  obtain ⟨H, hH⟩ : ∃ H, H = s.heap := ⟨_, rfl⟩
  rw [← hH] at hP
  replace hS : va_S A s.heap H [] := by rw [hH]; exact hS
  rw [← hH]
  clear hH
  have hi_2 : ∀ w ∈ u_ws R_Mo T_Mo 32, w ∈ w_Mo_rule := fun w h => List.mem_cons_of_mem _ (iu_Mo w h)
  have hk_1 := hts (.fieldLink R_Mo 82 "HandlingRulesModel" "thrown" "I") (List.mem_cons_of_mem _ kw_565)
  have hk_3 := hts (.constantLong R_Mo 98 9) (List.mem_cons_of_mem _ kw_678)
  have hk_4 := hts (.constantLong R_Mo 100 99) (List.mem_cons_of_mem _ kw_679)
  have hk_5 := hts (.fieldLink R_Mo 42 "HandlingRulesModel" "states" "[I") (List.mem_cons_of_mem _ kw_578)
  have hk_6 := hts (.fieldLink R_Mo 85 "HandlingRulesModel" "rules" "I") (List.mem_cons_of_mem _ kw_567)
  have hk_7 := hts (.fieldLink R_Mo 45 "HandlingRulesModel" "counts" "[I") (List.mem_cons_of_mem _ kw_579)
  have hk_8 := hts (.fieldLink R_Mo 7 "HandlingRulesModel" "editions" "[I") (List.mem_cons_of_mem _ kw_568)
  have hk_9 := hts (.fieldLink R_Mo 13 "HandlingRulesModel" "orders" "[I") (List.mem_cons_of_mem _ kw_569)
  have hl := lv_entry ([.ref a0, .int ed, .int rank, .int nam]) (n := 4) (Nat.le_of_ble_eq_true rfl)
  rw [lg_entry_eq]
  generalize (lg_sl ([.ref a0, .int ed, .int rank, .int nam]) ++ List.replicate (4 - (lg_sl ([.ref a0, .int ed, .int rank, .int nam])).length) Slot.unset).toArray = ls at hl ⊢
  replace hl : lv_has ls 4 [(0, .ref a0), (1, .int ed), (2, .int rank), (3, .int nam)] := hl
  generalize hT : f_mrule rules editions orders states counts ed rank nam = T
  refine lv_aload_n hx hb d_Mo_rule_0 rfl (lv_at hl 0 rfl) ?_
  refine lv_iconst (v := 0) hx hb d_Mo_rule_1 (by decide) ?_
  refine va_put (D := G) (ci := 6) (v := .int 0) (ty := (.int)) (C := R_Mo) (T := T_Mo) (N := 32) hx hb hts hi_2 ty_Mo tyk_Mo nm_Mo hown hK hP hD hS 0 rfl rfl 0 (by decide) hk_1 (fun _ h9 => h9) rfl (by decide +kernel) rfl rfl (Nat.le_of_ble_eq_true rfl) d_Mo_rule_2 (fun H locs hP hD hS => ?_)
  replace hP : va_P G vwCl (W_Mod cI cL cZ cR cE a0 a1 a2 a3 a4 a5 a6 a7 a8 a9 a10 a11 a12 a13 a14 a15 a16 a17 a18 a19 a20 a21 a22 0 most rules editions orders sizes ops numbers cells hasFallback fallbackKinds fallbacks facts states counts days toldAt tells handles handleFacts failures failedRule failedHow answers givers stack high steps how cellNow own has) H := hP
  replace hD : va_D A (W_Mod cI cL cZ cR cE a0 a1 a2 a3 a4 a5 a6 a7 a8 a9 a10 a11 a12 a13 a14 a15 a16 a17 a18 a19 a20 a21 a22 0 most rules editions orders sizes ops numbers cells hasFallback fallbackKinds fallbacks facts states counts days toldAt tells handles handleFacts failures failedRule failedHow answers givers stack high steps how cellNow own has) := hD
  refine lv_iload_n hx hb d_Mo_rule_5 rfl (lv_at hl 1 rfl) ?_
  refine vp_callSi (W.runS (As := [.int ed]) (rest := []) ⟨hx, hb, hml, hown, hts⟩ (c_misEdition l G cI cL cZ cR cE  ed) (va_cwS 1 hts (gS kw_671 kw_672 kw_21 kw_673) rfl rfl rfl (by decide +kernel) ⟨Nat.le_of_ble_eq_true rfl, Nat.le_of_ble_eq_true rfl⟩) (preRS_of hN hK hP [] rfl) rfl rfl hl.1 rfl (lv_room (Nat.le_of_ble_eq_true rfl)) d_Mo_rule_6 ⟨Nat.zero_le _, Nat.zero_le _⟩) (fun r_1 hw => ?_)
  subst hw
  refine lv_if_eq (tgt := 36) hx hb d_Mo_rule_9 (by decide) (fun c_2 => ?_) (fun c_2 => ?_)
  · refine lv_bipush (v := (-102)) hx hb d_Mo_rule_36 (by decide) ?_
    exact W.iret (v := (-102)) hx hb hr (fun t ht hW => ⟨⟨(-102), (0, rules, editions, orders, states, counts), rfl, (by rw [← hT]; simp only [f_mrule, if_pos c_2]), by rw [ht]; exact hP, va_K.moved hW.alike hK, hD⟩, hS.F ht⟩) hS.2.2 d_Mo_rule_38
  · refine lv_iload_n hx hb d_Mo_rule_12 rfl (lv_at hl 2 rfl) ?_
    refine lv_i2l (v := rank.toInt64) hx hb d_Mo_rule_13 rfl ?_
    refine lv_lconst (v := 0) hx hb d_Mo_rule_14 (by decide) ?_
    refine lv_ldc2 (v := 9) hx hb hown hk_3 d_Mo_rule_15 ?_
    refine vp_callSi (W.runS (As := [.long rank.toInt64, .long 0, .long 9]) (rest := []) ⟨hx, hb, hml, hown, hts⟩ (c_mwithin l G cI cL cZ cR cE  rank.toInt64 0 9) (va_cwS 3 hts (gS kw_675 kw_676 kw_21 kw_677) rfl rfl rfl (by decide +kernel) ⟨Nat.le_of_ble_eq_true rfl, Nat.le_of_ble_eq_true rfl⟩) (preRS_of hN hK hP [] rfl) rfl rfl hl.1 rfl (lv_room (Nat.le_of_ble_eq_true rfl)) d_Mo_rule_18 ⟨Nat.zero_le _, Nat.zero_le _⟩) (fun r_3 hw => ?_)
    subst hw
    refine lv_if_eq (tgt := 36) hx hb d_Mo_rule_21 (by decide) (fun c_4 => ?_) (fun c_4 => ?_)
    · refine lv_bipush (v := (-102)) hx hb d_Mo_rule_36 (by decide) ?_
      exact W.iret (v := (-102)) hx hb hr (fun t ht hW => ⟨⟨(-102), (0, rules, editions, orders, states, counts), rfl, (by rw [← hT]; simp only [f_mrule, if_neg c_2, if_pos c_4]), by rw [ht]; exact hP, va_K.moved hW.alike hK, hD⟩, hS.F ht⟩) hS.2.2 d_Mo_rule_38
    · refine lv_iload_n hx hb d_Mo_rule_24 rfl (lv_at hl 3 rfl) ?_
      refine lv_i2l (v := nam.toInt64) hx hb d_Mo_rule_25 rfl ?_
      refine lv_lconst (v := 0) hx hb d_Mo_rule_26 (by decide) ?_
      refine lv_ldc2 (v := 99) hx hb hown hk_4 d_Mo_rule_27 ?_
      refine vp_callSi (W.runS (As := [.long nam.toInt64, .long 0, .long 99]) (rest := []) ⟨hx, hb, hml, hown, hts⟩ (c_mwithin l G cI cL cZ cR cE  nam.toInt64 0 99) (va_cwS 3 hts (gS kw_675 kw_676 kw_21 kw_677) rfl rfl rfl (by decide +kernel) ⟨Nat.le_of_ble_eq_true rfl, Nat.le_of_ble_eq_true rfl⟩) (preRS_of hN hK hP [] rfl) rfl rfl hl.1 rfl (lv_room (Nat.le_of_ble_eq_true rfl)) d_Mo_rule_30 ⟨Nat.zero_le _, Nat.zero_le _⟩) (fun r_5 hw => ?_)
      subst hw
      refine lv_if_ne (tgt := 39) hx hb d_Mo_rule_33 (by decide) (fun c_6 => ?_) (fun c_6 => ?_)
      · refine lv_aload_n hx hb d_Mo_rule_39 rfl (lv_at hl 0 rfl) ?_
        refine va_get (D := G) (ci := 6) (v := .ref a11) (C := R_Mo) (T := T_Mo) (N := 32) hx hb hts hi_2 hown hK hP 0 rfl rfl 13 (by decide) hk_5 (fun _ h9 => h9) rfl d_Mo_rule_40 ?_
        refine lv_iload_n hx hb d_Mo_rule_43 rfl (lv_at hl 1 rfl) ?_
        refine va_iald hx hb hK hP 11 0 rfl rfl (ix_med c_2) d_Mo_rule_44 ?_
        refine lv_iconst (v := 1) hx hb d_Mo_rule_45 (by decide) ?_
        refine lv_icmp_le (tgt := 52) hx hb d_Mo_rule_46 (by decide) (fun c_7 => ?_) (fun c_7 => ?_)
        · refine lv_aload_n hx hb d_Mo_rule_52 rfl (lv_at hl 0 rfl) ?_
          refine va_get (D := G) (ci := 6) (v := .int rules) (C := R_Mo) (T := T_Mo) (N := 32) hx hb hts hi_2 hown hK hP 0 rfl rfl 2 (by decide) hk_6 (fun _ h9 => h9) rfl d_Mo_rule_53 ?_
          refine lv_bipush (v := 40) hx hb d_Mo_rule_56 (by decide) ?_
          refine lv_icmp_eq (tgt := 72) hx hb d_Mo_rule_58 (by decide) (fun c_8 => ?_) (fun c_8 => ?_)
          · refine lv_bipush (v := (-104)) hx hb d_Mo_rule_72 (by decide) ?_
            exact W.iret (v := (-104)) hx hb hr (fun t ht hW => ⟨⟨(-104), (0, rules, editions, orders, states, counts), rfl, (by rw [← hT]; simp only [f_mrule, if_neg c_2, if_neg c_4, if_neg c_6, if_pos c_7, if_pos c_8]), by rw [ht]; exact hP, va_K.moved hW.alike hK, hD⟩, hS.F ht⟩) hS.2.2 d_Mo_rule_74
          · refine lv_aload_n hx hb d_Mo_rule_61 rfl (lv_at hl 0 rfl) ?_
            refine va_get (D := G) (ci := 6) (v := .ref a12) (C := R_Mo) (T := T_Mo) (N := 32) hx hb hts hi_2 hown hK hP 0 rfl rfl 14 (by decide) hk_7 (fun _ h9 => h9) rfl d_Mo_rule_62 ?_
            refine lv_iload_n hx hb d_Mo_rule_65 rfl (lv_at hl 1 rfl) ?_
            refine va_iald hx hb hK hP 12 0 rfl rfl (ix_med c_2) d_Mo_rule_66 ?_
            refine lv_bipush (v := 8) hx hb d_Mo_rule_67 (by decide) ?_
            refine lv_icmp_ne (tgt := 75) hx hb d_Mo_rule_69 (by decide) (fun c_9 => ?_) (fun c_9 => ?_)
            · refine lv_aload_n hx hb d_Mo_rule_75 rfl (lv_at hl 0 rfl) ?_
              refine va_get (D := G) (ci := 6) (v := .ref a1) (C := R_Mo) (T := T_Mo) (N := 32) hx hb hts hi_2 hown hK hP 0 rfl rfl 3 (by decide) hk_8 (fun _ h9 => h9) rfl d_Mo_rule_76 ?_
              refine lv_aload_n hx hb d_Mo_rule_79 rfl (lv_at hl 0 rfl) ?_
              refine va_get (D := G) (ci := 6) (v := .int rules) (C := R_Mo) (T := T_Mo) (N := 32) hx hb hts hi_2 hown hK hP 0 rfl rfl 2 (by decide) hk_6 (fun _ h9 => h9) rfl d_Mo_rule_80 ?_
              refine lv_iload_n hx hb d_Mo_rule_83 rfl (lv_at hl 1 rfl) ?_
              refine va_iast hx hb hK hP hD hS 1 0 rfl rfl (ix_le hR c_8 rfl) d_Mo_rule_84 (fun H locs hP hD hS => ?_)
              replace hP : va_P G vwCl (W_Mod cI cL cZ cR cE a0 a1 a2 a3 a4 a5 a6 a7 a8 a9 a10 a11 a12 a13 a14 a15 a16 a17 a18 a19 a20 a21 a22 0 most rules (upd editions rules.toNatClampNeg ed) orders sizes ops numbers cells hasFallback fallbackKinds fallbacks facts states counts days toldAt tells handles handleFacts failures failedRule failedHow answers givers stack high steps how cellNow own has) H := hP
              replace hD : va_D A (W_Mod cI cL cZ cR cE a0 a1 a2 a3 a4 a5 a6 a7 a8 a9 a10 a11 a12 a13 a14 a15 a16 a17 a18 a19 a20 a21 a22 0 most rules (upd editions rules.toNatClampNeg ed) orders sizes ops numbers cells hasFallback fallbackKinds fallbacks facts states counts days toldAt tells handles handleFacts failures failedRule failedHow answers givers stack high steps how cellNow own has) := hD
              refine lv_aload_n hx hb d_Mo_rule_85 rfl (lv_at hl 0 rfl) ?_
              refine va_get (D := G) (ci := 6) (v := .ref a2) (C := R_Mo) (T := T_Mo) (N := 32) hx hb hts hi_2 hown hK hP 0 rfl rfl 4 (by decide) hk_9 (fun _ h9 => h9) rfl d_Mo_rule_86 ?_
              refine lv_aload_n hx hb d_Mo_rule_89 rfl (lv_at hl 0 rfl) ?_
              refine va_get (D := G) (ci := 6) (v := .int rules) (C := R_Mo) (T := T_Mo) (N := 32) hx hb hts hi_2 hown hK hP 0 rfl rfl 2 (by decide) hk_6 (fun _ h9 => h9) rfl d_Mo_rule_90 ?_
              refine lv_bipush (v := 100) hx hb d_Mo_rule_93 (by decide) ?_
              refine lv_iload_n hx hb d_Mo_rule_95 rfl (lv_at hl 2 rfl) ?_
              refine lv_imul hx hb d_Mo_rule_96 ?_
              refine lv_iload_n hx hb d_Mo_rule_97 rfl (lv_at hl 3 rfl) ?_
              refine lv_iadd hx hb d_Mo_rule_98 ?_
              refine va_iast hx hb hK hP hD hS 2 0 rfl rfl (ix_le hR c_8 rfl) d_Mo_rule_99 (fun H locs hP hD hS => ?_)
              replace hP : va_P G vwCl (W_Mod cI cL cZ cR cE a0 a1 a2 a3 a4 a5 a6 a7 a8 a9 a10 a11 a12 a13 a14 a15 a16 a17 a18 a19 a20 a21 a22 0 most rules (upd editions rules.toNatClampNeg ed) (upd orders rules.toNatClampNeg ((100 * rank) + nam)) sizes ops numbers cells hasFallback fallbackKinds fallbacks facts states counts days toldAt tells handles handleFacts failures failedRule failedHow answers givers stack high steps how cellNow own has) H := hP
              replace hD : va_D A (W_Mod cI cL cZ cR cE a0 a1 a2 a3 a4 a5 a6 a7 a8 a9 a10 a11 a12 a13 a14 a15 a16 a17 a18 a19 a20 a21 a22 0 most rules (upd editions rules.toNatClampNeg ed) (upd orders rules.toNatClampNeg ((100 * rank) + nam)) sizes ops numbers cells hasFallback fallbackKinds fallbacks facts states counts days toldAt tells handles handleFacts failures failedRule failedHow answers givers stack high steps how cellNow own has) := hD
              refine lv_aload_n hx hb d_Mo_rule_100 rfl (lv_at hl 0 rfl) ?_
              refine va_get (D := G) (ci := 6) (v := .ref a12) (C := R_Mo) (T := T_Mo) (N := 32) hx hb hts hi_2 hown hK hP 0 rfl rfl 14 (by decide) hk_7 (fun _ h9 => h9) rfl d_Mo_rule_101 ?_
              refine lv_iload_n hx hb d_Mo_rule_104 rfl (lv_at hl 1 rfl) ?_
              refine lv_dup2_11 hx hb d_Mo_rule_105 rfl rfl ?_
              refine va_iald hx hb hK hP 12 0 rfl rfl (ix_med c_2) d_Mo_rule_106 ?_
              refine lv_iconst (v := 1) hx hb d_Mo_rule_107 (by decide) ?_
              refine lv_iadd hx hb d_Mo_rule_108 ?_
              refine va_iast hx hb hK hP hD hS 12 0 rfl rfl (ix_med c_2) d_Mo_rule_109 (fun H locs hP hD hS => ?_)
              replace hP : va_P G vwCl (W_Mod cI cL cZ cR cE a0 a1 a2 a3 a4 a5 a6 a7 a8 a9 a10 a11 a12 a13 a14 a15 a16 a17 a18 a19 a20 a21 a22 0 most rules (upd editions rules.toNatClampNeg ed) (upd orders rules.toNatClampNeg ((100 * rank) + nam)) sizes ops numbers cells hasFallback fallbackKinds fallbacks facts states (upd counts ed.toNatClampNeg ((counts ed.toNatClampNeg) + 1)) days toldAt tells handles handleFacts failures failedRule failedHow answers givers stack high steps how cellNow own has) H := hP
              replace hD : va_D A (W_Mod cI cL cZ cR cE a0 a1 a2 a3 a4 a5 a6 a7 a8 a9 a10 a11 a12 a13 a14 a15 a16 a17 a18 a19 a20 a21 a22 0 most rules (upd editions rules.toNatClampNeg ed) (upd orders rules.toNatClampNeg ((100 * rank) + nam)) sizes ops numbers cells hasFallback fallbackKinds fallbacks facts states (upd counts ed.toNatClampNeg ((counts ed.toNatClampNeg) + 1)) days toldAt tells handles handleFacts failures failedRule failedHow answers givers stack high steps how cellNow own has) := hD
              refine lv_aload_n hx hb d_Mo_rule_110 rfl (lv_at hl 0 rfl) ?_
              refine va_get (D := G) (ci := 6) (v := .ref a11) (C := R_Mo) (T := T_Mo) (N := 32) hx hb hts hi_2 hown hK hP 0 rfl rfl 13 (by decide) hk_5 (fun _ h9 => h9) rfl d_Mo_rule_111 ?_
              refine lv_iload_n hx hb d_Mo_rule_114 rfl (lv_at hl 1 rfl) ?_
              refine lv_iconst (v := 1) hx hb d_Mo_rule_115 (by decide) ?_
              refine va_iast hx hb hK hP hD hS 11 0 rfl rfl (ix_med c_2) d_Mo_rule_116 (fun H locs hP hD hS => ?_)
              replace hP : va_P G vwCl (W_Mod cI cL cZ cR cE a0 a1 a2 a3 a4 a5 a6 a7 a8 a9 a10 a11 a12 a13 a14 a15 a16 a17 a18 a19 a20 a21 a22 0 most rules (upd editions rules.toNatClampNeg ed) (upd orders rules.toNatClampNeg ((100 * rank) + nam)) sizes ops numbers cells hasFallback fallbackKinds fallbacks facts (upd states ed.toNatClampNeg 1) (upd counts ed.toNatClampNeg ((counts ed.toNatClampNeg) + 1)) days toldAt tells handles handleFacts failures failedRule failedHow answers givers stack high steps how cellNow own has) H := hP
              replace hD : va_D A (W_Mod cI cL cZ cR cE a0 a1 a2 a3 a4 a5 a6 a7 a8 a9 a10 a11 a12 a13 a14 a15 a16 a17 a18 a19 a20 a21 a22 0 most rules (upd editions rules.toNatClampNeg ed) (upd orders rules.toNatClampNeg ((100 * rank) + nam)) sizes ops numbers cells hasFallback fallbackKinds fallbacks facts (upd states ed.toNatClampNeg 1) (upd counts ed.toNatClampNeg ((counts ed.toNatClampNeg) + 1)) days toldAt tells handles handleFacts failures failedRule failedHow answers givers stack high steps how cellNow own has) := hD
              refine lv_aload_n hx hb d_Mo_rule_117 rfl (lv_at hl 0 rfl) ?_
              refine lv_dup hx hb d_Mo_rule_118 rfl ?_
              refine va_get (D := G) (ci := 6) (v := .int rules) (C := R_Mo) (T := T_Mo) (N := 32) hx hb hts hi_2 hown hK hP 0 rfl rfl 2 (by decide) hk_6 (fun _ h9 => h9) rfl d_Mo_rule_119 ?_
              refine lv_iconst (v := 1) hx hb d_Mo_rule_122 (by decide) ?_
              refine lv_iadd hx hb d_Mo_rule_123 ?_
              refine va_put (D := G) (ci := 6) (v := .int (rules + 1)) (ty := (.int)) (C := R_Mo) (T := T_Mo) (N := 32) hx hb hts hi_2 ty_Mo tyk_Mo nm_Mo hown hK hP hD hS 0 rfl rfl 2 (by decide) hk_6 (fun _ h9 => h9) rfl (by decide +kernel) rfl rfl (Nat.le_of_ble_eq_true rfl) d_Mo_rule_124 (fun H locs hP hD hS => ?_)
              replace hP : va_P G vwCl (W_Mod cI cL cZ cR cE a0 a1 a2 a3 a4 a5 a6 a7 a8 a9 a10 a11 a12 a13 a14 a15 a16 a17 a18 a19 a20 a21 a22 0 most (rules + 1) (upd editions rules.toNatClampNeg ed) (upd orders rules.toNatClampNeg ((100 * rank) + nam)) sizes ops numbers cells hasFallback fallbackKinds fallbacks facts (upd states ed.toNatClampNeg 1) (upd counts ed.toNatClampNeg ((counts ed.toNatClampNeg) + 1)) days toldAt tells handles handleFacts failures failedRule failedHow answers givers stack high steps how cellNow own has) H := hP
              replace hD : va_D A (W_Mod cI cL cZ cR cE a0 a1 a2 a3 a4 a5 a6 a7 a8 a9 a10 a11 a12 a13 a14 a15 a16 a17 a18 a19 a20 a21 a22 0 most (rules + 1) (upd editions rules.toNatClampNeg ed) (upd orders rules.toNatClampNeg ((100 * rank) + nam)) sizes ops numbers cells hasFallback fallbackKinds fallbacks facts (upd states ed.toNatClampNeg 1) (upd counts ed.toNatClampNeg ((counts ed.toNatClampNeg) + 1)) days toldAt tells handles handleFacts failures failedRule failedHow answers givers stack high steps how cellNow own has) := hD
              refine lv_aload_n hx hb d_Mo_rule_127 rfl (lv_at hl 0 rfl) ?_
              refine va_get (D := G) (ci := 6) (v := .int (rules + 1)) (C := R_Mo) (T := T_Mo) (N := 32) hx hb hts hi_2 hown hK hP 0 rfl rfl 2 (by decide) hk_6 (fun _ h9 => h9) rfl d_Mo_rule_128 ?_
              refine lv_iconst (v := 1) hx hb d_Mo_rule_131 (by decide) ?_
              refine lv_isub hx hb d_Mo_rule_132 ?_
              exact W.iret (v := (rules + 1) - 1) hx hb hr (fun t ht hW => ⟨⟨(rules + 1) - 1, (0, rules + 1, upd editions rules.toNatClampNeg ed, upd orders rules.toNatClampNeg ((100 * rank) + nam), upd states ed.toNatClampNeg 1, upd counts ed.toNatClampNeg ((counts ed.toNatClampNeg) + 1)), rfl, (by rw [← hT]; simp only [f_mrule, if_neg c_2, if_neg c_4, if_neg c_6, if_pos c_7, if_neg c_8, if_neg c_9]), by rw [ht]; exact hP, va_K.moved hW.alike hK, hD⟩, hS.F ht⟩) hS.2.2 d_Mo_rule_133
            · refine lv_bipush (v := (-104)) hx hb d_Mo_rule_72 (by decide) ?_
              exact W.iret (v := (-104)) hx hb hr (fun t ht hW => ⟨⟨(-104), (0, rules, editions, orders, states, counts), rfl, (by rw [← hT]; simp only [f_mrule, if_neg c_2, if_neg c_4, if_neg c_6, if_pos c_7, if_neg c_8, if_pos c_9]), by rw [ht]; exact hP, va_K.moved hW.alike hK, hD⟩, hS.F ht⟩) hS.2.2 d_Mo_rule_74
        · refine lv_bipush (v := (-103)) hx hb d_Mo_rule_49 (by decide) ?_
          exact W.iret (v := (-103)) hx hb hr (fun t ht hW => ⟨⟨(-103), (0, rules, editions, orders, states, counts), rfl, (by rw [← hT]; simp only [f_mrule, if_neg c_2, if_neg c_4, if_neg c_6, if_neg c_7]), by rw [ht]; exact hP, va_K.moved hW.alike hK, hD⟩, hS.F ht⟩) hS.2.2 d_Mo_rule_51
      · refine lv_bipush (v := (-102)) hx hb d_Mo_rule_36 (by decide) ?_
        exact W.iret (v := (-102)) hx hb hr (fun t ht hW => ⟨⟨(-102), (0, rules, editions, orders, states, counts), rfl, (by rw [← hT]; simp only [f_mrule, if_neg c_2, if_neg c_4, if_pos c_6]), by rw [ht]; exact hP, va_K.moved hW.alike hK, hD⟩, hS.F ht⟩) hS.2.2 d_Mo_rule_38
def f_mcode (rules : Int32) (editions : Nat → Int32) (sizes : Nat → Int32) (ops : Nat → Int32) (numbers : Nat → Int64) (states : Nat → Int32) (r : Int32) (op : Int32) (n_ : Int64) : Int32 × Int32 × (Nat → Int32) × (Nat → Int32) × (Nat → Int64) := if (f_misRule rules r) = 0 then ((-101), (0, sizes, ops, numbers)) else (if (f_mwithin op.toInt64 0 15) = 0 then ((-102), (0, sizes, ops, numbers)) else (if (f_misNumber op n_) = 0 then ((-102), (0, sizes, ops, numbers)) else (if (states (editions r.toNatClampNeg).toNatClampNeg) = 1 then (if (sizes r.toNatClampNeg) = 12 then ((-104), (0, sizes, ops, numbers)) else ((upd sizes r.toNatClampNeg ((sizes r.toNatClampNeg) + 1)) r.toNatClampNeg, (0, upd sizes r.toNatClampNeg ((sizes r.toNatClampNeg) + 1), upd ops ((12 * r) + (sizes r.toNatClampNeg)).toNatClampNeg op, vp_updL numbers ((12 * r) + (sizes r.toNatClampNeg)).toNatClampNeg n_))) else ((-103), (0, sizes, ops, numbers)))))
set_option maxHeartbeats 4000000 in
set_option maxRecDepth 100000 in
theorem c_mcode (l : Launch) (G : va_G) (cI cL cZ cR cE : ClassId) (sz : Nat) (a0 a1 a2 a3 a4 a5 a6 a7 a8 a9 a10 a11 a12 a13 a14 a15 a16 a17 a18 a19 a20 a21 a22 : Nat) (thrown : Int32) (most : Int32) (rules : Int32) (editions : Nat → Int32) (orders : Nat → Int32) (sizes : Nat → Int32) (ops : Nat → Int32) (numbers : Nat → Int64) (cells : Nat → Int64) (hasFallback : Nat → Int32) (fallbackKinds : Nat → Int32) (fallbacks : Nat → Int64) (facts : Nat → Int64) (states : Nat → Int32) (counts : Nat → Int32) (days : Nat → Int32) (toldAt : Nat → Int32) (tells : Int32) (handles : Int32) (handleFacts : Nat → Int32) (failures : Int32) (failedRule : Nat → Int32) (failedHow : Nat → Int32) (answers : Nat → Int64) (givers : Nat → Int32) (stack : Nat → Int64) (high : Int32) (steps : Int32) (how : Int32) (cellNow : Int64) (own : Nat → Int64) (has : Nat → Int32) (r : Int32) (op : Int32) (n_ : Int64) (hR : 0 ≤ rules.toInt ∧ rules.toInt ≤ 40) (hE : ∀ j, vp_in (editions j) 6) (hZ : ∀ j, 0 ≤ (sizes j).toInt ∧ (sizes j).toInt ≤ 12) : Met l y_Mo_code w_Mo_code ({ frames := 2, cells := 0, slots := 0, locals := 47 }) (preW G (TYS cI cL cZ cR cE) [.ref a0, .int r, .int op, .long n_] sz (W_Mod cI cL cZ cR cE a0 a1 a2 a3 a4 a5 a6 a7 a8 a9 a10 a11 a12 a13 a14 a15 a16 a17 a18 a19 a20 a21 a22 thrown most rules editions orders sizes ops numbers cells hasFallback fallbackKinds fallbacks facts states counts days toldAt tells handles handleFacts failures failedRule failedHow answers givers stack high steps how cellNow own has)) (va_Qi (fun (ans_ : Int32) (u : Int32 × (Nat → Int32) × (Nat → Int32) × (Nat → Int64)) => (ans_, u) = f_mcode rules editions sizes ops numbers states r op n_) (fun u t => va_P G vwCl (W_Mod cI cL cZ cR cE a0 a1 a2 a3 a4 a5 a6 a7 a8 a9 a10 a11 a12 a13 a14 a15 a16 a17 a18 a19 a20 a21 a22 u.1 most rules editions orders u.2.1 u.2.2.1 u.2.2.2 cells hasFallback fallbackKinds fallbacks facts states counts days toldAt tells handles handleFacts failures failedRule failedHow answers givers stack high steps how cellNow own has) t.heap ∧ va_K G vwCl (TYS cI cL cZ cR cE) t ∧ va_D (va_A (W_Mod cI cL cZ cR cE a0 a1 a2 a3 a4 a5 a6 a7 a8 a9 a10 a11 a12 a13 a14 a15 a16 a17 a18 a19 a20 a21 a22 thrown most rules editions orders sizes ops numbers cells hasFallback fallbackKinds fallbacks facts states counts days toldAt tells handles handleFacts failures failedRule failedHow answers givers stack high steps how cellNow own has) sz) (W_Mod cI cL cZ cR cE a0 a1 a2 a3 a4 a5 a6 a7 a8 a9 a10 a11 a12 a13 a14 a15 a16 a17 a18 a19 a20 a21 a22 u.1 most rules editions orders u.2.1 u.2.2.1 u.2.2.2 cells hasFallback fallbackKinds fallbacks facts states counts days toldAt tells handles handleFacts failures failedRule failedHow answers givers stack high steps how cellNow own has)) (va_A (W_Mod cI cL cZ cR cE a0 a1 a2 a3 a4 a5 a6 a7 a8 a9 a10 a11 a12 a13 a14 a15 a16 a17 a18 a19 a20 a21 a22 thrown most rules editions orders sizes ops numbers cells hasFallback fallbackKinds fallbacks facts states counts days toldAt tells handles handleFacts failures failedRule failedHow answers givers stack high steps how cellNow own has) sz)) 0 0 (va_A (W_Mod cI cL cZ cR cE a0 a1 a2 a3 a4 a5 a6 a7 a8 a9 a10 a11 a12 a13 a14 a15 a16 a17 a18 a19 a20 a21 a22 thrown most rules editions orders sizes ops numbers cells hasFallback fallbackKinds fallbacks facts states counts days toldAt tells handles handleFacts failures failedRule failedHow answers givers stack high steps how cellNow own has) sz) := by
  refine Met.ofW (cc := b_Mo_code) (maxL := 5) (ret := (some .int)) (by decide) rfl ?_
  intro p e s m args below meth c s₁ B hml hv
  obtain ⟨rfl, hsz, hP, hK, hD0, hN⟩ := hv
  have hx := B.exec
  have hb := B.bytes
  have hr := B.returns
  have hts := atoms_spec (ws := w_Mo_code) B.pre
  have hown : s.vm.findClass R_Mo = some m.cls := findClass_of_methodNamed B.named
  have hlocks := B.notSynchronized
  subst hsz
  have hD := hD0.self (sz := s.heap.size)
  clear hD0
  generalize hAe : va_A (W_Mod cI cL cZ cR cE a0 a1 a2 a3 a4 a5 a6 a7 a8 a9 a10 a11 a12 a13 a14 a15 a16 a17 a18 a19 a20 a21 a22 thrown most rules editions orders sizes ops numbers cells hasFallback fallbackKinds fallbacks facts states counts days toldAt tells handles handleFacts failures failedRule failedHow answers givers stack high steps how cellNow own has) s.heap.size = A at hD ⊢
  have hA : ∀ q : Nat, s.heap.size ≤ q → A q := fun q h => by rw [← hAe]; exact Or.inr h
  clear hAe
  have hS : va_S A s.heap s.heap [] := va_S.rf
  obtain ⟨H, hH⟩ : ∃ H, H = s.heap := ⟨_, rfl⟩
  rw [← hH] at hP
  replace hS : va_S A s.heap H [] := by rw [hH]; exact hS
  rw [← hH]
  clear hH
  have hi_2 : ∀ w ∈ u_ws R_Mo T_Mo 32, w ∈ w_Mo_code := fun w h => List.mem_cons_of_mem _ (iu_Mo w h)
  have hk_1 := hts (.fieldLink R_Mo 82 "HandlingRulesModel" "thrown" "I") (List.mem_cons_of_mem _ kw_565)
  have hk_3 := hts (.constantLong R_Mo 113 15) (List.mem_cons_of_mem _ kw_688)
  have hk_4 := hts (.fieldLink R_Mo 42 "HandlingRulesModel" "states" "[I") (List.mem_cons_of_mem _ kw_578)
  have hk_5 := hts (.fieldLink R_Mo 7 "HandlingRulesModel" "editions" "[I") (List.mem_cons_of_mem _ kw_568)
  have hk_6 := hts (.fieldLink R_Mo 16 "HandlingRulesModel" "sizes" "[I") (List.mem_cons_of_mem _ kw_570)
  have hk_7 := hts (.fieldLink R_Mo 19 "HandlingRulesModel" "ops" "[I") (List.mem_cons_of_mem _ kw_571)
  have hk_8 := hts (.fieldLink R_Mo 22 "HandlingRulesModel" "numbers" "[J") (List.mem_cons_of_mem _ kw_572)
  have hl := lv_entry ([.ref a0, .int r, .int op, .long n_]) (n := 5) (Nat.le_of_ble_eq_true rfl)
  rw [lg_entry_eq]
  generalize (lg_sl ([.ref a0, .int r, .int op, .long n_]) ++ List.replicate (5 - (lg_sl ([.ref a0, .int r, .int op, .long n_])).length) Slot.unset).toArray = ls at hl ⊢
  replace hl : lv_has ls 5 [(0, .ref a0), (1, .int r), (2, .int op), (3, .long n_)] := hl
  generalize hT : f_mcode rules editions sizes ops numbers states r op n_ = T
  refine lv_aload_n hx hb d_Mo_code_0 rfl (lv_at hl 0 rfl) ?_
  refine lv_iconst (v := 0) hx hb d_Mo_code_1 (by decide) ?_
  refine va_put (D := G) (ci := 6) (v := .int 0) (ty := (.int)) (C := R_Mo) (T := T_Mo) (N := 32) hx hb hts hi_2 ty_Mo tyk_Mo nm_Mo hown hK hP hD hS 0 rfl rfl 0 (by decide) hk_1 (fun _ h9 => h9) rfl (by decide +kernel) rfl rfl (Nat.le_of_ble_eq_true rfl) d_Mo_code_2 (fun H locs hP hD hS => ?_)
  replace hP : va_P G vwCl (W_Mod cI cL cZ cR cE a0 a1 a2 a3 a4 a5 a6 a7 a8 a9 a10 a11 a12 a13 a14 a15 a16 a17 a18 a19 a20 a21 a22 0 most rules editions orders sizes ops numbers cells hasFallback fallbackKinds fallbacks facts states counts days toldAt tells handles handleFacts failures failedRule failedHow answers givers stack high steps how cellNow own has) H := hP
  replace hD : va_D A (W_Mod cI cL cZ cR cE a0 a1 a2 a3 a4 a5 a6 a7 a8 a9 a10 a11 a12 a13 a14 a15 a16 a17 a18 a19 a20 a21 a22 0 most rules editions orders sizes ops numbers cells hasFallback fallbackKinds fallbacks facts states counts days toldAt tells handles handleFacts failures failedRule failedHow answers givers stack high steps how cellNow own has) := hD
  refine lv_aload_n hx hb d_Mo_code_5 rfl (lv_at hl 0 rfl) ?_
  refine lv_iload_n hx hb d_Mo_code_6 rfl (lv_at hl 1 rfl) ?_
  refine vp_callSi (W.runV (As := [.int r]) (rest := []) ⟨hx, hb, hml, hown, hts⟩ (c_misRule l G cI cL cZ cR cE a0 a1 a2 a3 a4 a5 a6 a7 a8 a9 a10 a11 a12 a13 a14 a15 a16 a17 a18 a19 a20 a21 a22 0 most rules editions orders sizes ops numbers cells hasFallback fallbackKinds fallbacks facts states counts days toldAt tells handles handleFacts failures failedRule failedHow answers givers stack high steps how cellNow own has r) (cwV 1 hts (gV kw_684 kw_686 kw_7 kw_21 kw_687) rfl rfl rfl (by decide +kernel) ⟨Nat.le_of_ble_eq_true rfl, Nat.le_of_ble_eq_true rfl⟩) (preRV_of (ci := 6) hN hK hP [0, 1, 2, 3, 4, 5, 6, 7, 8, 9, 10, 11, 12, 13, 14, 15, 16, 17, 18, 19, 20, 21, 22] rfl rfl rfl) rfl rfl hl.1 rfl (lv_room (Nat.le_of_ble_eq_true rfl)) d_Mo_code_7 ⟨Nat.zero_le _, Nat.zero_le _⟩) (fun r_1 hw => ?_)
  subst hw
  refine lv_if_ne (tgt := 16) hx hb d_Mo_code_10 (by decide) (fun c_2 => ?_) (fun c_2 => ?_)
  · refine lv_iload_n hx hb d_Mo_code_16 rfl (lv_at hl 2 rfl) ?_
    refine lv_i2l (v := op.toInt64) hx hb d_Mo_code_17 rfl ?_
    refine lv_lconst (v := 0) hx hb d_Mo_code_18 (by decide) ?_
    refine lv_ldc2 (v := 15) hx hb hown hk_3 d_Mo_code_19 ?_
    refine vp_callSi (W.runS (As := [.long op.toInt64, .long 0, .long 15]) (rest := []) ⟨hx, hb, hml, hown, hts⟩ (c_mwithin l G cI cL cZ cR cE  op.toInt64 0 15) (va_cwS 3 hts (gS kw_675 kw_676 kw_21 kw_677) rfl rfl rfl (by decide +kernel) ⟨Nat.le_of_ble_eq_true rfl, Nat.le_of_ble_eq_true rfl⟩) (preRS_of hN hK hP [] rfl) rfl rfl hl.1 rfl (lv_room (Nat.le_of_ble_eq_true rfl)) d_Mo_code_22 ⟨Nat.zero_le _, Nat.zero_le _⟩) (fun r_3 hw => ?_)
    subst hw
    refine lv_if_eq (tgt := 36) hx hb d_Mo_code_25 (by decide) (fun c_4 => ?_) (fun c_4 => ?_)
    · refine lv_bipush (v := (-102)) hx hb d_Mo_code_36 (by decide) ?_
      exact W.iret (v := (-102)) hx hb hr (fun t ht hW => ⟨⟨(-102), (0, sizes, ops, numbers), rfl, (by rw [← hT]; simp only [f_mcode, if_neg c_2, if_pos c_4]), by rw [ht]; exact hP, va_K.moved hW.alike hK, hD⟩, hS.F ht⟩) hS.2.2 d_Mo_code_38
    · refine lv_iload_n hx hb d_Mo_code_28 rfl (lv_at hl 2 rfl) ?_
      refine lv_lload_n hx hb d_Mo_code_29 rfl (lv_at hl 3 rfl) ?_
      refine vp_callSi (W.runS (As := [.int op, .long n_]) (rest := []) ⟨hx, hb, hml, hown, hts⟩ (c_misNumber l G cI cL cZ cR cE  op n_) (va_cwS 2 hts (gS kw_689 kw_690 kw_21 kw_691) rfl rfl rfl (by decide +kernel) ⟨Nat.le_of_ble_eq_true rfl, Nat.le_of_ble_eq_true rfl⟩) (preRS_of hN hK hP [] rfl) rfl rfl hl.1 rfl (lv_room (Nat.le_of_ble_eq_true rfl)) d_Mo_code_30 ⟨Nat.zero_le _, Nat.zero_le _⟩) (fun r_5 hw => ?_)
      subst hw
      refine lv_if_ne (tgt := 39) hx hb d_Mo_code_33 (by decide) (fun c_6 => ?_) (fun c_6 => ?_)
      · refine lv_aload_n hx hb d_Mo_code_39 rfl (lv_at hl 0 rfl) ?_
        refine va_get (D := G) (ci := 6) (v := .ref a11) (C := R_Mo) (T := T_Mo) (N := 32) hx hb hts hi_2 hown hK hP 0 rfl rfl 13 (by decide) hk_4 (fun _ h9 => h9) rfl d_Mo_code_40 ?_
        refine lv_aload_n hx hb d_Mo_code_43 rfl (lv_at hl 0 rfl) ?_
        refine va_get (D := G) (ci := 6) (v := .ref a1) (C := R_Mo) (T := T_Mo) (N := 32) hx hb hts hi_2 hown hK hP 0 rfl rfl 3 (by decide) hk_5 (fun _ h9 => h9) rfl d_Mo_code_44 ?_
        refine lv_iload_n hx hb d_Mo_code_47 rfl (lv_at hl 1 rfl) ?_
        refine va_iald hx hb hK hP 1 0 rfl rfl (ix_misRule c_2 hR) d_Mo_code_48 ?_
        refine va_iald hx hb hK hP 11 0 rfl rfl (hE _) d_Mo_code_49 ?_
        refine lv_iconst (v := 1) hx hb d_Mo_code_50 (by decide) ?_
        refine lv_icmp_eq (tgt := 57) hx hb d_Mo_code_51 (by decide) (fun c_7 => ?_) (fun c_7 => ?_)
        · refine lv_aload_n hx hb d_Mo_code_57 rfl (lv_at hl 0 rfl) ?_
          refine va_get (D := G) (ci := 6) (v := .ref a3) (C := R_Mo) (T := T_Mo) (N := 32) hx hb hts hi_2 hown hK hP 0 rfl rfl 5 (by decide) hk_6 (fun _ h9 => h9) rfl d_Mo_code_58 ?_
          refine lv_iload_n hx hb d_Mo_code_61 rfl (lv_at hl 1 rfl) ?_
          refine va_iald hx hb hK hP 3 0 rfl rfl (ix_misRule c_2 hR) d_Mo_code_62 ?_
          refine lv_bipush (v := 12) hx hb d_Mo_code_63 (by decide) ?_
          refine lv_icmp_ne (tgt := 71) hx hb d_Mo_code_65 (by decide) (fun c_8 => ?_) (fun c_8 => ?_)
          · refine lv_aload_n hx hb d_Mo_code_71 rfl (lv_at hl 0 rfl) ?_
            refine va_get (D := G) (ci := 6) (v := .ref a4) (C := R_Mo) (T := T_Mo) (N := 32) hx hb hts hi_2 hown hK hP 0 rfl rfl 6 (by decide) hk_7 (fun _ h9 => h9) rfl d_Mo_code_72 ?_
            refine lv_bipush (v := 12) hx hb d_Mo_code_75 (by decide) ?_
            refine lv_iload_n hx hb d_Mo_code_77 rfl (lv_at hl 1 rfl) ?_
            refine lv_imul hx hb d_Mo_code_78 ?_
            refine lv_aload_n hx hb d_Mo_code_79 rfl (lv_at hl 0 rfl) ?_
            refine va_get (D := G) (ci := 6) (v := .ref a3) (C := R_Mo) (T := T_Mo) (N := 32) hx hb hts hi_2 hown hK hP 0 rfl rfl 5 (by decide) hk_6 (fun _ h9 => h9) rfl d_Mo_code_80 ?_
            refine lv_iload_n hx hb d_Mo_code_83 rfl (lv_at hl 1 rfl) ?_
            refine va_iald hx hb hK hP 3 0 rfl rfl (ix_misRule c_2 hR) d_Mo_code_84 ?_
            refine lv_iadd hx hb d_Mo_code_85 ?_
            refine lv_iload_n hx hb d_Mo_code_86 rfl (lv_at hl 2 rfl) ?_
            refine va_iast hx hb hK hP hD hS 4 0 rfl rfl (ix_12 (ix_misRule c_2 hR) (hZ _) c_8) d_Mo_code_87 (fun H locs hP hD hS => ?_)
            replace hP : va_P G vwCl (W_Mod cI cL cZ cR cE a0 a1 a2 a3 a4 a5 a6 a7 a8 a9 a10 a11 a12 a13 a14 a15 a16 a17 a18 a19 a20 a21 a22 0 most rules editions orders sizes (upd ops ((12 * r) + (sizes r.toNatClampNeg)).toNatClampNeg op) numbers cells hasFallback fallbackKinds fallbacks facts states counts days toldAt tells handles handleFacts failures failedRule failedHow answers givers stack high steps how cellNow own has) H := hP
            replace hD : va_D A (W_Mod cI cL cZ cR cE a0 a1 a2 a3 a4 a5 a6 a7 a8 a9 a10 a11 a12 a13 a14 a15 a16 a17 a18 a19 a20 a21 a22 0 most rules editions orders sizes (upd ops ((12 * r) + (sizes r.toNatClampNeg)).toNatClampNeg op) numbers cells hasFallback fallbackKinds fallbacks facts states counts days toldAt tells handles handleFacts failures failedRule failedHow answers givers stack high steps how cellNow own has) := hD
            refine lv_aload_n hx hb d_Mo_code_88 rfl (lv_at hl 0 rfl) ?_
            refine va_get (D := G) (ci := 6) (v := .ref a5) (C := R_Mo) (T := T_Mo) (N := 32) hx hb hts hi_2 hown hK hP 0 rfl rfl 7 (by decide) hk_8 (fun _ h9 => h9) rfl d_Mo_code_89 ?_
            refine lv_bipush (v := 12) hx hb d_Mo_code_92 (by decide) ?_
            refine lv_iload_n hx hb d_Mo_code_94 rfl (lv_at hl 1 rfl) ?_
            refine lv_imul hx hb d_Mo_code_95 ?_
            refine lv_aload_n hx hb d_Mo_code_96 rfl (lv_at hl 0 rfl) ?_
            refine va_get (D := G) (ci := 6) (v := .ref a3) (C := R_Mo) (T := T_Mo) (N := 32) hx hb hts hi_2 hown hK hP 0 rfl rfl 5 (by decide) hk_6 (fun _ h9 => h9) rfl d_Mo_code_97 ?_
            refine lv_iload_n hx hb d_Mo_code_100 rfl (lv_at hl 1 rfl) ?_
            refine va_iald hx hb hK hP 3 0 rfl rfl (ix_misRule c_2 hR) d_Mo_code_101 ?_
            refine lv_iadd hx hb d_Mo_code_102 ?_
            refine lv_lload_n hx hb d_Mo_code_103 rfl (lv_at hl 3 rfl) ?_
            refine va_last hx hb hK hP hD hS 5 1 rfl rfl (ix_12 (ix_misRule c_2 hR) (hZ _) c_8) d_Mo_code_104 (fun H locs hP hD hS => ?_)
            replace hP : va_P G vwCl (W_Mod cI cL cZ cR cE a0 a1 a2 a3 a4 a5 a6 a7 a8 a9 a10 a11 a12 a13 a14 a15 a16 a17 a18 a19 a20 a21 a22 0 most rules editions orders sizes (upd ops ((12 * r) + (sizes r.toNatClampNeg)).toNatClampNeg op) (vp_updL numbers ((12 * r) + (sizes r.toNatClampNeg)).toNatClampNeg n_) cells hasFallback fallbackKinds fallbacks facts states counts days toldAt tells handles handleFacts failures failedRule failedHow answers givers stack high steps how cellNow own has) H := hP
            replace hD : va_D A (W_Mod cI cL cZ cR cE a0 a1 a2 a3 a4 a5 a6 a7 a8 a9 a10 a11 a12 a13 a14 a15 a16 a17 a18 a19 a20 a21 a22 0 most rules editions orders sizes (upd ops ((12 * r) + (sizes r.toNatClampNeg)).toNatClampNeg op) (vp_updL numbers ((12 * r) + (sizes r.toNatClampNeg)).toNatClampNeg n_) cells hasFallback fallbackKinds fallbacks facts states counts days toldAt tells handles handleFacts failures failedRule failedHow answers givers stack high steps how cellNow own has) := hD
            refine lv_aload_n hx hb d_Mo_code_105 rfl (lv_at hl 0 rfl) ?_
            refine va_get (D := G) (ci := 6) (v := .ref a3) (C := R_Mo) (T := T_Mo) (N := 32) hx hb hts hi_2 hown hK hP 0 rfl rfl 5 (by decide) hk_6 (fun _ h9 => h9) rfl d_Mo_code_106 ?_
            refine lv_iload_n hx hb d_Mo_code_109 rfl (lv_at hl 1 rfl) ?_
            refine lv_dup2_11 hx hb d_Mo_code_110 rfl rfl ?_
            refine va_iald hx hb hK hP 3 0 rfl rfl (ix_misRule c_2 hR) d_Mo_code_111 ?_
            refine lv_iconst (v := 1) hx hb d_Mo_code_112 (by decide) ?_
            refine lv_iadd hx hb d_Mo_code_113 ?_
            refine va_iast hx hb hK hP hD hS 3 0 rfl rfl (ix_misRule c_2 hR) d_Mo_code_114 (fun H locs hP hD hS => ?_)
            replace hP : va_P G vwCl (W_Mod cI cL cZ cR cE a0 a1 a2 a3 a4 a5 a6 a7 a8 a9 a10 a11 a12 a13 a14 a15 a16 a17 a18 a19 a20 a21 a22 0 most rules editions orders (upd sizes r.toNatClampNeg ((sizes r.toNatClampNeg) + 1)) (upd ops ((12 * r) + (sizes r.toNatClampNeg)).toNatClampNeg op) (vp_updL numbers ((12 * r) + (sizes r.toNatClampNeg)).toNatClampNeg n_) cells hasFallback fallbackKinds fallbacks facts states counts days toldAt tells handles handleFacts failures failedRule failedHow answers givers stack high steps how cellNow own has) H := hP
            replace hD : va_D A (W_Mod cI cL cZ cR cE a0 a1 a2 a3 a4 a5 a6 a7 a8 a9 a10 a11 a12 a13 a14 a15 a16 a17 a18 a19 a20 a21 a22 0 most rules editions orders (upd sizes r.toNatClampNeg ((sizes r.toNatClampNeg) + 1)) (upd ops ((12 * r) + (sizes r.toNatClampNeg)).toNatClampNeg op) (vp_updL numbers ((12 * r) + (sizes r.toNatClampNeg)).toNatClampNeg n_) cells hasFallback fallbackKinds fallbacks facts states counts days toldAt tells handles handleFacts failures failedRule failedHow answers givers stack high steps how cellNow own has) := hD
            refine lv_aload_n hx hb d_Mo_code_115 rfl (lv_at hl 0 rfl) ?_
            refine va_get (D := G) (ci := 6) (v := .ref a3) (C := R_Mo) (T := T_Mo) (N := 32) hx hb hts hi_2 hown hK hP 0 rfl rfl 5 (by decide) hk_6 (fun _ h9 => h9) rfl d_Mo_code_116 ?_
            refine lv_iload_n hx hb d_Mo_code_119 rfl (lv_at hl 1 rfl) ?_
            refine va_iald hx hb hK hP 3 0 rfl rfl (ix_misRule c_2 hR) d_Mo_code_120 ?_
            exact W.iret (v := (upd sizes r.toNatClampNeg ((sizes r.toNatClampNeg) + 1)) r.toNatClampNeg) hx hb hr (fun t ht hW => ⟨⟨(upd sizes r.toNatClampNeg ((sizes r.toNatClampNeg) + 1)) r.toNatClampNeg, (0, upd sizes r.toNatClampNeg ((sizes r.toNatClampNeg) + 1), upd ops ((12 * r) + (sizes r.toNatClampNeg)).toNatClampNeg op, vp_updL numbers ((12 * r) + (sizes r.toNatClampNeg)).toNatClampNeg n_), rfl, (by rw [← hT]; simp only [f_mcode, if_neg c_2, if_neg c_4, if_neg c_6, if_pos c_7, if_neg c_8]), by rw [ht]; exact hP, va_K.moved hW.alike hK, hD⟩, hS.F ht⟩) hS.2.2 d_Mo_code_121
          · refine lv_bipush (v := (-104)) hx hb d_Mo_code_68 (by decide) ?_
            exact W.iret (v := (-104)) hx hb hr (fun t ht hW => ⟨⟨(-104), (0, sizes, ops, numbers), rfl, (by rw [← hT]; simp only [f_mcode, if_neg c_2, if_neg c_4, if_neg c_6, if_pos c_7, if_pos c_8]), by rw [ht]; exact hP, va_K.moved hW.alike hK, hD⟩, hS.F ht⟩) hS.2.2 d_Mo_code_70
        · refine lv_bipush (v := (-103)) hx hb d_Mo_code_54 (by decide) ?_
          exact W.iret (v := (-103)) hx hb hr (fun t ht hW => ⟨⟨(-103), (0, sizes, ops, numbers), rfl, (by rw [← hT]; simp only [f_mcode, if_neg c_2, if_neg c_4, if_neg c_6, if_neg c_7]), by rw [ht]; exact hP, va_K.moved hW.alike hK, hD⟩, hS.F ht⟩) hS.2.2 d_Mo_code_56
      · refine lv_bipush (v := (-102)) hx hb d_Mo_code_36 (by decide) ?_
        exact W.iret (v := (-102)) hx hb hr (fun t ht hW => ⟨⟨(-102), (0, sizes, ops, numbers), rfl, (by rw [← hT]; simp only [f_mcode, if_neg c_2, if_neg c_4, if_pos c_6]), by rw [ht]; exact hP, va_K.moved hW.alike hK, hD⟩, hS.F ht⟩) hS.2.2 d_Mo_code_38
  · refine lv_bipush (v := (-101)) hx hb d_Mo_code_13 (by decide) ?_
    exact W.iret (v := (-101)) hx hb hr (fun t ht hW => ⟨⟨(-101), (0, sizes, ops, numbers), rfl, (by rw [← hT]; simp only [f_mcode, if_pos c_2]), by rw [ht]; exact hP, va_K.moved hW.alike hK, hD⟩, hS.F ht⟩) hS.2.2 d_Mo_code_15
def f_mfallback (rules : Int32) (editions : Nat → Int32) (hasFallback : Nat → Int32) (fallbackKinds : Nat → Int32) (fallbacks : Nat → Int64) (states : Nat → Int32) (r : Int32) (k : Int32) (w : Int64) : Int32 × Int32 × (Nat → Int32) × (Nat → Int32) × (Nat → Int64) := if (f_misRule rules r) = 0 then ((-101), (0, hasFallback, fallbackKinds, fallbacks)) else (if (f_mwithin k.toInt64 0 3) = 0 then ((-102), (0, hasFallback, fallbackKinds, fallbacks)) else (if (states (editions r.toNatClampNeg).toNatClampNeg) = 1 then (1, (0, upd hasFallback r.toNatClampNeg 1, upd fallbackKinds r.toNatClampNeg k, vp_updL fallbacks r.toNatClampNeg w)) else ((-103), (0, hasFallback, fallbackKinds, fallbacks))))
set_option maxHeartbeats 4000000 in
set_option maxRecDepth 100000 in
theorem c_mfallback (l : Launch) (G : va_G) (cI cL cZ cR cE : ClassId) (sz : Nat) (a0 a1 a2 a3 a4 a5 a6 a7 a8 a9 a10 a11 a12 a13 a14 a15 a16 a17 a18 a19 a20 a21 a22 : Nat) (thrown : Int32) (most : Int32) (rules : Int32) (editions : Nat → Int32) (orders : Nat → Int32) (sizes : Nat → Int32) (ops : Nat → Int32) (numbers : Nat → Int64) (cells : Nat → Int64) (hasFallback : Nat → Int32) (fallbackKinds : Nat → Int32) (fallbacks : Nat → Int64) (facts : Nat → Int64) (states : Nat → Int32) (counts : Nat → Int32) (days : Nat → Int32) (toldAt : Nat → Int32) (tells : Int32) (handles : Int32) (handleFacts : Nat → Int32) (failures : Int32) (failedRule : Nat → Int32) (failedHow : Nat → Int32) (answers : Nat → Int64) (givers : Nat → Int32) (stack : Nat → Int64) (high : Int32) (steps : Int32) (how : Int32) (cellNow : Int64) (own : Nat → Int64) (has : Nat → Int32) (r : Int32) (k : Int32) (w : Int64) (hR : 0 ≤ rules.toInt ∧ rules.toInt ≤ 40) (hE : ∀ j, vp_in (editions j) 6) : Met l y_Mo_fallback w_Mo_fallback ({ frames := 2, cells := 0, slots := 0, locals := 46 }) (preW G (TYS cI cL cZ cR cE) [.ref a0, .int r, .int k, .long w] sz (W_Mod cI cL cZ cR cE a0 a1 a2 a3 a4 a5 a6 a7 a8 a9 a10 a11 a12 a13 a14 a15 a16 a17 a18 a19 a20 a21 a22 thrown most rules editions orders sizes ops numbers cells hasFallback fallbackKinds fallbacks facts states counts days toldAt tells handles handleFacts failures failedRule failedHow answers givers stack high steps how cellNow own has)) (va_Qi (fun (ans_ : Int32) (u : Int32 × (Nat → Int32) × (Nat → Int32) × (Nat → Int64)) => (ans_, u) = f_mfallback rules editions hasFallback fallbackKinds fallbacks states r k w) (fun u t => va_P G vwCl (W_Mod cI cL cZ cR cE a0 a1 a2 a3 a4 a5 a6 a7 a8 a9 a10 a11 a12 a13 a14 a15 a16 a17 a18 a19 a20 a21 a22 u.1 most rules editions orders sizes ops numbers cells u.2.1 u.2.2.1 u.2.2.2 facts states counts days toldAt tells handles handleFacts failures failedRule failedHow answers givers stack high steps how cellNow own has) t.heap ∧ va_K G vwCl (TYS cI cL cZ cR cE) t ∧ va_D (va_A (W_Mod cI cL cZ cR cE a0 a1 a2 a3 a4 a5 a6 a7 a8 a9 a10 a11 a12 a13 a14 a15 a16 a17 a18 a19 a20 a21 a22 thrown most rules editions orders sizes ops numbers cells hasFallback fallbackKinds fallbacks facts states counts days toldAt tells handles handleFacts failures failedRule failedHow answers givers stack high steps how cellNow own has) sz) (W_Mod cI cL cZ cR cE a0 a1 a2 a3 a4 a5 a6 a7 a8 a9 a10 a11 a12 a13 a14 a15 a16 a17 a18 a19 a20 a21 a22 u.1 most rules editions orders sizes ops numbers cells u.2.1 u.2.2.1 u.2.2.2 facts states counts days toldAt tells handles handleFacts failures failedRule failedHow answers givers stack high steps how cellNow own has)) (va_A (W_Mod cI cL cZ cR cE a0 a1 a2 a3 a4 a5 a6 a7 a8 a9 a10 a11 a12 a13 a14 a15 a16 a17 a18 a19 a20 a21 a22 thrown most rules editions orders sizes ops numbers cells hasFallback fallbackKinds fallbacks facts states counts days toldAt tells handles handleFacts failures failedRule failedHow answers givers stack high steps how cellNow own has) sz)) 0 0 (va_A (W_Mod cI cL cZ cR cE a0 a1 a2 a3 a4 a5 a6 a7 a8 a9 a10 a11 a12 a13 a14 a15 a16 a17 a18 a19 a20 a21 a22 thrown most rules editions orders sizes ops numbers cells hasFallback fallbackKinds fallbacks facts states counts days toldAt tells handles handleFacts failures failedRule failedHow answers givers stack high steps how cellNow own has) sz) := by
  refine Met.ofW (cc := b_Mo_fallback) (maxL := 5) (ret := (some .int)) (by decide) rfl ?_
  intro p e s m args below meth c s₁ B hml hv
  obtain ⟨rfl, hsz, hP, hK, hD0, hN⟩ := hv
  have hx := B.exec
  have hb := B.bytes
  have hr := B.returns
  have hts := atoms_spec (ws := w_Mo_fallback) B.pre
  have hown : s.vm.findClass R_Mo = some m.cls := findClass_of_methodNamed B.named
  have hlocks := B.notSynchronized
  subst hsz
  have hD := hD0.self (sz := s.heap.size)
  clear hD0
  generalize hAe : va_A (W_Mod cI cL cZ cR cE a0 a1 a2 a3 a4 a5 a6 a7 a8 a9 a10 a11 a12 a13 a14 a15 a16 a17 a18 a19 a20 a21 a22 thrown most rules editions orders sizes ops numbers cells hasFallback fallbackKinds fallbacks facts states counts days toldAt tells handles handleFacts failures failedRule failedHow answers givers stack high steps how cellNow own has) s.heap.size = A at hD ⊢
  have hA : ∀ q : Nat, s.heap.size ≤ q → A q := fun q h => by rw [← hAe]; exact Or.inr h
  clear hAe
  have hS : va_S A s.heap s.heap [] := va_S.rf
  obtain ⟨H, hH⟩ : ∃ H, H = s.heap := ⟨_, rfl⟩
  rw [← hH] at hP
  replace hS : va_S A s.heap H [] := by rw [hH]; exact hS
  rw [← hH]
  clear hH
  have hi_2 : ∀ w ∈ u_ws R_Mo T_Mo 32, w ∈ w_Mo_fallback := fun w h => List.mem_cons_of_mem _ (iu_Mo w h)
  have hk_1 := hts (.fieldLink R_Mo 82 "HandlingRulesModel" "thrown" "I") (List.mem_cons_of_mem _ kw_565)
  have hk_3 := hts (.constantLong R_Mo 108 3) (List.mem_cons_of_mem _ kw_695)
  have hk_4 := hts (.fieldLink R_Mo 42 "HandlingRulesModel" "states" "[I") (List.mem_cons_of_mem _ kw_578)
  have hk_5 := hts (.fieldLink R_Mo 7 "HandlingRulesModel" "editions" "[I") (List.mem_cons_of_mem _ kw_568)
  have hk_6 := hts (.fieldLink R_Mo 29 "HandlingRulesModel" "hasFallback" "[Z") (List.mem_cons_of_mem _ kw_574)
  have hk_7 := hts (.fieldLink R_Mo 33 "HandlingRulesModel" "fallbackKinds" "[I") (List.mem_cons_of_mem _ kw_575)
  have hk_8 := hts (.fieldLink R_Mo 36 "HandlingRulesModel" "fallbacks" "[J") (List.mem_cons_of_mem _ kw_576)
  have hl := lv_entry ([.ref a0, .int r, .int k, .long w]) (n := 5) (Nat.le_of_ble_eq_true rfl)
  rw [lg_entry_eq]
  generalize (lg_sl ([.ref a0, .int r, .int k, .long w]) ++ List.replicate (5 - (lg_sl ([.ref a0, .int r, .int k, .long w])).length) Slot.unset).toArray = ls at hl ⊢
  replace hl : lv_has ls 5 [(0, .ref a0), (1, .int r), (2, .int k), (3, .long w)] := hl
  generalize hT : f_mfallback rules editions hasFallback fallbackKinds fallbacks states r k w = T
  refine lv_aload_n hx hb d_Mo_fallback_0 rfl (lv_at hl 0 rfl) ?_
  refine lv_iconst (v := 0) hx hb d_Mo_fallback_1 (by decide) ?_
  refine va_put (D := G) (ci := 6) (v := .int 0) (ty := (.int)) (C := R_Mo) (T := T_Mo) (N := 32) hx hb hts hi_2 ty_Mo tyk_Mo nm_Mo hown hK hP hD hS 0 rfl rfl 0 (by decide) hk_1 (fun _ h9 => h9) rfl (by decide +kernel) rfl rfl (Nat.le_of_ble_eq_true rfl) d_Mo_fallback_2 (fun H locs hP hD hS => ?_)
  replace hP : va_P G vwCl (W_Mod cI cL cZ cR cE a0 a1 a2 a3 a4 a5 a6 a7 a8 a9 a10 a11 a12 a13 a14 a15 a16 a17 a18 a19 a20 a21 a22 0 most rules editions orders sizes ops numbers cells hasFallback fallbackKinds fallbacks facts states counts days toldAt tells handles handleFacts failures failedRule failedHow answers givers stack high steps how cellNow own has) H := hP
  replace hD : va_D A (W_Mod cI cL cZ cR cE a0 a1 a2 a3 a4 a5 a6 a7 a8 a9 a10 a11 a12 a13 a14 a15 a16 a17 a18 a19 a20 a21 a22 0 most rules editions orders sizes ops numbers cells hasFallback fallbackKinds fallbacks facts states counts days toldAt tells handles handleFacts failures failedRule failedHow answers givers stack high steps how cellNow own has) := hD
  refine lv_aload_n hx hb d_Mo_fallback_5 rfl (lv_at hl 0 rfl) ?_
  refine lv_iload_n hx hb d_Mo_fallback_6 rfl (lv_at hl 1 rfl) ?_
  refine vp_callSi (W.runV (As := [.int r]) (rest := []) ⟨hx, hb, hml, hown, hts⟩ (c_misRule l G cI cL cZ cR cE a0 a1 a2 a3 a4 a5 a6 a7 a8 a9 a10 a11 a12 a13 a14 a15 a16 a17 a18 a19 a20 a21 a22 0 most rules editions orders sizes ops numbers cells hasFallback fallbackKinds fallbacks facts states counts days toldAt tells handles handleFacts failures failedRule failedHow answers givers stack high steps how cellNow own has r) (cwV 1 hts (gV kw_684 kw_686 kw_7 kw_21 kw_687) rfl rfl rfl (by decide +kernel) ⟨Nat.le_of_ble_eq_true rfl, Nat.le_of_ble_eq_true rfl⟩) (preRV_of (ci := 6) hN hK hP [0, 1, 2, 3, 4, 5, 6, 7, 8, 9, 10, 11, 12, 13, 14, 15, 16, 17, 18, 19, 20, 21, 22] rfl rfl rfl) rfl rfl hl.1 rfl (lv_room (Nat.le_of_ble_eq_true rfl)) d_Mo_fallback_7 ⟨Nat.zero_le _, Nat.zero_le _⟩) (fun r_1 hw => ?_)
  subst hw
  refine lv_if_ne (tgt := 16) hx hb d_Mo_fallback_10 (by decide) (fun c_2 => ?_) (fun c_2 => ?_)
  · refine lv_iload_n hx hb d_Mo_fallback_16 rfl (lv_at hl 2 rfl) ?_
    refine lv_i2l (v := k.toInt64) hx hb d_Mo_fallback_17 rfl ?_
    refine lv_lconst (v := 0) hx hb d_Mo_fallback_18 (by decide) ?_
    refine lv_ldc2 (v := 3) hx hb hown hk_3 d_Mo_fallback_19 ?_
    refine vp_callSi (W.runS (As := [.long k.toInt64, .long 0, .long 3]) (rest := []) ⟨hx, hb, hml, hown, hts⟩ (c_mwithin l G cI cL cZ cR cE  k.toInt64 0 3) (va_cwS 3 hts (gS kw_675 kw_676 kw_21 kw_677) rfl rfl rfl (by decide +kernel) ⟨Nat.le_of_ble_eq_true rfl, Nat.le_of_ble_eq_true rfl⟩) (preRS_of hN hK hP [] rfl) rfl rfl hl.1 rfl (lv_room (Nat.le_of_ble_eq_true rfl)) d_Mo_fallback_22 ⟨Nat.zero_le _, Nat.zero_le _⟩) (fun r_3 hw => ?_)
    subst hw
    refine lv_if_ne (tgt := 31) hx hb d_Mo_fallback_25 (by decide) (fun c_4 => ?_) (fun c_4 => ?_)
    · refine lv_aload_n hx hb d_Mo_fallback_31 rfl (lv_at hl 0 rfl) ?_
      refine va_get (D := G) (ci := 6) (v := .ref a11) (C := R_Mo) (T := T_Mo) (N := 32) hx hb hts hi_2 hown hK hP 0 rfl rfl 13 (by decide) hk_4 (fun _ h9 => h9) rfl d_Mo_fallback_32 ?_
      refine lv_aload_n hx hb d_Mo_fallback_35 rfl (lv_at hl 0 rfl) ?_
      refine va_get (D := G) (ci := 6) (v := .ref a1) (C := R_Mo) (T := T_Mo) (N := 32) hx hb hts hi_2 hown hK hP 0 rfl rfl 3 (by decide) hk_5 (fun _ h9 => h9) rfl d_Mo_fallback_36 ?_
      refine lv_iload_n hx hb d_Mo_fallback_39 rfl (lv_at hl 1 rfl) ?_
      refine va_iald hx hb hK hP 1 0 rfl rfl (ix_misRule c_2 hR) d_Mo_fallback_40 ?_
      refine va_iald hx hb hK hP 11 0 rfl rfl (hE _) d_Mo_fallback_41 ?_
      refine lv_iconst (v := 1) hx hb d_Mo_fallback_42 (by decide) ?_
      refine lv_icmp_eq (tgt := 49) hx hb d_Mo_fallback_43 (by decide) (fun c_5 => ?_) (fun c_5 => ?_)
      · refine lv_aload_n hx hb d_Mo_fallback_49 rfl (lv_at hl 0 rfl) ?_
        refine va_get (D := G) (ci := 6) (v := .ref a7) (C := R_Mo) (T := T_Mo) (N := 32) hx hb hts hi_2 hown hK hP 0 rfl rfl 9 (by decide) hk_6 (fun _ h9 => h9) rfl d_Mo_fallback_50 ?_
        refine lv_iload_n hx hb d_Mo_fallback_53 rfl (lv_at hl 1 rfl) ?_
        refine lv_iconst (v := 1) hx hb d_Mo_fallback_54 (by decide) ?_
        refine va_zast hx hb hK hP hD hS 7 2 rfl rfl (ix_misRule c_2 hR) d_Mo_fallback_55 (fun H locs hP hD hS => ?_)
        replace hP : va_P G vwCl (W_Mod cI cL cZ cR cE a0 a1 a2 a3 a4 a5 a6 a7 a8 a9 a10 a11 a12 a13 a14 a15 a16 a17 a18 a19 a20 a21 a22 0 most rules editions orders sizes ops numbers cells (upd hasFallback r.toNatClampNeg 1) fallbackKinds fallbacks facts states counts days toldAt tells handles handleFacts failures failedRule failedHow answers givers stack high steps how cellNow own has) H := hP
        replace hD : va_D A (W_Mod cI cL cZ cR cE a0 a1 a2 a3 a4 a5 a6 a7 a8 a9 a10 a11 a12 a13 a14 a15 a16 a17 a18 a19 a20 a21 a22 0 most rules editions orders sizes ops numbers cells (upd hasFallback r.toNatClampNeg 1) fallbackKinds fallbacks facts states counts days toldAt tells handles handleFacts failures failedRule failedHow answers givers stack high steps how cellNow own has) := hD
        refine lv_aload_n hx hb d_Mo_fallback_56 rfl (lv_at hl 0 rfl) ?_
        refine va_get (D := G) (ci := 6) (v := .ref a8) (C := R_Mo) (T := T_Mo) (N := 32) hx hb hts hi_2 hown hK hP 0 rfl rfl 10 (by decide) hk_7 (fun _ h9 => h9) rfl d_Mo_fallback_57 ?_
        refine lv_iload_n hx hb d_Mo_fallback_60 rfl (lv_at hl 1 rfl) ?_
        refine lv_iload_n hx hb d_Mo_fallback_61 rfl (lv_at hl 2 rfl) ?_
        refine va_iast hx hb hK hP hD hS 8 0 rfl rfl (ix_misRule c_2 hR) d_Mo_fallback_62 (fun H locs hP hD hS => ?_)
        replace hP : va_P G vwCl (W_Mod cI cL cZ cR cE a0 a1 a2 a3 a4 a5 a6 a7 a8 a9 a10 a11 a12 a13 a14 a15 a16 a17 a18 a19 a20 a21 a22 0 most rules editions orders sizes ops numbers cells (upd hasFallback r.toNatClampNeg 1) (upd fallbackKinds r.toNatClampNeg k) fallbacks facts states counts days toldAt tells handles handleFacts failures failedRule failedHow answers givers stack high steps how cellNow own has) H := hP
        replace hD : va_D A (W_Mod cI cL cZ cR cE a0 a1 a2 a3 a4 a5 a6 a7 a8 a9 a10 a11 a12 a13 a14 a15 a16 a17 a18 a19 a20 a21 a22 0 most rules editions orders sizes ops numbers cells (upd hasFallback r.toNatClampNeg 1) (upd fallbackKinds r.toNatClampNeg k) fallbacks facts states counts days toldAt tells handles handleFacts failures failedRule failedHow answers givers stack high steps how cellNow own has) := hD
        refine lv_aload_n hx hb d_Mo_fallback_63 rfl (lv_at hl 0 rfl) ?_
        refine va_get (D := G) (ci := 6) (v := .ref a9) (C := R_Mo) (T := T_Mo) (N := 32) hx hb hts hi_2 hown hK hP 0 rfl rfl 11 (by decide) hk_8 (fun _ h9 => h9) rfl d_Mo_fallback_64 ?_
        refine lv_iload_n hx hb d_Mo_fallback_67 rfl (lv_at hl 1 rfl) ?_
        refine lv_lload_n hx hb d_Mo_fallback_68 rfl (lv_at hl 3 rfl) ?_
        refine va_last hx hb hK hP hD hS 9 1 rfl rfl (ix_misRule c_2 hR) d_Mo_fallback_69 (fun H locs hP hD hS => ?_)
        replace hP : va_P G vwCl (W_Mod cI cL cZ cR cE a0 a1 a2 a3 a4 a5 a6 a7 a8 a9 a10 a11 a12 a13 a14 a15 a16 a17 a18 a19 a20 a21 a22 0 most rules editions orders sizes ops numbers cells (upd hasFallback r.toNatClampNeg 1) (upd fallbackKinds r.toNatClampNeg k) (vp_updL fallbacks r.toNatClampNeg w) facts states counts days toldAt tells handles handleFacts failures failedRule failedHow answers givers stack high steps how cellNow own has) H := hP
        replace hD : va_D A (W_Mod cI cL cZ cR cE a0 a1 a2 a3 a4 a5 a6 a7 a8 a9 a10 a11 a12 a13 a14 a15 a16 a17 a18 a19 a20 a21 a22 0 most rules editions orders sizes ops numbers cells (upd hasFallback r.toNatClampNeg 1) (upd fallbackKinds r.toNatClampNeg k) (vp_updL fallbacks r.toNatClampNeg w) facts states counts days toldAt tells handles handleFacts failures failedRule failedHow answers givers stack high steps how cellNow own has) := hD
        refine lv_iconst (v := 1) hx hb d_Mo_fallback_70 (by decide) ?_
        exact W.iret (v := 1) hx hb hr (fun t ht hW => ⟨⟨1, (0, upd hasFallback r.toNatClampNeg 1, upd fallbackKinds r.toNatClampNeg k, vp_updL fallbacks r.toNatClampNeg w), rfl, (by rw [← hT]; simp only [f_mfallback, if_neg c_2, if_neg c_4, if_pos c_5]), by rw [ht]; exact hP, va_K.moved hW.alike hK, hD⟩, hS.F ht⟩) hS.2.2 d_Mo_fallback_71
      · refine lv_bipush (v := (-103)) hx hb d_Mo_fallback_46 (by decide) ?_
        exact W.iret (v := (-103)) hx hb hr (fun t ht hW => ⟨⟨(-103), (0, hasFallback, fallbackKinds, fallbacks), rfl, (by rw [← hT]; simp only [f_mfallback, if_neg c_2, if_neg c_4, if_neg c_5]), by rw [ht]; exact hP, va_K.moved hW.alike hK, hD⟩, hS.F ht⟩) hS.2.2 d_Mo_fallback_48
    · refine lv_bipush (v := (-102)) hx hb d_Mo_fallback_28 (by decide) ?_
      exact W.iret (v := (-102)) hx hb hr (fun t ht hW => ⟨⟨(-102), (0, hasFallback, fallbackKinds, fallbacks), rfl, (by rw [← hT]; simp only [f_mfallback, if_neg c_2, if_pos c_4]), by rw [ht]; exact hP, va_K.moved hW.alike hK, hD⟩, hS.F ht⟩) hS.2.2 d_Mo_fallback_30
  · refine lv_bipush (v := (-101)) hx hb d_Mo_fallback_13 (by decide) ?_
    exact W.iret (v := (-101)) hx hb hr (fun t ht hW => ⟨⟨(-101), (0, hasFallback, fallbackKinds, fallbacks), rfl, (by rw [← hT]; simp only [f_mfallback, if_pos c_2]), by rw [ht]; exact hP, va_K.moved hW.alike hK, hD⟩, hS.F ht⟩) hS.2.2 d_Mo_fallback_15
