def f_mthrown (thrown : Int32) : Int32 := thrown
set_option maxHeartbeats 4000000 in
set_option maxRecDepth 100000 in
theorem c_mthrown (l : Launch) (G : va_G) (cI cL cZ cR cE : ClassId) (a0 a1 a2 a3 a4 a5 a6 a7 a8 a9 a10 a11 a12 a13 a14 a15 a16 a17 a18 a19 a20 a21 a22 : Nat) (thrown : Int32) (most : Int32) (rules : Int32) (editions : Nat → Int32) (orders : Nat → Int32) (sizes : Nat → Int32) (ops : Nat → Int32) (numbers : Nat → Int64) (cells : Nat → Int64) (hasFallback : Nat → Int32) (fallbackKinds : Nat → Int32) (fallbacks : Nat → Int64) (facts : Nat → Int64) (states : Nat → Int32) (counts : Nat → Int32) (days : Nat → Int32) (toldAt : Nat → Int32) (tells : Int32) (handles : Int32) (handleFacts : Nat → Int32) (failures : Int32) (failedRule : Nat → Int32) (failedHow : Nat → Int32) (answers : Nat → Int64) (givers : Nat → Int32) (stack : Nat → Int64) (high : Int32) (steps : Int32) (how : Int32) (cellNow : Int64) (own : Nat → Int64) (has : Nat → Int32) : Met l y_Mo_thrown w_Mo_thrown ({ frames := 0, cells := 0, slots := 0, locals := 0 }) (preR G (TYS cI cL cZ cR cE) [.ref a0] (W_Mod cI cL cZ cR cE a0 a1 a2 a3 a4 a5 a6 a7 a8 a9 a10 a11 a12 a13 a14 a15 a16 a17 a18 a19 a20 a21 a22 thrown most rules editions orders sizes ops numbers cells hasFallback fallbackKinds fallbacks facts states counts days toldAt tells handles handleFacts failures failedRule failedHow answers givers stack high steps how cellNow own has)) (vp_Si (fun ans_ => ans_ = f_mthrown thrown)) 0 0 (fun _ => False) := by
  refine Met.ofW (cc := b_Mo_thrown) (maxL := 1) (ret := (some .int)) (by decide) rfl ?_
  intro p e s m args below meth c s₁ B hml hv
  obtain ⟨rfl, hP, hK, hN⟩ := hv
  have hx := B.exec
  have hb := B.bytes
  have hr := B.returns
  have hts := atoms_spec (ws := w_Mo_thrown) B.pre
  have hown : s.vm.findClass R_Mo = some m.cls := findClass_of_methodNamed B.named
  have hlocks := B.notSynchronized
  obtain ⟨H, hH⟩ : ∃ H, H = s.heap := ⟨_, rfl⟩
  rw [← hH] at hP
  rw [← hH]
  have hi_2 : ∀ w ∈ u_ws R_Mo T_Mo 32, w ∈ w_Mo_thrown := fun w h => List.mem_cons_of_mem _ (iu_Mo w h)
  have hk_1 := hts (.fieldLink R_Mo 82 "HandlingRulesModel" "thrown" "I") (List.mem_cons_of_mem _ kw_565)
  have hl := lv_entry ([.ref a0]) (n := 1) (Nat.le_of_ble_eq_true rfl)
  rw [lg_entry_eq]
  generalize (lg_sl ([.ref a0]) ++ List.replicate (1 - (lg_sl ([.ref a0])).length) Slot.unset).toArray = ls at hl ⊢
  replace hl : lv_has ls 1 [(0, .ref a0)] := hl
  generalize hT : f_mthrown thrown = T
  refine lv_aload_n hx hb d_Mo_thrown_0 rfl (lv_at hl 0 rfl) ?_
  refine va_get (D := G) (ci := 6) (v := .int thrown) (C := R_Mo) (T := T_Mo) (N := 32) hx hb hts hi_2 hown hK hP 0 rfl rfl 0 (by decide) hk_1 (fun _ h9 => h9) rfl d_Mo_thrown_1 ?_
  exact W.iret (v := thrown) hx hb hr (fun t ht hW => ⟨thrown, rfl, (by rw [← hT]; simp only [f_mthrown]), by rw [ht, hH]⟩) (fun _ h => by cases h) d_Mo_thrown_4
def f_misRule (rules : Int32) (r : Int32) : Int32 := f_mwithin r.toInt64 0 ((rules - 1).toInt64)
set_option maxHeartbeats 4000000 in
set_option maxRecDepth 100000 in
theorem c_misRule (l : Launch) (G : va_G) (cI cL cZ cR cE : ClassId) (a0 a1 a2 a3 a4 a5 a6 a7 a8 a9 a10 a11 a12 a13 a14 a15 a16 a17 a18 a19 a20 a21 a22 : Nat) (thrown : Int32) (most : Int32) (rules : Int32) (editions : Nat → Int32) (orders : Nat → Int32) (sizes : Nat → Int32) (ops : Nat → Int32) (numbers : Nat → Int64) (cells : Nat → Int64) (hasFallback : Nat → Int32) (fallbackKinds : Nat → Int32) (fallbacks : Nat → Int64) (facts : Nat → Int64) (states : Nat → Int32) (counts : Nat → Int32) (days : Nat → Int32) (toldAt : Nat → Int32) (tells : Int32) (handles : Int32) (handleFacts : Nat → Int32) (failures : Int32) (failedRule : Nat → Int32) (failedHow : Nat → Int32) (answers : Nat → Int64) (givers : Nat → Int32) (stack : Nat → Int64) (high : Int32) (steps : Int32) (how : Int32) (cellNow : Int64) (own : Nat → Int64) (has : Nat → Int32) (r : Int32) : Met l y_Mo_isRule w_Mo_isRule ({ frames := 1, cells := 0, slots := 0, locals := 25 }) (preR G (TYS cI cL cZ cR cE) [.ref a0, .int r] (W_Mod cI cL cZ cR cE a0 a1 a2 a3 a4 a5 a6 a7 a8 a9 a10 a11 a12 a13 a14 a15 a16 a17 a18 a19 a20 a21 a22 thrown most rules editions orders sizes ops numbers cells hasFallback fallbackKinds fallbacks facts states counts days toldAt tells handles handleFacts failures failedRule failedHow answers givers stack high steps how cellNow own has)) (vp_Si (fun ans_ => ans_ = f_misRule rules r)) 0 0 (fun _ => False) := by
  refine Met.ofW (cc := b_Mo_isRule) (maxL := 2) (ret := (some .boolean)) (by decide) rfl ?_
  intro p e s m args below meth c s₁ B hml hv
  obtain ⟨rfl, hP, hK, hN⟩ := hv
  have hx := B.exec
  have hb := B.bytes
  have hr := B.returns
  have hts := atoms_spec (ws := w_Mo_isRule) B.pre
  have hown : s.vm.findClass R_Mo = some m.cls := findClass_of_methodNamed B.named
  have hlocks := B.notSynchronized
  obtain ⟨H, hH⟩ : ∃ H, H = s.heap := ⟨_, rfl⟩
  rw [← hH] at hP
  rw [← hH]
  have hi_2 : ∀ w ∈ u_ws R_Mo T_Mo 32, w ∈ w_Mo_isRule := fun w h => List.mem_cons_of_mem _ (iu_Mo w h)
  have hk_1 := hts (.fieldLink R_Mo 85 "HandlingRulesModel" "rules" "I") (List.mem_cons_of_mem _ kw_567)
  have hl := lv_entry ([.ref a0, .int r]) (n := 2) (Nat.le_of_ble_eq_true rfl)
  rw [lg_entry_eq]
  generalize (lg_sl ([.ref a0, .int r]) ++ List.replicate (2 - (lg_sl ([.ref a0, .int r])).length) Slot.unset).toArray = ls at hl ⊢
  replace hl : lv_has ls 2 [(0, .ref a0), (1, .int r)] := hl
  generalize hT : f_misRule rules r = T
  refine lv_iload_n hx hb d_Mo_isRule_0 rfl (lv_at hl 1 rfl) ?_
  refine lv_i2l (v := r.toInt64) hx hb d_Mo_isRule_1 rfl ?_
  refine lv_lconst (v := 0) hx hb d_Mo_isRule_2 (by decide) ?_
  refine lv_aload_n hx hb d_Mo_isRule_3 rfl (lv_at hl 0 rfl) ?_
  refine va_get (D := G) (ci := 6) (v := .int rules) (C := R_Mo) (T := T_Mo) (N := 32) hx hb hts hi_2 hown hK hP 0 rfl rfl 2 (by decide) hk_1 (fun _ h9 => h9) rfl d_Mo_isRule_4 ?_
  refine lv_iconst (v := 1) hx hb d_Mo_isRule_7 (by decide) ?_
  refine lv_isub hx hb d_Mo_isRule_8 ?_
  refine lv_i2l (v := (rules - 1).toInt64) hx hb d_Mo_isRule_9 rfl ?_
  refine vp_callSi (W.runS (As := [.long r.toInt64, .long 0, .long ((rules - 1).toInt64)]) (rest := []) ⟨hx, hb, hml, hown, hts⟩ (c_mwithin l G cI cL cZ cR cE  r.toInt64 0 ((rules - 1).toInt64)) (va_cwS 3 hts (gS kw_675 kw_676 kw_21 kw_677) rfl rfl rfl (by decide +kernel) ⟨Nat.le_of_ble_eq_true rfl, Nat.le_of_ble_eq_true rfl⟩) (preRS_of hN hK hP [] rfl) rfl rfl hl.1 rfl (lv_room (Nat.le_of_ble_eq_true rfl)) d_Mo_isRule_10 ⟨Nat.zero_le _, Nat.zero_le _⟩) (fun r_1 hw => ?_)
  subst hw
  exact W.zret (v := f_mwithin r.toInt64 0 ((rules - 1).toInt64)) hx hb hr (nar01 (f_mwithin_01 _ _ _)) (fun t ht hW => ⟨f_mwithin r.toInt64 0 ((rules - 1).toInt64), rfl, (by rw [← hT]; simp only [f_misRule]), by rw [ht, hH]⟩) (fun _ h => by cases h) d_Mo_isRule_13
theorem ix_misRule {rules : Int32} {r : Int32} {N : Nat} (h : ¬ f_misRule rules r = 0) (hR : 0 ≤ rules.toInt ∧ rules.toInt ≤ (N : Int)) : vp_in r N := by
  obtain ⟨h1, h2⟩ := (f_mwithin_iff _ _ _).mp h
  rw [vp_in_iff]
  rw [show (0 : Int64).toInt = 0 from rfl, Int32.toInt_toInt64] at h1
  rw [Int32.toInt_toInt64, Int32.toInt_toInt64] at h2
  have h5 : (1 : Int32).toInt = 1 := rfl
  rw [i32_sub (by omega) (by have := Int32.toInt_le rules; have h6 : Int32.maxValue.toInt = 2147483647 := rfl; omega)] at h2
  omega
def f_mfact (facts : Nat → Int64) (k : Int32) (w : Int64) : Int32 × Int32 × (Nat → Int64) := if (f_mwithin k.toInt64 0 7) = 0 then ((-102), (0, facts)) else (1, (0, vp_updL facts k.toNatClampNeg w))
set_option maxHeartbeats 4000000 in
set_option maxRecDepth 100000 in
theorem c_mfact (l : Launch) (G : va_G) (cI cL cZ cR cE : ClassId) (sz : Nat) (a0 a1 a2 a3 a4 a5 a6 a7 a8 a9 a10 a11 a12 a13 a14 a15 a16 a17 a18 a19 a20 a21 a22 : Nat) (thrown : Int32) (most : Int32) (rules : Int32) (editions : Nat → Int32) (orders : Nat → Int32) (sizes : Nat → Int32) (ops : Nat → Int32) (numbers : Nat → Int64) (cells : Nat → Int64) (hasFallback : Nat → Int32) (fallbackKinds : Nat → Int32) (fallbacks : Nat → Int64) (facts : Nat → Int64) (states : Nat → Int32) (counts : Nat → Int32) (days : Nat → Int32) (toldAt : Nat → Int32) (tells : Int32) (handles : Int32) (handleFacts : Nat → Int32) (failures : Int32) (failedRule : Nat → Int32) (failedHow : Nat → Int32) (answers : Nat → Int64) (givers : Nat → Int32) (stack : Nat → Int64) (high : Int32) (steps : Int32) (how : Int32) (cellNow : Int64) (own : Nat → Int64) (has : Nat → Int32) (k : Int32) (w : Int64) : Met l y_Mo_fact w_Mo_fact ({ frames := 1, cells := 0, slots := 0, locals := 25 }) (preW G (TYS cI cL cZ cR cE) [.ref a0, .int k, .long w] sz (W_Mod cI cL cZ cR cE a0 a1 a2 a3 a4 a5 a6 a7 a8 a9 a10 a11 a12 a13 a14 a15 a16 a17 a18 a19 a20 a21 a22 thrown most rules editions orders sizes ops numbers cells hasFallback fallbackKinds fallbacks facts states counts days toldAt tells handles handleFacts failures failedRule failedHow answers givers stack high steps how cellNow own has)) (va_Qi (fun (ans_ : Int32) (u : Int32 × (Nat → Int64)) => (ans_, u) = f_mfact facts k w) (fun u t => va_P G vwCl (W_Mod cI cL cZ cR cE a0 a1 a2 a3 a4 a5 a6 a7 a8 a9 a10 a11 a12 a13 a14 a15 a16 a17 a18 a19 a20 a21 a22 u.1 most rules editions orders sizes ops numbers cells hasFallback fallbackKinds fallbacks u.2 states counts days toldAt tells handles handleFacts failures failedRule failedHow answers givers stack high steps how cellNow own has) t.heap ∧ va_K G vwCl (TYS cI cL cZ cR cE) t ∧ va_D (va_A (W_Mod cI cL cZ cR cE a0 a1 a2 a3 a4 a5 a6 a7 a8 a9 a10 a11 a12 a13 a14 a15 a16 a17 a18 a19 a20 a21 a22 thrown most rules editions orders sizes ops numbers cells hasFallback fallbackKinds fallbacks facts states counts days toldAt tells handles handleFacts failures failedRule failedHow answers givers stack high steps how cellNow own has) sz) (W_Mod cI cL cZ cR cE a0 a1 a2 a3 a4 a5 a6 a7 a8 a9 a10 a11 a12 a13 a14 a15 a16 a17 a18 a19 a20 a21 a22 u.1 most rules editions orders sizes ops numbers cells hasFallback fallbackKinds fallbacks u.2 states counts days toldAt tells handles handleFacts failures failedRule failedHow answers givers stack high steps how cellNow own has)) (va_A (W_Mod cI cL cZ cR cE a0 a1 a2 a3 a4 a5 a6 a7 a8 a9 a10 a11 a12 a13 a14 a15 a16 a17 a18 a19 a20 a21 a22 thrown most rules editions orders sizes ops numbers cells hasFallback fallbackKinds fallbacks facts states counts days toldAt tells handles handleFacts failures failedRule failedHow answers givers stack high steps how cellNow own has) sz)) 0 0 (va_A (W_Mod cI cL cZ cR cE a0 a1 a2 a3 a4 a5 a6 a7 a8 a9 a10 a11 a12 a13 a14 a15 a16 a17 a18 a19 a20 a21 a22 thrown most rules editions orders sizes ops numbers cells hasFallback fallbackKinds fallbacks facts states counts days toldAt tells handles handleFacts failures failedRule failedHow answers givers stack high steps how cellNow own has) sz) := by
  refine Met.ofW (cc := b_Mo_fact) (maxL := 4) (ret := (some .int)) (by decide) rfl ?_
  intro p e s m args below meth c s₁ B hml hv
  obtain ⟨rfl, hsz, hP, hK, hD0, hN⟩ := hv
  have hx := B.exec
  have hb := B.bytes
  have hr := B.returns
  have hts := atoms_spec (ws := w_Mo_fact) B.pre
  have hown : s.vm.findClass R_Mo = some m.cls := findClass_of_methodNamed B.named
  have hlocks := B.notSynchronized
  subst hsz
  have hD := hD0.self (sz := s.heap.size)
  clear hD0
  generalize hAe : va_A (W_Mod cI cL cZ cR cE a0 a1 a2 a3 a4 a5 a6 a7 a8 a9 a10 a11 a12 a13 a14 a15 a16 a17 a18 a19 a20 a21 a22 thrown most rules editions orders sizes ops numbers cells hasFallback fallbackKinds fallbacks facts states counts days toldAt tells handles handleFacts failures failedRule failedHow answers givers stack high steps how cellNow own has) s.heap.size = A at hD ⊢
  have hA : ∀ q : Nat, s.heap.size ≤ q → A q := fun q h => by rw [← hAe]; exact Or.inr h
  clear hAe
  have hS : va_S A s.heap s.heap [] := va_S.rf
  obtain ⟨H, hH⟩ : ∃ H, H = s.heap := ⟨_, rfl⟩
  rw [← hH] at hP
  replace hS : va_S A s.heap H [] := by rw [hH]; exact hS
  rw [← hH]
  clear hH
  have hi_2 : ∀ w ∈ u_ws R_Mo T_Mo 32, w ∈ w_Mo_fact := fun w h => List.mem_cons_of_mem _ (iu_Mo w h)
  have hk_1 := hts (.fieldLink R_Mo 82 "HandlingRulesModel" "thrown" "I") (List.mem_cons_of_mem _ kw_565)
  have hk_3 := hts (.constantLong R_Mo 102 7) (List.mem_cons_of_mem _ kw_692)
  have hk_4 := hts (.fieldLink R_Mo 39 "HandlingRulesModel" "facts" "[J") (List.mem_cons_of_mem _ kw_577)
  have hl := lv_entry ([.ref a0, .int k, .long w]) (n := 4) (Nat.le_of_ble_eq_true rfl)
  rw [lg_entry_eq]
  generalize (lg_sl ([.ref a0, .int k, .long w]) ++ List.replicate (4 - (lg_sl ([.ref a0, .int k, .long w])).length) Slot.unset).toArray = ls at hl ⊢
  replace hl : lv_has ls 4 [(0, .ref a0), (1, .int k), (2, .long w)] := hl
  generalize hT : f_mfact facts k w = T
  refine lv_aload_n hx hb d_Mo_fact_0 rfl (lv_at hl 0 rfl) ?_
  refine lv_iconst (v := 0) hx hb d_Mo_fact_1 (by decide) ?_
  refine va_put (D := G) (ci := 6) (v := .int 0) (ty := (.int)) (C := R_Mo) (T := T_Mo) (N := 32) hx hb hts hi_2 ty_Mo tyk_Mo nm_Mo hown hK hP hD hS 0 rfl rfl 0 (by decide) hk_1 (fun _ h9 => h9) rfl (by decide +kernel) rfl rfl (Nat.le_of_ble_eq_true rfl) d_Mo_fact_2 (fun H locs hP hD hS => ?_)
  replace hP : va_P G vwCl (W_Mod cI cL cZ cR cE a0 a1 a2 a3 a4 a5 a6 a7 a8 a9 a10 a11 a12 a13 a14 a15 a16 a17 a18 a19 a20 a21 a22 0 most rules editions orders sizes ops numbers cells hasFallback fallbackKinds fallbacks facts states counts days toldAt tells handles handleFacts failures failedRule failedHow answers givers stack high steps how cellNow own has) H := hP
  replace hD : va_D A (W_Mod cI cL cZ cR cE a0 a1 a2 a3 a4 a5 a6 a7 a8 a9 a10 a11 a12 a13 a14 a15 a16 a17 a18 a19 a20 a21 a22 0 most rules editions orders sizes ops numbers cells hasFallback fallbackKinds fallbacks facts states counts days toldAt tells handles handleFacts failures failedRule failedHow answers givers stack high steps how cellNow own has) := hD
  refine lv_iload_n hx hb d_Mo_fact_5 rfl (lv_at hl 1 rfl) ?_
  refine lv_i2l (v := k.toInt64) hx hb d_Mo_fact_6 rfl ?_
  refine lv_lconst (v := 0) hx hb d_Mo_fact_7 (by decide) ?_
  refine lv_ldc2 (v := 7) hx hb hown hk_3 d_Mo_fact_8 ?_
  refine vp_callSi (W.runS (As := [.long k.toInt64, .long 0, .long 7]) (rest := []) ⟨hx, hb, hml, hown, hts⟩ (c_mwithin l G cI cL cZ cR cE  k.toInt64 0 7) (va_cwS 3 hts (gS kw_675 kw_676 kw_21 kw_677) rfl rfl rfl (by decide +kernel) ⟨Nat.le_of_ble_eq_true rfl, Nat.le_of_ble_eq_true rfl⟩) (preRS_of hN hK hP [] rfl) rfl rfl hl.1 rfl (lv_room (Nat.le_of_ble_eq_true rfl)) d_Mo_fact_11 ⟨Nat.zero_le _, Nat.zero_le _⟩) (fun r_1 hw => ?_)
  subst hw
  refine lv_if_ne (tgt := 20) hx hb d_Mo_fact_14 (by decide) (fun c_2 => ?_) (fun c_2 => ?_)
  · refine lv_aload_n hx hb d_Mo_fact_20 rfl (lv_at hl 0 rfl) ?_
    refine va_get (D := G) (ci := 6) (v := .ref a10) (C := R_Mo) (T := T_Mo) (N := 32) hx hb hts hi_2 hown hK hP 0 rfl rfl 12 (by decide) hk_4 (fun _ h9 => h9) rfl d_Mo_fact_21 ?_
    refine lv_iload_n hx hb d_Mo_fact_24 rfl (lv_at hl 1 rfl) ?_
    refine lv_lload_n hx hb d_Mo_fact_25 rfl (lv_at hl 2 rfl) ?_
    refine va_last hx hb hK hP hD hS 10 1 rfl rfl (ix_mw c_2 rfl (by decide)) d_Mo_fact_26 (fun H locs hP hD hS => ?_)
    replace hP : va_P G vwCl (W_Mod cI cL cZ cR cE a0 a1 a2 a3 a4 a5 a6 a7 a8 a9 a10 a11 a12 a13 a14 a15 a16 a17 a18 a19 a20 a21 a22 0 most rules editions orders sizes ops numbers cells hasFallback fallbackKinds fallbacks (vp_updL facts k.toNatClampNeg w) states counts days toldAt tells handles handleFacts failures failedRule failedHow answers givers stack high steps how cellNow own has) H := hP
    replace hD : va_D A (W_Mod cI cL cZ cR cE a0 a1 a2 a3 a4 a5 a6 a7 a8 a9 a10 a11 a12 a13 a14 a15 a16 a17 a18 a19 a20 a21 a22 0 most rules editions orders sizes ops numbers cells hasFallback fallbackKinds fallbacks (vp_updL facts k.toNatClampNeg w) states counts days toldAt tells handles handleFacts failures failedRule failedHow answers givers stack high steps how cellNow own has) := hD
    refine lv_iconst (v := 1) hx hb d_Mo_fact_27 (by decide) ?_
    exact W.iret (v := 1) hx hb hr (fun t ht hW => ⟨⟨1, (0, vp_updL facts k.toNatClampNeg w), rfl, (by rw [← hT]; simp only [f_mfact, if_neg c_2]), by rw [ht]; exact hP, va_K.moved hW.alike hK, hD⟩, hS.F ht⟩) hS.2.2 d_Mo_fact_28
  · refine lv_bipush (v := (-102)) hx hb d_Mo_fact_17 (by decide) ?_
    exact W.iret (v := (-102)) hx hb hr (fun t ht hW => ⟨⟨(-102), (0, facts), rfl, (by rw [← hT]; simp only [f_mfact, if_pos c_2]), by rw [ht]; exact hP, va_K.moved hW.alike hK, hD⟩, hS.F ht⟩) hS.2.2 d_Mo_fact_19
def f_manswer (answers : Nat → Int64) (k : Int32) : Int64 × Int32 := if (f_mwithin k.toInt64 0 3) = 0 then (0, 0) else (answers k.toNatClampNeg, 0)
set_option maxHeartbeats 4000000 in
set_option maxRecDepth 100000 in
theorem c_manswer (l : Launch) (G : va_G) (cI cL cZ cR cE : ClassId) (sz : Nat) (a0 a1 a2 a3 a4 a5 a6 a7 a8 a9 a10 a11 a12 a13 a14 a15 a16 a17 a18 a19 a20 a21 a22 : Nat) (thrown : Int32) (most : Int32) (rules : Int32) (editions : Nat → Int32) (orders : Nat → Int32) (sizes : Nat → Int32) (ops : Nat → Int32) (numbers : Nat → Int64) (cells : Nat → Int64) (hasFallback : Nat → Int32) (fallbackKinds : Nat → Int32) (fallbacks : Nat → Int64) (facts : Nat → Int64) (states : Nat → Int32) (counts : Nat → Int32) (days : Nat → Int32) (toldAt : Nat → Int32) (tells : Int32) (handles : Int32) (handleFacts : Nat → Int32) (failures : Int32) (failedRule : Nat → Int32) (failedHow : Nat → Int32) (answers : Nat → Int64) (givers : Nat → Int32) (stack : Nat → Int64) (high : Int32) (steps : Int32) (how : Int32) (cellNow : Int64) (own : Nat → Int64) (has : Nat → Int32) (k : Int32) : Met l y_Mo_answer w_Mo_answer ({ frames := 1, cells := 0, slots := 0, locals := 25 }) (preW G (TYS cI cL cZ cR cE) [.ref a0, .int k] sz (W_Mod cI cL cZ cR cE a0 a1 a2 a3 a4 a5 a6 a7 a8 a9 a10 a11 a12 a13 a14 a15 a16 a17 a18 a19 a20 a21 a22 thrown most rules editions orders sizes ops numbers cells hasFallback fallbackKinds fallbacks facts states counts days toldAt tells handles handleFacts failures failedRule failedHow answers givers stack high steps how cellNow own has)) (va_Ql (fun (ans_ : Int64) (u : Int32) => (ans_, u) = f_manswer answers k) (fun u t => va_P G vwCl (W_Mod cI cL cZ cR cE a0 a1 a2 a3 a4 a5 a6 a7 a8 a9 a10 a11 a12 a13 a14 a15 a16 a17 a18 a19 a20 a21 a22 u most rules editions orders sizes ops numbers cells hasFallback fallbackKinds fallbacks facts states counts days toldAt tells handles handleFacts failures failedRule failedHow answers givers stack high steps how cellNow own has) t.heap ∧ va_K G vwCl (TYS cI cL cZ cR cE) t ∧ va_D (va_A (W_Mod cI cL cZ cR cE a0 a1 a2 a3 a4 a5 a6 a7 a8 a9 a10 a11 a12 a13 a14 a15 a16 a17 a18 a19 a20 a21 a22 thrown most rules editions orders sizes ops numbers cells hasFallback fallbackKinds fallbacks facts states counts days toldAt tells handles handleFacts failures failedRule failedHow answers givers stack high steps how cellNow own has) sz) (W_Mod cI cL cZ cR cE a0 a1 a2 a3 a4 a5 a6 a7 a8 a9 a10 a11 a12 a13 a14 a15 a16 a17 a18 a19 a20 a21 a22 u most rules editions orders sizes ops numbers cells hasFallback fallbackKinds fallbacks facts states counts days toldAt tells handles handleFacts failures failedRule failedHow answers givers stack high steps how cellNow own has)) (va_A (W_Mod cI cL cZ cR cE a0 a1 a2 a3 a4 a5 a6 a7 a8 a9 a10 a11 a12 a13 a14 a15 a16 a17 a18 a19 a20 a21 a22 thrown most rules editions orders sizes ops numbers cells hasFallback fallbackKinds fallbacks facts states counts days toldAt tells handles handleFacts failures failedRule failedHow answers givers stack high steps how cellNow own has) sz)) 0 0 (va_A (W_Mod cI cL cZ cR cE a0 a1 a2 a3 a4 a5 a6 a7 a8 a9 a10 a11 a12 a13 a14 a15 a16 a17 a18 a19 a20 a21 a22 thrown most rules editions orders sizes ops numbers cells hasFallback fallbackKinds fallbacks facts states counts days toldAt tells handles handleFacts failures failedRule failedHow answers givers stack high steps how cellNow own has) sz) := by
  refine Met.ofW (cc := b_Mo_answer) (maxL := 2) (ret := (some .long)) (by decide) rfl ?_
  intro p e s m args below meth c s₁ B hml hv
  obtain ⟨rfl, hsz, hP, hK, hD0, hN⟩ := hv
  have hx := B.exec
  have hb := B.bytes
  have hr := B.returns
  have hts := atoms_spec (ws := w_Mo_answer) B.pre
  have hown : s.vm.findClass R_Mo = some m.cls := findClass_of_methodNamed B.named
  have hlocks := B.notSynchronized
  subst hsz
  have hD := hD0.self (sz := s.heap.size)
  clear hD0
  generalize hAe : va_A (W_Mod cI cL cZ cR cE a0 a1 a2 a3 a4 a5 a6 a7 a8 a9 a10 a11 a12 a13 a14 a15 a16 a17 a18 a19 a20 a21 a22 thrown most rules editions orders sizes ops numbers cells hasFallback fallbackKinds fallbacks facts states counts days toldAt tells handles handleFacts failures failedRule failedHow answers givers stack high steps how cellNow own has) s.heap.size = A at hD ⊢
  have hA : ∀ q : Nat, s.heap.size ≤ q → A q := fun q h => by rw [← hAe]; exact Or.inr h
  clear hAe
  have hS : va_S A s.heap s.heap [] := va_S.rf
  obtain ⟨H, hH⟩ : ∃ H, H = s.heap := ⟨_, rfl⟩
  rw [← hH] at hP
  replace hS : va_S A s.heap H [] := by rw [hH]; exact hS
  rw [← hH]
  clear hH
  have hi_2 : ∀ w ∈ u_ws R_Mo T_Mo 32, w ∈ w_Mo_answer := fun w h => List.mem_cons_of_mem _ (iu_Mo w h)
  have hk_1 := hts (.fieldLink R_Mo 82 "HandlingRulesModel" "thrown" "I") (List.mem_cons_of_mem _ kw_565)
  have hk_3 := hts (.constantLong R_Mo 108 3) (List.mem_cons_of_mem _ kw_695)
  have hk_4 := hts (.fieldLink R_Mo 63 "HandlingRulesModel" "answers" "[J") (List.mem_cons_of_mem _ kw_588)
  have hl := lv_entry ([.ref a0, .int k]) (n := 2) (Nat.le_of_ble_eq_true rfl)
  rw [lg_entry_eq]
  generalize (lg_sl ([.ref a0, .int k]) ++ List.replicate (2 - (lg_sl ([.ref a0, .int k])).length) Slot.unset).toArray = ls at hl ⊢
  replace hl : lv_has ls 2 [(0, .ref a0), (1, .int k)] := hl
  generalize hT : f_manswer answers k = T
  refine lv_aload_n hx hb d_Mo_answer_0 rfl (lv_at hl 0 rfl) ?_
  refine lv_iconst (v := 0) hx hb d_Mo_answer_1 (by decide) ?_
  refine va_put (D := G) (ci := 6) (v := .int 0) (ty := (.int)) (C := R_Mo) (T := T_Mo) (N := 32) hx hb hts hi_2 ty_Mo tyk_Mo nm_Mo hown hK hP hD hS 0 rfl rfl 0 (by decide) hk_1 (fun _ h9 => h9) rfl (by decide +kernel) rfl rfl (Nat.le_of_ble_eq_true rfl) d_Mo_answer_2 (fun H locs hP hD hS => ?_)
  replace hP : va_P G vwCl (W_Mod cI cL cZ cR cE a0 a1 a2 a3 a4 a5 a6 a7 a8 a9 a10 a11 a12 a13 a14 a15 a16 a17 a18 a19 a20 a21 a22 0 most rules editions orders sizes ops numbers cells hasFallback fallbackKinds fallbacks facts states counts days toldAt tells handles handleFacts failures failedRule failedHow answers givers stack high steps how cellNow own has) H := hP
  replace hD : va_D A (W_Mod cI cL cZ cR cE a0 a1 a2 a3 a4 a5 a6 a7 a8 a9 a10 a11 a12 a13 a14 a15 a16 a17 a18 a19 a20 a21 a22 0 most rules editions orders sizes ops numbers cells hasFallback fallbackKinds fallbacks facts states counts days toldAt tells handles handleFacts failures failedRule failedHow answers givers stack high steps how cellNow own has) := hD
  refine lv_iload_n hx hb d_Mo_answer_5 rfl (lv_at hl 1 rfl) ?_
  refine lv_i2l (v := k.toInt64) hx hb d_Mo_answer_6 rfl ?_
  refine lv_lconst (v := 0) hx hb d_Mo_answer_7 (by decide) ?_
  refine lv_ldc2 (v := 3) hx hb hown hk_3 d_Mo_answer_8 ?_
  refine vp_callSi (W.runS (As := [.long k.toInt64, .long 0, .long 3]) (rest := []) ⟨hx, hb, hml, hown, hts⟩ (c_mwithin l G cI cL cZ cR cE  k.toInt64 0 3) (va_cwS 3 hts (gS kw_675 kw_676 kw_21 kw_677) rfl rfl rfl (by decide +kernel) ⟨Nat.le_of_ble_eq_true rfl, Nat.le_of_ble_eq_true rfl⟩) (preRS_of hN hK hP [] rfl) rfl rfl hl.1 rfl (lv_room (Nat.le_of_ble_eq_true rfl)) d_Mo_answer_11 ⟨Nat.zero_le _, Nat.zero_le _⟩) (fun r_1 hw => ?_)
  subst hw
  refine lv_if_eq (tgt := 26) hx hb d_Mo_answer_14 (by decide) (fun c_2 => ?_) (fun c_2 => ?_)
  · refine lv_lconst (v := 0) hx hb d_Mo_answer_26 (by decide) ?_
    exact W.lret (v := 0) hx hb hr (fun t ht hW => ⟨⟨0, 0, rfl, (by rw [← hT]; simp only [f_manswer, if_pos c_2]), by rw [ht]; exact hP, va_K.moved hW.alike hK, hD⟩, hS.F ht⟩) hS.2.2 d_Mo_answer_27
  · refine lv_aload_n hx hb d_Mo_answer_17 rfl (lv_at hl 0 rfl) ?_
    refine va_get (D := G) (ci := 6) (v := .ref a18) (C := R_Mo) (T := T_Mo) (N := 32) hx hb hts hi_2 hown hK hP 0 rfl rfl 23 (by decide) hk_4 (fun _ h9 => h9) rfl d_Mo_answer_18 ?_
    refine lv_iload_n hx hb d_Mo_answer_21 rfl (lv_at hl 1 rfl) ?_
    refine va_lald hx hb hK hP 18 1 rfl rfl (ix_mw c_2 rfl (by decide)) d_Mo_answer_22 ?_
    refine lv_goto (tgt := 27) hx hb d_Mo_answer_23 (by decide) ?_
    exact W.lret (v := answers k.toNatClampNeg) hx hb hr (fun t ht hW => ⟨⟨answers k.toNatClampNeg, 0, rfl, (by rw [← hT]; simp only [f_manswer, if_neg c_2]), by rw [ht]; exact hP, va_K.moved hW.alike hK, hD⟩, hS.F ht⟩) hS.2.2 d_Mo_answer_27
def f_mby (givers : Nat → Int32) (k : Int32) : Int32 × Int32 := if (f_mwithin k.toInt64 0 3) = 0 then ((-1), 0) else (givers k.toNatClampNeg, 0)
set_option maxHeartbeats 4000000 in
set_option maxRecDepth 100000 in
theorem c_mby (l : Launch) (G : va_G) (cI cL cZ cR cE : ClassId) (sz : Nat) (a0 a1 a2 a3 a4 a5 a6 a7 a8 a9 a10 a11 a12 a13 a14 a15 a16 a17 a18 a19 a20 a21 a22 : Nat) (thrown : Int32) (most : Int32) (rules : Int32) (editions : Nat → Int32) (orders : Nat → Int32) (sizes : Nat → Int32) (ops : Nat → Int32) (numbers : Nat → Int64) (cells : Nat → Int64) (hasFallback : Nat → Int32) (fallbackKinds : Nat → Int32) (fallbacks : Nat → Int64) (facts : Nat → Int64) (states : Nat → Int32) (counts : Nat → Int32) (days : Nat → Int32) (toldAt : Nat → Int32) (tells : Int32) (handles : Int32) (handleFacts : Nat → Int32) (failures : Int32) (failedRule : Nat → Int32) (failedHow : Nat → Int32) (answers : Nat → Int64) (givers : Nat → Int32) (stack : Nat → Int64) (high : Int32) (steps : Int32) (how : Int32) (cellNow : Int64) (own : Nat → Int64) (has : Nat → Int32) (k : Int32) : Met l y_Mo_by w_Mo_by ({ frames := 1, cells := 0, slots := 0, locals := 25 }) (preW G (TYS cI cL cZ cR cE) [.ref a0, .int k] sz (W_Mod cI cL cZ cR cE a0 a1 a2 a3 a4 a5 a6 a7 a8 a9 a10 a11 a12 a13 a14 a15 a16 a17 a18 a19 a20 a21 a22 thrown most rules editions orders sizes ops numbers cells hasFallback fallbackKinds fallbacks facts states counts days toldAt tells handles handleFacts failures failedRule failedHow answers givers stack high steps how cellNow own has)) (va_Qi (fun (ans_ : Int32) (u : Int32) => (ans_, u) = f_mby givers k) (fun u t => va_P G vwCl (W_Mod cI cL cZ cR cE a0 a1 a2 a3 a4 a5 a6 a7 a8 a9 a10 a11 a12 a13 a14 a15 a16 a17 a18 a19 a20 a21 a22 u most rules editions orders sizes ops numbers cells hasFallback fallbackKinds fallbacks facts states counts days toldAt tells handles handleFacts failures failedRule failedHow answers givers stack high steps how cellNow own has) t.heap ∧ va_K G vwCl (TYS cI cL cZ cR cE) t ∧ va_D (va_A (W_Mod cI cL cZ cR cE a0 a1 a2 a3 a4 a5 a6 a7 a8 a9 a10 a11 a12 a13 a14 a15 a16 a17 a18 a19 a20 a21 a22 thrown most rules editions orders sizes ops numbers cells hasFallback fallbackKinds fallbacks facts states counts days toldAt tells handles handleFacts failures failedRule failedHow answers givers stack high steps how cellNow own has) sz) (W_Mod cI cL cZ cR cE a0 a1 a2 a3 a4 a5 a6 a7 a8 a9 a10 a11 a12 a13 a14 a15 a16 a17 a18 a19 a20 a21 a22 u most rules editions orders sizes ops numbers cells hasFallback fallbackKinds fallbacks facts states counts days toldAt tells handles handleFacts failures failedRule failedHow answers givers stack high steps how cellNow own has)) (va_A (W_Mod cI cL cZ cR cE a0 a1 a2 a3 a4 a5 a6 a7 a8 a9 a10 a11 a12 a13 a14 a15 a16 a17 a18 a19 a20 a21 a22 thrown most rules editions orders sizes ops numbers cells hasFallback fallbackKinds fallbacks facts states counts days toldAt tells handles handleFacts failures failedRule failedHow answers givers stack high steps how cellNow own has) sz)) 0 0 (va_A (W_Mod cI cL cZ cR cE a0 a1 a2 a3 a4 a5 a6 a7 a8 a9 a10 a11 a12 a13 a14 a15 a16 a17 a18 a19 a20 a21 a22 thrown most rules editions orders sizes ops numbers cells hasFallback fallbackKinds fallbacks facts states counts days toldAt tells handles handleFacts failures failedRule failedHow answers givers stack high steps how cellNow own has) sz) := by
  refine Met.ofW (cc := b_Mo_by) (maxL := 2) (ret := (some .int)) (by decide) rfl ?_
  intro p e s m args below meth c s₁ B hml hv
  obtain ⟨rfl, hsz, hP, hK, hD0, hN⟩ := hv
  have hx := B.exec
  have hb := B.bytes
  have hr := B.returns
  have hts := atoms_spec (ws := w_Mo_by) B.pre
  have hown : s.vm.findClass R_Mo = some m.cls := findClass_of_methodNamed B.named
  have hlocks := B.notSynchronized
  subst hsz
  have hD := hD0.self (sz := s.heap.size)
  clear hD0
  generalize hAe : va_A (W_Mod cI cL cZ cR cE a0 a1 a2 a3 a4 a5 a6 a7 a8 a9 a10 a11 a12 a13 a14 a15 a16 a17 a18 a19 a20 a21 a22 thrown most rules editions orders sizes ops numbers cells hasFallback fallbackKinds fallbacks facts states counts days toldAt tells handles handleFacts failures failedRule failedHow answers givers stack high steps how cellNow own has) s.heap.size = A at hD ⊢
  have hA : ∀ q : Nat, s.heap.size ≤ q → A q := fun q h => by rw [← hAe]; exact Or.inr h
  clear hAe
  have hS : va_S A s.heap s.heap [] := va_S.rf
  obtain ⟨H, hH⟩ : ∃ H, H = s.heap := ⟨_, rfl⟩
  rw [← hH] at hP
  replace hS : va_S A s.heap H [] := by rw [hH]; exact hS
  rw [← hH]
  clear hH
  have hi_2 : ∀ w ∈ u_ws R_Mo T_Mo 32, w ∈ w_Mo_by := fun w h => List.mem_cons_of_mem _ (iu_Mo w h)
  have hk_1 := hts (.fieldLink R_Mo 82 "HandlingRulesModel" "thrown" "I") (List.mem_cons_of_mem _ kw_565)
  have hk_3 := hts (.constantLong R_Mo 108 3) (List.mem_cons_of_mem _ kw_695)
  have hk_4 := hts (.fieldLink R_Mo 66 "HandlingRulesModel" "givers" "[I") (List.mem_cons_of_mem _ kw_589)
  have hl := lv_entry ([.ref a0, .int k]) (n := 2) (Nat.le_of_ble_eq_true rfl)
  rw [lg_entry_eq]
  generalize (lg_sl ([.ref a0, .int k]) ++ List.replicate (2 - (lg_sl ([.ref a0, .int k])).length) Slot.unset).toArray = ls at hl ⊢
  replace hl : lv_has ls 2 [(0, .ref a0), (1, .int k)] := hl
  generalize hT : f_mby givers k = T
  refine lv_aload_n hx hb d_Mo_by_0 rfl (lv_at hl 0 rfl) ?_
  refine lv_iconst (v := 0) hx hb d_Mo_by_1 (by decide) ?_
  refine va_put (D := G) (ci := 6) (v := .int 0) (ty := (.int)) (C := R_Mo) (T := T_Mo) (N := 32) hx hb hts hi_2 ty_Mo tyk_Mo nm_Mo hown hK hP hD hS 0 rfl rfl 0 (by decide) hk_1 (fun _ h9 => h9) rfl (by decide +kernel) rfl rfl (Nat.le_of_ble_eq_true rfl) d_Mo_by_2 (fun H locs hP hD hS => ?_)
  replace hP : va_P G vwCl (W_Mod cI cL cZ cR cE a0 a1 a2 a3 a4 a5 a6 a7 a8 a9 a10 a11 a12 a13 a14 a15 a16 a17 a18 a19 a20 a21 a22 0 most rules editions orders sizes ops numbers cells hasFallback fallbackKinds fallbacks facts states counts days toldAt tells handles handleFacts failures failedRule failedHow answers givers stack high steps how cellNow own has) H := hP
  replace hD : va_D A (W_Mod cI cL cZ cR cE a0 a1 a2 a3 a4 a5 a6 a7 a8 a9 a10 a11 a12 a13 a14 a15 a16 a17 a18 a19 a20 a21 a22 0 most rules editions orders sizes ops numbers cells hasFallback fallbackKinds fallbacks facts states counts days toldAt tells handles handleFacts failures failedRule failedHow answers givers stack high steps how cellNow own has) := hD
  refine lv_iload_n hx hb d_Mo_by_5 rfl (lv_at hl 1 rfl) ?_
  refine lv_i2l (v := k.toInt64) hx hb d_Mo_by_6 rfl ?_
  refine lv_lconst (v := 0) hx hb d_Mo_by_7 (by decide) ?_
  refine lv_ldc2 (v := 3) hx hb hown hk_3 d_Mo_by_8 ?_
  refine vp_callSi (W.runS (As := [.long k.toInt64, .long 0, .long 3]) (rest := []) ⟨hx, hb, hml, hown, hts⟩ (c_mwithin l G cI cL cZ cR cE  k.toInt64 0 3) (va_cwS 3 hts (gS kw_675 kw_676 kw_21 kw_677) rfl rfl rfl (by decide +kernel) ⟨Nat.le_of_ble_eq_true rfl, Nat.le_of_ble_eq_true rfl⟩) (preRS_of hN hK hP [] rfl) rfl rfl hl.1 rfl (lv_room (Nat.le_of_ble_eq_true rfl)) d_Mo_by_11 ⟨Nat.zero_le _, Nat.zero_le _⟩) (fun r_1 hw => ?_)
  subst hw
  refine lv_if_eq (tgt := 26) hx hb d_Mo_by_14 (by decide) (fun c_2 => ?_) (fun c_2 => ?_)
  · refine lv_iconst (v := (-1)) hx hb d_Mo_by_26 (by decide) ?_
    exact W.iret (v := (-1)) hx hb hr (fun t ht hW => ⟨⟨(-1), 0, rfl, (by rw [← hT]; simp only [f_mby, if_pos c_2]), by rw [ht]; exact hP, va_K.moved hW.alike hK, hD⟩, hS.F ht⟩) hS.2.2 d_Mo_by_27
  · refine lv_aload_n hx hb d_Mo_by_17 rfl (lv_at hl 0 rfl) ?_
    refine va_get (D := G) (ci := 6) (v := .ref a19) (C := R_Mo) (T := T_Mo) (N := 32) hx hb hts hi_2 hown hK hP 0 rfl rfl 24 (by decide) hk_4 (fun _ h9 => h9) rfl d_Mo_by_18 ?_
    refine lv_iload_n hx hb d_Mo_by_21 rfl (lv_at hl 1 rfl) ?_
    refine va_iald hx hb hK hP 19 0 rfl rfl (ix_mw c_2 rfl (by decide)) d_Mo_by_22 ?_
    refine lv_goto (tgt := 27) hx hb d_Mo_by_23 (by decide) ?_
    exact W.iret (v := givers k.toNatClampNeg) hx hb hr (fun t ht hW => ⟨⟨givers k.toNatClampNeg, 0, rfl, (by rw [← hT]; simp only [f_mby, if_neg c_2]), by rw [ht]; exact hP, va_K.moved hW.alike hK, hD⟩, hS.F ht⟩) hS.2.2 d_Mo_by_27
def f_mpush (stack : Nat → Int64) (high : Int32) (how : Int32) (w : Int64) : (Nat → Int64) × Int32 × Int32 := if high = 8 then (stack, high, 3) else (vp_updL stack high.toNatClampNeg w, high + 1, how)
set_option maxHeartbeats 4000000 in
set_option maxRecDepth 100000 in
theorem c_mpush (l : Launch) (G : va_G) (cI cL cZ cR cE : ClassId) (sz : Nat) (a0 a1 a2 a3 a4 a5 a6 a7 a8 a9 a10 a11 a12 a13 a14 a15 a16 a17 a18 a19 a20 a21 a22 : Nat) (thrown : Int32) (most : Int32) (rules : Int32) (editions : Nat → Int32) (orders : Nat → Int32) (sizes : Nat → Int32) (ops : Nat → Int32) (numbers : Nat → Int64) (cells : Nat → Int64) (hasFallback : Nat → Int32) (fallbackKinds : Nat → Int32) (fallbacks : Nat → Int64) (facts : Nat → Int64) (states : Nat → Int32) (counts : Nat → Int32) (days : Nat → Int32) (toldAt : Nat → Int32) (tells : Int32) (handles : Int32) (handleFacts : Nat → Int32) (failures : Int32) (failedRule : Nat → Int32) (failedHow : Nat → Int32) (answers : Nat → Int64) (givers : Nat → Int32) (stack : Nat → Int64) (high : Int32) (steps : Int32) (how : Int32) (cellNow : Int64) (own : Nat → Int64) (has : Nat → Int32) (w : Int64) (hh : 0 ≤ high.toInt ∧ high.toInt ≤ 8) : Met l y_Mo_push w_Mo_push ({ frames := 0, cells := 0, slots := 0, locals := 0 }) (preW G (TYS cI cL cZ cR cE) [.ref a0, .long w] sz (W_Mod cI cL cZ cR cE a0 a1 a2 a3 a4 a5 a6 a7 a8 a9 a10 a11 a12 a13 a14 a15 a16 a17 a18 a19 a20 a21 a22 thrown most rules editions orders sizes ops numbers cells hasFallback fallbackKinds fallbacks facts states counts days toldAt tells handles handleFacts failures failedRule failedHow answers givers stack high steps how cellNow own has)) (va_Qv (fun u : (Nat → Int64) × Int32 × Int32 => u = f_mpush stack high how w) (fun u t => va_P G vwCl (W_Mod cI cL cZ cR cE a0 a1 a2 a3 a4 a5 a6 a7 a8 a9 a10 a11 a12 a13 a14 a15 a16 a17 a18 a19 a20 a21 a22 thrown most rules editions orders sizes ops numbers cells hasFallback fallbackKinds fallbacks facts states counts days toldAt tells handles handleFacts failures failedRule failedHow answers givers u.1 u.2.1 steps u.2.2 cellNow own has) t.heap ∧ va_K G vwCl (TYS cI cL cZ cR cE) t ∧ va_D (va_A (W_Mod cI cL cZ cR cE a0 a1 a2 a3 a4 a5 a6 a7 a8 a9 a10 a11 a12 a13 a14 a15 a16 a17 a18 a19 a20 a21 a22 thrown most rules editions orders sizes ops numbers cells hasFallback fallbackKinds fallbacks facts states counts days toldAt tells handles handleFacts failures failedRule failedHow answers givers stack high steps how cellNow own has) sz) (W_Mod cI cL cZ cR cE a0 a1 a2 a3 a4 a5 a6 a7 a8 a9 a10 a11 a12 a13 a14 a15 a16 a17 a18 a19 a20 a21 a22 thrown most rules editions orders sizes ops numbers cells hasFallback fallbackKinds fallbacks facts states counts days toldAt tells handles handleFacts failures failedRule failedHow answers givers u.1 u.2.1 steps u.2.2 cellNow own has)) (va_A (W_Mod cI cL cZ cR cE a0 a1 a2 a3 a4 a5 a6 a7 a8 a9 a10 a11 a12 a13 a14 a15 a16 a17 a18 a19 a20 a21 a22 thrown most rules editions orders sizes ops numbers cells hasFallback fallbackKinds fallbacks facts states counts days toldAt tells handles handleFacts failures failedRule failedHow answers givers stack high steps how cellNow own has) sz)) 0 0 (va_A (W_Mod cI cL cZ cR cE a0 a1 a2 a3 a4 a5 a6 a7 a8 a9 a10 a11 a12 a13 a14 a15 a16 a17 a18 a19 a20 a21 a22 thrown most rules editions orders sizes ops numbers cells hasFallback fallbackKinds fallbacks facts states counts days toldAt tells handles handleFacts failures failedRule failedHow answers givers stack high steps how cellNow own has) sz) := by
  refine Met.ofW (cc := b_Mo_push) (maxL := 3) (ret := none) (by decide) rfl ?_
  intro p e s m args below meth c s₁ B hml hv
  obtain ⟨rfl, hsz, hP, hK, hD0, hN⟩ := hv
  have hx := B.exec
  have hb := B.bytes
  have hr := B.returns
  have hts := atoms_spec (ws := w_Mo_push) B.pre
  have hown : s.vm.findClass R_Mo = some m.cls := findClass_of_methodNamed B.named
  have hlocks := B.notSynchronized
  subst hsz
  have hD := hD0.self (sz := s.heap.size)
  clear hD0
  generalize hAe : va_A (W_Mod cI cL cZ cR cE a0 a1 a2 a3 a4 a5 a6 a7 a8 a9 a10 a11 a12 a13 a14 a15 a16 a17 a18 a19 a20 a21 a22 thrown most rules editions orders sizes ops numbers cells hasFallback fallbackKinds fallbacks facts states counts days toldAt tells handles handleFacts failures failedRule failedHow answers givers stack high steps how cellNow own has) s.heap.size = A at hD ⊢
  have hA : ∀ q : Nat, s.heap.size ≤ q → A q := fun q h => by rw [← hAe]; exact Or.inr h
  clear hAe
  have hS : va_S A s.heap s.heap [] := va_S.rf
  obtain ⟨H, hH⟩ : ∃ H, H = s.heap := ⟨_, rfl⟩
  rw [← hH] at hP
  replace hS : va_S A s.heap H [] := by rw [hH]; exact hS
  rw [← hH]
  clear hH
  have hi_2 : ∀ w ∈ u_ws R_Mo T_Mo 32, w ∈ w_Mo_push := fun w h => List.mem_cons_of_mem _ (iu_Mo w h)
  have hk_1 := hts (.fieldLink R_Mo 119 "HandlingRulesModel" "high" "I") (List.mem_cons_of_mem _ kw_591)
  have hk_3 := hts (.fieldLink R_Mo 69 "HandlingRulesModel" "stack" "[J") (List.mem_cons_of_mem _ kw_590)
  have hk_4 := hts (.fieldLink R_Mo 122 "HandlingRulesModel" "how" "I") (List.mem_cons_of_mem _ kw_593)
  have hl := lv_entry ([.ref a0, .long w]) (n := 3) (Nat.le_of_ble_eq_true rfl)
  rw [lg_entry_eq]
  generalize (lg_sl ([.ref a0, .long w]) ++ List.replicate (3 - (lg_sl ([.ref a0, .long w])).length) Slot.unset).toArray = ls at hl ⊢
  replace hl : lv_has ls 3 [(0, .ref a0), (1, .long w)] := hl
  generalize hT : f_mpush stack high how w = T
  refine lv_aload_n hx hb d_Mo_push_0 rfl (lv_at hl 0 rfl) ?_
  refine va_get (D := G) (ci := 6) (v := .int high) (C := R_Mo) (T := T_Mo) (N := 32) hx hb hts hi_2 hown hK hP 0 rfl rfl 26 (by decide) hk_1 (fun _ h9 => h9) rfl d_Mo_push_1 ?_
  refine lv_bipush (v := 8) hx hb d_Mo_push_4 (by decide) ?_
  refine lv_icmp_ne (tgt := 15) hx hb d_Mo_push_6 (by decide) (fun c_1 => ?_) (fun c_1 => ?_)
  · refine lv_aload_n hx hb d_Mo_push_15 rfl (lv_at hl 0 rfl) ?_
    refine va_get (D := G) (ci := 6) (v := .ref a20) (C := R_Mo) (T := T_Mo) (N := 32) hx hb hts hi_2 hown hK hP 0 rfl rfl 25 (by decide) hk_3 (fun _ h9 => h9) rfl d_Mo_push_16 ?_
    refine lv_aload_n hx hb d_Mo_push_19 rfl (lv_at hl 0 rfl) ?_
    refine va_get (D := G) (ci := 6) (v := .int high) (C := R_Mo) (T := T_Mo) (N := 32) hx hb hts hi_2 hown hK hP 0 rfl rfl 26 (by decide) hk_1 (fun _ h9 => h9) rfl d_Mo_push_20 ?_
    refine lv_lload_n hx hb d_Mo_push_23 rfl (lv_at hl 1 rfl) ?_
    refine va_last hx hb hK hP hD hS 20 1 rfl rfl (ix_le hh c_1 rfl) d_Mo_push_24 (fun H locs hP hD hS => ?_)
    replace hP : va_P G vwCl (W_Mod cI cL cZ cR cE a0 a1 a2 a3 a4 a5 a6 a7 a8 a9 a10 a11 a12 a13 a14 a15 a16 a17 a18 a19 a20 a21 a22 thrown most rules editions orders sizes ops numbers cells hasFallback fallbackKinds fallbacks facts states counts days toldAt tells handles handleFacts failures failedRule failedHow answers givers (vp_updL stack high.toNatClampNeg w) high steps how cellNow own has) H := hP
    replace hD : va_D A (W_Mod cI cL cZ cR cE a0 a1 a2 a3 a4 a5 a6 a7 a8 a9 a10 a11 a12 a13 a14 a15 a16 a17 a18 a19 a20 a21 a22 thrown most rules editions orders sizes ops numbers cells hasFallback fallbackKinds fallbacks facts states counts days toldAt tells handles handleFacts failures failedRule failedHow answers givers (vp_updL stack high.toNatClampNeg w) high steps how cellNow own has) := hD
    refine lv_aload_n hx hb d_Mo_push_25 rfl (lv_at hl 0 rfl) ?_
    refine lv_dup hx hb d_Mo_push_26 rfl ?_
    refine va_get (D := G) (ci := 6) (v := .int high) (C := R_Mo) (T := T_Mo) (N := 32) hx hb hts hi_2 hown hK hP 0 rfl rfl 26 (by decide) hk_1 (fun _ h9 => h9) rfl d_Mo_push_27 ?_
    refine lv_iconst (v := 1) hx hb d_Mo_push_30 (by decide) ?_
    refine lv_iadd hx hb d_Mo_push_31 ?_
    refine va_put (D := G) (ci := 6) (v := .int (high + 1)) (ty := (.int)) (C := R_Mo) (T := T_Mo) (N := 32) hx hb hts hi_2 ty_Mo tyk_Mo nm_Mo hown hK hP hD hS 0 rfl rfl 26 (by decide) hk_1 (fun _ h9 => h9) rfl (by decide +kernel) rfl rfl (Nat.le_of_ble_eq_true rfl) d_Mo_push_32 (fun H locs hP hD hS => ?_)
    replace hP : va_P G vwCl (W_Mod cI cL cZ cR cE a0 a1 a2 a3 a4 a5 a6 a7 a8 a9 a10 a11 a12 a13 a14 a15 a16 a17 a18 a19 a20 a21 a22 thrown most rules editions orders sizes ops numbers cells hasFallback fallbackKinds fallbacks facts states counts days toldAt tells handles handleFacts failures failedRule failedHow answers givers (vp_updL stack high.toNatClampNeg w) (high + 1) steps how cellNow own has) H := hP
    replace hD : va_D A (W_Mod cI cL cZ cR cE a0 a1 a2 a3 a4 a5 a6 a7 a8 a9 a10 a11 a12 a13 a14 a15 a16 a17 a18 a19 a20 a21 a22 thrown most rules editions orders sizes ops numbers cells hasFallback fallbackKinds fallbacks facts states counts days toldAt tells handles handleFacts failures failedRule failedHow answers givers (vp_updL stack high.toNatClampNeg w) (high + 1) steps how cellNow own has) := hD
    exact W.vret hx hb hr (fun t ht hW => ⟨⟨(vp_updL stack high.toNatClampNeg w, high + 1, how), rfl, (by rw [← hT]; simp only [f_mpush, if_neg c_1]), by rw [ht]; exact hP, va_K.moved hW.alike hK, hD⟩, hS.F ht⟩) hS.2.2 d_Mo_push_35
  · refine lv_aload_n hx hb d_Mo_push_9 rfl (lv_at hl 0 rfl) ?_
    refine lv_iconst (v := 3) hx hb d_Mo_push_10 (by decide) ?_
    refine va_put (D := G) (ci := 6) (v := .int 3) (ty := (.int)) (C := R_Mo) (T := T_Mo) (N := 32) hx hb hts hi_2 ty_Mo tyk_Mo nm_Mo hown hK hP hD hS 0 rfl rfl 28 (by decide) hk_4 (fun _ h9 => h9) rfl (by decide +kernel) rfl rfl (Nat.le_of_ble_eq_true rfl) d_Mo_push_11 (fun H locs hP hD hS => ?_)
    replace hP : va_P G vwCl (W_Mod cI cL cZ cR cE a0 a1 a2 a3 a4 a5 a6 a7 a8 a9 a10 a11 a12 a13 a14 a15 a16 a17 a18 a19 a20 a21 a22 thrown most rules editions orders sizes ops numbers cells hasFallback fallbackKinds fallbacks facts states counts days toldAt tells handles handleFacts failures failedRule failedHow answers givers stack high steps 3 cellNow own has) H := hP
    replace hD : va_D A (W_Mod cI cL cZ cR cE a0 a1 a2 a3 a4 a5 a6 a7 a8 a9 a10 a11 a12 a13 a14 a15 a16 a17 a18 a19 a20 a21 a22 thrown most rules editions orders sizes ops numbers cells hasFallback fallbackKinds fallbacks facts states counts days toldAt tells handles handleFacts failures failedRule failedHow answers givers stack high steps 3 cellNow own has) := hD
    exact W.vret hx hb hr (fun t ht hW => ⟨⟨(stack, high, 3), rfl, (by rw [← hT]; simp only [f_mpush, if_pos c_1]), by rw [ht]; exact hP, va_K.moved hW.alike hK, hD⟩, hS.F ht⟩) hS.2.2 d_Mo_push_14
def f_mkeep (handles : Int32) (handleFacts : Nat → Int32) (stack : Nat → Int64) (high : Int32) (how : Int32) (k : Int32) : Int32 × (Nat → Int32) × (Nat → Int64) × Int32 × Int32 := if high = 8 then (handles, handleFacts, stack, high, 3) else (if handles = 16 then (handles, handleFacts, stack, high, 4) else (match f_mpush stack high how handles.toInt64 with | (x_stack_6, x_high_7, x_how_8) => (handles + 1, upd handleFacts handles.toNatClampNeg k, x_stack_6, x_high_7, x_how_8)))
set_option maxHeartbeats 4000000 in
set_option maxRecDepth 100000 in
theorem c_mkeep (l : Launch) (G : va_G) (cI cL cZ cR cE : ClassId) (sz : Nat) (a0 a1 a2 a3 a4 a5 a6 a7 a8 a9 a10 a11 a12 a13 a14 a15 a16 a17 a18 a19 a20 a21 a22 : Nat) (thrown : Int32) (most : Int32) (rules : Int32) (editions : Nat → Int32) (orders : Nat → Int32) (sizes : Nat → Int32) (ops : Nat → Int32) (numbers : Nat → Int64) (cells : Nat → Int64) (hasFallback : Nat → Int32) (fallbackKinds : Nat → Int32) (fallbacks : Nat → Int64) (facts : Nat → Int64) (states : Nat → Int32) (counts : Nat → Int32) (days : Nat → Int32) (toldAt : Nat → Int32) (tells : Int32) (handles : Int32) (handleFacts : Nat → Int32) (failures : Int32) (failedRule : Nat → Int32) (failedHow : Nat → Int32) (answers : Nat → Int64) (givers : Nat → Int32) (stack : Nat → Int64) (high : Int32) (steps : Int32) (how : Int32) (cellNow : Int64) (own : Nat → Int64) (has : Nat → Int32) (k : Int32) (hh : 0 ≤ high.toInt ∧ high.toInt ≤ 8) (hc : 0 ≤ handles.toInt ∧ handles.toInt ≤ 16) : Met l y_Mo_keepHandle w_Mo_keepHandle ({ frames := 1, cells := 0, slots := 0, locals := 22 }) (preW G (TYS cI cL cZ cR cE) [.ref a0, .int k] sz (W_Mod cI cL cZ cR cE a0 a1 a2 a3 a4 a5 a6 a7 a8 a9 a10 a11 a12 a13 a14 a15 a16 a17 a18 a19 a20 a21 a22 thrown most rules editions orders sizes ops numbers cells hasFallback fallbackKinds fallbacks facts states counts days toldAt tells handles handleFacts failures failedRule failedHow answers givers stack high steps how cellNow own has)) (va_Qv (fun u : Int32 × (Nat → Int32) × (Nat → Int64) × Int32 × Int32 => u = f_mkeep handles handleFacts stack high how k) (fun u t => va_P G vwCl (W_Mod cI cL cZ cR cE a0 a1 a2 a3 a4 a5 a6 a7 a8 a9 a10 a11 a12 a13 a14 a15 a16 a17 a18 a19 a20 a21 a22 thrown most rules editions orders sizes ops numbers cells hasFallback fallbackKinds fallbacks facts states counts days toldAt tells u.1 u.2.1 failures failedRule failedHow answers givers u.2.2.1 u.2.2.2.1 steps u.2.2.2.2 cellNow own has) t.heap ∧ va_K G vwCl (TYS cI cL cZ cR cE) t ∧ va_D (va_A (W_Mod cI cL cZ cR cE a0 a1 a2 a3 a4 a5 a6 a7 a8 a9 a10 a11 a12 a13 a14 a15 a16 a17 a18 a19 a20 a21 a22 thrown most rules editions orders sizes ops numbers cells hasFallback fallbackKinds fallbacks facts states counts days toldAt tells handles handleFacts failures failedRule failedHow answers givers stack high steps how cellNow own has) sz) (W_Mod cI cL cZ cR cE a0 a1 a2 a3 a4 a5 a6 a7 a8 a9 a10 a11 a12 a13 a14 a15 a16 a17 a18 a19 a20 a21 a22 thrown most rules editions orders sizes ops numbers cells hasFallback fallbackKinds fallbacks facts states counts days toldAt tells u.1 u.2.1 failures failedRule failedHow answers givers u.2.2.1 u.2.2.2.1 steps u.2.2.2.2 cellNow own has)) (va_A (W_Mod cI cL cZ cR cE a0 a1 a2 a3 a4 a5 a6 a7 a8 a9 a10 a11 a12 a13 a14 a15 a16 a17 a18 a19 a20 a21 a22 thrown most rules editions orders sizes ops numbers cells hasFallback fallbackKinds fallbacks facts states counts days toldAt tells handles handleFacts failures failedRule failedHow answers givers stack high steps how cellNow own has) sz)) 0 0 (va_A (W_Mod cI cL cZ cR cE a0 a1 a2 a3 a4 a5 a6 a7 a8 a9 a10 a11 a12 a13 a14 a15 a16 a17 a18 a19 a20 a21 a22 thrown most rules editions orders sizes ops numbers cells hasFallback fallbackKinds fallbacks facts states counts days toldAt tells handles handleFacts failures failedRule failedHow answers givers stack high steps how cellNow own has) sz) := by
  refine Met.ofW (cc := b_Mo_keepHandle) (maxL := 2) (ret := none) (by decide) rfl ?_
  intro p e s m args below meth c s₁ B hml hv
  obtain ⟨rfl, hsz, hP, hK, hD0, hN⟩ := hv
  have hx := B.exec
  have hb := B.bytes
  have hr := B.returns
  have hts := atoms_spec (ws := w_Mo_keepHandle) B.pre
  have hown : s.vm.findClass R_Mo = some m.cls := findClass_of_methodNamed B.named
  have hlocks := B.notSynchronized
  subst hsz
  have hD := hD0.self (sz := s.heap.size)
  clear hD0
  generalize hAe : va_A (W_Mod cI cL cZ cR cE a0 a1 a2 a3 a4 a5 a6 a7 a8 a9 a10 a11 a12 a13 a14 a15 a16 a17 a18 a19 a20 a21 a22 thrown most rules editions orders sizes ops numbers cells hasFallback fallbackKinds fallbacks facts states counts days toldAt tells handles handleFacts failures failedRule failedHow answers givers stack high steps how cellNow own has) s.heap.size = A at hD ⊢
  have hA : ∀ q : Nat, s.heap.size ≤ q → A q := fun q h => by rw [← hAe]; exact Or.inr h
  clear hAe
  have hS : va_S A s.heap s.heap [] := va_S.rf
  obtain ⟨H, hH⟩ : ∃ H, H = s.heap := ⟨_, rfl⟩
  rw [← hH] at hP
  replace hS : va_S A s.heap H [] := by rw [hH]; exact hS
  rw [← hH]
  clear hH
  have hi_2 : ∀ w ∈ u_ws R_Mo T_Mo 32, w ∈ w_Mo_keepHandle := fun w h => List.mem_cons_of_mem _ (iu_Mo w h)
  have hk_1 := hts (.fieldLink R_Mo 119 "HandlingRulesModel" "high" "I") (List.mem_cons_of_mem _ kw_591)
  have hk_3 := hts (.fieldLink R_Mo 145 "HandlingRulesModel" "handles" "I") (List.mem_cons_of_mem _ kw_583)
  have hk_4 := hts (.fieldLink R_Mo 54 "HandlingRulesModel" "handleFacts" "[I") (List.mem_cons_of_mem _ kw_584)
  have hk_5 := hts (.fieldLink R_Mo 122 "HandlingRulesModel" "how" "I") (List.mem_cons_of_mem _ kw_593)
  have hl := lv_entry ([.ref a0, .int k]) (n := 2) (Nat.le_of_ble_eq_true rfl)
  rw [lg_entry_eq]
  generalize (lg_sl ([.ref a0, .int k]) ++ List.replicate (2 - (lg_sl ([.ref a0, .int k])).length) Slot.unset).toArray = ls at hl ⊢
  replace hl : lv_has ls 2 [(0, .ref a0), (1, .int k)] := hl
  generalize hT : f_mkeep handles handleFacts stack high how k = T
  refine lv_aload_n hx hb d_Mo_keepHandle_0 rfl (lv_at hl 0 rfl) ?_
  refine va_get (D := G) (ci := 6) (v := .int high) (C := R_Mo) (T := T_Mo) (N := 32) hx hb hts hi_2 hown hK hP 0 rfl rfl 26 (by decide) hk_1 (fun _ h9 => h9) rfl d_Mo_keepHandle_1 ?_
  refine lv_bipush (v := 8) hx hb d_Mo_keepHandle_4 (by decide) ?_
  refine lv_icmp_ne (tgt := 17) hx hb d_Mo_keepHandle_6 (by decide) (fun c_1 => ?_) (fun c_1 => ?_)
  · refine lv_aload_n hx hb d_Mo_keepHandle_17 rfl (lv_at hl 0 rfl) ?_
    refine va_get (D := G) (ci := 6) (v := .int handles) (C := R_Mo) (T := T_Mo) (N := 32) hx hb hts hi_2 hown hK hP 0 rfl rfl 18 (by decide) hk_3 (fun _ h9 => h9) rfl d_Mo_keepHandle_18 ?_
    refine lv_bipush (v := 16) hx hb d_Mo_keepHandle_21 (by decide) ?_
    refine lv_icmp_ne (tgt := 34) hx hb d_Mo_keepHandle_23 (by decide) (fun c_2 => ?_) (fun c_2 => ?_)
    · refine lv_aload_n hx hb d_Mo_keepHandle_34 rfl (lv_at hl 0 rfl) ?_
      refine va_get (D := G) (ci := 6) (v := .ref a15) (C := R_Mo) (T := T_Mo) (N := 32) hx hb hts hi_2 hown hK hP 0 rfl rfl 19 (by decide) hk_4 (fun _ h9 => h9) rfl d_Mo_keepHandle_35 ?_
      refine lv_aload_n hx hb d_Mo_keepHandle_38 rfl (lv_at hl 0 rfl) ?_
      refine va_get (D := G) (ci := 6) (v := .int handles) (C := R_Mo) (T := T_Mo) (N := 32) hx hb hts hi_2 hown hK hP 0 rfl rfl 18 (by decide) hk_3 (fun _ h9 => h9) rfl d_Mo_keepHandle_39 ?_
      refine lv_iload_n hx hb d_Mo_keepHandle_42 rfl (lv_at hl 1 rfl) ?_
      refine va_iast hx hb hK hP hD hS 15 0 rfl rfl (ix_le hc c_2 rfl) d_Mo_keepHandle_43 (fun H locs hP hD hS => ?_)
      replace hP : va_P G vwCl (W_Mod cI cL cZ cR cE a0 a1 a2 a3 a4 a5 a6 a7 a8 a9 a10 a11 a12 a13 a14 a15 a16 a17 a18 a19 a20 a21 a22 thrown most rules editions orders sizes ops numbers cells hasFallback fallbackKinds fallbacks facts states counts days toldAt tells handles (upd handleFacts handles.toNatClampNeg k) failures failedRule failedHow answers givers stack high steps how cellNow own has) H := hP
      replace hD : va_D A (W_Mod cI cL cZ cR cE a0 a1 a2 a3 a4 a5 a6 a7 a8 a9 a10 a11 a12 a13 a14 a15 a16 a17 a18 a19 a20 a21 a22 thrown most rules editions orders sizes ops numbers cells hasFallback fallbackKinds fallbacks facts states counts days toldAt tells handles (upd handleFacts handles.toNatClampNeg k) failures failedRule failedHow answers givers stack high steps how cellNow own has) := hD
      refine lv_aload_n hx hb d_Mo_keepHandle_44 rfl (lv_at hl 0 rfl) ?_
      refine lv_aload_n hx hb d_Mo_keepHandle_45 rfl (lv_at hl 0 rfl) ?_
      refine va_get (D := G) (ci := 6) (v := .int handles) (C := R_Mo) (T := T_Mo) (N := 32) hx hb hts hi_2 hown hK hP 0 rfl rfl 18 (by decide) hk_3 (fun _ h9 => h9) rfl d_Mo_keepHandle_46 ?_
      refine lv_i2l (v := handles.toInt64) hx hb d_Mo_keepHandle_49 rfl ?_
      refine cl_v hK hP hD hS hA (va_runV (As := [.long handles.toInt64]) (rest := []) ⟨hx, hb, hml, hown, hts⟩ (c_mpush l G cI cL cZ cR cE H.size a0 a1 a2 a3 a4 a5 a6 a7 a8 a9 a10 a11 a12 a13 a14 a15 a16 a17 a18 a19 a20 a21 a22 thrown most rules editions orders sizes ops numbers cells hasFallback fallbackKinds fallbacks facts states counts days toldAt tells handles (upd handleFacts handles.toNatClampNeg k) failures failedRule failedHow answers givers stack high steps how cellNow own has handles.toInt64 hh) (cwV 1 hts (gV kw_723 kw_725 kw_11 kw_21 kw_726) rfl rfl rfl (by decide +kernel) ⟨Nat.le_of_ble_eq_true rfl, Nat.le_of_ble_eq_true rfl⟩) (preWV_of (ci := 6) hN hK hP hD [0, 1, 2, 3, 4, 5, 6, 7, 8, 9, 10, 11, 12, 13, 14, 15, 16, 17, 18, 19, 20, 21, 22] (by decide) rfl rfl rfl) rfl rfl hl.1 rfl (lv_room (Nat.le_of_ble_eq_true rfl)) d_Mo_keepHandle_50 ⟨Nat.le_of_ble_eq_true rfl, Nat.le_of_ble_eq_true rfl⟩) [0, 1, 2, 3, 4, 5, 6, 7, 8, 9, 10, 11, 12, 13, 14, 15, 16, 17, 18, 19, 20, 21, 22] [] rfl rfl (by decide) (by decide) (fun u H locs hw_5 hP hD hS => ?_)
      obtain ⟨x_stack_6, x_high_7, x_how_8⟩ := u
      replace hP : va_P G vwCl (W_Mod cI cL cZ cR cE a0 a1 a2 a3 a4 a5 a6 a7 a8 a9 a10 a11 a12 a13 a14 a15 a16 a17 a18 a19 a20 a21 a22 thrown most rules editions orders sizes ops numbers cells hasFallback fallbackKinds fallbacks facts states counts days toldAt tells handles (upd handleFacts handles.toNatClampNeg k) failures failedRule failedHow answers givers x_stack_6 x_high_7 steps x_how_8 cellNow own has) H := hP.sub [0, 1, 2, 3, 4, 5, 6, 7, 8, 9, 10, 11, 12, 13, 14, 15, 16, 17, 18, 19, 20, 21, 22] rfl
      replace hD : va_D A (W_Mod cI cL cZ cR cE a0 a1 a2 a3 a4 a5 a6 a7 a8 a9 a10 a11 a12 a13 a14 a15 a16 a17 a18 a19 a20 a21 a22 thrown most rules editions orders sizes ops numbers cells hasFallback fallbackKinds fallbacks facts states counts days toldAt tells handles (upd handleFacts handles.toNatClampNeg k) failures failedRule failedHow answers givers x_stack_6 x_high_7 steps x_how_8 cellNow own has) := hD.sub [0, 1, 2, 3, 4, 5, 6, 7, 8, 9, 10, 11, 12, 13, 14, 15, 16, 17, 18, 19, 20, 21, 22] (by decide) rfl
      refine lv_aload_n hx hb d_Mo_keepHandle_53 rfl (lv_at hl 0 rfl) ?_
      refine lv_dup hx hb d_Mo_keepHandle_54 rfl ?_
      refine va_get (D := G) (ci := 6) (v := .int handles) (C := R_Mo) (T := T_Mo) (N := 32) hx hb hts hi_2 hown hK hP 0 rfl rfl 18 (by decide) hk_3 (fun _ h9 => h9) rfl d_Mo_keepHandle_55 ?_
      refine lv_iconst (v := 1) hx hb d_Mo_keepHandle_58 (by decide) ?_
      refine lv_iadd hx hb d_Mo_keepHandle_59 ?_
      refine va_put (D := G) (ci := 6) (v := .int (handles + 1)) (ty := (.int)) (C := R_Mo) (T := T_Mo) (N := 32) hx hb hts hi_2 ty_Mo tyk_Mo nm_Mo hown hK hP hD hS 0 rfl rfl 18 (by decide) hk_3 (fun _ h9 => h9) rfl (by decide +kernel) rfl rfl (Nat.le_of_ble_eq_true rfl) d_Mo_keepHandle_60 (fun H locs hP hD hS => ?_)
      replace hP : va_P G vwCl (W_Mod cI cL cZ cR cE a0 a1 a2 a3 a4 a5 a6 a7 a8 a9 a10 a11 a12 a13 a14 a15 a16 a17 a18 a19 a20 a21 a22 thrown most rules editions orders sizes ops numbers cells hasFallback fallbackKinds fallbacks facts states counts days toldAt tells (handles + 1) (upd handleFacts handles.toNatClampNeg k) failures failedRule failedHow answers givers x_stack_6 x_high_7 steps x_how_8 cellNow own has) H := hP
      replace hD : va_D A (W_Mod cI cL cZ cR cE a0 a1 a2 a3 a4 a5 a6 a7 a8 a9 a10 a11 a12 a13 a14 a15 a16 a17 a18 a19 a20 a21 a22 thrown most rules editions orders sizes ops numbers cells hasFallback fallbackKinds fallbacks facts states counts days toldAt tells (handles + 1) (upd handleFacts handles.toNatClampNeg k) failures failedRule failedHow answers givers x_stack_6 x_high_7 steps x_how_8 cellNow own has) := hD
      exact W.vret hx hb hr (fun t ht hW => ⟨⟨(handles + 1, upd handleFacts handles.toNatClampNeg k, x_stack_6, x_high_7, x_how_8), rfl, (by rw [← hT]; simp only [f_mkeep, if_neg c_1, if_neg c_2, ← hw_5]), by rw [ht]; exact hP, va_K.moved hW.alike hK, hD⟩, hS.F ht⟩) hS.2.2 d_Mo_keepHandle_63
    · refine lv_aload_n hx hb d_Mo_keepHandle_26 rfl (lv_at hl 0 rfl) ?_
      refine lv_iconst (v := 4) hx hb d_Mo_keepHandle_27 (by decide) ?_
      refine va_put (D := G) (ci := 6) (v := .int 4) (ty := (.int)) (C := R_Mo) (T := T_Mo) (N := 32) hx hb hts hi_2 ty_Mo tyk_Mo nm_Mo hown hK hP hD hS 0 rfl rfl 28 (by decide) hk_5 (fun _ h9 => h9) rfl (by decide +kernel) rfl rfl (Nat.le_of_ble_eq_true rfl) d_Mo_keepHandle_28 (fun H locs hP hD hS => ?_)
      replace hP : va_P G vwCl (W_Mod cI cL cZ cR cE a0 a1 a2 a3 a4 a5 a6 a7 a8 a9 a10 a11 a12 a13 a14 a15 a16 a17 a18 a19 a20 a21 a22 thrown most rules editions orders sizes ops numbers cells hasFallback fallbackKinds fallbacks facts states counts days toldAt tells handles handleFacts failures failedRule failedHow answers givers stack high steps 4 cellNow own has) H := hP
      replace hD : va_D A (W_Mod cI cL cZ cR cE a0 a1 a2 a3 a4 a5 a6 a7 a8 a9 a10 a11 a12 a13 a14 a15 a16 a17 a18 a19 a20 a21 a22 thrown most rules editions orders sizes ops numbers cells hasFallback fallbackKinds fallbacks facts states counts days toldAt tells handles handleFacts failures failedRule failedHow answers givers stack high steps 4 cellNow own has) := hD
      refine lv_goto (tgt := 63) hx hb d_Mo_keepHandle_31 (by decide) ?_
      exact W.vret hx hb hr (fun t ht hW => ⟨⟨(handles, handleFacts, stack, high, 4), rfl, (by rw [← hT]; simp only [f_mkeep, if_neg c_1, if_pos c_2]), by rw [ht]; exact hP, va_K.moved hW.alike hK, hD⟩, hS.F ht⟩) hS.2.2 d_Mo_keepHandle_63
  · refine lv_aload_n hx hb d_Mo_keepHandle_9 rfl (lv_at hl 0 rfl) ?_
    refine lv_iconst (v := 3) hx hb d_Mo_keepHandle_10 (by decide) ?_
    refine va_put (D := G) (ci := 6) (v := .int 3) (ty := (.int)) (C := R_Mo) (T := T_Mo) (N := 32) hx hb hts hi_2 ty_Mo tyk_Mo nm_Mo hown hK hP hD hS 0 rfl rfl 28 (by decide) hk_5 (fun _ h9 => h9) rfl (by decide +kernel) rfl rfl (Nat.le_of_ble_eq_true rfl) d_Mo_keepHandle_11 (fun H locs hP hD hS => ?_)
    replace hP : va_P G vwCl (W_Mod cI cL cZ cR cE a0 a1 a2 a3 a4 a5 a6 a7 a8 a9 a10 a11 a12 a13 a14 a15 a16 a17 a18 a19 a20 a21 a22 thrown most rules editions orders sizes ops numbers cells hasFallback fallbackKinds fallbacks facts states counts days toldAt tells handles handleFacts failures failedRule failedHow answers givers stack high steps 3 cellNow own has) H := hP
    replace hD : va_D A (W_Mod cI cL cZ cR cE a0 a1 a2 a3 a4 a5 a6 a7 a8 a9 a10 a11 a12 a13 a14 a15 a16 a17 a18 a19 a20 a21 a22 thrown most rules editions orders sizes ops numbers cells hasFallback fallbackKinds fallbacks facts states counts days toldAt tells handles handleFacts failures failedRule failedHow answers givers stack high steps 3 cellNow own has) := hD
    refine lv_goto (tgt := 63) hx hb d_Mo_keepHandle_14 (by decide) ?_
    exact W.vret hx hb hr (fun t ht hW => ⟨⟨(handles, handleFacts, stack, high, 3), rfl, (by rw [← hT]; simp only [f_mkeep, if_pos c_1]), by rw [ht]; exact hP, va_K.moved hW.alike hK, hD⟩, hS.F ht⟩) hS.2.2 d_Mo_keepHandle_63
def f_mgive (answers : Nat → Int64) (givers : Nat → Int32) (k : Int32) (w : Int64) (r : Int32) : (Nat → Int64) × (Nat → Int32) := if (givers k.toNatClampNeg) = (-1) then (vp_updL answers k.toNatClampNeg w, upd givers k.toNatClampNeg r) else (answers, givers)
set_option maxHeartbeats 4000000 in
set_option maxRecDepth 100000 in
theorem c_mgive (l : Launch) (G : va_G) (cI cL cZ cR cE : ClassId) (sz : Nat) (a0 a1 a2 a3 a4 a5 a6 a7 a8 a9 a10 a11 a12 a13 a14 a15 a16 a17 a18 a19 a20 a21 a22 : Nat) (thrown : Int32) (most : Int32) (rules : Int32) (editions : Nat → Int32) (orders : Nat → Int32) (sizes : Nat → Int32) (ops : Nat → Int32) (numbers : Nat → Int64) (cells : Nat → Int64) (hasFallback : Nat → Int32) (fallbackKinds : Nat → Int32) (fallbacks : Nat → Int64) (facts : Nat → Int64) (states : Nat → Int32) (counts : Nat → Int32) (days : Nat → Int32) (toldAt : Nat → Int32) (tells : Int32) (handles : Int32) (handleFacts : Nat → Int32) (failures : Int32) (failedRule : Nat → Int32) (failedHow : Nat → Int32) (answers : Nat → Int64) (givers : Nat → Int32) (stack : Nat → Int64) (high : Int32) (steps : Int32) (how : Int32) (cellNow : Int64) (own : Nat → Int64) (has : Nat → Int32) (k : Int32) (w : Int64) (r : Int32) (hk : vp_in k 4) : Met l y_Mo_give w_Mo_give ({ frames := 0, cells := 0, slots := 0, locals := 0 }) (preW G (TYS cI cL cZ cR cE) [.ref a0, .int k, .long w, .int r] sz (W_Mod cI cL cZ cR cE a0 a1 a2 a3 a4 a5 a6 a7 a8 a9 a10 a11 a12 a13 a14 a15 a16 a17 a18 a19 a20 a21 a22 thrown most rules editions orders sizes ops numbers cells hasFallback fallbackKinds fallbacks facts states counts days toldAt tells handles handleFacts failures failedRule failedHow answers givers stack high steps how cellNow own has)) (va_Qv (fun u : (Nat → Int64) × (Nat → Int32) => u = f_mgive answers givers k w r) (fun u t => va_P G vwCl (W_Mod cI cL cZ cR cE a0 a1 a2 a3 a4 a5 a6 a7 a8 a9 a10 a11 a12 a13 a14 a15 a16 a17 a18 a19 a20 a21 a22 thrown most rules editions orders sizes ops numbers cells hasFallback fallbackKinds fallbacks facts states counts days toldAt tells handles handleFacts failures failedRule failedHow u.1 u.2 stack high steps how cellNow own has) t.heap ∧ va_K G vwCl (TYS cI cL cZ cR cE) t ∧ va_D (va_A (W_Mod cI cL cZ cR cE a0 a1 a2 a3 a4 a5 a6 a7 a8 a9 a10 a11 a12 a13 a14 a15 a16 a17 a18 a19 a20 a21 a22 thrown most rules editions orders sizes ops numbers cells hasFallback fallbackKinds fallbacks facts states counts days toldAt tells handles handleFacts failures failedRule failedHow answers givers stack high steps how cellNow own has) sz) (W_Mod cI cL cZ cR cE a0 a1 a2 a3 a4 a5 a6 a7 a8 a9 a10 a11 a12 a13 a14 a15 a16 a17 a18 a19 a20 a21 a22 thrown most rules editions orders sizes ops numbers cells hasFallback fallbackKinds fallbacks facts states counts days toldAt tells handles handleFacts failures failedRule failedHow u.1 u.2 stack high steps how cellNow own has)) (va_A (W_Mod cI cL cZ cR cE a0 a1 a2 a3 a4 a5 a6 a7 a8 a9 a10 a11 a12 a13 a14 a15 a16 a17 a18 a19 a20 a21 a22 thrown most rules editions orders sizes ops numbers cells hasFallback fallbackKinds fallbacks facts states counts days toldAt tells handles handleFacts failures failedRule failedHow answers givers stack high steps how cellNow own has) sz)) 0 0 (va_A (W_Mod cI cL cZ cR cE a0 a1 a2 a3 a4 a5 a6 a7 a8 a9 a10 a11 a12 a13 a14 a15 a16 a17 a18 a19 a20 a21 a22 thrown most rules editions orders sizes ops numbers cells hasFallback fallbackKinds fallbacks facts states counts days toldAt tells handles handleFacts failures failedRule failedHow answers givers stack high steps how cellNow own has) sz) := by
  refine Met.ofW (cc := b_Mo_give) (maxL := 5) (ret := none) (by decide) rfl ?_
  intro p e s m args below meth c s₁ B hml hv
  obtain ⟨rfl, hsz, hP, hK, hD0, hN⟩ := hv
  have hx := B.exec
  have hb := B.bytes
  have hr := B.returns
  have hts := atoms_spec (ws := w_Mo_give) B.pre
  have hown : s.vm.findClass R_Mo = some m.cls := findClass_of_methodNamed B.named
  have hlocks := B.notSynchronized
  subst hsz
  have hD := hD0.self (sz := s.heap.size)
  clear hD0
  generalize hAe : va_A (W_Mod cI cL cZ cR cE a0 a1 a2 a3 a4 a5 a6 a7 a8 a9 a10 a11 a12 a13 a14 a15 a16 a17 a18 a19 a20 a21 a22 thrown most rules editions orders sizes ops numbers cells hasFallback fallbackKinds fallbacks facts states counts days toldAt tells handles handleFacts failures failedRule failedHow answers givers stack high steps how cellNow own has) s.heap.size = A at hD ⊢
  have hA : ∀ q : Nat, s.heap.size ≤ q → A q := fun q h => by rw [← hAe]; exact Or.inr h
  clear hAe
  have hS : va_S A s.heap s.heap [] := va_S.rf
  obtain ⟨H, hH⟩ : ∃ H, H = s.heap := ⟨_, rfl⟩
  rw [← hH] at hP
  replace hS : va_S A s.heap H [] := by rw [hH]; exact hS
  rw [← hH]
  clear hH
  have hi_2 : ∀ w ∈ u_ws R_Mo T_Mo 32, w ∈ w_Mo_give := fun w h => List.mem_cons_of_mem _ (iu_Mo w h)
  have hk_1 := hts (.fieldLink R_Mo 66 "HandlingRulesModel" "givers" "[I") (List.mem_cons_of_mem _ kw_589)
  have hk_3 := hts (.fieldLink R_Mo 63 "HandlingRulesModel" "answers" "[J") (List.mem_cons_of_mem _ kw_588)
  have hl := lv_entry ([.ref a0, .int k, .long w, .int r]) (n := 5) (Nat.le_of_ble_eq_true rfl)
  rw [lg_entry_eq]
  generalize (lg_sl ([.ref a0, .int k, .long w, .int r]) ++ List.replicate (5 - (lg_sl ([.ref a0, .int k, .long w, .int r])).length) Slot.unset).toArray = ls at hl ⊢
  replace hl : lv_has ls 5 [(0, .ref a0), (1, .int k), (2, .long w), (4, .int r)] := hl
  generalize hT : f_mgive answers givers k w r = T
  refine lv_aload_n hx hb d_Mo_give_0 rfl (lv_at hl 0 rfl) ?_
  refine va_get (D := G) (ci := 6) (v := .ref a19) (C := R_Mo) (T := T_Mo) (N := 32) hx hb hts hi_2 hown hK hP 0 rfl rfl 24 (by decide) hk_1 (fun _ h9 => h9) rfl d_Mo_give_1 ?_
  refine lv_iload_n hx hb d_Mo_give_4 rfl (lv_at hl 1 rfl) ?_
  refine va_iald hx hb hK hP 19 0 rfl rfl hk d_Mo_give_5 ?_
  refine lv_iconst (v := (-1)) hx hb d_Mo_give_6 (by decide) ?_
  refine lv_icmp_ne (tgt := 25) hx hb d_Mo_give_7 (by decide) (fun c_1 => ?_) (fun c_1 => ?_)
  · exact W.vret hx hb hr (fun t ht hW => ⟨⟨(answers, givers), rfl, (by rw [← hT]; simp only [f_mgive, if_neg c_1]), by rw [ht]; exact hP, va_K.moved hW.alike hK, hD⟩, hS.F ht⟩) hS.2.2 d_Mo_give_25
  · refine lv_aload_n hx hb d_Mo_give_10 rfl (lv_at hl 0 rfl) ?_
    refine va_get (D := G) (ci := 6) (v := .ref a18) (C := R_Mo) (T := T_Mo) (N := 32) hx hb hts hi_2 hown hK hP 0 rfl rfl 23 (by decide) hk_3 (fun _ h9 => h9) rfl d_Mo_give_11 ?_
    refine lv_iload_n hx hb d_Mo_give_14 rfl (lv_at hl 1 rfl) ?_
    refine lv_lload_n hx hb d_Mo_give_15 rfl (lv_at hl 2 rfl) ?_
    refine va_last hx hb hK hP hD hS 18 1 rfl rfl hk d_Mo_give_16 (fun H locs hP hD hS => ?_)
    replace hP : va_P G vwCl (W_Mod cI cL cZ cR cE a0 a1 a2 a3 a4 a5 a6 a7 a8 a9 a10 a11 a12 a13 a14 a15 a16 a17 a18 a19 a20 a21 a22 thrown most rules editions orders sizes ops numbers cells hasFallback fallbackKinds fallbacks facts states counts days toldAt tells handles handleFacts failures failedRule failedHow (vp_updL answers k.toNatClampNeg w) givers stack high steps how cellNow own has) H := hP
    replace hD : va_D A (W_Mod cI cL cZ cR cE a0 a1 a2 a3 a4 a5 a6 a7 a8 a9 a10 a11 a12 a13 a14 a15 a16 a17 a18 a19 a20 a21 a22 thrown most rules editions orders sizes ops numbers cells hasFallback fallbackKinds fallbacks facts states counts days toldAt tells handles handleFacts failures failedRule failedHow (vp_updL answers k.toNatClampNeg w) givers stack high steps how cellNow own has) := hD
    refine lv_aload_n hx hb d_Mo_give_17 rfl (lv_at hl 0 rfl) ?_
    refine va_get (D := G) (ci := 6) (v := .ref a19) (C := R_Mo) (T := T_Mo) (N := 32) hx hb hts hi_2 hown hK hP 0 rfl rfl 24 (by decide) hk_1 (fun _ h9 => h9) rfl d_Mo_give_18 ?_
    refine lv_iload_n hx hb d_Mo_give_21 rfl (lv_at hl 1 rfl) ?_
    refine lv_iload hx hb d_Mo_give_22 (lv_at hl 3 rfl) ?_
    refine va_iast hx hb hK hP hD hS 19 0 rfl rfl hk d_Mo_give_24 (fun H locs hP hD hS => ?_)
    replace hP : va_P G vwCl (W_Mod cI cL cZ cR cE a0 a1 a2 a3 a4 a5 a6 a7 a8 a9 a10 a11 a12 a13 a14 a15 a16 a17 a18 a19 a20 a21 a22 thrown most rules editions orders sizes ops numbers cells hasFallback fallbackKinds fallbacks facts states counts days toldAt tells handles handleFacts failures failedRule failedHow (vp_updL answers k.toNatClampNeg w) (upd givers k.toNatClampNeg r) stack high steps how cellNow own has) H := hP
    replace hD : va_D A (W_Mod cI cL cZ cR cE a0 a1 a2 a3 a4 a5 a6 a7 a8 a9 a10 a11 a12 a13 a14 a15 a16 a17 a18 a19 a20 a21 a22 thrown most rules editions orders sizes ops numbers cells hasFallback fallbackKinds fallbacks facts states counts days toldAt tells handles handleFacts failures failedRule failedHow (vp_updL answers k.toNatClampNeg w) (upd givers k.toNatClampNeg r) stack high steps how cellNow own has) := hD
    exact W.vret hx hb hr (fun t ht hW => ⟨⟨(vp_updL answers k.toNatClampNeg w, upd givers k.toNatClampNeg r), rfl, (by rw [← hT]; simp only [f_mgive, if_pos c_1]), by rw [ht]; exact hP, va_K.moved hW.alike hK, hD⟩, hS.F ht⟩) hS.2.2 d_Mo_give_25
theorem ix_mwn {k x : Int32} {n : Nat} (h : ¬ f_mwithin k.toInt64 0 ((x - 1).toInt64) = 0) (hR : 0 ≤ x.toInt ∧ x.toInt ≤ (n : Int)) : vp_in k n := by
  obtain ⟨h1, h2⟩ := (f_mwithin_iff _ _ _).mp h
  rw [vp_in_iff]
  rw [show (0 : Int64).toInt = 0 from rfl, Int32.toInt_toInt64] at h1
  rw [Int32.toInt_toInt64, Int32.toInt_toInt64] at h2
  have h5 : (1 : Int32).toInt = 1 := rfl
  rw [i32_sub (by omega) (by have := Int32.toInt_le x; have h6 : Int32.maxValue.toInt = 2147483647 := rfl; omega)] at h2
  omega
theorem ix_mwl {a : Int64} {x : Int32} {n : Nat} (h : ¬ f_mwithin a 0 ((x - 1).toInt64) = 0) (hR : 0 ≤ x.toInt ∧ x.toInt ≤ (n : Int)) : vp_in a.toInt32 n := by
  obtain ⟨h1, h2⟩ := (f_mwithin_iff _ _ _).mp h
  rw [show (0 : Int64).toInt = 0 from rfl] at h1
  rw [Int32.toInt_toInt64] at h2
  have h5 : (1 : Int32).toInt = 1 := rfl
  have h7 := Int32.toInt_le x
  have h6 : Int32.maxValue.toInt = 2147483647 := rfl
  rw [i32_sub (by omega) (by omega)] at h2
  rw [vp_in_iff, l2i_small (by omega) (by omega)]
  omega
theorem ix_med {ed : Int32} (h : ¬ f_misEdition ed = 0) : vp_in ed 6 := ix_mw h rfl (by decide)
theorem ix_or {x : Int32} {n : Nat} (h : x = (-1) ∨ vp_in x n) (h2 : ¬ x = (-1)) : vp_in x n := h.elim (fun q => absurd q h2) id
theorem i32_mul12 {r : Int32} (h : vp_in r 40) : (12 * r).toInt = 12 * r.toInt := by
  rw [vp_in_iff] at h
  rw [Int32.toInt_mul]
  have h0 : (12 : Int32).toInt = 12 := rfl
  rw [h0]
  exact Int.bmod_eq_of_le (by omega) (by omega)
theorem ix_12a {r z : Int32} (h : vp_in r 40) (hz : 0 ≤ z.toInt ∧ z.toInt < 12) : vp_in (12 * r + z) 480 := by
  have h1 := i32_mul12 h
  rw [vp_in_iff] at h ⊢
  rw [i32_add (by omega) (by omega)]
  omega
theorem ix_12 {r z : Int32} (h : vp_in r 40) (hz : 0 ≤ z.toInt ∧ z.toInt ≤ 12) (h2 : ¬ z = 12) : vp_in (12 * r + z) 480 := by
  have h3 : z.toInt ≠ (12 : Int32).toInt := fun q => h2 (Int32.toInt_inj.mp q)
  have h4 : (12 : Int32).toInt = 12 := rfl
  exact ix_12a h (by omega)
theorem ix_k {k rules : Int32} {b d : Prop} (hI : 0 ≤ k.toInt ∧ k.toInt ≤ 40 ∧ b ∧ d) (hR : 0 ≤ rules.toInt ∧ rules.toInt ≤ 40) (h : ¬ rules ≤ k) : vp_in k 40 := by
  rw [Int32.le_iff_toInt_le] at h
  rw [vp_in_iff]
  omega
theorem beh_step {k rules best2 : Int32} {n : Nat} {d : Prop} (hI : 0 ≤ k.toInt ∧ k.toInt ≤ 40 ∧ 41 ≤ k.toInt + ((n + 1 : Nat) : Int) ∧ d) (hR : 0 ≤ rules.toInt ∧ rules.toInt ≤ 40) (h : ¬ rules ≤ k) (hb : best2 = (-1) ∨ vp_in best2 40) : 0 ≤ (k + 1).toInt ∧ (k + 1).toInt ≤ 40 ∧ 41 ≤ (k + 1).toInt + (n : Int) ∧ (best2 = (-1) ∨ vp_in best2 40) := by
  rw [Int32.le_iff_toInt_le] at h
  obtain ⟨h1, h2, h3, -⟩ := hI
  rw [i32_inc (by omega)]
  exact ⟨by omega, by omega, by omega, hb⟩
theorem mneeds_02 (op : Int32) : 0 ≤ (f_mneeds op).toInt ∧ (f_mneeds op).toInt ≤ 2 := by
  unfold f_mneeds
  repeat (first | decide | split)
theorem hn_le {h d : Int32} (hh : 0 ≤ h.toInt ∧ h.toInt ≤ 8) (hd : 0 ≤ d.toInt ∧ d.toInt ≤ 2) (hc : d ≤ h) : 0 ≤ (h - d).toInt ∧ (h - d).toInt ≤ 8 := by
  rw [Int32.le_iff_toInt_le] at hc
  rw [i32_sub (by omega) (by omega)]
  omega
theorem ix_hn {h d : Int32} (hh : 0 ≤ h.toInt ∧ h.toInt ≤ 8) (hd : 0 ≤ d.toInt ∧ d.toInt ≤ 2) (hc : d ≤ h) (h8 : ¬ 8 ≤ h - d) : vp_in (h - d) 8 := by
  have h1 := hn_le hh hd hc
  rw [Int32.le_iff_toInt_le] at h8
  have h2 : (8 : Int32).toInt = 8 := rfl
  rw [vp_in_iff]
  omega
theorem ix_hn1 {h d : Int32} (hh : 0 ≤ h.toInt ∧ h.toInt ≤ 8) (hd : 0 ≤ d.toInt ∧ d.toInt ≤ 2) (hc : d ≤ h) (h8 : ¬ 8 ≤ (h - d) + 1) : vp_in ((h - d) + 1) 8 := by
  have h1 := hn_le hh hd hc
  rw [Int32.le_iff_toInt_le] at h8
  have h2 : (8 : Int32).toInt = 8 := rfl
  rw [i32_inc (by omega)] at h8
  rw [vp_in_iff, i32_inc (by omega)]
  omega
theorem i32_ge0 {x : Int32} (h : 0 ≤ x.toInt) : ¬ x < 0 := by
  rw [Int32.lt_iff_toInt_lt]
  have h0 : (0 : Int32).toInt = 0 := rfl
  omega
