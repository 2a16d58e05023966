def L_mtest (most : Int32) (rules : Int32) (editions : Nat → Int32) (orders : Nat → Int32) (sizes : Nat → Int32) (ops : Nat → Int32) (numbers : Nat → Int64) (cells : Nat → Int64) (facts : Nat → Int64) (ed : Int32) : Nat → Int32 → Int32 → Int32 → (Nat → Int32) → Int32 → (Nat → Int32) → (Nat → Int32) → (Nat → Int64) → Int32 → Int32 → Int32 → Int64 → (Nat → Int64) → (Nat → Int32) → Int32 × Int32 × Int32 × (Nat → Int32) × Int32 × (Nat → Int32) × (Nat → Int32) × (Nat → Int64) × Int32 × Int32 × Int32 × Int64 × (Nat → Int64) × (Nat → Int32)
  | 0, all_, rule_, y_handles, y_handleFacts, y_failures, y_failedRule, y_failedHow, y_stack, y_high, y_steps, y_how, y_cellNow, y_own, y_has => (all_, rule_, y_handles, y_handleFacts, y_failures, y_failedRule, y_failedHow, y_stack, y_high, y_steps, y_how, y_cellNow, y_own, y_has)
  | n + 1, all_, rule_, y_handles, y_handleFacts, y_failures, y_failedRule, y_failedHow, y_stack, y_high, y_steps, y_how, y_cellNow, y_own, y_has => if rule_ = (-1) then (all_, rule_, y_handles, y_handleFacts, y_failures, y_failedRule, y_failedHow, y_stack, y_high, y_steps, y_how, y_cellNow, y_own, y_has) else (match f_mdoAll most sizes ops numbers cells facts y_handles y_handleFacts y_failures y_failedRule y_failedHow y_stack y_own y_has rule_ with | (x_handles_9, x_handleFacts_10, x_failures_11, x_failedRule_12, x_failedHow_13, x_stack_14, x_high_15, x_steps_16, x_how_17, x_cellNow_18, x_own_19, x_has_20) => (L_mtest most rules editions orders sizes ops numbers cells facts ed n (all_ + x_steps_16) (f_mbehind rules editions orders ed rule_) x_handles_9 x_handleFacts_10 x_failures_11 x_failedRule_12 x_failedHow_13 x_stack_14 x_high_15 x_steps_16 x_how_17 x_cellNow_18 x_own_19 x_has_20))
def f_mtest (most : Int32) (rules : Int32) (editions : Nat → Int32) (orders : Nat → Int32) (sizes : Nat → Int32) (ops : Nat → Int32) (numbers : Nat → Int64) (cells : Nat → Int64) (facts : Nat → Int64) (states : Nat → Int32) (handles : Int32) (handleFacts : Nat → Int32) (failures : Int32) (failedRule : Nat → Int32) (failedHow : Nat → Int32) (stack : Nat → Int64) (high : Int32) (steps : Int32) (how : Int32) (cellNow : Int64) (own : Nat → Int64) (has : Nat → Int32) (ed : Int32) : Int32 × Int32 × (Nat → Int32) × Int32 × (Nat → Int32) × Int32 × (Nat → Int32) × (Nat → Int32) × (Nat → Int64) × Int32 × Int32 × Int32 × Int64 × (Nat → Int64) × (Nat → Int32) := if (f_misEdition ed) = 0 then ((-102), (0, states, handles, handleFacts, failures, failedRule, failedHow, stack, high, steps, how, cellNow, own, has)) else (if (states ed.toNatClampNeg) = 1 then (match L_mtest most rules editions orders sizes ops numbers cells facts ed 9 0 (f_mbehind rules editions orders ed (-1)) 0 handleFacts 0 failedRule failedHow stack high steps how cellNow own has with | (z_all__22, z_rule__23, z_y_handles_24, z_y_handleFacts_25, z_y_failures_26, z_y_failedRule_27, z_y_failedHow_28, z_y_stack_29, z_y_high_30, z_y_steps_31, z_y_how_32, z_y_cellNow_33, z_y_own_34, z_y_has_35) => (z_all__22, (0, upd states ed.toNatClampNeg (if z_y_failures_26 ≤ 0 then (2 : Int32) else 3), z_y_handles_24, z_y_handleFacts_25, z_y_failures_26, z_y_failedRule_27, z_y_failedHow_28, z_y_stack_29, z_y_high_30, z_y_steps_31, z_y_how_32, z_y_cellNow_33, z_y_own_34, z_y_has_35))) else ((-103), (0, states, handles, handleFacts, failures, failedRule, failedHow, stack, high, steps, how, cellNow, own, has)))
set_option maxHeartbeats 4000000 in
set_option maxRecDepth 100000 in
theorem c_mtest (l : Launch) (G : va_G) (cI cL cZ cR cE : ClassId) (sz : Nat) (a0 a1 a2 a3 a4 a5 a6 a7 a8 a9 a10 a11 a12 a13 a14 a15 a16 a17 a18 a19 a20 a21 a22 : Nat) (thrown : Int32) (most : Int32) (rules : Int32) (editions : Nat → Int32) (orders : Nat → Int32) (sizes : Nat → Int32) (ops : Nat → Int32) (numbers : Nat → Int64) (cells : Nat → Int64) (hasFallback : Nat → Int32) (fallbackKinds : Nat → Int32) (fallbacks : Nat → Int64) (facts : Nat → Int64) (states : Nat → Int32) (counts : Nat → Int32) (days : Nat → Int32) (toldAt : Nat → Int32) (tells : Int32) (handles : Int32) (handleFacts : Nat → Int32) (failures : Int32) (failedRule : Nat → Int32) (failedHow : Nat → Int32) (answers : Nat → Int64) (givers : Nat → Int32) (stack : Nat → Int64) (high : Int32) (steps : Int32) (how : Int32) (cellNow : Int64) (own : Nat → Int64) (has : Nat → Int32) (ed : Int32) (o : Nat → Int32) (cnt : Nat) (hgo : ¬ f_misEdition ed = 0 → GH rules editions orders ed o cnt) (hR : 0 ≤ rules.toInt ∧ rules.toInt ≤ 40) (hZ : ∀ j, 0 ≤ (sizes j).toInt ∧ (sizes j).toInt ≤ 12) (hm : 0 ≤ most.toInt ∧ most.toInt ≤ 100) (hhf : ∀ j, vp_in (handleFacts j) 8) (hV : ∀ j, okN (ops j) (numbers j)) : Met l y_Mo_test w_Mo_test ({ frames := 4, cells := 0, slots := 0, locals := 95 }) (preW G (TYS cI cL cZ cR cE) [.ref a0, .int ed] sz (W_Mod cI cL cZ cR cE a0 a1 a2 a3 a4 a5 a6 a7 a8 a9 a10 a11 a12 a13 a14 a15 a16 a17 a18 a19 a20 a21 a22 thrown most rules editions orders sizes ops numbers cells hasFallback fallbackKinds fallbacks facts states counts days toldAt tells handles handleFacts failures failedRule failedHow answers givers stack high steps how cellNow own has)) (va_Qi (fun (ans_ : Int32) (u : Int32 × (Nat → Int32) × Int32 × (Nat → Int32) × Int32 × (Nat → Int32) × (Nat → Int32) × (Nat → Int64) × Int32 × Int32 × Int32 × Int64 × (Nat → Int64) × (Nat → Int32)) => (ans_, u) = f_mtest most rules editions orders sizes ops numbers cells facts states handles handleFacts failures failedRule failedHow stack high steps how cellNow own has ed) (fun u t => va_P G vwCl (W_Mod cI cL cZ cR cE a0 a1 a2 a3 a4 a5 a6 a7 a8 a9 a10 a11 a12 a13 a14 a15 a16 a17 a18 a19 a20 a21 a22 u.1 most rules editions orders sizes ops numbers cells hasFallback fallbackKinds fallbacks facts u.2.1 counts days toldAt tells u.2.2.1 u.2.2.2.1 u.2.2.2.2.1 u.2.2.2.2.2.1 u.2.2.2.2.2.2.1 answers givers u.2.2.2.2.2.2.2.1 u.2.2.2.2.2.2.2.2.1 u.2.2.2.2.2.2.2.2.2.1 u.2.2.2.2.2.2.2.2.2.2.1 u.2.2.2.2.2.2.2.2.2.2.2.1 u.2.2.2.2.2.2.2.2.2.2.2.2.1 u.2.2.2.2.2.2.2.2.2.2.2.2.2) t.heap ∧ va_K G vwCl (TYS cI cL cZ cR cE) t ∧ va_D (va_A (W_Mod cI cL cZ cR cE a0 a1 a2 a3 a4 a5 a6 a7 a8 a9 a10 a11 a12 a13 a14 a15 a16 a17 a18 a19 a20 a21 a22 thrown most rules editions orders sizes ops numbers cells hasFallback fallbackKinds fallbacks facts states counts days toldAt tells handles handleFacts failures failedRule failedHow answers givers stack high steps how cellNow own has) sz) (W_Mod cI cL cZ cR cE a0 a1 a2 a3 a4 a5 a6 a7 a8 a9 a10 a11 a12 a13 a14 a15 a16 a17 a18 a19 a20 a21 a22 u.1 most rules editions orders sizes ops numbers cells hasFallback fallbackKinds fallbacks facts u.2.1 counts days toldAt tells u.2.2.1 u.2.2.2.1 u.2.2.2.2.1 u.2.2.2.2.2.1 u.2.2.2.2.2.2.1 answers givers u.2.2.2.2.2.2.2.1 u.2.2.2.2.2.2.2.2.1 u.2.2.2.2.2.2.2.2.2.1 u.2.2.2.2.2.2.2.2.2.2.1 u.2.2.2.2.2.2.2.2.2.2.2.1 u.2.2.2.2.2.2.2.2.2.2.2.2.1 u.2.2.2.2.2.2.2.2.2.2.2.2.2)) (va_A (W_Mod cI cL cZ cR cE a0 a1 a2 a3 a4 a5 a6 a7 a8 a9 a10 a11 a12 a13 a14 a15 a16 a17 a18 a19 a20 a21 a22 thrown most rules editions orders sizes ops numbers cells hasFallback fallbackKinds fallbacks facts states counts days toldAt tells handles handleFacts failures failedRule failedHow answers givers stack high steps how cellNow own has) sz)) 0 0 (va_A (W_Mod cI cL cZ cR cE a0 a1 a2 a3 a4 a5 a6 a7 a8 a9 a10 a11 a12 a13 a14 a15 a16 a17 a18 a19 a20 a21 a22 thrown most rules editions orders sizes ops numbers cells hasFallback fallbackKinds fallbacks facts states counts days toldAt tells handles handleFacts failures failedRule failedHow answers givers stack high steps how cellNow own has) sz) := by
  refine Met.ofW (cc := b_Mo_test) (maxL := 4) (ret := (some .int)) (by decide) rfl ?_
  intro p e s m args below meth c s₁ B hml hv
  obtain ⟨rfl, hsz, hP, hK, hD0, hN⟩ := hv
  have hx := B.exec
  have hb := B.bytes
  have hr := B.returns
  have hts := atoms_spec (ws := w_Mo_test) B.pre
  have hown : s.vm.findClass R_Mo = some m.cls := findClass_of_methodNamed B.named
  have hlocks := B.notSynchronized
  subst hsz
  have hD := hD0.self (sz := s.heap.size)
  clear hD0
  generalize hAe : va_A (W_Mod cI cL cZ cR cE a0 a1 a2 a3 a4 a5 a6 a7 a8 a9 a10 a11 a12 a13 a14 a15 a16 a17 a18 a19 a20 a21 a22 thrown most rules editions orders sizes ops numbers cells hasFallback fallbackKinds fallbacks facts states counts days toldAt tells handles handleFacts failures failedRule failedHow answers givers stack high steps how cellNow own has) s.heap.size = A at hD ⊢
  have hA : ∀ q : Nat, s.heap.size ≤ q → A q := fun q h => by rw [← hAe]; exact Or.inr h
  clear hAe
  have hS : va_S A s.heap s.heap [] := va_S.rf
  obtain ⟨H, hH⟩ : ∃ H, H = s.heap := ⟨_, rfl⟩
  rw [← hH] at hP
  replace hS : va_S A s.heap H [] := by rw [hH]; exact hS
  rw [← hH]
  clear hH
  have hi_2 : ∀ w ∈ u_ws R_Mo T_Mo 32, w ∈ w_Mo_test := fun w h => List.mem_cons_of_mem _ (iu_Mo w h)
  have hk_1 := hts (.fieldLink R_Mo 82 "HandlingRulesModel" "thrown" "I") (List.mem_cons_of_mem _ kw_565)
  have hk_3 := hts (.fieldLink R_Mo 42 "HandlingRulesModel" "states" "[I") (List.mem_cons_of_mem _ kw_578)
  have hk_4 := hts (.fieldLink R_Mo 155 "HandlingRulesModel" "failures" "I") (List.mem_cons_of_mem _ kw_585)
  have hk_5 := hts (.fieldLink R_Mo 145 "HandlingRulesModel" "handles" "I") (List.mem_cons_of_mem _ kw_583)
  have hk_6 := hts (.fieldLink R_Mo 148 "HandlingRulesModel" "steps" "I") (List.mem_cons_of_mem _ kw_592)
  have hl := lv_entry ([.ref a0, .int ed]) (n := 4) (Nat.le_of_ble_eq_true rfl)
  rw [lg_entry_eq]
  generalize (lg_sl ([.ref a0, .int ed]) ++ List.replicate (4 - (lg_sl ([.ref a0, .int ed])).length) Slot.unset).toArray = ls at hl ⊢
  replace hl : lv_has ls 4 [(0, .ref a0), (1, .int ed)] := hl
  generalize hT : f_mtest most rules editions orders sizes ops numbers cells facts states handles handleFacts failures failedRule failedHow stack high steps how cellNow own has ed = T
  refine lv_aload_n hx hb d_Mo_test_0 rfl (lv_at hl 0 rfl) ?_
  refine lv_iconst (v := 0) hx hb d_Mo_test_1 (by decide) ?_
  refine va_put (D := G) (ci := 6) (v := .int 0) (ty := (.int)) (C := R_Mo) (T := T_Mo) (N := 32) hx hb hts hi_2 ty_Mo tyk_Mo nm_Mo hown hK hP hD hS 0 rfl rfl 0 (by decide) hk_1 (fun _ h9 => h9) rfl (by decide +kernel) rfl rfl (Nat.le_of_ble_eq_true rfl) d_Mo_test_2 (fun H locs hP hD hS => ?_)
  replace hP : va_P G vwCl (W_Mod cI cL cZ cR cE a0 a1 a2 a3 a4 a5 a6 a7 a8 a9 a10 a11 a12 a13 a14 a15 a16 a17 a18 a19 a20 a21 a22 0 most rules editions orders sizes ops numbers cells hasFallback fallbackKinds fallbacks facts states counts days toldAt tells handles handleFacts failures failedRule failedHow answers givers stack high steps how cellNow own has) H := hP
  replace hD : va_D A (W_Mod cI cL cZ cR cE a0 a1 a2 a3 a4 a5 a6 a7 a8 a9 a10 a11 a12 a13 a14 a15 a16 a17 a18 a19 a20 a21 a22 0 most rules editions orders sizes ops numbers cells hasFallback fallbackKinds fallbacks facts states counts days toldAt tells handles handleFacts failures failedRule failedHow answers givers stack high steps how cellNow own has) := hD
  refine lv_iload_n hx hb d_Mo_test_5 rfl (lv_at hl 1 rfl) ?_
  refine vp_callSi (W.runS (As := [.int ed]) (rest := []) ⟨hx, hb, hml, hown, hts⟩ (c_misEdition l G cI cL cZ cR cE  ed) (va_cwS 1 hts (gS kw_671 kw_672 kw_21 kw_673) rfl rfl rfl (by decide +kernel) ⟨Nat.le_of_ble_eq_true rfl, Nat.le_of_ble_eq_true rfl⟩) (preRS_of hN hK hP [] rfl) rfl rfl hl.1 rfl (lv_room (Nat.le_of_ble_eq_true rfl)) d_Mo_test_6 ⟨Nat.zero_le _, Nat.zero_le _⟩) (fun r_1 hw => ?_)
  subst hw
  refine lv_if_ne (tgt := 15) hx hb d_Mo_test_9 (by decide) (fun c_2 => ?_) (fun c_2 => ?_)
  · refine lv_aload_n hx hb d_Mo_test_15 rfl (lv_at hl 0 rfl) ?_
    refine va_get (D := G) (ci := 6) (v := .ref a11) (C := R_Mo) (T := T_Mo) (N := 32) hx hb hts hi_2 hown hK hP 0 rfl rfl 13 (by decide) hk_3 (fun _ h9 => h9) rfl d_Mo_test_16 ?_
    refine lv_iload_n hx hb d_Mo_test_19 rfl (lv_at hl 1 rfl) ?_
    refine va_iald hx hb hK hP 11 0 rfl rfl (ix_med c_2) d_Mo_test_20 ?_
    refine lv_iconst (v := 1) hx hb d_Mo_test_21 (by decide) ?_
    refine lv_icmp_eq (tgt := 28) hx hb d_Mo_test_22 (by decide) (fun c_3 => ?_) (fun c_3 => ?_)
    · refine lv_aload_n hx hb d_Mo_test_28 rfl (lv_at hl 0 rfl) ?_
      refine lv_iconst (v := 0) hx hb d_Mo_test_29 (by decide) ?_
      refine va_put (D := G) (ci := 6) (v := .int 0) (ty := (.int)) (C := R_Mo) (T := T_Mo) (N := 32) hx hb hts hi_2 ty_Mo tyk_Mo nm_Mo hown hK hP hD hS 0 rfl rfl 20 (by decide) hk_4 (fun _ h9 => h9) rfl (by decide +kernel) rfl rfl (Nat.le_of_ble_eq_true rfl) d_Mo_test_30 (fun H locs hP hD hS => ?_)
      replace hP : va_P G vwCl (W_Mod cI cL cZ cR cE a0 a1 a2 a3 a4 a5 a6 a7 a8 a9 a10 a11 a12 a13 a14 a15 a16 a17 a18 a19 a20 a21 a22 0 most rules editions orders sizes ops numbers cells hasFallback fallbackKinds fallbacks facts states counts days toldAt tells handles handleFacts 0 failedRule failedHow answers givers stack high steps how cellNow own has) H := hP
      replace hD : va_D A (W_Mod cI cL cZ cR cE a0 a1 a2 a3 a4 a5 a6 a7 a8 a9 a10 a11 a12 a13 a14 a15 a16 a17 a18 a19 a20 a21 a22 0 most rules editions orders sizes ops numbers cells hasFallback fallbackKinds fallbacks facts states counts days toldAt tells handles handleFacts 0 failedRule failedHow answers givers stack high steps how cellNow own has) := hD
      refine lv_aload_n hx hb d_Mo_test_33 rfl (lv_at hl 0 rfl) ?_
      refine lv_iconst (v := 0) hx hb d_Mo_test_34 (by decide) ?_
      refine va_put (D := G) (ci := 6) (v := .int 0) (ty := (.int)) (C := R_Mo) (T := T_Mo) (N := 32) hx hb hts hi_2 ty_Mo tyk_Mo nm_Mo hown hK hP hD hS 0 rfl rfl 18 (by decide) hk_5 (fun _ h9 => h9) rfl (by decide +kernel) rfl rfl (Nat.le_of_ble_eq_true rfl) d_Mo_test_35 (fun H locs hP hD hS => ?_)
      replace hP : va_P G vwCl (W_Mod cI cL cZ cR cE a0 a1 a2 a3 a4 a5 a6 a7 a8 a9 a10 a11 a12 a13 a14 a15 a16 a17 a18 a19 a20 a21 a22 0 most rules editions orders sizes ops numbers cells hasFallback fallbackKinds fallbacks facts states counts days toldAt tells 0 handleFacts 0 failedRule failedHow answers givers stack high steps how cellNow own has) H := hP
      replace hD : va_D A (W_Mod cI cL cZ cR cE a0 a1 a2 a3 a4 a5 a6 a7 a8 a9 a10 a11 a12 a13 a14 a15 a16 a17 a18 a19 a20 a21 a22 0 most rules editions orders sizes ops numbers cells hasFallback fallbackKinds fallbacks facts states counts days toldAt tells 0 handleFacts 0 failedRule failedHow answers givers stack high steps how cellNow own has) := hD
      refine lv_iconst (v := 0) hx hb d_Mo_test_38 (by decide) ?_
      refine lv_istore_n (lv' := [(2, .int 0), (0, .ref a0), (1, .int ed)]) hx hb d_Mo_test_39 rfl hl (by decide) rfl (fun ls hl => ?_)
      refine lv_aload_n hx hb d_Mo_test_40 rfl (lv_at hl 1 rfl) ?_
      refine lv_iload_n hx hb d_Mo_test_41 rfl (lv_at hl 2 rfl) ?_
      refine lv_iconst (v := (-1)) hx hb d_Mo_test_42 (by decide) ?_
      refine vp_callSi (W.runV (As := [.int ed, .int (-1)]) (rest := []) ⟨hx, hb, hml, hown, hts⟩ (c_mbehind l G cI cL cZ cR cE a0 a1 a2 a3 a4 a5 a6 a7 a8 a9 a10 a11 a12 a13 a14 a15 a16 a17 a18 a19 a20 a21 a22 0 most rules editions orders sizes ops numbers cells hasFallback fallbackKinds fallbacks facts states counts days toldAt tells 0 handleFacts 0 failedRule failedHow answers givers stack high steps how cellNow own has ed (-1) hR (Or.inl rfl)) (cwV 2 hts (gV kw_708 kw_710 kw_8 kw_21 kw_711) rfl rfl rfl (by decide +kernel) ⟨Nat.le_of_ble_eq_true rfl, Nat.le_of_ble_eq_true rfl⟩) (preRV_of (ci := 6) hN hK hP [0, 1, 2, 3, 4, 5, 6, 7, 8, 9, 10, 11, 12, 13, 14, 15, 16, 17, 18, 19, 20, 21, 22] rfl rfl rfl) rfl rfl hl.1 rfl (lv_room (Nat.le_of_ble_eq_true rfl)) d_Mo_test_43 ⟨Nat.zero_le _, Nat.zero_le _⟩) (fun r_4 hw => ?_)
      subst hw
      refine lv_istore_n (lv' := [(3, .int (f_mbehind rules editions orders ed (-1))), (2, .int 0), (0, .ref a0), (1, .int ed)]) hx hb d_Mo_test_46 rfl hl (by decide) rfl (fun ls hl => ?_)
      refine W_seq (α := Int32 × Int32 × Int32 × (Nat → Int32) × Int32 × (Nat → Int32) × (Nat → Int32) × (Nat → Int64) × Int32 × Int32 × Int32 × Int64 × (Nat → Int64) × (Nat → Int32)) (pcE := 74) (Post := (fun x H locs ls => x = L_mtest most rules editions orders sizes ops numbers cells facts ed 9 0 (f_mbehind rules editions orders ed (-1)) 0 handleFacts 0 failedRule failedHow stack high steps how cellNow own has ∧ va_P G vwCl (W_Mod cI cL cZ cR cE a0 a1 a2 a3 a4 a5 a6 a7 a8 a9 a10 a11 a12 a13 a14 a15 a16 a17 a18 a19 a20 a21 a22 0 most rules editions orders sizes ops numbers cells hasFallback fallbackKinds fallbacks facts states counts days toldAt tells x.2.2.1 x.2.2.2.1 x.2.2.2.2.1 x.2.2.2.2.2.1 x.2.2.2.2.2.2.1 answers givers x.2.2.2.2.2.2.2.1 x.2.2.2.2.2.2.2.2.1 x.2.2.2.2.2.2.2.2.2.1 x.2.2.2.2.2.2.2.2.2.2.1 x.2.2.2.2.2.2.2.2.2.2.2.1 x.2.2.2.2.2.2.2.2.2.2.2.2.1 x.2.2.2.2.2.2.2.2.2.2.2.2.2) H ∧ va_D A (W_Mod cI cL cZ cR cE a0 a1 a2 a3 a4 a5 a6 a7 a8 a9 a10 a11 a12 a13 a14 a15 a16 a17 a18 a19 a20 a21 a22 0 most rules editions orders sizes ops numbers cells hasFallback fallbackKinds fallbacks facts states counts days toldAt tells x.2.2.1 x.2.2.2.1 x.2.2.2.2.1 x.2.2.2.2.2.1 x.2.2.2.2.2.2.1 answers givers x.2.2.2.2.2.2.2.1 x.2.2.2.2.2.2.2.2.1 x.2.2.2.2.2.2.2.2.2.1 x.2.2.2.2.2.2.2.2.2.2.1 x.2.2.2.2.2.2.2.2.2.2.2.1 x.2.2.2.2.2.2.2.2.2.2.2.2.1 x.2.2.2.2.2.2.2.2.2.2.2.2.2) ∧ va_S A s.heap H locs ∧ lv_has ls 4 [(3, .int x.2.1), (2, .int x.1), (0, .ref a0), (1, .int ed)])) (fun hKK => ?_) (fun x H locs ls hq => ?_)
      · generalize hT : L_mtest most rules editions orders sizes ops numbers cells facts ed 9 0 (f_mbehind rules editions orders ed (-1)) 0 handleFacts 0 failedRule failedHow stack high steps how cellNow own has = T at hKK
        obtain ⟨n, hn⟩ : ∃ n : Nat, n = 9 := ⟨_, rfl⟩
        obtain ⟨all_, h_all_⟩ : ∃ z : Int32, z = 0 := ⟨_, rfl⟩
        obtain ⟨rule_, h_rule_⟩ : ∃ z : Int32, z = f_mbehind rules editions orders ed (-1) := ⟨_, rfl⟩
        obtain ⟨y_handles, h_y_handles⟩ : ∃ z : Int32, z = 0 := ⟨_, rfl⟩
        obtain ⟨y_handleFacts, h_y_handleFacts⟩ : ∃ z : Nat → Int32, z = handleFacts := ⟨_, rfl⟩
        obtain ⟨y_failures, h_y_failures⟩ : ∃ z : Int32, z = 0 := ⟨_, rfl⟩
        obtain ⟨y_failedRule, h_y_failedRule⟩ : ∃ z : Nat → Int32, z = failedRule := ⟨_, rfl⟩
        obtain ⟨y_failedHow, h_y_failedHow⟩ : ∃ z : Nat → Int32, z = failedHow := ⟨_, rfl⟩
        obtain ⟨y_stack, h_y_stack⟩ : ∃ z : Nat → Int64, z = stack := ⟨_, rfl⟩
        obtain ⟨y_high, h_y_high⟩ : ∃ z : Int32, z = high := ⟨_, rfl⟩
        obtain ⟨y_steps, h_y_steps⟩ : ∃ z : Int32, z = steps := ⟨_, rfl⟩
        obtain ⟨y_how, h_y_how⟩ : ∃ z : Int32, z = how := ⟨_, rfl⟩
        obtain ⟨y_cellNow, h_y_cellNow⟩ : ∃ z : Int64, z = cellNow := ⟨_, rfl⟩
        obtain ⟨y_own, h_y_own⟩ : ∃ z : Nat → Int64, z = own := ⟨_, rfl⟩
        obtain ⟨y_has, h_y_has⟩ : ∃ z : Nat → Int32, z = has := ⟨_, rfl⟩
        replace hl : lv_has ls 4 [(3, .int rule_), (2, .int all_), (0, .ref a0), (1, .int ed)] := by rw [h_all_, h_rule_]; exact hl
        replace hP : va_P G vwCl (W_Mod cI cL cZ cR cE a0 a1 a2 a3 a4 a5 a6 a7 a8 a9 a10 a11 a12 a13 a14 a15 a16 a17 a18 a19 a20 a21 a22 0 most rules editions orders sizes ops numbers cells hasFallback fallbackKinds fallbacks facts states counts days toldAt tells y_handles y_handleFacts y_failures y_failedRule y_failedHow answers givers y_stack y_high y_steps y_how y_cellNow y_own y_has) H := by rw [h_y_handles, h_y_handleFacts, h_y_failures, h_y_failedRule, h_y_failedHow, h_y_stack, h_y_high, h_y_steps, h_y_how, h_y_cellNow, h_y_own, h_y_has]; exact hP
        replace hD : va_D A (W_Mod cI cL cZ cR cE a0 a1 a2 a3 a4 a5 a6 a7 a8 a9 a10 a11 a12 a13 a14 a15 a16 a17 a18 a19 a20 a21 a22 0 most rules editions orders sizes ops numbers cells hasFallback fallbackKinds fallbacks facts states counts days toldAt tells y_handles y_handleFacts y_failures y_failedRule y_failedHow answers givers y_stack y_high y_steps y_how y_cellNow y_own y_has) := by rw [h_y_handles, h_y_handleFacts, h_y_failures, h_y_failedRule, h_y_failedHow, h_y_stack, h_y_high, h_y_steps, h_y_how, h_y_cellNow, h_y_own, h_y_has]; exact hD
        have hI_mtest : InvT n cnt o rule_ y_failures y_handles y_handleFacts := by rw [hn, h_rule_, h_y_failures, h_y_handles, h_y_handleFacts]; exact InvT_0 (hgo c_2) hhf
        replace hT : L_mtest most rules editions orders sizes ops numbers cells facts ed n all_ rule_ y_handles y_handleFacts y_failures y_failedRule y_failedHow y_stack y_high y_steps y_how y_cellNow y_own y_has = T := by rw [← hT, hn, h_all_, h_rule_, h_y_handles, h_y_handleFacts, h_y_failures, h_y_failedRule, h_y_failedHow, h_y_stack, h_y_high, h_y_steps, h_y_how, h_y_cellNow, h_y_own, h_y_has]
        clear hn h_all_ h_rule_ h_y_handles h_y_handleFacts h_y_failures h_y_failedRule h_y_failedHow h_y_stack h_y_high h_y_steps h_y_how h_y_cellNow h_y_own h_y_has
        revert hT
        revert hI_mtest
        revert hl
        revert hS
        revert hD
        revert hP
        revert y_has
        revert y_own
        revert y_cellNow
        revert y_how
        revert y_steps
        revert y_high
        revert y_stack
        revert y_failedHow
        revert y_failedRule
        revert y_failures
        revert y_handleFacts
        revert y_handles
        revert rule_
        revert all_
        revert ls
        revert locs
        revert H
        induction n with
        | zero =>
          intro H locs ls all_ rule_ y_handles y_handleFacts y_failures y_failedRule y_failedHow y_stack y_high y_steps y_how y_cellNow y_own y_has hP hD hS hl hI_mtest hT
          exact absurd hI_mtest (by exact InvT_z)
        | succ n ih =>
          intro H locs ls all_ rule_ y_handles y_handleFacts y_failures y_failedRule y_failedHow y_stack y_high y_steps y_how y_cellNow y_own y_has hP hD hS hl hI_mtest hT
          refine lv_iload_n hx hb d_Mo_test_47 rfl (lv_at hl 0 rfl) ?_
          refine lv_iconst (v := (-1)) hx hb d_Mo_test_48 (by decide) ?_
          refine lv_icmp_eq (tgt := 74) hx hb d_Mo_test_49 (by decide) (fun c_5 => ?_) (fun c_5 => ?_)
          · exact hKK (all_, rule_, y_handles, y_handleFacts, y_failures, y_failedRule, y_failedHow, y_stack, y_high, y_steps, y_how, y_cellNow, y_own, y_has) H _ ls ⟨(by rw [← hT]; simp only [L_mtest, if_pos c_5]), hP, hD, hS, lv_sub hl [0, 1, 2, 3] rfl⟩
          · refine lv_aload_n hx hb d_Mo_test_52 rfl (lv_at hl 2 rfl) ?_
            refine lv_iload_n hx hb d_Mo_test_53 rfl (lv_at hl 0 rfl) ?_
            refine cl_v hK hP hD hS hA (va_runV (As := [.int rule_]) (rest := []) ⟨hx, hb, hml, hown, hts⟩ (c_mdoAll l G cI cL cZ cR cE H.size a0 a1 a2 a3 a4 a5 a6 a7 a8 a9 a10 a11 a12 a13 a14 a15 a16 a17 a18 a19 a20 a21 a22 0 most rules editions orders sizes ops numbers cells hasFallback fallbackKinds fallbacks facts states counts days toldAt tells y_handles y_handleFacts y_failures y_failedRule y_failedHow answers givers y_stack y_high y_steps y_how y_cellNow y_own y_has rule_ (GH_lt (hgo c_2) hI_mtest c_5).1 hZ hm (InvT_h hI_mtest).1 (InvT_h hI_mtest).2 (GH_lt (hgo c_2) hI_mtest c_5).2 hV) (cwV 1 hts (gV kw_712 kw_714 kw_9 kw_21 kw_715) rfl rfl rfl (by decide +kernel) ⟨Nat.le_of_ble_eq_true rfl, Nat.le_of_ble_eq_true rfl⟩) (preWV_of (ci := 6) hN hK hP hD [0, 1, 2, 3, 4, 5, 6, 7, 8, 9, 10, 11, 12, 13, 14, 15, 16, 17, 18, 19, 20, 21, 22] (by decide) rfl rfl rfl) rfl rfl hl.1 rfl (lv_room (Nat.le_of_ble_eq_true rfl)) d_Mo_test_54 ⟨Nat.le_of_ble_eq_true rfl, Nat.le_of_ble_eq_true rfl⟩) [0, 1, 2, 3, 4, 5, 6, 7, 8, 9, 10, 11, 12, 13, 14, 15, 16, 17, 18, 19, 20, 21, 22] [] rfl rfl (by decide) (by decide) (fun u H locs hw_8 hP hD hS => ?_)
            obtain ⟨x_handles_9, x_handleFacts_10, x_failures_11, x_failedRule_12, x_failedHow_13, x_stack_14, x_high_15, x_steps_16, x_how_17, x_cellNow_18, x_own_19, x_has_20⟩ := u
            replace hP : va_P G vwCl (W_Mod cI cL cZ cR cE a0 a1 a2 a3 a4 a5 a6 a7 a8 a9 a10 a11 a12 a13 a14 a15 a16 a17 a18 a19 a20 a21 a22 0 most rules editions orders sizes ops numbers cells hasFallback fallbackKinds fallbacks facts states counts days toldAt tells x_handles_9 x_handleFacts_10 x_failures_11 x_failedRule_12 x_failedHow_13 answers givers x_stack_14 x_high_15 x_steps_16 x_how_17 x_cellNow_18 x_own_19 x_has_20) H := hP.sub [0, 1, 2, 3, 4, 5, 6, 7, 8, 9, 10, 11, 12, 13, 14, 15, 16, 17, 18, 19, 20, 21, 22] rfl
            replace hD : va_D A (W_Mod cI cL cZ cR cE a0 a1 a2 a3 a4 a5 a6 a7 a8 a9 a10 a11 a12 a13 a14 a15 a16 a17 a18 a19 a20 a21 a22 0 most rules editions orders sizes ops numbers cells hasFallback fallbackKinds fallbacks facts states counts days toldAt tells x_handles_9 x_handleFacts_10 x_failures_11 x_failedRule_12 x_failedHow_13 answers givers x_stack_14 x_high_15 x_steps_16 x_how_17 x_cellNow_18 x_own_19 x_has_20) := hD.sub [0, 1, 2, 3, 4, 5, 6, 7, 8, 9, 10, 11, 12, 13, 14, 15, 16, 17, 18, 19, 20, 21, 22] (by decide) rfl
            refine lv_iload_n hx hb d_Mo_test_57 rfl (lv_at hl 1 rfl) ?_
            refine lv_aload_n hx hb d_Mo_test_58 rfl (lv_at hl 2 rfl) ?_
            refine va_get (D := G) (ci := 6) (v := .int x_steps_16) (C := R_Mo) (T := T_Mo) (N := 32) hx hb hts hi_2 hown hK hP 0 rfl rfl 27 (by decide) hk_6 (fun _ h9 => h9) rfl d_Mo_test_59 ?_
            refine lv_iadd hx hb d_Mo_test_62 ?_
            refine lv_istore_n (lv' := [(2, .int (all_ + x_steps_16)), (3, .int rule_), (0, .ref a0), (1, .int ed)]) hx hb d_Mo_test_63 rfl hl (by decide) rfl (fun ls hl => ?_)
            refine lv_aload_n hx hb d_Mo_test_64 rfl (lv_at hl 2 rfl) ?_
            refine lv_iload_n hx hb d_Mo_test_65 rfl (lv_at hl 3 rfl) ?_
            refine lv_iload_n hx hb d_Mo_test_66 rfl (lv_at hl 1 rfl) ?_
            refine vp_callSi (W.runV (As := [.int ed, .int rule_]) (rest := []) ⟨hx, hb, hml, hown, hts⟩ (c_mbehind l G cI cL cZ cR cE a0 a1 a2 a3 a4 a5 a6 a7 a8 a9 a10 a11 a12 a13 a14 a15 a16 a17 a18 a19 a20 a21 a22 0 most rules editions orders sizes ops numbers cells hasFallback fallbackKinds fallbacks facts states counts days toldAt tells x_handles_9 x_handleFacts_10 x_failures_11 x_failedRule_12 x_failedHow_13 answers givers x_stack_14 x_high_15 x_steps_16 x_how_17 x_cellNow_18 x_own_19 x_has_20 ed rule_ hR (Or.inr (GH_lt (hgo c_2) hI_mtest c_5).1)) (cwV 2 hts (gV kw_708 kw_710 kw_8 kw_21 kw_711) rfl rfl rfl (by decide +kernel) ⟨Nat.le_of_ble_eq_true rfl, Nat.le_of_ble_eq_true rfl⟩) (preRV_of (ci := 6) hN hK hP [0, 1, 2, 3, 4, 5, 6, 7, 8, 9, 10, 11, 12, 13, 14, 15, 16, 17, 18, 19, 20, 21, 22] rfl rfl rfl) rfl rfl hl.1 rfl (lv_room (Nat.le_of_ble_eq_true rfl)) d_Mo_test_67 ⟨Nat.zero_le _, Nat.zero_le _⟩) (fun r_21 hw => ?_)
            subst hw
            refine lv_istore_n (lv' := [(3, .int (f_mbehind rules editions orders ed rule_)), (2, .int (all_ + x_steps_16)), (0, .ref a0), (1, .int ed)]) hx hb d_Mo_test_70 rfl hl (by decide) rfl (fun ls hl => ?_)
            refine lv_goto (tgt := 47) hx hb d_Mo_test_71 (by decide) ?_
            exact ih H _ ls (all_ + x_steps_16) (f_mbehind rules editions orders ed rule_) x_handles_9 x_handleFacts_10 x_failures_11 x_failedRule_12 x_failedHow_13 x_stack_14 x_high_15 x_steps_16 x_how_17 x_cellNow_18 x_own_19 x_has_20 hP hD hS (lv_sub hl [0, 1, 2, 3] rfl) (by exact InvT_step (hgo c_2) hI_mtest c_5 (by have hx := f_mdoAll_inv (cells := cells) (facts := facts) (failures := y_failures) (failedRule := y_failedRule) (failedHow := y_failedHow) (stack := y_stack) (own := y_own) (has := y_has) (r := rule_) hZ hm hV (InvT_h hI_mtest).1 (InvT_h hI_mtest).2; rw [← hw_8] at hx; exact hx)) (by rw [← hT]; simp only [L_mtest, if_neg c_5, ← hw_8])
      · obtain ⟨z_all__22, z_rule__23, z_y_handles_24, z_y_handleFacts_25, z_y_failures_26, z_y_failedRule_27, z_y_failedHow_28, z_y_stack_29, z_y_high_30, z_y_steps_31, z_y_how_32, z_y_cellNow_33, z_y_own_34, z_y_has_35⟩ := x
        obtain ⟨hw_36, hP, hD, hS, hl⟩ := hq
        replace hP : va_P G vwCl (W_Mod cI cL cZ cR cE a0 a1 a2 a3 a4 a5 a6 a7 a8 a9 a10 a11 a12 a13 a14 a15 a16 a17 a18 a19 a20 a21 a22 0 most rules editions orders sizes ops numbers cells hasFallback fallbackKinds fallbacks facts states counts days toldAt tells z_y_handles_24 z_y_handleFacts_25 z_y_failures_26 z_y_failedRule_27 z_y_failedHow_28 answers givers z_y_stack_29 z_y_high_30 z_y_steps_31 z_y_how_32 z_y_cellNow_33 z_y_own_34 z_y_has_35) H := hP
        replace hD : va_D A (W_Mod cI cL cZ cR cE a0 a1 a2 a3 a4 a5 a6 a7 a8 a9 a10 a11 a12 a13 a14 a15 a16 a17 a18 a19 a20 a21 a22 0 most rules editions orders sizes ops numbers cells hasFallback fallbackKinds fallbacks facts states counts days toldAt tells z_y_handles_24 z_y_handleFacts_25 z_y_failures_26 z_y_failedRule_27 z_y_failedHow_28 answers givers z_y_stack_29 z_y_high_30 z_y_steps_31 z_y_how_32 z_y_cellNow_33 z_y_own_34 z_y_has_35) := hD
        replace hl : lv_has ls 4 [(3, .int z_rule__23), (2, .int z_all__22), (0, .ref a0), (1, .int ed)] := hl
        refine lv_aload_n hx hb d_Mo_test_74 rfl (lv_at hl 2 rfl) ?_
        refine va_get (D := G) (ci := 6) (v := .ref a11) (C := R_Mo) (T := T_Mo) (N := 32) hx hb hts hi_2 hown hK hP 0 rfl rfl 13 (by decide) hk_3 (fun _ h9 => h9) rfl d_Mo_test_75 ?_
        refine lv_iload_n hx hb d_Mo_test_78 rfl (lv_at hl 3 rfl) ?_
        refine lv_aload_n hx hb d_Mo_test_79 rfl (lv_at hl 2 rfl) ?_
        refine va_get (D := G) (ci := 6) (v := .int z_y_failures_26) (C := R_Mo) (T := T_Mo) (N := 32) hx hb hts hi_2 hown hK hP 0 rfl rfl 20 (by decide) hk_4 (fun _ h9 => h9) rfl d_Mo_test_80 ?_
        refine W_join (P := z_y_failures_26 ≤ 0) (A := (2 : Int32)) (B := 3) (fr := (fun v : Int32 => F0 m 91 ls (.int v :: [.int ed, .ref a11]))) (fun hA_38 hB_39 => ?_) ?_
        · refine lv_if_le (tgt := 90) hx hb d_Mo_test_83 (by decide) (fun c_37 => ?_) (fun c_37 => ?_)
          · refine lv_iconst (v := 2) hx hb d_Mo_test_90 (by decide) ?_
            exact hA_38 c_37
          · refine lv_iconst (v := 3) hx hb d_Mo_test_86 (by decide) ?_
            refine lv_goto (tgt := 91) hx hb d_Mo_test_87 (by decide) ?_
            exact hB_39 c_37
        refine va_iast hx hb hK hP hD hS 11 0 rfl rfl (ix_med c_2) d_Mo_test_91 (fun H locs hP hD hS => ?_)
        replace hP : va_P G vwCl (W_Mod cI cL cZ cR cE a0 a1 a2 a3 a4 a5 a6 a7 a8 a9 a10 a11 a12 a13 a14 a15 a16 a17 a18 a19 a20 a21 a22 0 most rules editions orders sizes ops numbers cells hasFallback fallbackKinds fallbacks facts (upd states ed.toNatClampNeg (if z_y_failures_26 ≤ 0 then (2 : Int32) else 3)) counts days toldAt tells z_y_handles_24 z_y_handleFacts_25 z_y_failures_26 z_y_failedRule_27 z_y_failedHow_28 answers givers z_y_stack_29 z_y_high_30 z_y_steps_31 z_y_how_32 z_y_cellNow_33 z_y_own_34 z_y_has_35) H := hP
        replace hD : va_D A (W_Mod cI cL cZ cR cE a0 a1 a2 a3 a4 a5 a6 a7 a8 a9 a10 a11 a12 a13 a14 a15 a16 a17 a18 a19 a20 a21 a22 0 most rules editions orders sizes ops numbers cells hasFallback fallbackKinds fallbacks facts (upd states ed.toNatClampNeg (if z_y_failures_26 ≤ 0 then (2 : Int32) else 3)) counts days toldAt tells z_y_handles_24 z_y_handleFacts_25 z_y_failures_26 z_y_failedRule_27 z_y_failedHow_28 answers givers z_y_stack_29 z_y_high_30 z_y_steps_31 z_y_how_32 z_y_cellNow_33 z_y_own_34 z_y_has_35) := hD
        refine lv_iload_n hx hb d_Mo_test_92 rfl (lv_at hl 1 rfl) ?_
        exact W.iret (v := z_all__22) hx hb hr (fun t ht hW => ⟨⟨z_all__22, (0, upd states ed.toNatClampNeg (if z_y_failures_26 ≤ 0 then (2 : Int32) else 3), z_y_handles_24, z_y_handleFacts_25, z_y_failures_26, z_y_failedRule_27, z_y_failedHow_28, z_y_stack_29, z_y_high_30, z_y_steps_31, z_y_how_32, z_y_cellNow_33, z_y_own_34, z_y_has_35), rfl, (by rw [← hT]; simp only [f_mtest, if_neg c_2, if_pos c_3, ← hw_36]), by rw [ht]; exact hP, va_K.moved hW.alike hK, hD⟩, hS.F ht⟩) hS.2.2 d_Mo_test_93
    · refine lv_bipush (v := (-103)) hx hb d_Mo_test_25 (by decide) ?_
      exact W.iret (v := (-103)) hx hb hr (fun t ht hW => ⟨⟨(-103), (0, states, handles, handleFacts, failures, failedRule, failedHow, stack, high, steps, how, cellNow, own, has), rfl, (by rw [← hT]; simp only [f_mtest, if_neg c_2, if_neg c_3]), by rw [ht]; exact hP, va_K.moved hW.alike hK, hD⟩, hS.F ht⟩) hS.2.2 d_Mo_test_27
  · refine lv_bipush (v := (-102)) hx hb d_Mo_test_12 (by decide) ?_
    exact W.iret (v := (-102)) hx hb hr (fun t ht hW => ⟨⟨(-102), (0, states, handles, handleFacts, failures, failedRule, failedHow, stack, high, steps, how, cellNow, own, has), rfl, (by rw [← hT]; simp only [f_mtest, if_pos c_2]), by rw [ht]; exact hP, va_K.moved hW.alike hK, hD⟩, hS.F ht⟩) hS.2.2 d_Mo_test_14
