def L_mdoAll (most : Int32) (sizes : Nat → Int32) (ops : Nat → Int32) (numbers : Nat → Int64) (facts : Nat → Int64) (r : Int32) : Nat → Int32 → Int32 → (Nat → Int32) → (Nat → Int64) → Int32 → Int32 → Int32 → Int64 → (Nat → Int64) → (Nat → Int32) → Int32 × Int32 × (Nat → Int32) × (Nat → Int64) × Int32 × Int32 × Int32 × Int64 × (Nat → Int64) × (Nat → Int32)
  | 0, at_, y_handles, y_handleFacts, y_stack, y_high, y_steps, y_how, y_cellNow, y_own, y_has => (at_, y_handles, y_handleFacts, y_stack, y_high, y_steps, y_how, y_cellNow, y_own, y_has)
  | n + 1, at_, y_handles, y_handleFacts, y_stack, y_high, y_steps, y_how, y_cellNow, y_own, y_has => if y_how = 0 then (if (sizes r.toNatClampNeg) ≤ at_ then (at_, y_handles, y_handleFacts, y_stack, y_high, y_steps, y_how, y_cellNow, y_own, y_has) else (if y_steps = most then (L_mdoAll most sizes ops numbers facts r n at_ y_handles y_handleFacts y_stack y_high y_steps 1 y_cellNow y_own y_has) else (match f_mperform ops numbers facts y_handles y_handleFacts y_stack y_high y_how y_cellNow y_own y_has r at_ with | (r_10, x_handles_12, x_handleFacts_13, x_stack_14, x_high_15, x_how_16, x_cellNow_17, x_own_18, x_has_19) => (L_mdoAll most sizes ops numbers facts r n r_10 x_handles_12 x_handleFacts_13 x_stack_14 x_high_15 (y_steps + 1) x_how_16 x_cellNow_17 x_own_18 x_has_19)))) else (at_, y_handles, y_handleFacts, y_stack, y_high, y_steps, y_how, y_cellNow, y_own, y_has)
def f_mdoAll (most : Int32) (sizes : Nat → Int32) (ops : Nat → Int32) (numbers : Nat → Int64) (cells : Nat → Int64) (facts : Nat → Int64) (handles : Int32) (handleFacts : Nat → Int32) (failures : Int32) (failedRule : Nat → Int32) (failedHow : Nat → Int32) (stack : Nat → Int64) (own : Nat → Int64) (has : Nat → Int32) (r : Int32) : Int32 × (Nat → Int32) × Int32 × (Nat → Int32) × (Nat → Int32) × (Nat → Int64) × Int32 × Int32 × Int32 × Int64 × (Nat → Int64) × (Nat → Int32) := match L_mdoAll most sizes ops numbers facts r 103 0 handles handleFacts stack 0 0 0 (cells r.toNatClampNeg) own (upd (upd (upd (upd has (0 : Int32).toNatClampNeg 0) (1 : Int32).toNatClampNeg 0) (2 : Int32).toNatClampNeg 0) (3 : Int32).toNatClampNeg 0) with | (z_at__20, z_y_handles_21, z_y_handleFacts_22, z_y_stack_23, z_y_high_24, z_y_steps_25, z_y_how_26, z_y_cellNow_27, z_y_own_28, z_y_has_29) => (if z_y_how_26 ≤ 0 then (z_y_handles_21, z_y_handleFacts_22, failures, failedRule, failedHow, z_y_stack_23, z_y_high_24, z_y_steps_25, z_y_how_26, z_y_cellNow_27, z_y_own_28, z_y_has_29) else (z_y_handles_21, z_y_handleFacts_22, failures + 1, upd failedRule failures.toNatClampNeg r, upd failedHow failures.toNatClampNeg z_y_how_26, z_y_stack_23, z_y_high_24, z_y_steps_25, z_y_how_26, z_y_cellNow_27, z_y_own_28, z_y_has_29))
set_option maxHeartbeats 4000000 in
set_option maxRecDepth 100000 in
theorem c_mdoAll (l : Launch) (G : va_G) (cI cL cZ cR cE : ClassId) (sz : Nat) (a0 a1 a2 a3 a4 a5 a6 a7 a8 a9 a10 a11 a12 a13 a14 a15 a16 a17 a18 a19 a20 a21 a22 : Nat) (thrown : Int32) (most : Int32) (rules : Int32) (editions : Nat → Int32) (orders : Nat → Int32) (sizes : Nat → Int32) (ops : Nat → Int32) (numbers : Nat → Int64) (cells : Nat → Int64) (hasFallback : Nat → Int32) (fallbackKinds : Nat → Int32) (fallbacks : Nat → Int64) (facts : Nat → Int64) (states : Nat → Int32) (counts : Nat → Int32) (days : Nat → Int32) (toldAt : Nat → Int32) (tells : Int32) (handles : Int32) (handleFacts : Nat → Int32) (failures : Int32) (failedRule : Nat → Int32) (failedHow : Nat → Int32) (answers : Nat → Int64) (givers : Nat → Int32) (stack : Nat → Int64) (high : Int32) (steps : Int32) (how : Int32) (cellNow : Int64) (own : Nat → Int64) (has : Nat → Int32) (r : Int32) (hr40 : vp_in r 40) (hZ : ∀ j, 0 ≤ (sizes j).toInt ∧ (sizes j).toInt ≤ 12) (hm : 0 ≤ most.toInt ∧ most.toInt ≤ 100) (hc : 0 ≤ handles.toInt ∧ handles.toInt ≤ 16) (hhf : ∀ j, vp_in (handleFacts j) 8) (hfl : vp_in failures 8) (hV : ∀ j, okN (ops j) (numbers j)) : Met l y_Mo_doAll w_Mo_doAll ({ frames := 3, cells := 0, slots := 0, locals := 73 }) (preW G (TYS cI cL cZ cR cE) [.ref a0, .int r] sz (W_Mod cI cL cZ cR cE a0 a1 a2 a3 a4 a5 a6 a7 a8 a9 a10 a11 a12 a13 a14 a15 a16 a17 a18 a19 a20 a21 a22 thrown most rules editions orders sizes ops numbers cells hasFallback fallbackKinds fallbacks facts states counts days toldAt tells handles handleFacts failures failedRule failedHow answers givers stack high steps how cellNow own has)) (va_Qv (fun u : Int32 × (Nat → Int32) × Int32 × (Nat → Int32) × (Nat → Int32) × (Nat → Int64) × Int32 × Int32 × Int32 × Int64 × (Nat → Int64) × (Nat → Int32) => u = f_mdoAll most sizes ops numbers cells facts handles handleFacts failures failedRule failedHow stack own has r) (fun u t => va_P G vwCl (W_Mod cI cL cZ cR cE a0 a1 a2 a3 a4 a5 a6 a7 a8 a9 a10 a11 a12 a13 a14 a15 a16 a17 a18 a19 a20 a21 a22 thrown most rules editions orders sizes ops numbers cells hasFallback fallbackKinds fallbacks facts states counts days toldAt tells u.1 u.2.1 u.2.2.1 u.2.2.2.1 u.2.2.2.2.1 answers givers u.2.2.2.2.2.1 u.2.2.2.2.2.2.1 u.2.2.2.2.2.2.2.1 u.2.2.2.2.2.2.2.2.1 u.2.2.2.2.2.2.2.2.2.1 u.2.2.2.2.2.2.2.2.2.2.1 u.2.2.2.2.2.2.2.2.2.2.2) t.heap ∧ va_K G vwCl (TYS cI cL cZ cR cE) t ∧ va_D (va_A (W_Mod cI cL cZ cR cE a0 a1 a2 a3 a4 a5 a6 a7 a8 a9 a10 a11 a12 a13 a14 a15 a16 a17 a18 a19 a20 a21 a22 thrown most rules editions orders sizes ops numbers cells hasFallback fallbackKinds fallbacks facts states counts days toldAt tells handles handleFacts failures failedRule failedHow answers givers stack high steps how cellNow own has) sz) (W_Mod cI cL cZ cR cE a0 a1 a2 a3 a4 a5 a6 a7 a8 a9 a10 a11 a12 a13 a14 a15 a16 a17 a18 a19 a20 a21 a22 thrown most rules editions orders sizes ops numbers cells hasFallback fallbackKinds fallbacks facts states counts days toldAt tells u.1 u.2.1 u.2.2.1 u.2.2.2.1 u.2.2.2.2.1 answers givers u.2.2.2.2.2.1 u.2.2.2.2.2.2.1 u.2.2.2.2.2.2.2.1 u.2.2.2.2.2.2.2.2.1 u.2.2.2.2.2.2.2.2.2.1 u.2.2.2.2.2.2.2.2.2.2.1 u.2.2.2.2.2.2.2.2.2.2.2)) (va_A (W_Mod cI cL cZ cR cE a0 a1 a2 a3 a4 a5 a6 a7 a8 a9 a10 a11 a12 a13 a14 a15 a16 a17 a18 a19 a20 a21 a22 thrown most rules editions orders sizes ops numbers cells hasFallback fallbackKinds fallbacks facts states counts days toldAt tells handles handleFacts failures failedRule failedHow answers givers stack high steps how cellNow own has) sz)) 0 0 (va_A (W_Mod cI cL cZ cR cE a0 a1 a2 a3 a4 a5 a6 a7 a8 a9 a10 a11 a12 a13 a14 a15 a16 a17 a18 a19 a20 a21 a22 thrown most rules editions orders sizes ops numbers cells hasFallback fallbackKinds fallbacks facts states counts days toldAt tells handles handleFacts failures failedRule failedHow answers givers stack high steps how cellNow own has) sz) := by
  refine Met.ofW (cc := b_Mo_doAll) (maxL := 3) (ret := none) (by decide) rfl ?_
  intro p e s m args below meth c s₁ B hml hv
  obtain ⟨rfl, hsz, hP, hK, hD0, hN⟩ := hv
  have hx := B.exec
  have hb := B.bytes
  have hr := B.returns
  have hts := atoms_spec (ws := w_Mo_doAll) B.pre
  have hown : s.vm.findClass R_Mo = some m.cls := findClass_of_methodNamed B.named
  have hlocks := B.notSynchronized
  subst hsz
  have hD := hD0.self (sz := s.heap.size)
  clear hD0
  generalize hAe : va_A (W_Mod cI cL cZ cR cE a0 a1 a2 a3 a4 a5 a6 a7 a8 a9 a10 a11 a12 a13 a14 a15 a16 a17 a18 a19 a20 a21 a22 thrown most rules editions orders sizes ops numbers cells hasFallback fallbackKinds fallbacks facts states counts days toldAt tells handles handleFacts failures failedRule failedHow answers givers stack high steps how cellNow own has) s.heap.size = A at hD ⊢
  have hA : ∀ q : Nat, s.heap.size ≤ q → A q := fun q h => by rw [← hAe]; exact Or.inr h
  clear hAe
  have hS : va_S A s.heap s.heap [] := va_S.rf
  obtain ⟨H, hH⟩ : ∃ H, H = s.heap := ⟨_, rfl⟩
  rw [← hH] at hP
  replace hS : va_S A s.heap H [] := by rw [hH]; exact hS
  rw [← hH]
  clear hH
  have hi_2 : ∀ w ∈ u_ws R_Mo T_Mo 32, w ∈ w_Mo_doAll := fun w h => List.mem_cons_of_mem _ (iu_Mo w h)
  have hk_1 := hts (.fieldLink R_Mo 119 "HandlingRulesModel" "high" "I") (List.mem_cons_of_mem _ kw_591)
  have hk_10 := hts (.fieldLink R_Mo 57 "HandlingRulesModel" "failedRule" "[I") (List.mem_cons_of_mem _ kw_586)
  have hk_11 := hts (.fieldLink R_Mo 155 "HandlingRulesModel" "failures" "I") (List.mem_cons_of_mem _ kw_585)
  have hk_12 := hts (.fieldLink R_Mo 60 "HandlingRulesModel" "failedHow" "[I") (List.mem_cons_of_mem _ kw_587)
  have hk_3 := hts (.fieldLink R_Mo 148 "HandlingRulesModel" "steps" "I") (List.mem_cons_of_mem _ kw_592)
  have hk_4 := hts (.fieldLink R_Mo 122 "HandlingRulesModel" "how" "I") (List.mem_cons_of_mem _ kw_593)
  have hk_5 := hts (.fieldLink R_Mo 26 "HandlingRulesModel" "cells" "[J") (List.mem_cons_of_mem _ kw_573)
  have hk_6 := hts (.fieldLink R_Mo 137 "HandlingRulesModel" "cellNow" "J") (List.mem_cons_of_mem _ kw_594)
  have hk_7 := hts (.fieldLink R_Mo 75 "HandlingRulesModel" "has" "[Z") (List.mem_cons_of_mem _ kw_596)
  have hk_8 := hts (.fieldLink R_Mo 16 "HandlingRulesModel" "sizes" "[I") (List.mem_cons_of_mem _ kw_570)
  have hk_9 := hts (.fieldLink R_Mo 78 "HandlingRulesModel" "most" "I") (List.mem_cons_of_mem _ kw_566)
  have hl := lv_entry ([.ref a0, .int r]) (n := 3) (Nat.le_of_ble_eq_true rfl)
  rw [lg_entry_eq]
  generalize (lg_sl ([.ref a0, .int r]) ++ List.replicate (3 - (lg_sl ([.ref a0, .int r])).length) Slot.unset).toArray = ls at hl ⊢
  replace hl : lv_has ls 3 [(0, .ref a0), (1, .int r)] := hl
  generalize hT : f_mdoAll most sizes ops numbers cells facts handles handleFacts failures failedRule failedHow stack own has r = T
  refine lv_aload_n hx hb d_Mo_doAll_0 rfl (lv_at hl 0 rfl) ?_
  refine lv_iconst (v := 0) hx hb d_Mo_doAll_1 (by decide) ?_
  refine va_put (D := G) (ci := 6) (v := .int 0) (ty := (.int)) (C := R_Mo) (T := T_Mo) (N := 32) hx hb hts hi_2 ty_Mo tyk_Mo nm_Mo hown hK hP hD hS 0 rfl rfl 26 (by decide) hk_1 (fun _ h9 => h9) rfl (by decide +kernel) rfl rfl (Nat.le_of_ble_eq_true rfl) d_Mo_doAll_2 (fun H locs hP hD hS => ?_)
  replace hP : va_P G vwCl (W_Mod cI cL cZ cR cE a0 a1 a2 a3 a4 a5 a6 a7 a8 a9 a10 a11 a12 a13 a14 a15 a16 a17 a18 a19 a20 a21 a22 thrown most rules editions orders sizes ops numbers cells hasFallback fallbackKinds fallbacks facts states counts days toldAt tells handles handleFacts failures failedRule failedHow answers givers stack 0 steps how cellNow own has) H := hP
  replace hD : va_D A (W_Mod cI cL cZ cR cE a0 a1 a2 a3 a4 a5 a6 a7 a8 a9 a10 a11 a12 a13 a14 a15 a16 a17 a18 a19 a20 a21 a22 thrown most rules editions orders sizes ops numbers cells hasFallback fallbackKinds fallbacks facts states counts days toldAt tells handles handleFacts failures failedRule failedHow answers givers stack 0 steps how cellNow own has) := hD
  refine lv_aload_n hx hb d_Mo_doAll_5 rfl (lv_at hl 0 rfl) ?_
  refine lv_iconst (v := 0) hx hb d_Mo_doAll_6 (by decide) ?_
  refine va_put (D := G) (ci := 6) (v := .int 0) (ty := (.int)) (C := R_Mo) (T := T_Mo) (N := 32) hx hb hts hi_2 ty_Mo tyk_Mo nm_Mo hown hK hP hD hS 0 rfl rfl 27 (by decide) hk_3 (fun _ h9 => h9) rfl (by decide +kernel) rfl rfl (Nat.le_of_ble_eq_true rfl) d_Mo_doAll_7 (fun H locs hP hD hS => ?_)
  replace hP : va_P G vwCl (W_Mod cI cL cZ cR cE a0 a1 a2 a3 a4 a5 a6 a7 a8 a9 a10 a11 a12 a13 a14 a15 a16 a17 a18 a19 a20 a21 a22 thrown most rules editions orders sizes ops numbers cells hasFallback fallbackKinds fallbacks facts states counts days toldAt tells handles handleFacts failures failedRule failedHow answers givers stack 0 0 how cellNow own has) H := hP
  replace hD : va_D A (W_Mod cI cL cZ cR cE a0 a1 a2 a3 a4 a5 a6 a7 a8 a9 a10 a11 a12 a13 a14 a15 a16 a17 a18 a19 a20 a21 a22 thrown most rules editions orders sizes ops numbers cells hasFallback fallbackKinds fallbacks facts states counts days toldAt tells handles handleFacts failures failedRule failedHow answers givers stack 0 0 how cellNow own has) := hD
  refine lv_aload_n hx hb d_Mo_doAll_10 rfl (lv_at hl 0 rfl) ?_
  refine lv_iconst (v := 0) hx hb d_Mo_doAll_11 (by decide) ?_
  refine va_put (D := G) (ci := 6) (v := .int 0) (ty := (.int)) (C := R_Mo) (T := T_Mo) (N := 32) hx hb hts hi_2 ty_Mo tyk_Mo nm_Mo hown hK hP hD hS 0 rfl rfl 28 (by decide) hk_4 (fun _ h9 => h9) rfl (by decide +kernel) rfl rfl (Nat.le_of_ble_eq_true rfl) d_Mo_doAll_12 (fun H locs hP hD hS => ?_)
  replace hP : va_P G vwCl (W_Mod cI cL cZ cR cE a0 a1 a2 a3 a4 a5 a6 a7 a8 a9 a10 a11 a12 a13 a14 a15 a16 a17 a18 a19 a20 a21 a22 thrown most rules editions orders sizes ops numbers cells hasFallback fallbackKinds fallbacks facts states counts days toldAt tells handles handleFacts failures failedRule failedHow answers givers stack 0 0 0 cellNow own has) H := hP
  replace hD : va_D A (W_Mod cI cL cZ cR cE a0 a1 a2 a3 a4 a5 a6 a7 a8 a9 a10 a11 a12 a13 a14 a15 a16 a17 a18 a19 a20 a21 a22 thrown most rules editions orders sizes ops numbers cells hasFallback fallbackKinds fallbacks facts states counts days toldAt tells handles handleFacts failures failedRule failedHow answers givers stack 0 0 0 cellNow own has) := hD
  refine lv_aload_n hx hb d_Mo_doAll_15 rfl (lv_at hl 0 rfl) ?_
  refine lv_aload_n hx hb d_Mo_doAll_16 rfl (lv_at hl 0 rfl) ?_
  refine va_get (D := G) (ci := 6) (v := .ref a6) (C := R_Mo) (T := T_Mo) (N := 32) hx hb hts hi_2 hown hK hP 0 rfl rfl 8 (by decide) hk_5 (fun _ h9 => h9) rfl d_Mo_doAll_17 ?_
  refine lv_iload_n hx hb d_Mo_doAll_20 rfl (lv_at hl 1 rfl) ?_
  refine va_lald hx hb hK hP 6 1 rfl rfl hr40 d_Mo_doAll_21 ?_
  refine va_put (D := G) (ci := 6) (v := .long (cells r.toNatClampNeg)) (ty := (.long)) (C := R_Mo) (T := T_Mo) (N := 32) hx hb hts hi_2 ty_Mo tyk_Mo nm_Mo hown hK hP hD hS 0 rfl rfl 29 (by decide) hk_6 (fun _ h9 => h9) rfl (by decide +kernel) rfl rfl (Nat.le_of_ble_eq_true rfl) d_Mo_doAll_22 (fun H locs hP hD hS => ?_)
  replace hP : va_P G vwCl (W_Mod cI cL cZ cR cE a0 a1 a2 a3 a4 a5 a6 a7 a8 a9 a10 a11 a12 a13 a14 a15 a16 a17 a18 a19 a20 a21 a22 thrown most rules editions orders sizes ops numbers cells hasFallback fallbackKinds fallbacks facts states counts days toldAt tells handles handleFacts failures failedRule failedHow answers givers stack 0 0 0 (cells r.toNatClampNeg) own has) H := hP
  replace hD : va_D A (W_Mod cI cL cZ cR cE a0 a1 a2 a3 a4 a5 a6 a7 a8 a9 a10 a11 a12 a13 a14 a15 a16 a17 a18 a19 a20 a21 a22 thrown most rules editions orders sizes ops numbers cells hasFallback fallbackKinds fallbacks facts states counts days toldAt tells handles handleFacts failures failedRule failedHow answers givers stack 0 0 0 (cells r.toNatClampNeg) own has) := hD
  refine lv_iconst (v := 0) hx hb d_Mo_doAll_25 (by decide) ?_
  refine lv_istore_n (lv' := [(2, .int 0), (0, .ref a0), (1, .int r)]) hx hb d_Mo_doAll_26 rfl hl (by decide) rfl (fun ls hl => ?_)
  refine lv_iload_n hx hb d_Mo_doAll_27 rfl (lv_at hl 0 rfl) ?_
  refine lv_iconst (v := 4) hx hb d_Mo_doAll_28 (by decide) ?_
  refine lv_icmp_ge (tgt := 45) hx hb d_Mo_doAll_29 (by decide) (fun k_1 => absurd k_1 (by decide)) (fun _ => ?_)
  refine lv_aload_n hx hb d_Mo_doAll_32 rfl (lv_at hl 1 rfl) ?_
  refine va_get (D := G) (ci := 6) (v := .ref a22) (C := R_Mo) (T := T_Mo) (N := 32) hx hb hts hi_2 hown hK hP 0 rfl rfl 31 (by decide) hk_7 (fun _ h9 => h9) rfl d_Mo_doAll_33 ?_
  refine lv_iload_n hx hb d_Mo_doAll_36 rfl (lv_at hl 0 rfl) ?_
  refine lv_iconst (v := 0) hx hb d_Mo_doAll_37 (by decide) ?_
  refine va_zast hx hb hK hP hD hS 22 2 rfl rfl (by unfold vp_in; decide) d_Mo_doAll_38 (fun H locs hP hD hS => ?_)
  replace hP : va_P G vwCl (W_Mod cI cL cZ cR cE a0 a1 a2 a3 a4 a5 a6 a7 a8 a9 a10 a11 a12 a13 a14 a15 a16 a17 a18 a19 a20 a21 a22 thrown most rules editions orders sizes ops numbers cells hasFallback fallbackKinds fallbacks facts states counts days toldAt tells handles handleFacts failures failedRule failedHow answers givers stack 0 0 0 (cells r.toNatClampNeg) own (upd has (0 : Int32).toNatClampNeg 0)) H := hP
  replace hD : va_D A (W_Mod cI cL cZ cR cE a0 a1 a2 a3 a4 a5 a6 a7 a8 a9 a10 a11 a12 a13 a14 a15 a16 a17 a18 a19 a20 a21 a22 thrown most rules editions orders sizes ops numbers cells hasFallback fallbackKinds fallbacks facts states counts days toldAt tells handles handleFacts failures failedRule failedHow answers givers stack 0 0 0 (cells r.toNatClampNeg) own (upd has (0 : Int32).toNatClampNeg 0)) := hD
  refine lv_iinc (v := 1) (lv' := [(2, .int 1), (0, .ref a0), (1, .int r)]) hx hb d_Mo_doAll_39 hl (k := 0) rfl (by decide) (by decide) rfl (fun ls hl => ?_)
  refine lv_goto (tgt := 27) hx hb d_Mo_doAll_42 (by decide) ?_
  refine lv_iload_n hx hb d_Mo_doAll_27 rfl (lv_at hl 0 rfl) ?_
  refine lv_iconst (v := 4) hx hb d_Mo_doAll_28 (by decide) ?_
  refine lv_icmp_ge (tgt := 45) hx hb d_Mo_doAll_29 (by decide) (fun k_2 => absurd k_2 (by decide)) (fun _ => ?_)
  refine lv_aload_n hx hb d_Mo_doAll_32 rfl (lv_at hl 1 rfl) ?_
  refine va_get (D := G) (ci := 6) (v := .ref a22) (C := R_Mo) (T := T_Mo) (N := 32) hx hb hts hi_2 hown hK hP 0 rfl rfl 31 (by decide) hk_7 (fun _ h9 => h9) rfl d_Mo_doAll_33 ?_
  refine lv_iload_n hx hb d_Mo_doAll_36 rfl (lv_at hl 0 rfl) ?_
  refine lv_iconst (v := 0) hx hb d_Mo_doAll_37 (by decide) ?_
  refine va_zast hx hb hK hP hD hS 22 2 rfl rfl (by unfold vp_in; decide) d_Mo_doAll_38 (fun H locs hP hD hS => ?_)
  replace hP : va_P G vwCl (W_Mod cI cL cZ cR cE a0 a1 a2 a3 a4 a5 a6 a7 a8 a9 a10 a11 a12 a13 a14 a15 a16 a17 a18 a19 a20 a21 a22 thrown most rules editions orders sizes ops numbers cells hasFallback fallbackKinds fallbacks facts states counts days toldAt tells handles handleFacts failures failedRule failedHow answers givers stack 0 0 0 (cells r.toNatClampNeg) own (upd (upd has (0 : Int32).toNatClampNeg 0) (1 : Int32).toNatClampNeg 0)) H := hP
  replace hD : va_D A (W_Mod cI cL cZ cR cE a0 a1 a2 a3 a4 a5 a6 a7 a8 a9 a10 a11 a12 a13 a14 a15 a16 a17 a18 a19 a20 a21 a22 thrown most rules editions orders sizes ops numbers cells hasFallback fallbackKinds fallbacks facts states counts days toldAt tells handles handleFacts failures failedRule failedHow answers givers stack 0 0 0 (cells r.toNatClampNeg) own (upd (upd has (0 : Int32).toNatClampNeg 0) (1 : Int32).toNatClampNeg 0)) := hD
  refine lv_iinc (v := 2) (lv' := [(2, .int 2), (0, .ref a0), (1, .int r)]) hx hb d_Mo_doAll_39 hl (k := 0) rfl (by decide) (by decide) rfl (fun ls hl => ?_)
  refine lv_goto (tgt := 27) hx hb d_Mo_doAll_42 (by decide) ?_
  refine lv_iload_n hx hb d_Mo_doAll_27 rfl (lv_at hl 0 rfl) ?_
  refine lv_iconst (v := 4) hx hb d_Mo_doAll_28 (by decide) ?_
  refine lv_icmp_ge (tgt := 45) hx hb d_Mo_doAll_29 (by decide) (fun k_3 => absurd k_3 (by decide)) (fun _ => ?_)
  refine lv_aload_n hx hb d_Mo_doAll_32 rfl (lv_at hl 1 rfl) ?_
  refine va_get (D := G) (ci := 6) (v := .ref a22) (C := R_Mo) (T := T_Mo) (N := 32) hx hb hts hi_2 hown hK hP 0 rfl rfl 31 (by decide) hk_7 (fun _ h9 => h9) rfl d_Mo_doAll_33 ?_
  refine lv_iload_n hx hb d_Mo_doAll_36 rfl (lv_at hl 0 rfl) ?_
  refine lv_iconst (v := 0) hx hb d_Mo_doAll_37 (by decide) ?_
  refine va_zast hx hb hK hP hD hS 22 2 rfl rfl (by unfold vp_in; decide) d_Mo_doAll_38 (fun H locs hP hD hS => ?_)
  replace hP : va_P G vwCl (W_Mod cI cL cZ cR cE a0 a1 a2 a3 a4 a5 a6 a7 a8 a9 a10 a11 a12 a13 a14 a15 a16 a17 a18 a19 a20 a21 a22 thrown most rules editions orders sizes ops numbers cells hasFallback fallbackKinds fallbacks facts states counts days toldAt tells handles handleFacts failures failedRule failedHow answers givers stack 0 0 0 (cells r.toNatClampNeg) own (upd (upd (upd has (0 : Int32).toNatClampNeg 0) (1 : Int32).toNatClampNeg 0) (2 : Int32).toNatClampNeg 0)) H := hP
  replace hD : va_D A (W_Mod cI cL cZ cR cE a0 a1 a2 a3 a4 a5 a6 a7 a8 a9 a10 a11 a12 a13 a14 a15 a16 a17 a18 a19 a20 a21 a22 thrown most rules editions orders sizes ops numbers cells hasFallback fallbackKinds fallbacks facts states counts days toldAt tells handles handleFacts failures failedRule failedHow answers givers stack 0 0 0 (cells r.toNatClampNeg) own (upd (upd (upd has (0 : Int32).toNatClampNeg 0) (1 : Int32).toNatClampNeg 0) (2 : Int32).toNatClampNeg 0)) := hD
  refine lv_iinc (v := 3) (lv' := [(2, .int 3), (0, .ref a0), (1, .int r)]) hx hb d_Mo_doAll_39 hl (k := 0) rfl (by decide) (by decide) rfl (fun ls hl => ?_)
  refine lv_goto (tgt := 27) hx hb d_Mo_doAll_42 (by decide) ?_
  refine lv_iload_n hx hb d_Mo_doAll_27 rfl (lv_at hl 0 rfl) ?_
  refine lv_iconst (v := 4) hx hb d_Mo_doAll_28 (by decide) ?_
  refine lv_icmp_ge (tgt := 45) hx hb d_Mo_doAll_29 (by decide) (fun k_4 => absurd k_4 (by decide)) (fun _ => ?_)
  refine lv_aload_n hx hb d_Mo_doAll_32 rfl (lv_at hl 1 rfl) ?_
  refine va_get (D := G) (ci := 6) (v := .ref a22) (C := R_Mo) (T := T_Mo) (N := 32) hx hb hts hi_2 hown hK hP 0 rfl rfl 31 (by decide) hk_7 (fun _ h9 => h9) rfl d_Mo_doAll_33 ?_
  refine lv_iload_n hx hb d_Mo_doAll_36 rfl (lv_at hl 0 rfl) ?_
  refine lv_iconst (v := 0) hx hb d_Mo_doAll_37 (by decide) ?_
  refine va_zast hx hb hK hP hD hS 22 2 rfl rfl (by unfold vp_in; decide) d_Mo_doAll_38 (fun H locs hP hD hS => ?_)
  replace hP : va_P G vwCl (W_Mod cI cL cZ cR cE a0 a1 a2 a3 a4 a5 a6 a7 a8 a9 a10 a11 a12 a13 a14 a15 a16 a17 a18 a19 a20 a21 a22 thrown most rules editions orders sizes ops numbers cells hasFallback fallbackKinds fallbacks facts states counts days toldAt tells handles handleFacts failures failedRule failedHow answers givers stack 0 0 0 (cells r.toNatClampNeg) own (upd (upd (upd (upd has (0 : Int32).toNatClampNeg 0) (1 : Int32).toNatClampNeg 0) (2 : Int32).toNatClampNeg 0) (3 : Int32).toNatClampNeg 0)) H := hP
  replace hD : va_D A (W_Mod cI cL cZ cR cE a0 a1 a2 a3 a4 a5 a6 a7 a8 a9 a10 a11 a12 a13 a14 a15 a16 a17 a18 a19 a20 a21 a22 thrown most rules editions orders sizes ops numbers cells hasFallback fallbackKinds fallbacks facts states counts days toldAt tells handles handleFacts failures failedRule failedHow answers givers stack 0 0 0 (cells r.toNatClampNeg) own (upd (upd (upd (upd has (0 : Int32).toNatClampNeg 0) (1 : Int32).toNatClampNeg 0) (2 : Int32).toNatClampNeg 0) (3 : Int32).toNatClampNeg 0)) := hD
  refine lv_iinc (v := 4) (lv' := [(2, .int 4), (0, .ref a0), (1, .int r)]) hx hb d_Mo_doAll_39 hl (k := 0) rfl (by decide) (by decide) rfl (fun ls hl => ?_)
  refine lv_goto (tgt := 27) hx hb d_Mo_doAll_42 (by decide) ?_
  refine lv_iload_n hx hb d_Mo_doAll_27 rfl (lv_at hl 0 rfl) ?_
  refine lv_iconst (v := 4) hx hb d_Mo_doAll_28 (by decide) ?_
  refine lv_icmp_ge (tgt := 45) hx hb d_Mo_doAll_29 (by decide) (fun _ => ?_) (fun k_5 => absurd (by decide) k_5)
  refine lv_iconst (v := 0) hx hb d_Mo_doAll_45 (by decide) ?_
  refine lv_istore_n (lv' := [(2, .int 0), (0, .ref a0), (1, .int r)]) hx hb d_Mo_doAll_46 rfl hl (by decide) rfl (fun ls hl => ?_)
  refine W_seq (α := Int32 × Int32 × (Nat → Int32) × (Nat → Int64) × Int32 × Int32 × Int32 × Int64 × (Nat → Int64) × (Nat → Int32)) (pcE := 103) (Post := (fun x H locs ls => x = L_mdoAll most sizes ops numbers facts r 103 0 handles handleFacts stack 0 0 0 (cells r.toNatClampNeg) own (upd (upd (upd (upd has (0 : Int32).toNatClampNeg 0) (1 : Int32).toNatClampNeg 0) (2 : Int32).toNatClampNeg 0) (3 : Int32).toNatClampNeg 0) ∧ va_P G vwCl (W_Mod cI cL cZ cR cE a0 a1 a2 a3 a4 a5 a6 a7 a8 a9 a10 a11 a12 a13 a14 a15 a16 a17 a18 a19 a20 a21 a22 thrown most rules editions orders sizes ops numbers cells hasFallback fallbackKinds fallbacks facts states counts days toldAt tells x.2.1 x.2.2.1 failures failedRule failedHow answers givers x.2.2.2.1 x.2.2.2.2.1 x.2.2.2.2.2.1 x.2.2.2.2.2.2.1 x.2.2.2.2.2.2.2.1 x.2.2.2.2.2.2.2.2.1 x.2.2.2.2.2.2.2.2.2) H ∧ va_D A (W_Mod cI cL cZ cR cE a0 a1 a2 a3 a4 a5 a6 a7 a8 a9 a10 a11 a12 a13 a14 a15 a16 a17 a18 a19 a20 a21 a22 thrown most rules editions orders sizes ops numbers cells hasFallback fallbackKinds fallbacks facts states counts days toldAt tells x.2.1 x.2.2.1 failures failedRule failedHow answers givers x.2.2.2.1 x.2.2.2.2.1 x.2.2.2.2.2.1 x.2.2.2.2.2.2.1 x.2.2.2.2.2.2.2.1 x.2.2.2.2.2.2.2.2.1 x.2.2.2.2.2.2.2.2.2) ∧ va_S A s.heap H locs ∧ lv_has ls 3 [(2, .int x.1), (0, .ref a0), (1, .int r)])) (fun hKK => ?_) (fun x H locs ls hq => ?_)
  · generalize hT : L_mdoAll most sizes ops numbers facts r 103 0 handles handleFacts stack 0 0 0 (cells r.toNatClampNeg) own (upd (upd (upd (upd has (0 : Int32).toNatClampNeg 0) (1 : Int32).toNatClampNeg 0) (2 : Int32).toNatClampNeg 0) (3 : Int32).toNatClampNeg 0) = T at hKK
    obtain ⟨n, hn⟩ : ∃ n : Nat, n = 103 := ⟨_, rfl⟩
    obtain ⟨at_, h_at_⟩ : ∃ z : Int32, z = 0 := ⟨_, rfl⟩
    obtain ⟨y_handles, h_y_handles⟩ : ∃ z : Int32, z = handles := ⟨_, rfl⟩
    obtain ⟨y_handleFacts, h_y_handleFacts⟩ : ∃ z : Nat → Int32, z = handleFacts := ⟨_, rfl⟩
    obtain ⟨y_stack, h_y_stack⟩ : ∃ z : Nat → Int64, z = stack := ⟨_, rfl⟩
    obtain ⟨y_high, h_y_high⟩ : ∃ z : Int32, z = 0 := ⟨_, rfl⟩
    obtain ⟨y_steps, h_y_steps⟩ : ∃ z : Int32, z = 0 := ⟨_, rfl⟩
    obtain ⟨y_how, h_y_how⟩ : ∃ z : Int32, z = 0 := ⟨_, rfl⟩
    obtain ⟨y_cellNow, h_y_cellNow⟩ : ∃ z : Int64, z = cells r.toNatClampNeg := ⟨_, rfl⟩
    obtain ⟨y_own, h_y_own⟩ : ∃ z : Nat → Int64, z = own := ⟨_, rfl⟩
    obtain ⟨y_has, h_y_has⟩ : ∃ z : Nat → Int32, z = upd (upd (upd (upd has (0 : Int32).toNatClampNeg 0) (1 : Int32).toNatClampNeg 0) (2 : Int32).toNatClampNeg 0) (3 : Int32).toNatClampNeg 0 := ⟨_, rfl⟩
    replace hl : lv_has ls 3 [(2, .int at_), (0, .ref a0), (1, .int r)] := by rw [h_at_]; exact hl
    replace hP : va_P G vwCl (W_Mod cI cL cZ cR cE a0 a1 a2 a3 a4 a5 a6 a7 a8 a9 a10 a11 a12 a13 a14 a15 a16 a17 a18 a19 a20 a21 a22 thrown most rules editions orders sizes ops numbers cells hasFallback fallbackKinds fallbacks facts states counts days toldAt tells y_handles y_handleFacts failures failedRule failedHow answers givers y_stack y_high y_steps y_how y_cellNow y_own y_has) H := by rw [h_y_handles, h_y_handleFacts, h_y_stack, h_y_high, h_y_steps, h_y_how, h_y_cellNow, h_y_own, h_y_has]; exact hP
    replace hD : va_D A (W_Mod cI cL cZ cR cE a0 a1 a2 a3 a4 a5 a6 a7 a8 a9 a10 a11 a12 a13 a14 a15 a16 a17 a18 a19 a20 a21 a22 thrown most rules editions orders sizes ops numbers cells hasFallback fallbackKinds fallbacks facts states counts days toldAt tells y_handles y_handleFacts failures failedRule failedHow answers givers y_stack y_high y_steps y_how y_cellNow y_own y_has) := by rw [h_y_handles, h_y_handleFacts, h_y_stack, h_y_high, h_y_steps, h_y_how, h_y_cellNow, h_y_own, h_y_has]; exact hD
    have hI_mdoAll : InvD n most at_ y_handleFacts y_handles y_high y_steps y_how := by rw [hn, h_at_, h_y_handleFacts, h_y_handles, h_y_high, h_y_steps, h_y_how]; exact ⟨by decide, hc, hhf, by decide, ⟨by decide, hm.1⟩, fun _ => by decide, by decide⟩
    replace hT : L_mdoAll most sizes ops numbers facts r n at_ y_handles y_handleFacts y_stack y_high y_steps y_how y_cellNow y_own y_has = T := by rw [← hT, hn, h_at_, h_y_handles, h_y_handleFacts, h_y_stack, h_y_high, h_y_steps, h_y_how, h_y_cellNow, h_y_own, h_y_has]
    clear hn h_at_ h_y_handles h_y_handleFacts h_y_stack h_y_high h_y_steps h_y_how h_y_cellNow h_y_own h_y_has
    revert hT
    revert hI_mdoAll
    revert hl
    revert hS
    revert hD
    revert hP
    revert y_has
    revert y_own
    revert y_cellNow
    revert y_how
    revert y_steps
    revert y_high
    revert y_stack
    revert y_handleFacts
    revert y_handles
    revert at_
    revert ls
    revert locs
    revert H
    induction n with
    | zero =>
      intro H locs ls at_ y_handles y_handleFacts y_stack y_high y_steps y_how y_cellNow y_own y_has hP hD hS hl hI_mdoAll hT
      exact absurd hI_mdoAll (by intro h; exact absurd h.2.2.2.2.2.2 (by decide))
    | succ n ih =>
      intro H locs ls at_ y_handles y_handleFacts y_stack y_high y_steps y_how y_cellNow y_own y_has hP hD hS hl hI_mdoAll hT
      refine lv_aload_n hx hb d_Mo_doAll_47 rfl (lv_at hl 1 rfl) ?_
      refine va_get (D := G) (ci := 6) (v := .int y_how) (C := R_Mo) (T := T_Mo) (N := 32) hx hb hts hi_2 hown hK hP 0 rfl rfl 28 (by decide) hk_4 (fun _ h9 => h9) rfl d_Mo_doAll_48 ?_
      refine lv_if_ne (tgt := 103) hx hb d_Mo_doAll_51 (by decide) (fun c_6 => ?_) (fun c_6 => ?_)
      · exact hKK (at_, y_handles, y_handleFacts, y_stack, y_high, y_steps, y_how, y_cellNow, y_own, y_has) H _ ls ⟨(by rw [← hT]; simp only [L_mdoAll, if_neg c_6]), hP, hD, hS, lv_sub hl [0, 1, 2] rfl⟩
      · refine lv_iload_n hx hb d_Mo_doAll_54 rfl (lv_at hl 0 rfl) ?_
        refine lv_aload_n hx hb d_Mo_doAll_55 rfl (lv_at hl 1 rfl) ?_
        refine va_get (D := G) (ci := 6) (v := .ref a3) (C := R_Mo) (T := T_Mo) (N := 32) hx hb hts hi_2 hown hK hP 0 rfl rfl 5 (by decide) hk_8 (fun _ h9 => h9) rfl d_Mo_doAll_56 ?_
        refine lv_iload_n hx hb d_Mo_doAll_59 rfl (lv_at hl 2 rfl) ?_
        refine va_iald hx hb hK hP 3 0 rfl rfl hr40 d_Mo_doAll_60 ?_
        refine lv_icmp_ge (tgt := 103) hx hb d_Mo_doAll_61 (by decide) (fun c_7 => ?_) (fun c_7 => ?_)
        · exact hKK (at_, y_handles, y_handleFacts, y_stack, y_high, y_steps, y_how, y_cellNow, y_own, y_has) H _ ls ⟨(by rw [← hT]; simp only [L_mdoAll, if_pos c_6, if_pos c_7]), hP, hD, hS, lv_sub hl [0, 1, 2] rfl⟩
        · refine lv_aload_n hx hb d_Mo_doAll_64 rfl (lv_at hl 1 rfl) ?_
          refine va_get (D := G) (ci := 6) (v := .int y_steps) (C := R_Mo) (T := T_Mo) (N := 32) hx hb hts hi_2 hown hK hP 0 rfl rfl 27 (by decide) hk_3 (fun _ h9 => h9) rfl d_Mo_doAll_65 ?_
          refine lv_aload_n hx hb d_Mo_doAll_68 rfl (lv_at hl 1 rfl) ?_
          refine va_get (D := G) (ci := 6) (v := .int most) (C := R_Mo) (T := T_Mo) (N := 32) hx hb hts hi_2 hown hK hP 0 rfl rfl 1 (by decide) hk_9 (fun _ h9 => h9) rfl d_Mo_doAll_69 ?_
          refine lv_icmp_ne (tgt := 83) hx hb d_Mo_doAll_72 (by decide) (fun c_8 => ?_) (fun c_8 => ?_)
          · refine lv_aload_n hx hb d_Mo_doAll_83 rfl (lv_at hl 1 rfl) ?_
            refine lv_dup hx hb d_Mo_doAll_84 rfl ?_
            refine va_get (D := G) (ci := 6) (v := .int y_steps) (C := R_Mo) (T := T_Mo) (N := 32) hx hb hts hi_2 hown hK hP 0 rfl rfl 27 (by decide) hk_3 (fun _ h9 => h9) rfl d_Mo_doAll_85 ?_
            refine lv_iconst (v := 1) hx hb d_Mo_doAll_88 (by decide) ?_
            refine lv_iadd hx hb d_Mo_doAll_89 ?_
            refine va_put (D := G) (ci := 6) (v := .int (y_steps + 1)) (ty := (.int)) (C := R_Mo) (T := T_Mo) (N := 32) hx hb hts hi_2 ty_Mo tyk_Mo nm_Mo hown hK hP hD hS 0 rfl rfl 27 (by decide) hk_3 (fun _ h9 => h9) rfl (by decide +kernel) rfl rfl (Nat.le_of_ble_eq_true rfl) d_Mo_doAll_90 (fun H locs hP hD hS => ?_)
            replace hP : va_P G vwCl (W_Mod cI cL cZ cR cE a0 a1 a2 a3 a4 a5 a6 a7 a8 a9 a10 a11 a12 a13 a14 a15 a16 a17 a18 a19 a20 a21 a22 thrown most rules editions orders sizes ops numbers cells hasFallback fallbackKinds fallbacks facts states counts days toldAt tells y_handles y_handleFacts failures failedRule failedHow answers givers y_stack y_high (y_steps + 1) y_how y_cellNow y_own y_has) H := hP
            replace hD : va_D A (W_Mod cI cL cZ cR cE a0 a1 a2 a3 a4 a5 a6 a7 a8 a9 a10 a11 a12 a13 a14 a15 a16 a17 a18 a19 a20 a21 a22 thrown most rules editions orders sizes ops numbers cells hasFallback fallbackKinds fallbacks facts states counts days toldAt tells y_handles y_handleFacts failures failedRule failedHow answers givers y_stack y_high (y_steps + 1) y_how y_cellNow y_own y_has) := hD
            refine lv_aload_n hx hb d_Mo_doAll_93 rfl (lv_at hl 1 rfl) ?_
            refine lv_iload_n hx hb d_Mo_doAll_94 rfl (lv_at hl 2 rfl) ?_
            refine lv_iload_n hx hb d_Mo_doAll_95 rfl (lv_at hl 0 rfl) ?_
            refine cl_i hK hP hD hS hA (va_runV (As := [.int r, .int at_]) (rest := []) ⟨hx, hb, hml, hown, hts⟩ (c_mperform l G cI cL cZ cR cE H.size a0 a1 a2 a3 a4 a5 a6 a7 a8 a9 a10 a11 a12 a13 a14 a15 a16 a17 a18 a19 a20 a21 a22 thrown most rules editions orders sizes ops numbers cells hasFallback fallbackKinds fallbacks facts states counts days toldAt tells y_handles y_handleFacts failures failedRule failedHow answers givers y_stack y_high (y_steps + 1) y_how y_cellNow y_own y_has r at_ hI_mdoAll.2.2.2.1 hI_mdoAll.2.1 hI_mdoAll.2.2.1 (ix_12a hr40 (at_lt12 (at_lt hI_mdoAll.1 (hZ _) c_7))) (hV _).1 (hV _).2.1) (cwV 2 hts (gV kw_716 kw_718 kw_10 kw_21 kw_719) rfl rfl rfl (by decide +kernel) ⟨Nat.le_of_ble_eq_true rfl, Nat.le_of_ble_eq_true rfl⟩) (preWV_of (ci := 6) hN hK hP hD [0, 1, 2, 3, 4, 5, 6, 7, 8, 9, 10, 11, 12, 13, 14, 15, 16, 17, 18, 19, 20, 21, 22] (by decide) rfl rfl rfl) rfl rfl hl.1 rfl (lv_room (Nat.le_of_ble_eq_true rfl)) d_Mo_doAll_96 ⟨Nat.le_of_ble_eq_true rfl, Nat.le_of_ble_eq_true rfl⟩) [0, 1, 2, 3, 4, 5, 6, 7, 8, 9, 10, 11, 12, 13, 14, 15, 16, 17, 18, 19, 20, 21, 22] [] rfl rfl (by decide) (by decide) (fun r_10 u H locs hw_11 hP hD hS => ?_)
            obtain ⟨x_handles_12, x_handleFacts_13, x_stack_14, x_high_15, x_how_16, x_cellNow_17, x_own_18, x_has_19⟩ := u
            replace hP : va_P G vwCl (W_Mod cI cL cZ cR cE a0 a1 a2 a3 a4 a5 a6 a7 a8 a9 a10 a11 a12 a13 a14 a15 a16 a17 a18 a19 a20 a21 a22 thrown most rules editions orders sizes ops numbers cells hasFallback fallbackKinds fallbacks facts states counts days toldAt tells x_handles_12 x_handleFacts_13 failures failedRule failedHow answers givers x_stack_14 x_high_15 (y_steps + 1) x_how_16 x_cellNow_17 x_own_18 x_has_19) H := hP.sub [0, 1, 2, 3, 4, 5, 6, 7, 8, 9, 10, 11, 12, 13, 14, 15, 16, 17, 18, 19, 20, 21, 22] rfl
            replace hD : va_D A (W_Mod cI cL cZ cR cE a0 a1 a2 a3 a4 a5 a6 a7 a8 a9 a10 a11 a12 a13 a14 a15 a16 a17 a18 a19 a20 a21 a22 thrown most rules editions orders sizes ops numbers cells hasFallback fallbackKinds fallbacks facts states counts days toldAt tells x_handles_12 x_handleFacts_13 failures failedRule failedHow answers givers x_stack_14 x_high_15 (y_steps + 1) x_how_16 x_cellNow_17 x_own_18 x_has_19) := hD.sub [0, 1, 2, 3, 4, 5, 6, 7, 8, 9, 10, 11, 12, 13, 14, 15, 16, 17, 18, 19, 20, 21, 22] (by decide) rfl
            refine lv_istore_n (lv' := [(2, .int r_10), (0, .ref a0), (1, .int r)]) hx hb d_Mo_doAll_99 rfl hl (by decide) rfl (fun ls hl => ?_)
            refine lv_goto (tgt := 47) hx hb d_Mo_doAll_100 (by decide) ?_
            exact ih H _ ls r_10 x_handles_12 x_handleFacts_13 x_stack_14 x_high_15 (y_steps + 1) x_how_16 x_cellNow_17 x_own_18 x_has_19 hP hD hS (lv_sub hl [0, 1, 2] rfl) (by exact InvD_step (x := (r_10, x_handles_12, x_handleFacts_13, x_stack_14, x_high_15, x_how_16, x_cellNow_17, x_own_18, x_has_19)) hI_mdoAll hm c_6 c_8 (by rw [hw_11]; exact mperform_inv (hV _) (at_lt hI_mdoAll.1 (hZ _) c_7) hI_mdoAll.2.2.2.1 hI_mdoAll.2.1 hI_mdoAll.2.2.1)) (by rw [← hT]; simp only [L_mdoAll, if_pos c_6, if_neg c_7, if_neg c_8, ← hw_11])
          · refine lv_aload_n hx hb d_Mo_doAll_75 rfl (lv_at hl 1 rfl) ?_
            refine lv_iconst (v := 1) hx hb d_Mo_doAll_76 (by decide) ?_
            refine va_put (D := G) (ci := 6) (v := .int 1) (ty := (.int)) (C := R_Mo) (T := T_Mo) (N := 32) hx hb hts hi_2 ty_Mo tyk_Mo nm_Mo hown hK hP hD hS 0 rfl rfl 28 (by decide) hk_4 (fun _ h9 => h9) rfl (by decide +kernel) rfl rfl (Nat.le_of_ble_eq_true rfl) d_Mo_doAll_77 (fun H locs hP hD hS => ?_)
            replace hP : va_P G vwCl (W_Mod cI cL cZ cR cE a0 a1 a2 a3 a4 a5 a6 a7 a8 a9 a10 a11 a12 a13 a14 a15 a16 a17 a18 a19 a20 a21 a22 thrown most rules editions orders sizes ops numbers cells hasFallback fallbackKinds fallbacks facts states counts days toldAt tells y_handles y_handleFacts failures failedRule failedHow answers givers y_stack y_high y_steps 1 y_cellNow y_own y_has) H := hP
            replace hD : va_D A (W_Mod cI cL cZ cR cE a0 a1 a2 a3 a4 a5 a6 a7 a8 a9 a10 a11 a12 a13 a14 a15 a16 a17 a18 a19 a20 a21 a22 thrown most rules editions orders sizes ops numbers cells hasFallback fallbackKinds fallbacks facts states counts days toldAt tells y_handles y_handleFacts failures failedRule failedHow answers givers y_stack y_high y_steps 1 y_cellNow y_own y_has) := hD
            refine lv_goto (tgt := 47) hx hb d_Mo_doAll_80 (by decide) ?_
            exact ih H _ ls at_ y_handles y_handleFacts y_stack y_high y_steps 1 y_cellNow y_own y_has hP hD hS (lv_sub hl [0, 1, 2] rfl) (by exact InvD_cut hI_mdoAll hm c_6 c_8) (by rw [← hT]; simp only [L_mdoAll, if_pos c_6, if_neg c_7, if_pos c_8])
  · obtain ⟨z_at__20, z_y_handles_21, z_y_handleFacts_22, z_y_stack_23, z_y_high_24, z_y_steps_25, z_y_how_26, z_y_cellNow_27, z_y_own_28, z_y_has_29⟩ := x
    obtain ⟨hw_30, hP, hD, hS, hl⟩ := hq
    replace hP : va_P G vwCl (W_Mod cI cL cZ cR cE a0 a1 a2 a3 a4 a5 a6 a7 a8 a9 a10 a11 a12 a13 a14 a15 a16 a17 a18 a19 a20 a21 a22 thrown most rules editions orders sizes ops numbers cells hasFallback fallbackKinds fallbacks facts states counts days toldAt tells z_y_handles_21 z_y_handleFacts_22 failures failedRule failedHow answers givers z_y_stack_23 z_y_high_24 z_y_steps_25 z_y_how_26 z_y_cellNow_27 z_y_own_28 z_y_has_29) H := hP
    replace hD : va_D A (W_Mod cI cL cZ cR cE a0 a1 a2 a3 a4 a5 a6 a7 a8 a9 a10 a11 a12 a13 a14 a15 a16 a17 a18 a19 a20 a21 a22 thrown most rules editions orders sizes ops numbers cells hasFallback fallbackKinds fallbacks facts states counts days toldAt tells z_y_handles_21 z_y_handleFacts_22 failures failedRule failedHow answers givers z_y_stack_23 z_y_high_24 z_y_steps_25 z_y_how_26 z_y_cellNow_27 z_y_own_28 z_y_has_29) := hD
    replace hl : lv_has ls 3 [(2, .int z_at__20), (0, .ref a0), (1, .int r)] := hl
    refine lv_aload_n hx hb d_Mo_doAll_103 rfl (lv_at hl 1 rfl) ?_
    refine va_get (D := G) (ci := 6) (v := .int z_y_how_26) (C := R_Mo) (T := T_Mo) (N := 32) hx hb hts hi_2 hown hK hP 0 rfl rfl 28 (by decide) hk_4 (fun _ h9 => h9) rfl d_Mo_doAll_104 ?_
    refine lv_if_le (tgt := 143) hx hb d_Mo_doAll_107 (by decide) (fun c_31 => ?_) (fun c_31 => ?_)
    · exact W.vret hx hb hr (fun t ht hW => ⟨⟨(z_y_handles_21, z_y_handleFacts_22, failures, failedRule, failedHow, z_y_stack_23, z_y_high_24, z_y_steps_25, z_y_how_26, z_y_cellNow_27, z_y_own_28, z_y_has_29), rfl, (by rw [← hT]; simp only [f_mdoAll, ← hw_30, if_pos c_31]), by rw [ht]; exact hP, va_K.moved hW.alike hK, hD⟩, hS.F ht⟩) hS.2.2 d_Mo_doAll_143
    · refine lv_aload_n hx hb d_Mo_doAll_110 rfl (lv_at hl 1 rfl) ?_
      refine va_get (D := G) (ci := 6) (v := .ref a16) (C := R_Mo) (T := T_Mo) (N := 32) hx hb hts hi_2 hown hK hP 0 rfl rfl 21 (by decide) hk_10 (fun _ h9 => h9) rfl d_Mo_doAll_111 ?_
      refine lv_aload_n hx hb d_Mo_doAll_114 rfl (lv_at hl 1 rfl) ?_
      refine va_get (D := G) (ci := 6) (v := .int failures) (C := R_Mo) (T := T_Mo) (N := 32) hx hb hts hi_2 hown hK hP 0 rfl rfl 20 (by decide) hk_11 (fun _ h9 => h9) rfl d_Mo_doAll_115 ?_
      refine lv_iload_n hx hb d_Mo_doAll_118 rfl (lv_at hl 2 rfl) ?_
      refine va_iast hx hb hK hP hD hS 16 0 rfl rfl hfl d_Mo_doAll_119 (fun H locs hP hD hS => ?_)
      replace hP : va_P G vwCl (W_Mod cI cL cZ cR cE a0 a1 a2 a3 a4 a5 a6 a7 a8 a9 a10 a11 a12 a13 a14 a15 a16 a17 a18 a19 a20 a21 a22 thrown most rules editions orders sizes ops numbers cells hasFallback fallbackKinds fallbacks facts states counts days toldAt tells z_y_handles_21 z_y_handleFacts_22 failures (upd failedRule failures.toNatClampNeg r) failedHow answers givers z_y_stack_23 z_y_high_24 z_y_steps_25 z_y_how_26 z_y_cellNow_27 z_y_own_28 z_y_has_29) H := hP
      replace hD : va_D A (W_Mod cI cL cZ cR cE a0 a1 a2 a3 a4 a5 a6 a7 a8 a9 a10 a11 a12 a13 a14 a15 a16 a17 a18 a19 a20 a21 a22 thrown most rules editions orders sizes ops numbers cells hasFallback fallbackKinds fallbacks facts states counts days toldAt tells z_y_handles_21 z_y_handleFacts_22 failures (upd failedRule failures.toNatClampNeg r) failedHow answers givers z_y_stack_23 z_y_high_24 z_y_steps_25 z_y_how_26 z_y_cellNow_27 z_y_own_28 z_y_has_29) := hD
      refine lv_aload_n hx hb d_Mo_doAll_120 rfl (lv_at hl 1 rfl) ?_
      refine va_get (D := G) (ci := 6) (v := .ref a17) (C := R_Mo) (T := T_Mo) (N := 32) hx hb hts hi_2 hown hK hP 0 rfl rfl 22 (by decide) hk_12 (fun _ h9 => h9) rfl d_Mo_doAll_121 ?_
      refine lv_aload_n hx hb d_Mo_doAll_124 rfl (lv_at hl 1 rfl) ?_
      refine va_get (D := G) (ci := 6) (v := .int failures) (C := R_Mo) (T := T_Mo) (N := 32) hx hb hts hi_2 hown hK hP 0 rfl rfl 20 (by decide) hk_11 (fun _ h9 => h9) rfl d_Mo_doAll_125 ?_
      refine lv_aload_n hx hb d_Mo_doAll_128 rfl (lv_at hl 1 rfl) ?_
      refine va_get (D := G) (ci := 6) (v := .int z_y_how_26) (C := R_Mo) (T := T_Mo) (N := 32) hx hb hts hi_2 hown hK hP 0 rfl rfl 28 (by decide) hk_4 (fun _ h9 => h9) rfl d_Mo_doAll_129 ?_
      refine va_iast hx hb hK hP hD hS 17 0 rfl rfl hfl d_Mo_doAll_132 (fun H locs hP hD hS => ?_)
      replace hP : va_P G vwCl (W_Mod cI cL cZ cR cE a0 a1 a2 a3 a4 a5 a6 a7 a8 a9 a10 a11 a12 a13 a14 a15 a16 a17 a18 a19 a20 a21 a22 thrown most rules editions orders sizes ops numbers cells hasFallback fallbackKinds fallbacks facts states counts days toldAt tells z_y_handles_21 z_y_handleFacts_22 failures (upd failedRule failures.toNatClampNeg r) (upd failedHow failures.toNatClampNeg z_y_how_26) answers givers z_y_stack_23 z_y_high_24 z_y_steps_25 z_y_how_26 z_y_cellNow_27 z_y_own_28 z_y_has_29) H := hP
      replace hD : va_D A (W_Mod cI cL cZ cR cE a0 a1 a2 a3 a4 a5 a6 a7 a8 a9 a10 a11 a12 a13 a14 a15 a16 a17 a18 a19 a20 a21 a22 thrown most rules editions orders sizes ops numbers cells hasFallback fallbackKinds fallbacks facts states counts days toldAt tells z_y_handles_21 z_y_handleFacts_22 failures (upd failedRule failures.toNatClampNeg r) (upd failedHow failures.toNatClampNeg z_y_how_26) answers givers z_y_stack_23 z_y_high_24 z_y_steps_25 z_y_how_26 z_y_cellNow_27 z_y_own_28 z_y_has_29) := hD
      refine lv_aload_n hx hb d_Mo_doAll_133 rfl (lv_at hl 1 rfl) ?_
      refine lv_dup hx hb d_Mo_doAll_134 rfl ?_
      refine va_get (D := G) (ci := 6) (v := .int failures) (C := R_Mo) (T := T_Mo) (N := 32) hx hb hts hi_2 hown hK hP 0 rfl rfl 20 (by decide) hk_11 (fun _ h9 => h9) rfl d_Mo_doAll_135 ?_
      refine lv_iconst (v := 1) hx hb d_Mo_doAll_138 (by decide) ?_
      refine lv_iadd hx hb d_Mo_doAll_139 ?_
      refine va_put (D := G) (ci := 6) (v := .int (failures + 1)) (ty := (.int)) (C := R_Mo) (T := T_Mo) (N := 32) hx hb hts hi_2 ty_Mo tyk_Mo nm_Mo hown hK hP hD hS 0 rfl rfl 20 (by decide) hk_11 (fun _ h9 => h9) rfl (by decide +kernel) rfl rfl (Nat.le_of_ble_eq_true rfl) d_Mo_doAll_140 (fun H locs hP hD hS => ?_)
      replace hP : va_P G vwCl (W_Mod cI cL cZ cR cE a0 a1 a2 a3 a4 a5 a6 a7 a8 a9 a10 a11 a12 a13 a14 a15 a16 a17 a18 a19 a20 a21 a22 thrown most rules editions orders sizes ops numbers cells hasFallback fallbackKinds fallbacks facts states counts days toldAt tells z_y_handles_21 z_y_handleFacts_22 (failures + 1) (upd failedRule failures.toNatClampNeg r) (upd failedHow failures.toNatClampNeg z_y_how_26) answers givers z_y_stack_23 z_y_high_24 z_y_steps_25 z_y_how_26 z_y_cellNow_27 z_y_own_28 z_y_has_29) H := hP
      replace hD : va_D A (W_Mod cI cL cZ cR cE a0 a1 a2 a3 a4 a5 a6 a7 a8 a9 a10 a11 a12 a13 a14 a15 a16 a17 a18 a19 a20 a21 a22 thrown most rules editions orders sizes ops numbers cells hasFallback fallbackKinds fallbacks facts states counts days toldAt tells z_y_handles_21 z_y_handleFacts_22 (failures + 1) (upd failedRule failures.toNatClampNeg r) (upd failedHow failures.toNatClampNeg z_y_how_26) answers givers z_y_stack_23 z_y_high_24 z_y_steps_25 z_y_how_26 z_y_cellNow_27 z_y_own_28 z_y_has_29) := hD
      exact W.vret hx hb hr (fun t ht hW => ⟨⟨(z_y_handles_21, z_y_handleFacts_22, failures + 1, upd failedRule failures.toNatClampNeg r, upd failedHow failures.toNatClampNeg z_y_how_26, z_y_stack_23, z_y_high_24, z_y_steps_25, z_y_how_26, z_y_cellNow_27, z_y_own_28, z_y_has_29), rfl, (by rw [← hT]; simp only [f_mdoAll, ← hw_30, if_neg c_31]), by rw [ht]; exact hP, va_K.moved hW.alike hK, hD⟩, hS.F ht⟩) hS.2.2 d_Mo_doAll_143
