set_option maxHeartbeats 4000000 in
set_option maxRecDepth 100000 in
theorem c_mask (l : Launch) (G : va_G) (cI cL cZ cR cE : ClassId) (sz : Nat) (a0 a1 a2 a3 a4 a5 a6 a7 a8 a9 a10 a11 a12 a13 a14 a15 a16 a17 a18 a19 a20 a21 a22 : Nat) (thrown : Int32) (most : Int32) (rules : Int32) (editions : Nat → Int32) (orders : Nat → Int32) (sizes : Nat → Int32) (ops : Nat → Int32) (numbers : Nat → Int64) (cells : Nat → Int64) (hasFallback : Nat → Int32) (fallbackKinds : Nat → Int32) (fallbacks : Nat → Int64) (facts : Nat → Int64) (states : Nat → Int32) (counts : Nat → Int32) (days : Nat → Int32) (toldAt : Nat → Int32) (tells : Int32) (handles : Int32) (handleFacts : Nat → Int32) (failures : Int32) (failedRule : Nat → Int32) (failedHow : Nat → Int32) (answers : Nat → Int64) (givers : Nat → Int32) (stack : Nat → Int64) (high : Int32) (steps : Int32) (how : Int32) (cellNow : Int64) (own : Nat → Int64) (has : Nat → Int32) (begun : Int32) (o : Int32 → Nat → Int32) (cnt : Int32 → Nat) (hgo : ∀ ed, ¬ f_misEdition ed = 0 → GH rules editions orders ed (o ed) (cnt ed)) (hR : 0 ≤ rules.toInt ∧ rules.toInt ≤ 40) (hZ : ∀ j, 0 ≤ (sizes j).toInt ∧ (sizes j).toInt ≤ 12) (hm : 0 ≤ most.toInt ∧ most.toInt ≤ 100) (hhf : ∀ j, vp_in (handleFacts j) 8) (hV : ∀ j, okN (ops j) (numbers j)) (hFK : ∀ j, vp_in (fallbackKinds j) 4) : Met l y_Mo_ask w_Mo_ask ({ frames := 4, cells := 0, slots := 0, locals := 95 }) (preW G (TYS cI cL cZ cR cE) [.ref a0, .int begun] sz (W_Mod cI cL cZ cR cE a0 a1 a2 a3 a4 a5 a6 a7 a8 a9 a10 a11 a12 a13 a14 a15 a16 a17 a18 a19 a20 a21 a22 thrown most rules editions orders sizes ops numbers cells hasFallback fallbackKinds fallbacks facts states counts days toldAt tells handles handleFacts failures failedRule failedHow answers givers stack high steps how cellNow own has)) (va_Qi (fun (ans_ : Int32) (u : Int32 × (Nat → Int64) × Int32 × (Nat → Int32) × Int32 × (Nat → Int32) × (Nat → Int32) × (Nat → Int64) × (Nat → Int32) × (Nat → Int64) × Int32 × Int32 × Int32 × Int64 × (Nat → Int64) × (Nat → Int32)) => (ans_, u) = f_mask most rules editions orders sizes ops numbers cells hasFallback fallbackKinds fallbacks facts days toldAt handles handleFacts failures failedRule failedHow answers givers stack high steps how cellNow own has begun) (fun u t => va_P G vwCl (W_Mod cI cL cZ cR cE a0 a1 a2 a3 a4 a5 a6 a7 a8 a9 a10 a11 a12 a13 a14 a15 a16 a17 a18 a19 a20 a21 a22 u.1 most rules editions orders sizes ops numbers u.2.1 hasFallback fallbackKinds fallbacks facts states counts days toldAt tells u.2.2.1 u.2.2.2.1 u.2.2.2.2.1 u.2.2.2.2.2.1 u.2.2.2.2.2.2.1 u.2.2.2.2.2.2.2.1 u.2.2.2.2.2.2.2.2.1 u.2.2.2.2.2.2.2.2.2.1 u.2.2.2.2.2.2.2.2.2.2.1 u.2.2.2.2.2.2.2.2.2.2.2.1 u.2.2.2.2.2.2.2.2.2.2.2.2.1 u.2.2.2.2.2.2.2.2.2.2.2.2.2.1 u.2.2.2.2.2.2.2.2.2.2.2.2.2.2.1 u.2.2.2.2.2.2.2.2.2.2.2.2.2.2.2) t.heap ∧ va_K G vwCl (TYS cI cL cZ cR cE) t ∧ va_D (va_A (W_Mod cI cL cZ cR cE a0 a1 a2 a3 a4 a5 a6 a7 a8 a9 a10 a11 a12 a13 a14 a15 a16 a17 a18 a19 a20 a21 a22 thrown most rules editions orders sizes ops numbers cells hasFallback fallbackKinds fallbacks facts states counts days toldAt tells handles handleFacts failures failedRule failedHow answers givers stack high steps how cellNow own has) sz) (W_Mod cI cL cZ cR cE a0 a1 a2 a3 a4 a5 a6 a7 a8 a9 a10 a11 a12 a13 a14 a15 a16 a17 a18 a19 a20 a21 a22 u.1 most rules editions orders sizes ops numbers u.2.1 hasFallback fallbackKinds fallbacks facts states counts days toldAt tells u.2.2.1 u.2.2.2.1 u.2.2.2.2.1 u.2.2.2.2.2.1 u.2.2.2.2.2.2.1 u.2.2.2.2.2.2.2.1 u.2.2.2.2.2.2.2.2.1 u.2.2.2.2.2.2.2.2.2.1 u.2.2.2.2.2.2.2.2.2.2.1 u.2.2.2.2.2.2.2.2.2.2.2.1 u.2.2.2.2.2.2.2.2.2.2.2.2.1 u.2.2.2.2.2.2.2.2.2.2.2.2.2.1 u.2.2.2.2.2.2.2.2.2.2.2.2.2.2.1 u.2.2.2.2.2.2.2.2.2.2.2.2.2.2.2)) (va_A (W_Mod cI cL cZ cR cE a0 a1 a2 a3 a4 a5 a6 a7 a8 a9 a10 a11 a12 a13 a14 a15 a16 a17 a18 a19 a20 a21 a22 thrown most rules editions orders sizes ops numbers cells hasFallback fallbackKinds fallbacks facts states counts days toldAt tells handles handleFacts failures failedRule failedHow answers givers stack high steps how cellNow own has) sz)) 0 0 (va_A (W_Mod cI cL cZ cR cE a0 a1 a2 a3 a4 a5 a6 a7 a8 a9 a10 a11 a12 a13 a14 a15 a16 a17 a18 a19 a20 a21 a22 thrown most rules editions orders sizes ops numbers cells hasFallback fallbackKinds fallbacks facts states counts days toldAt tells handles handleFacts failures failedRule failedHow answers givers stack high steps how cellNow own has) sz) := by
  refine Met.ofW (cc := b_Mo_ask) (maxL := 6) (ret := (some .int)) (by decide) rfl ?_
  intro p e s m args below meth c s₁ B hml hv
  obtain ⟨rfl, hsz, hP, hK, hD0, hN⟩ := hv
  have hx := B.exec
  have hb := B.bytes
  have hr := B.returns
  have hts := atoms_spec (ws := w_Mo_ask) B.pre
  have hown : s.vm.findClass R_Mo = some m.cls := findClass_of_methodNamed B.named
  have hlocks := B.notSynchronized
  subst hsz
  have hD := hD0.self (sz := s.heap.size)
  clear hD0
  generalize hAe : va_A (W_Mod cI cL cZ cR cE a0 a1 a2 a3 a4 a5 a6 a7 a8 a9 a10 a11 a12 a13 a14 a15 a16 a17 a18 a19 a20 a21 a22 thrown most rules editions orders sizes ops numbers cells hasFallback fallbackKinds fallbacks facts states counts days toldAt tells handles handleFacts failures failedRule failedHow answers givers stack high steps how cellNow own has) s.heap.size = A at hD ⊢
  have hA : ∀ q : Nat, s.heap.size ≤ q → A q := fun q h => by rw [← hAe]; exact Or.inr h
  clear hAe
  have hS : va_S A s.heap s.heap [] := va_S.rf
  obtain ⟨H, hH⟩ : ∃ H, H = s.heap := ⟨_, rfl⟩
  rw [← hH] at hP
  replace hS : va_S A s.heap H [] := by rw [hH]; exact hS
  rw [← hH]
  clear hH
  have hi_2 : ∀ w ∈ u_ws R_Mo T_Mo 32, w ∈ w_Mo_ask := fun w h => List.mem_cons_of_mem _ (iu_Mo w h)
  have hk_1 := hts (.fieldLink R_Mo 82 "HandlingRulesModel" "thrown" "I") (List.mem_cons_of_mem _ kw_565)
  have hk_10 := hts (.fieldLink R_Mo 122 "HandlingRulesModel" "how" "I") (List.mem_cons_of_mem _ kw_593)
  have hk_11 := hts (.fieldLink R_Mo 26 "HandlingRulesModel" "cells" "[J") (List.mem_cons_of_mem _ kw_573)
  have hk_12 := hts (.fieldLink R_Mo 137 "HandlingRulesModel" "cellNow" "J") (List.mem_cons_of_mem _ kw_594)
  have hk_13 := hts (.fieldLink R_Mo 75 "HandlingRulesModel" "has" "[Z") (List.mem_cons_of_mem _ kw_596)
  have hk_14 := hts (.fieldLink R_Mo 72 "HandlingRulesModel" "own" "[J") (List.mem_cons_of_mem _ kw_595)
  have hk_15 := hts (.fieldLink R_Mo 29 "HandlingRulesModel" "hasFallback" "[Z") (List.mem_cons_of_mem _ kw_574)
  have hk_16 := hts (.fieldLink R_Mo 33 "HandlingRulesModel" "fallbackKinds" "[I") (List.mem_cons_of_mem _ kw_575)
  have hk_17 := hts (.fieldLink R_Mo 36 "HandlingRulesModel" "fallbacks" "[J") (List.mem_cons_of_mem _ kw_576)
  have hk_3 := hts (.constantLong R_Mo 164 100000) (List.mem_cons_of_mem _ kw_738)
  have hk_4 := hts (.fieldLink R_Mo 155 "HandlingRulesModel" "failures" "I") (List.mem_cons_of_mem _ kw_585)
  have hk_5 := hts (.fieldLink R_Mo 145 "HandlingRulesModel" "handles" "I") (List.mem_cons_of_mem _ kw_583)
  have hk_6 := hts (.fieldLink R_Mo 63 "HandlingRulesModel" "answers" "[J") (List.mem_cons_of_mem _ kw_588)
  have hk_7 := hts (.fieldLink R_Mo 66 "HandlingRulesModel" "givers" "[I") (List.mem_cons_of_mem _ kw_589)
  have hk_8 := hts (.fieldLink R_Mo 48 "HandlingRulesModel" "days" "[I") (List.mem_cons_of_mem _ kw_580)
  have hk_9 := hts (.fieldLink R_Mo 51 "HandlingRulesModel" "toldAt" "[I") (List.mem_cons_of_mem _ kw_581)
  have hl := lv_entry ([.ref a0, .int begun]) (n := 6) (Nat.le_of_ble_eq_true rfl)
  rw [lg_entry_eq]
  generalize (lg_sl ([.ref a0, .int begun]) ++ List.replicate (6 - (lg_sl ([.ref a0, .int begun])).length) Slot.unset).toArray = ls at hl ⊢
  replace hl : lv_has ls 6 [(0, .ref a0), (1, .int begun)] := hl
  generalize hT : f_mask most rules editions orders sizes ops numbers cells hasFallback fallbackKinds fallbacks facts days toldAt handles handleFacts failures failedRule failedHow answers givers stack high steps how cellNow own has begun = T
  refine lv_aload_n hx hb d_Mo_ask_0 rfl (lv_at hl 0 rfl) ?_
  refine lv_iconst (v := 0) hx hb d_Mo_ask_1 (by decide) ?_
  refine va_put (D := G) (ci := 6) (v := .int 0) (ty := (.int)) (C := R_Mo) (T := T_Mo) (N := 32) hx hb hts hi_2 ty_Mo tyk_Mo nm_Mo hown hK hP hD hS 0 rfl rfl 0 (by decide) hk_1 (fun _ h9 => h9) rfl (by decide +kernel) rfl rfl (Nat.le_of_ble_eq_true rfl) d_Mo_ask_2 (fun H locs hP hD hS => ?_)
  replace hP : va_P G vwCl (W_Mod cI cL cZ cR cE a0 a1 a2 a3 a4 a5 a6 a7 a8 a9 a10 a11 a12 a13 a14 a15 a16 a17 a18 a19 a20 a21 a22 0 most rules editions orders sizes ops numbers cells hasFallback fallbackKinds fallbacks facts states counts days toldAt tells handles handleFacts failures failedRule failedHow answers givers stack high steps how cellNow own has) H := hP
  replace hD : va_D A (W_Mod cI cL cZ cR cE a0 a1 a2 a3 a4 a5 a6 a7 a8 a9 a10 a11 a12 a13 a14 a15 a16 a17 a18 a19 a20 a21 a22 0 most rules editions orders sizes ops numbers cells hasFallback fallbackKinds fallbacks facts states counts days toldAt tells handles handleFacts failures failedRule failedHow answers givers stack high steps how cellNow own has) := hD
  refine lv_iload_n hx hb d_Mo_ask_5 rfl (lv_at hl 1 rfl) ?_
  refine lv_i2l (v := begun.toInt64) hx hb d_Mo_ask_6 rfl ?_
  refine lv_lconst (v := 0) hx hb d_Mo_ask_7 (by decide) ?_
  refine lv_ldc2 (v := 100000) hx hb hown hk_3 d_Mo_ask_8 ?_
  refine vp_callSi (W.runS (As := [.long begun.toInt64, .long 0, .long 100000]) (rest := []) ⟨hx, hb, hml, hown, hts⟩ (c_mwithin l G cI cL cZ cR cE  begun.toInt64 0 100000) (va_cwS 3 hts (gS kw_675 kw_676 kw_21 kw_677) rfl rfl rfl (by decide +kernel) ⟨Nat.le_of_ble_eq_true rfl, Nat.le_of_ble_eq_true rfl⟩) (preRS_of hN hK hP [] rfl) rfl rfl hl.1 rfl (lv_room (Nat.le_of_ble_eq_true rfl)) d_Mo_ask_11 ⟨Nat.zero_le _, Nat.zero_le _⟩) (fun r_1 hw => ?_)
  subst hw
  refine lv_if_ne (tgt := 20) hx hb d_Mo_ask_14 (by decide) (fun c_2 => ?_) (fun c_2 => ?_)
  · refine lv_aload_n hx hb d_Mo_ask_20 rfl (lv_at hl 0 rfl) ?_
    refine lv_iconst (v := 0) hx hb d_Mo_ask_21 (by decide) ?_
    refine va_put (D := G) (ci := 6) (v := .int 0) (ty := (.int)) (C := R_Mo) (T := T_Mo) (N := 32) hx hb hts hi_2 ty_Mo tyk_Mo nm_Mo hown hK hP hD hS 0 rfl rfl 20 (by decide) hk_4 (fun _ h9 => h9) rfl (by decide +kernel) rfl rfl (Nat.le_of_ble_eq_true rfl) d_Mo_ask_22 (fun H locs hP hD hS => ?_)
    replace hP : va_P G vwCl (W_Mod cI cL cZ cR cE a0 a1 a2 a3 a4 a5 a6 a7 a8 a9 a10 a11 a12 a13 a14 a15 a16 a17 a18 a19 a20 a21 a22 0 most rules editions orders sizes ops numbers cells hasFallback fallbackKinds fallbacks facts states counts days toldAt tells handles handleFacts 0 failedRule failedHow answers givers stack high steps how cellNow own has) H := hP
    replace hD : va_D A (W_Mod cI cL cZ cR cE a0 a1 a2 a3 a4 a5 a6 a7 a8 a9 a10 a11 a12 a13 a14 a15 a16 a17 a18 a19 a20 a21 a22 0 most rules editions orders sizes ops numbers cells hasFallback fallbackKinds fallbacks facts states counts days toldAt tells handles handleFacts 0 failedRule failedHow answers givers stack high steps how cellNow own has) := hD
    refine lv_aload_n hx hb d_Mo_ask_25 rfl (lv_at hl 0 rfl) ?_
    refine lv_iconst (v := 0) hx hb d_Mo_ask_26 (by decide) ?_
    refine va_put (D := G) (ci := 6) (v := .int 0) (ty := (.int)) (C := R_Mo) (T := T_Mo) (N := 32) hx hb hts hi_2 ty_Mo tyk_Mo nm_Mo hown hK hP hD hS 0 rfl rfl 18 (by decide) hk_5 (fun _ h9 => h9) rfl (by decide +kernel) rfl rfl (Nat.le_of_ble_eq_true rfl) d_Mo_ask_27 (fun H locs hP hD hS => ?_)
    replace hP : va_P G vwCl (W_Mod cI cL cZ cR cE a0 a1 a2 a3 a4 a5 a6 a7 a8 a9 a10 a11 a12 a13 a14 a15 a16 a17 a18 a19 a20 a21 a22 0 most rules editions orders sizes ops numbers cells hasFallback fallbackKinds fallbacks facts states counts days toldAt tells 0 handleFacts 0 failedRule failedHow answers givers stack high steps how cellNow own has) H := hP
    replace hD : va_D A (W_Mod cI cL cZ cR cE a0 a1 a2 a3 a4 a5 a6 a7 a8 a9 a10 a11 a12 a13 a14 a15 a16 a17 a18 a19 a20 a21 a22 0 most rules editions orders sizes ops numbers cells hasFallback fallbackKinds fallbacks facts states counts days toldAt tells 0 handleFacts 0 failedRule failedHow answers givers stack high steps how cellNow own has) := hD
    refine lv_iconst (v := 0) hx hb d_Mo_ask_30 (by decide) ?_
    refine lv_istore_n (lv' := [(2, .int 0), (0, .ref a0), (1, .int begun)]) hx hb d_Mo_ask_31 rfl hl (by decide) rfl (fun ls hl => ?_)
    refine lv_iload_n hx hb d_Mo_ask_32 rfl (lv_at hl 0 rfl) ?_
    refine lv_iconst (v := 4) hx hb d_Mo_ask_33 (by decide) ?_
    refine lv_icmp_ge (tgt := 57) hx hb d_Mo_ask_34 (by decide) (fun k_3 => absurd k_3 (by decide)) (fun _ => ?_)
    refine lv_aload_n hx hb d_Mo_ask_37 rfl (lv_at hl 1 rfl) ?_
    refine va_get (D := G) (ci := 6) (v := .ref a18) (C := R_Mo) (T := T_Mo) (N := 32) hx hb hts hi_2 hown hK hP 0 rfl rfl 23 (by decide) hk_6 (fun _ h9 => h9) rfl d_Mo_ask_38 ?_
    refine lv_iload_n hx hb d_Mo_ask_41 rfl (lv_at hl 0 rfl) ?_
    refine lv_lconst (v := 0) hx hb d_Mo_ask_42 (by decide) ?_
    refine va_last hx hb hK hP hD hS 18 1 rfl rfl (by unfold vp_in; decide) d_Mo_ask_43 (fun H locs hP hD hS => ?_)
    replace hP : va_P G vwCl (W_Mod cI cL cZ cR cE a0 a1 a2 a3 a4 a5 a6 a7 a8 a9 a10 a11 a12 a13 a14 a15 a16 a17 a18 a19 a20 a21 a22 0 most rules editions orders sizes ops numbers cells hasFallback fallbackKinds fallbacks facts states counts days toldAt tells 0 handleFacts 0 failedRule failedHow (vp_updL answers (0 : Int32).toNatClampNeg 0) givers stack high steps how cellNow own has) H := hP
    replace hD : va_D A (W_Mod cI cL cZ cR cE a0 a1 a2 a3 a4 a5 a6 a7 a8 a9 a10 a11 a12 a13 a14 a15 a16 a17 a18 a19 a20 a21 a22 0 most rules editions orders sizes ops numbers cells hasFallback fallbackKinds fallbacks facts states counts days toldAt tells 0 handleFacts 0 failedRule failedHow (vp_updL answers (0 : Int32).toNatClampNeg 0) givers stack high steps how cellNow own has) := hD
    refine lv_aload_n hx hb d_Mo_ask_44 rfl (lv_at hl 1 rfl) ?_
    refine va_get (D := G) (ci := 6) (v := .ref a19) (C := R_Mo) (T := T_Mo) (N := 32) hx hb hts hi_2 hown hK hP 0 rfl rfl 24 (by decide) hk_7 (fun _ h9 => h9) rfl d_Mo_ask_45 ?_
    refine lv_iload_n hx hb d_Mo_ask_48 rfl (lv_at hl 0 rfl) ?_
    refine lv_iconst (v := (-1)) hx hb d_Mo_ask_49 (by decide) ?_
    refine va_iast hx hb hK hP hD hS 19 0 rfl rfl (by unfold vp_in; decide) d_Mo_ask_50 (fun H locs hP hD hS => ?_)
    replace hP : va_P G vwCl (W_Mod cI cL cZ cR cE a0 a1 a2 a3 a4 a5 a6 a7 a8 a9 a10 a11 a12 a13 a14 a15 a16 a17 a18 a19 a20 a21 a22 0 most rules editions orders sizes ops numbers cells hasFallback fallbackKinds fallbacks facts states counts days toldAt tells 0 handleFacts 0 failedRule failedHow (vp_updL answers (0 : Int32).toNatClampNeg 0) (upd givers (0 : Int32).toNatClampNeg (-1)) stack high steps how cellNow own has) H := hP
    replace hD : va_D A (W_Mod cI cL cZ cR cE a0 a1 a2 a3 a4 a5 a6 a7 a8 a9 a10 a11 a12 a13 a14 a15 a16 a17 a18 a19 a20 a21 a22 0 most rules editions orders sizes ops numbers cells hasFallback fallbackKinds fallbacks facts states counts days toldAt tells 0 handleFacts 0 failedRule failedHow (vp_updL answers (0 : Int32).toNatClampNeg 0) (upd givers (0 : Int32).toNatClampNeg (-1)) stack high steps how cellNow own has) := hD
    refine lv_iinc (v := 1) (lv' := [(2, .int 1), (0, .ref a0), (1, .int begun)]) hx hb d_Mo_ask_51 hl (k := 0) rfl (by decide) (by decide) rfl (fun ls hl => ?_)
    refine lv_goto (tgt := 32) hx hb d_Mo_ask_54 (by decide) ?_
    refine lv_iload_n hx hb d_Mo_ask_32 rfl (lv_at hl 0 rfl) ?_
    refine lv_iconst (v := 4) hx hb d_Mo_ask_33 (by decide) ?_
    refine lv_icmp_ge (tgt := 57) hx hb d_Mo_ask_34 (by decide) (fun k_4 => absurd k_4 (by decide)) (fun _ => ?_)
    refine lv_aload_n hx hb d_Mo_ask_37 rfl (lv_at hl 1 rfl) ?_
    refine va_get (D := G) (ci := 6) (v := .ref a18) (C := R_Mo) (T := T_Mo) (N := 32) hx hb hts hi_2 hown hK hP 0 rfl rfl 23 (by decide) hk_6 (fun _ h9 => h9) rfl d_Mo_ask_38 ?_
    refine lv_iload_n hx hb d_Mo_ask_41 rfl (lv_at hl 0 rfl) ?_
    refine lv_lconst (v := 0) hx hb d_Mo_ask_42 (by decide) ?_
    refine va_last hx hb hK hP hD hS 18 1 rfl rfl (by unfold vp_in; decide) d_Mo_ask_43 (fun H locs hP hD hS => ?_)
    replace hP : va_P G vwCl (W_Mod cI cL cZ cR cE a0 a1 a2 a3 a4 a5 a6 a7 a8 a9 a10 a11 a12 a13 a14 a15 a16 a17 a18 a19 a20 a21 a22 0 most rules editions orders sizes ops numbers cells hasFallback fallbackKinds fallbacks facts states counts days toldAt tells 0 handleFacts 0 failedRule failedHow (vp_updL (vp_updL answers (0 : Int32).toNatClampNeg 0) (1 : Int32).toNatClampNeg 0) (upd givers (0 : Int32).toNatClampNeg (-1)) stack high steps how cellNow own has) H := hP
    replace hD : va_D A (W_Mod cI cL cZ cR cE a0 a1 a2 a3 a4 a5 a6 a7 a8 a9 a10 a11 a12 a13 a14 a15 a16 a17 a18 a19 a20 a21 a22 0 most rules editions orders sizes ops numbers cells hasFallback fallbackKinds fallbacks facts states counts days toldAt tells 0 handleFacts 0 failedRule failedHow (vp_updL (vp_updL answers (0 : Int32).toNatClampNeg 0) (1 : Int32).toNatClampNeg 0) (upd givers (0 : Int32).toNatClampNeg (-1)) stack high steps how cellNow own has) := hD
    refine lv_aload_n hx hb d_Mo_ask_44 rfl (lv_at hl 1 rfl) ?_
    refine va_get (D := G) (ci := 6) (v := .ref a19) (C := R_Mo) (T := T_Mo) (N := 32) hx hb hts hi_2 hown hK hP 0 rfl rfl 24 (by decide) hk_7 (fun _ h9 => h9) rfl d_Mo_ask_45 ?_
    refine lv_iload_n hx hb d_Mo_ask_48 rfl (lv_at hl 0 rfl) ?_
    refine lv_iconst (v := (-1)) hx hb d_Mo_ask_49 (by decide) ?_
    refine va_iast hx hb hK hP hD hS 19 0 rfl rfl (by unfold vp_in; decide) d_Mo_ask_50 (fun H locs hP hD hS => ?_)
    replace hP : va_P G vwCl (W_Mod cI cL cZ cR cE a0 a1 a2 a3 a4 a5 a6 a7 a8 a9 a10 a11 a12 a13 a14 a15 a16 a17 a18 a19 a20 a21 a22 0 most rules editions orders sizes ops numbers cells hasFallback fallbackKinds fallbacks facts states counts days toldAt tells 0 handleFacts 0 failedRule failedHow (vp_updL (vp_updL answers (0 : Int32).toNatClampNeg 0) (1 : Int32).toNatClampNeg 0) (upd (upd givers (0 : Int32).toNatClampNeg (-1)) (1 : Int32).toNatClampNeg (-1)) stack high steps how cellNow own has) H := hP
    replace hD : va_D A (W_Mod cI cL cZ cR cE a0 a1 a2 a3 a4 a5 a6 a7 a8 a9 a10 a11 a12 a13 a14 a15 a16 a17 a18 a19 a20 a21 a22 0 most rules editions orders sizes ops numbers cells hasFallback fallbackKinds fallbacks facts states counts days toldAt tells 0 handleFacts 0 failedRule failedHow (vp_updL (vp_updL answers (0 : Int32).toNatClampNeg 0) (1 : Int32).toNatClampNeg 0) (upd (upd givers (0 : Int32).toNatClampNeg (-1)) (1 : Int32).toNatClampNeg (-1)) stack high steps how cellNow own has) := hD
    refine lv_iinc (v := 2) (lv' := [(2, .int 2), (0, .ref a0), (1, .int begun)]) hx hb d_Mo_ask_51 hl (k := 0) rfl (by decide) (by decide) rfl (fun ls hl => ?_)
    refine lv_goto (tgt := 32) hx hb d_Mo_ask_54 (by decide) ?_
    refine lv_iload_n hx hb d_Mo_ask_32 rfl (lv_at hl 0 rfl) ?_
    refine lv_iconst (v := 4) hx hb d_Mo_ask_33 (by decide) ?_
    refine lv_icmp_ge (tgt := 57) hx hb d_Mo_ask_34 (by decide) (fun k_5 => absurd k_5 (by decide)) (fun _ => ?_)
    refine lv_aload_n hx hb d_Mo_ask_37 rfl (lv_at hl 1 rfl) ?_
    refine va_get (D := G) (ci := 6) (v := .ref a18) (C := R_Mo) (T := T_Mo) (N := 32) hx hb hts hi_2 hown hK hP 0 rfl rfl 23 (by decide) hk_6 (fun _ h9 => h9) rfl d_Mo_ask_38 ?_
    refine lv_iload_n hx hb d_Mo_ask_41 rfl (lv_at hl 0 rfl) ?_
    refine lv_lconst (v := 0) hx hb d_Mo_ask_42 (by decide) ?_
    refine va_last hx hb hK hP hD hS 18 1 rfl rfl (by unfold vp_in; decide) d_Mo_ask_43 (fun H locs hP hD hS => ?_)
    replace hP : va_P G vwCl (W_Mod cI cL cZ cR cE a0 a1 a2 a3 a4 a5 a6 a7 a8 a9 a10 a11 a12 a13 a14 a15 a16 a17 a18 a19 a20 a21 a22 0 most rules editions orders sizes ops numbers cells hasFallback fallbackKinds fallbacks facts states counts days toldAt tells 0 handleFacts 0 failedRule failedHow (vp_updL (vp_updL (vp_updL answers (0 : Int32).toNatClampNeg 0) (1 : Int32).toNatClampNeg 0) (2 : Int32).toNatClampNeg 0) (upd (upd givers (0 : Int32).toNatClampNeg (-1)) (1 : Int32).toNatClampNeg (-1)) stack high steps how cellNow own has) H := hP
    replace hD : va_D A (W_Mod cI cL cZ cR cE a0 a1 a2 a3 a4 a5 a6 a7 a8 a9 a10 a11 a12 a13 a14 a15 a16 a17 a18 a19 a20 a21 a22 0 most rules editions orders sizes ops numbers cells hasFallback fallbackKinds fallbacks facts states counts days toldAt tells 0 handleFacts 0 failedRule failedHow (vp_updL (vp_updL (vp_updL answers (0 : Int32).toNatClampNeg 0) (1 : Int32).toNatClampNeg 0) (2 : Int32).toNatClampNeg 0) (upd (upd givers (0 : Int32).toNatClampNeg (-1)) (1 : Int32).toNatClampNeg (-1)) stack high steps how cellNow own has) := hD
    refine lv_aload_n hx hb d_Mo_ask_44 rfl (lv_at hl 1 rfl) ?_
    refine va_get (D := G) (ci := 6) (v := .ref a19) (C := R_Mo) (T := T_Mo) (N := 32) hx hb hts hi_2 hown hK hP 0 rfl rfl 24 (by decide) hk_7 (fun _ h9 => h9) rfl d_Mo_ask_45 ?_
    refine lv_iload_n hx hb d_Mo_ask_48 rfl (lv_at hl 0 rfl) ?_
    refine lv_iconst (v := (-1)) hx hb d_Mo_ask_49 (by decide) ?_
    refine va_iast hx hb hK hP hD hS 19 0 rfl rfl (by unfold vp_in; decide) d_Mo_ask_50 (fun H locs hP hD hS => ?_)
    replace hP : va_P G vwCl (W_Mod cI cL cZ cR cE a0 a1 a2 a3 a4 a5 a6 a7 a8 a9 a10 a11 a12 a13 a14 a15 a16 a17 a18 a19 a20 a21 a22 0 most rules editions orders sizes ops numbers cells hasFallback fallbackKinds fallbacks facts states counts days toldAt tells 0 handleFacts 0 failedRule failedHow (vp_updL (vp_updL (vp_updL answers (0 : Int32).toNatClampNeg 0) (1 : Int32).toNatClampNeg 0) (2 : Int32).toNatClampNeg 0) (upd (upd (upd givers (0 : Int32).toNatClampNeg (-1)) (1 : Int32).toNatClampNeg (-1)) (2 : Int32).toNatClampNeg (-1)) stack high steps how cellNow own has) H := hP
    replace hD : va_D A (W_Mod cI cL cZ cR cE a0 a1 a2 a3 a4 a5 a6 a7 a8 a9 a10 a11 a12 a13 a14 a15 a16 a17 a18 a19 a20 a21 a22 0 most rules editions orders sizes ops numbers cells hasFallback fallbackKinds fallbacks facts states counts days toldAt tells 0 handleFacts 0 failedRule failedHow (vp_updL (vp_updL (vp_updL answers (0 : Int32).toNatClampNeg 0) (1 : Int32).toNatClampNeg 0) (2 : Int32).toNatClampNeg 0) (upd (upd (upd givers (0 : Int32).toNatClampNeg (-1)) (1 : Int32).toNatClampNeg (-1)) (2 : Int32).toNatClampNeg (-1)) stack high steps how cellNow own has) := hD
    refine lv_iinc (v := 3) (lv' := [(2, .int 3), (0, .ref a0), (1, .int begun)]) hx hb d_Mo_ask_51 hl (k := 0) rfl (by decide) (by decide) rfl (fun ls hl => ?_)
    refine lv_goto (tgt := 32) hx hb d_Mo_ask_54 (by decide) ?_
    refine lv_iload_n hx hb d_Mo_ask_32 rfl (lv_at hl 0 rfl) ?_
    refine lv_iconst (v := 4) hx hb d_Mo_ask_33 (by decide) ?_
    refine lv_icmp_ge (tgt := 57) hx hb d_Mo_ask_34 (by decide) (fun k_6 => absurd k_6 (by decide)) (fun _ => ?_)
    refine lv_aload_n hx hb d_Mo_ask_37 rfl (lv_at hl 1 rfl) ?_
    refine va_get (D := G) (ci := 6) (v := .ref a18) (C := R_Mo) (T := T_Mo) (N := 32) hx hb hts hi_2 hown hK hP 0 rfl rfl 23 (by decide) hk_6 (fun _ h9 => h9) rfl d_Mo_ask_38 ?_
    refine lv_iload_n hx hb d_Mo_ask_41 rfl (lv_at hl 0 rfl) ?_
    refine lv_lconst (v := 0) hx hb d_Mo_ask_42 (by decide) ?_
    refine va_last hx hb hK hP hD hS 18 1 rfl rfl (by unfold vp_in; decide) d_Mo_ask_43 (fun H locs hP hD hS => ?_)
    replace hP : va_P G vwCl (W_Mod cI cL cZ cR cE a0 a1 a2 a3 a4 a5 a6 a7 a8 a9 a10 a11 a12 a13 a14 a15 a16 a17 a18 a19 a20 a21 a22 0 most rules editions orders sizes ops numbers cells hasFallback fallbackKinds fallbacks facts states counts days toldAt tells 0 handleFacts 0 failedRule failedHow (vp_updL (vp_updL (vp_updL (vp_updL answers (0 : Int32).toNatClampNeg 0) (1 : Int32).toNatClampNeg 0) (2 : Int32).toNatClampNeg 0) (3 : Int32).toNatClampNeg 0) (upd (upd (upd givers (0 : Int32).toNatClampNeg (-1)) (1 : Int32).toNatClampNeg (-1)) (2 : Int32).toNatClampNeg (-1)) stack high steps how cellNow own has) H := hP
    replace hD : va_D A (W_Mod cI cL cZ cR cE a0 a1 a2 a3 a4 a5 a6 a7 a8 a9 a10 a11 a12 a13 a14 a15 a16 a17 a18 a19 a20 a21 a22 0 most rules editions orders sizes ops numbers cells hasFallback fallbackKinds fallbacks facts states counts days toldAt tells 0 handleFacts 0 failedRule failedHow (vp_updL (vp_updL (vp_updL (vp_updL answers (0 : Int32).toNatClampNeg 0) (1 : Int32).toNatClampNeg 0) (2 : Int32).toNatClampNeg 0) (3 : Int32).toNatClampNeg 0) (upd (upd (upd givers (0 : Int32).toNatClampNeg (-1)) (1 : Int32).toNatClampNeg (-1)) (2 : Int32).toNatClampNeg (-1)) stack high steps how cellNow own has) := hD
    refine lv_aload_n hx hb d_Mo_ask_44 rfl (lv_at hl 1 rfl) ?_
    refine va_get (D := G) (ci := 6) (v := .ref a19) (C := R_Mo) (T := T_Mo) (N := 32) hx hb hts hi_2 hown hK hP 0 rfl rfl 24 (by decide) hk_7 (fun _ h9 => h9) rfl d_Mo_ask_45 ?_
    refine lv_iload_n hx hb d_Mo_ask_48 rfl (lv_at hl 0 rfl) ?_
    refine lv_iconst (v := (-1)) hx hb d_Mo_ask_49 (by decide) ?_
    refine va_iast hx hb hK hP hD hS 19 0 rfl rfl (by unfold vp_in; decide) d_Mo_ask_50 (fun H locs hP hD hS => ?_)
    replace hP : va_P G vwCl (W_Mod cI cL cZ cR cE a0 a1 a2 a3 a4 a5 a6 a7 a8 a9 a10 a11 a12 a13 a14 a15 a16 a17 a18 a19 a20 a21 a22 0 most rules editions orders sizes ops numbers cells hasFallback fallbackKinds fallbacks facts states counts days toldAt tells 0 handleFacts 0 failedRule failedHow (vp_updL (vp_updL (vp_updL (vp_updL answers (0 : Int32).toNatClampNeg 0) (1 : Int32).toNatClampNeg 0) (2 : Int32).toNatClampNeg 0) (3 : Int32).toNatClampNeg 0) (upd (upd (upd (upd givers (0 : Int32).toNatClampNeg (-1)) (1 : Int32).toNatClampNeg (-1)) (2 : Int32).toNatClampNeg (-1)) (3 : Int32).toNatClampNeg (-1)) stack high steps how cellNow own has) H := hP
    replace hD : va_D A (W_Mod cI cL cZ cR cE a0 a1 a2 a3 a4 a5 a6 a7 a8 a9 a10 a11 a12 a13 a14 a15 a16 a17 a18 a19 a20 a21 a22 0 most rules editions orders sizes ops numbers cells hasFallback fallbackKinds fallbacks facts states counts days toldAt tells 0 handleFacts 0 failedRule failedHow (vp_updL (vp_updL (vp_updL (vp_updL answers (0 : Int32).toNatClampNeg 0) (1 : Int32).toNatClampNeg 0) (2 : Int32).toNatClampNeg 0) (3 : Int32).toNatClampNeg 0) (upd (upd (upd (upd givers (0 : Int32).toNatClampNeg (-1)) (1 : Int32).toNatClampNeg (-1)) (2 : Int32).toNatClampNeg (-1)) (3 : Int32).toNatClampNeg (-1)) stack high steps how cellNow own has) := hD
    refine lv_iinc (v := 4) (lv' := [(2, .int 4), (0, .ref a0), (1, .int begun)]) hx hb d_Mo_ask_51 hl (k := 0) rfl (by decide) (by decide) rfl (fun ls hl => ?_)
    refine lv_goto (tgt := 32) hx hb d_Mo_ask_54 (by decide) ?_
    refine lv_iload_n hx hb d_Mo_ask_32 rfl (lv_at hl 0 rfl) ?_
    refine lv_iconst (v := 4) hx hb d_Mo_ask_33 (by decide) ?_
    refine lv_icmp_ge (tgt := 57) hx hb d_Mo_ask_34 (by decide) (fun _ => ?_) (fun k_7 => absurd (by decide) k_7)
    refine lv_iconst (v := (-1)) hx hb d_Mo_ask_57 (by decide) ?_
    refine lv_istore_n (lv' := [(2, .int (-1)), (0, .ref a0), (1, .int begun)]) hx hb d_Mo_ask_58 rfl hl (by decide) rfl (fun ls hl => ?_)
    refine lv_iconst (v := 0) hx hb d_Mo_ask_59 (by decide) ?_
    refine lv_istore_n (lv' := [(3, .int 0), (2, .int (-1)), (0, .ref a0), (1, .int begun)]) hx hb d_Mo_ask_60 rfl hl (by decide) rfl (fun ls hl => ?_)
    refine W_seq (α := Int32 × Int32) (pcE := 157) (Post := (fun x H locs ls => x = L_maskB days toldAt begun 7 (-1) 0 ∧ va_P G vwCl (W_Mod cI cL cZ cR cE a0 a1 a2 a3 a4 a5 a6 a7 a8 a9 a10 a11 a12 a13 a14 a15 a16 a17 a18 a19 a20 a21 a22 0 most rules editions orders sizes ops numbers cells hasFallback fallbackKinds fallbacks facts states counts days toldAt tells 0 handleFacts 0 failedRule failedHow (vp_updL (vp_updL (vp_updL (vp_updL answers (0 : Int32).toNatClampNeg 0) (1 : Int32).toNatClampNeg 0) (2 : Int32).toNatClampNeg 0) (3 : Int32).toNatClampNeg 0) (upd (upd (upd (upd givers (0 : Int32).toNatClampNeg (-1)) (1 : Int32).toNatClampNeg (-1)) (2 : Int32).toNatClampNeg (-1)) (3 : Int32).toNatClampNeg (-1)) stack high steps how cellNow own has) H ∧ va_D A (W_Mod cI cL cZ cR cE a0 a1 a2 a3 a4 a5 a6 a7 a8 a9 a10 a11 a12 a13 a14 a15 a16 a17 a18 a19 a20 a21 a22 0 most rules editions orders sizes ops numbers cells hasFallback fallbackKinds fallbacks facts states counts days toldAt tells 0 handleFacts 0 failedRule failedHow (vp_updL (vp_updL (vp_updL (vp_updL answers (0 : Int32).toNatClampNeg 0) (1 : Int32).toNatClampNeg 0) (2 : Int32).toNatClampNeg 0) (3 : Int32).toNatClampNeg 0) (upd (upd (upd (upd givers (0 : Int32).toNatClampNeg (-1)) (1 : Int32).toNatClampNeg (-1)) (2 : Int32).toNatClampNeg (-1)) (3 : Int32).toNatClampNeg (-1)) stack high steps how cellNow own has) ∧ va_S A s.heap H locs ∧ lv_has ls 6 [(3, .int x.2), (2, .int x.1), (0, .ref a0), (1, .int begun)])) (fun hKK => ?_) (fun x H locs ls hq => ?_)
    · generalize hT : L_maskB days toldAt begun 7 (-1) 0 = T at hKK
      obtain ⟨n, hn⟩ : ∃ n : Nat, n = 7 := ⟨_, rfl⟩
      obtain ⟨best, h_best⟩ : ∃ z : Int32, z = (-1) := ⟨_, rfl⟩
      obtain ⟨e_, h_e_⟩ : ∃ z : Int32, z = 0 := ⟨_, rfl⟩
      replace hl : lv_has ls 6 [(3, .int e_), (2, .int best), (0, .ref a0), (1, .int begun)] := by rw [h_best, h_e_]; exact hl
      have hI_maskB : 0 ≤ e_.toInt ∧ e_.toInt ≤ 6 ∧ 7 ≤ e_.toInt + (n : Int) ∧ (best = (-1) ∨ vp_in best 6) := by rw [hn, h_e_, h_best]; exact ⟨by decide, by decide, by decide, Or.inl rfl⟩
      replace hT : L_maskB days toldAt begun n best e_ = T := by rw [← hT, hn, h_best, h_e_]
      clear hn h_best h_e_
      revert hT
      revert hI_maskB
      revert hl
      revert hS
      revert hD
      revert hP
      revert e_
      revert best
      revert ls
      revert locs
      revert H
      induction n with
      | zero =>
        intro H locs ls best e_ hP hD hS hl hI_maskB hT
        exact absurd hI_maskB (by omega)
      | succ n ih =>
        intro H locs ls best e_ hP hD hS hl hI_maskB hT
        refine lv_iload_n hx hb d_Mo_ask_61 rfl (lv_at hl 0 rfl) ?_
        refine lv_bipush (v := 6) hx hb d_Mo_ask_62 (by decide) ?_
        refine lv_icmp_ge (tgt := 157) hx hb d_Mo_ask_64 (by decide) (fun c_8 => ?_) (fun c_8 => ?_)
        · exact hKK (best, e_) H _ ls ⟨(by rw [← hT]; simp only [L_maskB, if_pos c_8]), hP, hD, hS, lv_sub hl [0, 1, 2, 3] rfl⟩
        · refine lv_aload_n hx hb d_Mo_ask_67 rfl (lv_at hl 2 rfl) ?_
          refine va_get (D := G) (ci := 6) (v := .ref a13) (C := R_Mo) (T := T_Mo) (N := 32) hx hb hts hi_2 hown hK hP 0 rfl rfl 15 (by decide) hk_8 (fun _ h9 => h9) rfl d_Mo_ask_68 ?_
          refine lv_iload_n hx hb d_Mo_ask_71 rfl (lv_at hl 0 rfl) ?_
          refine va_iald hx hb hK hP 13 0 rfl rfl (e_lt6 hI_maskB c_8) d_Mo_ask_72 ?_
          refine lv_iconst (v := (-1)) hx hb d_Mo_ask_73 (by decide) ?_
          refine W_join (P := (days e_.toNatClampNeg) = (-1)) (A := (0 : Int32)) (B := (if begun < (days e_.toNatClampNeg) then (0 : Int32) else 1)) (fr := (fun v : Int32 => F0 m 92 ls (.int v :: []))) (fun hA_10 hB_11 => ?_) ?_
          · refine lv_icmp_eq (tgt := 91) hx hb d_Mo_ask_74 (by decide) (fun c_9 => ?_) (fun c_9 => ?_)
            · refine lv_iconst (v := 0) hx hb d_Mo_ask_91 (by decide) ?_
              exact hA_10 c_9
            · refine lv_aload_n hx hb d_Mo_ask_77 rfl (lv_at hl 2 rfl) ?_
              refine va_get (D := G) (ci := 6) (v := .ref a13) (C := R_Mo) (T := T_Mo) (N := 32) hx hb hts hi_2 hown hK hP 0 rfl rfl 15 (by decide) hk_8 (fun _ h9 => h9) rfl d_Mo_ask_78 ?_
              refine lv_iload_n hx hb d_Mo_ask_81 rfl (lv_at hl 0 rfl) ?_
              refine va_iald hx hb hK hP 13 0 rfl rfl (e_lt6 hI_maskB c_8) d_Mo_ask_82 ?_
              refine lv_iload_n hx hb d_Mo_ask_83 rfl (lv_at hl 3 rfl) ?_
              refine W_join (P := begun < (days e_.toNatClampNeg)) (A := (0 : Int32)) (B := 1) (fr := (fun v : Int32 => F0 m 92 ls (.int v :: []))) (fun hA_13 hB_14 => ?_) ?_
              · refine lv_icmp_gt (tgt := 91) hx hb d_Mo_ask_84 (by decide) (fun c_12 => ?_) (fun c_12 => ?_)
                · refine lv_iconst (v := 0) hx hb d_Mo_ask_91 (by decide) ?_
                  exact hA_13 c_12
                · refine lv_iconst (v := 1) hx hb d_Mo_ask_87 (by decide) ?_
                  refine lv_goto (tgt := 92) hx hb d_Mo_ask_88 (by decide) ?_
                  exact hB_14 c_12
              exact hB_11 c_9
          refine lv_istore (lv' := [(4, .int (if (days e_.toNatClampNeg) = (-1) then (0 : Int32) else (if begun < (days e_.toNatClampNeg) then (0 : Int32) else 1))), (3, .int e_), (2, .int best), (0, .ref a0), (1, .int begun)]) hx hb d_Mo_ask_92 hl (by decide) rfl (fun ls hl => ?_)
          refine lv_iload hx hb d_Mo_ask_94 (lv_at hl 0 rfl) ?_
          refine lv_if_eq (tgt := 151) hx hb d_Mo_ask_96 (by decide) (fun c_15 => ?_) (fun c_15 => ?_)
          · refine lv_iinc (v := e_ + 1) (lv' := [(3, .int (e_ + 1)), (4, .int (if (days e_.toNatClampNeg) = (-1) then (0 : Int32) else (if begun < (days e_.toNatClampNeg) then (0 : Int32) else 1))), (2, .int best), (0, .ref a0), (1, .int begun)]) hx hb d_Mo_ask_151 hl (k := 1) rfl rfl (by decide) rfl (fun ls hl => ?_)
            refine lv_goto (tgt := 61) hx hb d_Mo_ask_154 (by decide) ?_
            exact ih H _ ls best (e_ + 1) hP hD hS (lv_sub hl [0, 2, 3, 4] rfl) (by exact e_step hI_maskB c_8 hI_maskB.2.2.2) (by rw [← hT]; simp only [L_maskB, if_neg c_8, if_pos c_15])
          · refine lv_iload_n hx hb d_Mo_ask_99 rfl (lv_at hl 2 rfl) ?_
            refine lv_iconst (v := (-1)) hx hb d_Mo_ask_100 (by decide) ?_
            refine lv_icmp_eq (tgt := 149) hx hb d_Mo_ask_101 (by decide) (fun c_16 => ?_) (fun c_16 => ?_)
            · refine lv_iload_n hx hb d_Mo_ask_149 rfl (lv_at hl 1 rfl) ?_
              refine lv_istore_n (lv' := [(2, .int e_), (4, .int (if (days e_.toNatClampNeg) = (-1) then (0 : Int32) else (if begun < (days e_.toNatClampNeg) then (0 : Int32) else 1))), (3, .int e_), (0, .ref a0), (1, .int begun)]) hx hb d_Mo_ask_150 rfl hl (by decide) rfl (fun ls hl => ?_)
              refine lv_iinc (v := e_ + 1) (lv' := [(3, .int (e_ + 1)), (2, .int e_), (4, .int (if (days e_.toNatClampNeg) = (-1) then (0 : Int32) else (if begun < (days e_.toNatClampNeg) then (0 : Int32) else 1))), (0, .ref a0), (1, .int begun)]) hx hb d_Mo_ask_151 hl (k := 2) rfl rfl (by decide) rfl (fun ls hl => ?_)
              refine lv_goto (tgt := 61) hx hb d_Mo_ask_154 (by decide) ?_
              exact ih H _ ls e_ (e_ + 1) hP hD hS (lv_sub hl [0, 1, 3, 4] rfl) (by exact e_step hI_maskB c_8 (Or.inr (e_lt6 hI_maskB c_8))) (by rw [← hT]; simp only [L_maskB, if_neg c_8, if_neg c_15, if_pos c_16])
            · refine lv_aload_n hx hb d_Mo_ask_104 rfl (lv_at hl 3 rfl) ?_
              refine va_get (D := G) (ci := 6) (v := .ref a13) (C := R_Mo) (T := T_Mo) (N := 32) hx hb hts hi_2 hown hK hP 0 rfl rfl 15 (by decide) hk_8 (fun _ h9 => h9) rfl d_Mo_ask_105 ?_
              refine lv_iload_n hx hb d_Mo_ask_108 rfl (lv_at hl 1 rfl) ?_
              refine va_iald hx hb hK hP 13 0 rfl rfl (e_lt6 hI_maskB c_8) d_Mo_ask_109 ?_
              refine lv_aload_n hx hb d_Mo_ask_110 rfl (lv_at hl 3 rfl) ?_
              refine va_get (D := G) (ci := 6) (v := .ref a13) (C := R_Mo) (T := T_Mo) (N := 32) hx hb hts hi_2 hown hK hP 0 rfl rfl 15 (by decide) hk_8 (fun _ h9 => h9) rfl d_Mo_ask_111 ?_
              refine lv_iload_n hx hb d_Mo_ask_114 rfl (lv_at hl 2 rfl) ?_
              refine va_iald hx hb hK hP 13 0 rfl rfl (ix_or hI_maskB.2.2.2 c_16) d_Mo_ask_115 ?_
              refine lv_icmp_gt (tgt := 149) hx hb d_Mo_ask_116 (by decide) (fun c_17 => ?_) (fun c_17 => ?_)
              · refine lv_iload_n hx hb d_Mo_ask_149 rfl (lv_at hl 1 rfl) ?_
                refine lv_istore_n (lv' := [(2, .int e_), (4, .int (if (days e_.toNatClampNeg) = (-1) then (0 : Int32) else (if begun < (days e_.toNatClampNeg) then (0 : Int32) else 1))), (3, .int e_), (0, .ref a0), (1, .int begun)]) hx hb d_Mo_ask_150 rfl hl (by decide) rfl (fun ls hl => ?_)
                refine lv_iinc (v := e_ + 1) (lv' := [(3, .int (e_ + 1)), (2, .int e_), (4, .int (if (days e_.toNatClampNeg) = (-1) then (0 : Int32) else (if begun < (days e_.toNatClampNeg) then (0 : Int32) else 1))), (0, .ref a0), (1, .int begun)]) hx hb d_Mo_ask_151 hl (k := 2) rfl rfl (by decide) rfl (fun ls hl => ?_)
                refine lv_goto (tgt := 61) hx hb d_Mo_ask_154 (by decide) ?_
                exact ih H _ ls e_ (e_ + 1) hP hD hS (lv_sub hl [0, 1, 3, 4] rfl) (by exact e_step hI_maskB c_8 (Or.inr (e_lt6 hI_maskB c_8))) (by rw [← hT]; simp only [L_maskB, if_neg c_8, if_neg c_15, if_neg c_16, if_pos c_17])
              · refine lv_aload_n hx hb d_Mo_ask_119 rfl (lv_at hl 3 rfl) ?_
                refine va_get (D := G) (ci := 6) (v := .ref a13) (C := R_Mo) (T := T_Mo) (N := 32) hx hb hts hi_2 hown hK hP 0 rfl rfl 15 (by decide) hk_8 (fun _ h9 => h9) rfl d_Mo_ask_120 ?_
                refine lv_iload_n hx hb d_Mo_ask_123 rfl (lv_at hl 1 rfl) ?_
                refine va_iald hx hb hK hP 13 0 rfl rfl (e_lt6 hI_maskB c_8) d_Mo_ask_124 ?_
                refine lv_aload_n hx hb d_Mo_ask_125 rfl (lv_at hl 3 rfl) ?_
                refine va_get (D := G) (ci := 6) (v := .ref a13) (C := R_Mo) (T := T_Mo) (N := 32) hx hb hts hi_2 hown hK hP 0 rfl rfl 15 (by decide) hk_8 (fun _ h9 => h9) rfl d_Mo_ask_126 ?_
                refine lv_iload_n hx hb d_Mo_ask_129 rfl (lv_at hl 2 rfl) ?_
                refine va_iald hx hb hK hP 13 0 rfl rfl (ix_or hI_maskB.2.2.2 c_16) d_Mo_ask_130 ?_
                refine lv_icmp_ne (tgt := 151) hx hb d_Mo_ask_131 (by decide) (fun c_18 => ?_) (fun c_18 => ?_)
                · refine lv_iinc (v := e_ + 1) (lv' := [(3, .int (e_ + 1)), (4, .int (if (days e_.toNatClampNeg) = (-1) then (0 : Int32) else (if begun < (days e_.toNatClampNeg) then (0 : Int32) else 1))), (2, .int best), (0, .ref a0), (1, .int begun)]) hx hb d_Mo_ask_151 hl (k := 1) rfl rfl (by decide) rfl (fun ls hl => ?_)
                  refine lv_goto (tgt := 61) hx hb d_Mo_ask_154 (by decide) ?_
                  exact ih H _ ls best (e_ + 1) hP hD hS (lv_sub hl [0, 2, 3, 4] rfl) (by exact e_step hI_maskB c_8 hI_maskB.2.2.2) (by rw [← hT]; simp only [L_maskB, if_neg c_8, if_neg c_15, if_neg c_16, if_neg c_17, if_neg c_18])
                · refine lv_aload_n hx hb d_Mo_ask_134 rfl (lv_at hl 3 rfl) ?_
                  refine va_get (D := G) (ci := 6) (v := .ref a14) (C := R_Mo) (T := T_Mo) (N := 32) hx hb hts hi_2 hown hK hP 0 rfl rfl 16 (by decide) hk_9 (fun _ h9 => h9) rfl d_Mo_ask_135 ?_
                  refine lv_iload_n hx hb d_Mo_ask_138 rfl (lv_at hl 1 rfl) ?_
                  refine va_iald hx hb hK hP 14 0 rfl rfl (e_lt6 hI_maskB c_8) d_Mo_ask_139 ?_
                  refine lv_aload_n hx hb d_Mo_ask_140 rfl (lv_at hl 3 rfl) ?_
                  refine va_get (D := G) (ci := 6) (v := .ref a14) (C := R_Mo) (T := T_Mo) (N := 32) hx hb hts hi_2 hown hK hP 0 rfl rfl 16 (by decide) hk_9 (fun _ h9 => h9) rfl d_Mo_ask_141 ?_
                  refine lv_iload_n hx hb d_Mo_ask_144 rfl (lv_at hl 2 rfl) ?_
                  refine va_iald hx hb hK hP 14 0 rfl rfl (ix_or hI_maskB.2.2.2 c_16) d_Mo_ask_145 ?_
                  refine lv_icmp_le (tgt := 151) hx hb d_Mo_ask_146 (by decide) (fun c_19 => ?_) (fun c_19 => ?_)
                  · refine lv_iinc (v := e_ + 1) (lv' := [(3, .int (e_ + 1)), (4, .int (if (days e_.toNatClampNeg) = (-1) then (0 : Int32) else (if begun < (days e_.toNatClampNeg) then (0 : Int32) else 1))), (2, .int best), (0, .ref a0), (1, .int begun)]) hx hb d_Mo_ask_151 hl (k := 1) rfl rfl (by decide) rfl (fun ls hl => ?_)
                    refine lv_goto (tgt := 61) hx hb d_Mo_ask_154 (by decide) ?_
                    exact ih H _ ls best (e_ + 1) hP hD hS (lv_sub hl [0, 2, 3, 4] rfl) (by exact e_step hI_maskB c_8 hI_maskB.2.2.2) (by rw [← hT]; simp only [L_maskB, if_neg c_8, if_neg c_15, if_neg c_16, if_neg c_17, if_pos c_18, if_pos c_19])
                  · refine lv_iload_n hx hb d_Mo_ask_149 rfl (lv_at hl 1 rfl) ?_
                    refine lv_istore_n (lv' := [(2, .int e_), (4, .int (if (days e_.toNatClampNeg) = (-1) then (0 : Int32) else (if begun < (days e_.toNatClampNeg) then (0 : Int32) else 1))), (3, .int e_), (0, .ref a0), (1, .int begun)]) hx hb d_Mo_ask_150 rfl hl (by decide) rfl (fun ls hl => ?_)
                    refine lv_iinc (v := e_ + 1) (lv' := [(3, .int (e_ + 1)), (2, .int e_), (4, .int (if (days e_.toNatClampNeg) = (-1) then (0 : Int32) else (if begun < (days e_.toNatClampNeg) then (0 : Int32) else 1))), (0, .ref a0), (1, .int begun)]) hx hb d_Mo_ask_151 hl (k := 2) rfl rfl (by decide) rfl (fun ls hl => ?_)
                    refine lv_goto (tgt := 61) hx hb d_Mo_ask_154 (by decide) ?_
                    exact ih H _ ls e_ (e_ + 1) hP hD hS (lv_sub hl [0, 1, 3, 4] rfl) (by exact e_step hI_maskB c_8 (Or.inr (e_lt6 hI_maskB c_8))) (by rw [← hT]; simp only [L_maskB, if_neg c_8, if_neg c_15, if_neg c_16, if_neg c_17, if_pos c_18, if_neg c_19])
    · obtain ⟨z_best_20, z_e__21⟩ := x
      obtain ⟨hw_22, hP, hD, hS, hl⟩ := hq
      replace hP : va_P G vwCl (W_Mod cI cL cZ cR cE a0 a1 a2 a3 a4 a5 a6 a7 a8 a9 a10 a11 a12 a13 a14 a15 a16 a17 a18 a19 a20 a21 a22 0 most rules editions orders sizes ops numbers cells hasFallback fallbackKinds fallbacks facts states counts days toldAt tells 0 handleFacts 0 failedRule failedHow (vp_updL (vp_updL (vp_updL (vp_updL answers (0 : Int32).toNatClampNeg 0) (1 : Int32).toNatClampNeg 0) (2 : Int32).toNatClampNeg 0) (3 : Int32).toNatClampNeg 0) (upd (upd (upd (upd givers (0 : Int32).toNatClampNeg (-1)) (1 : Int32).toNatClampNeg (-1)) (2 : Int32).toNatClampNeg (-1)) (3 : Int32).toNatClampNeg (-1)) stack high steps how cellNow own has) H := hP
      replace hD : va_D A (W_Mod cI cL cZ cR cE a0 a1 a2 a3 a4 a5 a6 a7 a8 a9 a10 a11 a12 a13 a14 a15 a16 a17 a18 a19 a20 a21 a22 0 most rules editions orders sizes ops numbers cells hasFallback fallbackKinds fallbacks facts states counts days toldAt tells 0 handleFacts 0 failedRule failedHow (vp_updL (vp_updL (vp_updL (vp_updL answers (0 : Int32).toNatClampNeg 0) (1 : Int32).toNatClampNeg 0) (2 : Int32).toNatClampNeg 0) (3 : Int32).toNatClampNeg 0) (upd (upd (upd (upd givers (0 : Int32).toNatClampNeg (-1)) (1 : Int32).toNatClampNeg (-1)) (2 : Int32).toNatClampNeg (-1)) (3 : Int32).toNatClampNeg (-1)) stack high steps how cellNow own has) := hD
      replace hl : lv_has ls 6 [(3, .int z_e__21), (2, .int z_best_20), (0, .ref a0), (1, .int begun)] := hl
      have hbst : z_best_20 = (-1) ∨ vp_in z_best_20 6 := by have hx := L_maskB_inv (days := days) (toldAt := toldAt) (begun := begun) 7 (-1) 0 (Or.inl rfl) (by decide); rw [← hw_22] at hx; exact hx
      refine lv_iload_n hx hb d_Mo_ask_157 rfl (lv_at hl 1 rfl) ?_
      refine lv_iconst (v := (-1)) hx hb d_Mo_ask_158 (by decide) ?_
      refine lv_icmp_ne (tgt := 164) hx hb d_Mo_ask_159 (by decide) (fun c_23 => ?_) (fun c_23 => ?_)
      · refine lv_aload_n hx hb d_Mo_ask_164 rfl (lv_at hl 2 rfl) ?_
        refine lv_iload_n hx hb d_Mo_ask_165 rfl (lv_at hl 1 rfl) ?_
        refine lv_iconst (v := (-1)) hx hb d_Mo_ask_166 (by decide) ?_
        refine vp_callSi (W.runV (As := [.int z_best_20, .int (-1)]) (rest := []) ⟨hx, hb, hml, hown, hts⟩ (c_mbehind l G cI cL cZ cR cE a0 a1 a2 a3 a4 a5 a6 a7 a8 a9 a10 a11 a12 a13 a14 a15 a16 a17 a18 a19 a20 a21 a22 0 most rules editions orders sizes ops numbers cells hasFallback fallbackKinds fallbacks facts states counts days toldAt tells 0 handleFacts 0 failedRule failedHow (vp_updL (vp_updL (vp_updL (vp_updL answers (0 : Int32).toNatClampNeg 0) (1 : Int32).toNatClampNeg 0) (2 : Int32).toNatClampNeg 0) (3 : Int32).toNatClampNeg 0) (upd (upd (upd (upd givers (0 : Int32).toNatClampNeg (-1)) (1 : Int32).toNatClampNeg (-1)) (2 : Int32).toNatClampNeg (-1)) (3 : Int32).toNatClampNeg (-1)) stack high steps how cellNow own has z_best_20 (-1) hR (Or.inl rfl)) (cwV 2 hts (gV kw_708 kw_710 kw_8 kw_21 kw_711) rfl rfl rfl (by decide +kernel) ⟨Nat.le_of_ble_eq_true rfl, Nat.le_of_ble_eq_true rfl⟩) (preRV_of (ci := 6) hN hK hP [0, 1, 2, 3, 4, 5, 6, 7, 8, 9, 10, 11, 12, 13, 14, 15, 16, 17, 18, 19, 20, 21, 22] rfl rfl rfl) rfl rfl hl.1 rfl (lv_room (Nat.le_of_ble_eq_true rfl)) d_Mo_ask_167 ⟨Nat.zero_le _, Nat.zero_le _⟩) (fun r_24 hw => ?_)
        subst hw
        refine lv_istore_n (lv' := [(3, .int (f_mbehind rules editions orders z_best_20 (-1))), (2, .int z_best_20), (0, .ref a0), (1, .int begun)]) hx hb d_Mo_ask_170 rfl hl (by decide) rfl (fun ls hl => ?_)
        refine W_seq (α := Int32 × (Nat → Int64) × Int32 × (Nat → Int32) × Int32 × (Nat → Int32) × (Nat → Int32) × (Nat → Int64) × (Nat → Int32) × (Nat → Int64) × Int32 × Int32 × Int32 × Int64 × (Nat → Int64) × (Nat → Int32)) (pcE := 276) (Post := (fun x H locs ls => x = L_maskC most rules editions orders sizes ops numbers hasFallback fallbackKinds fallbacks facts z_best_20 9 (f_mbehind rules editions orders z_best_20 (-1)) cells 0 handleFacts 0 failedRule failedHow (vp_updL (vp_updL (vp_updL (vp_updL answers (0 : Int32).toNatClampNeg 0) (1 : Int32).toNatClampNeg 0) (2 : Int32).toNatClampNeg 0) (3 : Int32).toNatClampNeg 0) (upd (upd (upd (upd givers (0 : Int32).toNatClampNeg (-1)) (1 : Int32).toNatClampNeg (-1)) (2 : Int32).toNatClampNeg (-1)) (3 : Int32).toNatClampNeg (-1)) stack high steps how cellNow own has ∧ va_P G vwCl (W_Mod cI cL cZ cR cE a0 a1 a2 a3 a4 a5 a6 a7 a8 a9 a10 a11 a12 a13 a14 a15 a16 a17 a18 a19 a20 a21 a22 0 most rules editions orders sizes ops numbers x.2.1 hasFallback fallbackKinds fallbacks facts states counts days toldAt tells x.2.2.1 x.2.2.2.1 x.2.2.2.2.1 x.2.2.2.2.2.1 x.2.2.2.2.2.2.1 x.2.2.2.2.2.2.2.1 x.2.2.2.2.2.2.2.2.1 x.2.2.2.2.2.2.2.2.2.1 x.2.2.2.2.2.2.2.2.2.2.1 x.2.2.2.2.2.2.2.2.2.2.2.1 x.2.2.2.2.2.2.2.2.2.2.2.2.1 x.2.2.2.2.2.2.2.2.2.2.2.2.2.1 x.2.2.2.2.2.2.2.2.2.2.2.2.2.2.1 x.2.2.2.2.2.2.2.2.2.2.2.2.2.2.2) H ∧ va_D A (W_Mod cI cL cZ cR cE a0 a1 a2 a3 a4 a5 a6 a7 a8 a9 a10 a11 a12 a13 a14 a15 a16 a17 a18 a19 a20 a21 a22 0 most rules editions orders sizes ops numbers x.2.1 hasFallback fallbackKinds fallbacks facts states counts days toldAt tells x.2.2.1 x.2.2.2.1 x.2.2.2.2.1 x.2.2.2.2.2.1 x.2.2.2.2.2.2.1 x.2.2.2.2.2.2.2.1 x.2.2.2.2.2.2.2.2.1 x.2.2.2.2.2.2.2.2.2.1 x.2.2.2.2.2.2.2.2.2.2.1 x.2.2.2.2.2.2.2.2.2.2.2.1 x.2.2.2.2.2.2.2.2.2.2.2.2.1 x.2.2.2.2.2.2.2.2.2.2.2.2.2.1 x.2.2.2.2.2.2.2.2.2.2.2.2.2.2.1 x.2.2.2.2.2.2.2.2.2.2.2.2.2.2.2) ∧ va_S A s.heap H locs ∧ lv_has ls 6 [(3, .int x.1), (2, .int z_best_20), (0, .ref a0), (1, .int begun)])) (fun hKK => ?_) (fun x H locs ls hq => ?_)
        · generalize hT : L_maskC most rules editions orders sizes ops numbers hasFallback fallbackKinds fallbacks facts z_best_20 9 (f_mbehind rules editions orders z_best_20 (-1)) cells 0 handleFacts 0 failedRule failedHow (vp_updL (vp_updL (vp_updL (vp_updL answers (0 : Int32).toNatClampNeg 0) (1 : Int32).toNatClampNeg 0) (2 : Int32).toNatClampNeg 0) (3 : Int32).toNatClampNeg 0) (upd (upd (upd (upd givers (0 : Int32).toNatClampNeg (-1)) (1 : Int32).toNatClampNeg (-1)) (2 : Int32).toNatClampNeg (-1)) (3 : Int32).toNatClampNeg (-1)) stack high steps how cellNow own has = T at hKK
          obtain ⟨n, hn⟩ : ∃ n : Nat, n = 9 := ⟨_, rfl⟩
          obtain ⟨rule_, h_rule_⟩ : ∃ z : Int32, z = f_mbehind rules editions orders z_best_20 (-1) := ⟨_, rfl⟩
          obtain ⟨y_cells, h_y_cells⟩ : ∃ z : Nat → Int64, z = cells := ⟨_, rfl⟩
          obtain ⟨y_handles, h_y_handles⟩ : ∃ z : Int32, z = 0 := ⟨_, rfl⟩
          obtain ⟨y_handleFacts, h_y_handleFacts⟩ : ∃ z : Nat → Int32, z = handleFacts := ⟨_, rfl⟩
          obtain ⟨y_failures, h_y_failures⟩ : ∃ z : Int32, z = 0 := ⟨_, rfl⟩
          obtain ⟨y_failedRule, h_y_failedRule⟩ : ∃ z : Nat → Int32, z = failedRule := ⟨_, rfl⟩
          obtain ⟨y_failedHow, h_y_failedHow⟩ : ∃ z : Nat → Int32, z = failedHow := ⟨_, rfl⟩
          obtain ⟨y_answers, h_y_answers⟩ : ∃ z : Nat → Int64, z = vp_updL (vp_updL (vp_updL (vp_updL answers (0 : Int32).toNatClampNeg 0) (1 : Int32).toNatClampNeg 0) (2 : Int32).toNatClampNeg 0) (3 : Int32).toNatClampNeg 0 := ⟨_, rfl⟩
          obtain ⟨y_givers, h_y_givers⟩ : ∃ z : Nat → Int32, z = upd (upd (upd (upd givers (0 : Int32).toNatClampNeg (-1)) (1 : Int32).toNatClampNeg (-1)) (2 : Int32).toNatClampNeg (-1)) (3 : Int32).toNatClampNeg (-1) := ⟨_, rfl⟩
          obtain ⟨y_stack, h_y_stack⟩ : ∃ z : Nat → Int64, z = stack := ⟨_, rfl⟩
          obtain ⟨y_high, h_y_high⟩ : ∃ z : Int32, z = high := ⟨_, rfl⟩
          obtain ⟨y_steps, h_y_steps⟩ : ∃ z : Int32, z = steps := ⟨_, rfl⟩
          obtain ⟨y_how, h_y_how⟩ : ∃ z : Int32, z = how := ⟨_, rfl⟩
          obtain ⟨y_cellNow, h_y_cellNow⟩ : ∃ z : Int64, z = cellNow := ⟨_, rfl⟩
          obtain ⟨y_own, h_y_own⟩ : ∃ z : Nat → Int64, z = own := ⟨_, rfl⟩
          obtain ⟨y_has, h_y_has⟩ : ∃ z : Nat → Int32, z = has := ⟨_, rfl⟩
          replace hl : lv_has ls 6 [(3, .int rule_), (2, .int z_best_20), (0, .ref a0), (1, .int begun)] := by rw [h_rule_]; exact hl
          replace hP : va_P G vwCl (W_Mod cI cL cZ cR cE a0 a1 a2 a3 a4 a5 a6 a7 a8 a9 a10 a11 a12 a13 a14 a15 a16 a17 a18 a19 a20 a21 a22 0 most rules editions orders sizes ops numbers y_cells hasFallback fallbackKinds fallbacks facts states counts days toldAt tells y_handles y_handleFacts y_failures y_failedRule y_failedHow y_answers y_givers y_stack y_high y_steps y_how y_cellNow y_own y_has) H := by rw [h_y_cells, h_y_handles, h_y_handleFacts, h_y_failures, h_y_failedRule, h_y_failedHow, h_y_answers, h_y_givers, h_y_stack, h_y_high, h_y_steps, h_y_how, h_y_cellNow, h_y_own, h_y_has]; exact hP
          replace hD : va_D A (W_Mod cI cL cZ cR cE a0 a1 a2 a3 a4 a5 a6 a7 a8 a9 a10 a11 a12 a13 a14 a15 a16 a17 a18 a19 a20 a21 a22 0 most rules editions orders sizes ops numbers y_cells hasFallback fallbackKinds fallbacks facts states counts days toldAt tells y_handles y_handleFacts y_failures y_failedRule y_failedHow y_answers y_givers y_stack y_high y_steps y_how y_cellNow y_own y_has) := by rw [h_y_cells, h_y_handles, h_y_handleFacts, h_y_failures, h_y_failedRule, h_y_failedHow, h_y_answers, h_y_givers, h_y_stack, h_y_high, h_y_steps, h_y_how, h_y_cellNow, h_y_own, h_y_has]; exact hD
          have hI_maskC : InvT n (cnt z_best_20) (o z_best_20) rule_ y_failures y_handles y_handleFacts := by rw [hn, h_rule_, h_y_failures, h_y_handles, h_y_handleFacts]; exact InvT_0 (hgo _ (med_of (ix_or hbst c_23))) hhf
          replace hT : L_maskC most rules editions orders sizes ops numbers hasFallback fallbackKinds fallbacks facts z_best_20 n rule_ y_cells y_handles y_handleFacts y_failures y_failedRule y_failedHow y_answers y_givers y_stack y_high y_steps y_how y_cellNow y_own y_has = T := by rw [← hT, hn, h_rule_, h_y_cells, h_y_handles, h_y_handleFacts, h_y_failures, h_y_failedRule, h_y_failedHow, h_y_answers, h_y_givers, h_y_stack, h_y_high, h_y_steps, h_y_how, h_y_cellNow, h_y_own, h_y_has]
          clear hn h_rule_ h_y_cells h_y_handles h_y_handleFacts h_y_failures h_y_failedRule h_y_failedHow h_y_answers h_y_givers h_y_stack h_y_high h_y_steps h_y_how h_y_cellNow h_y_own h_y_has
          revert hT
          revert hI_maskC
          revert hl
          revert hS
          revert hD
          revert hP
          revert y_has
          revert y_own
          revert y_cellNow
          revert y_how
          revert y_steps
          revert y_high
          revert y_stack
          revert y_givers
          revert y_answers
          revert y_failedHow
          revert y_failedRule
          revert y_failures
          revert y_handleFacts
          revert y_handles
          revert y_cells
          revert rule_
          revert ls
          revert locs
          revert H
          induction n with
          | zero =>
            intro H locs ls rule_ y_cells y_handles y_handleFacts y_failures y_failedRule y_failedHow y_answers y_givers y_stack y_high y_steps y_how y_cellNow y_own y_has hP hD hS hl hI_maskC hT
            exact absurd hI_maskC (by exact InvT_z)
          | succ n ih =>
            intro H locs ls rule_ y_cells y_handles y_handleFacts y_failures y_failedRule y_failedHow y_answers y_givers y_stack y_high y_steps y_how y_cellNow y_own y_has hP hD hS hl hI_maskC hT
            refine lv_iload_n hx hb d_Mo_ask_171 rfl (lv_at hl 0 rfl) ?_
            refine lv_iconst (v := (-1)) hx hb d_Mo_ask_172 (by decide) ?_
            refine lv_icmp_eq (tgt := 276) hx hb d_Mo_ask_173 (by decide) (fun c_25 => ?_) (fun c_25 => ?_)
            · exact hKK (rule_, y_cells, y_handles, y_handleFacts, y_failures, y_failedRule, y_failedHow, y_answers, y_givers, y_stack, y_high, y_steps, y_how, y_cellNow, y_own, y_has) H _ ls ⟨(by rw [← hT]; simp only [L_maskC, if_pos c_25]), hP, hD, hS, lv_sub hl [0, 1, 2, 3] rfl⟩
            · refine lv_aload_n hx hb d_Mo_ask_176 rfl (lv_at hl 2 rfl) ?_
              refine lv_iload_n hx hb d_Mo_ask_177 rfl (lv_at hl 0 rfl) ?_
              refine cl_v hK hP hD hS hA (va_runV (As := [.int rule_]) (rest := []) ⟨hx, hb, hml, hown, hts⟩ (c_mdoAll l G cI cL cZ cR cE H.size a0 a1 a2 a3 a4 a5 a6 a7 a8 a9 a10 a11 a12 a13 a14 a15 a16 a17 a18 a19 a20 a21 a22 0 most rules editions orders sizes ops numbers y_cells hasFallback fallbackKinds fallbacks facts states counts days toldAt tells y_handles y_handleFacts y_failures y_failedRule y_failedHow y_answers y_givers y_stack y_high y_steps y_how y_cellNow y_own y_has rule_ (GH_lt (hgo _ (med_of (ix_or hbst c_23))) hI_maskC c_25).1 hZ hm (InvT_h hI_maskC).1 (InvT_h hI_maskC).2 (GH_lt (hgo _ (med_of (ix_or hbst c_23))) hI_maskC c_25).2 hV) (cwV 1 hts (gV kw_712 kw_714 kw_9 kw_21 kw_715) rfl rfl rfl (by decide +kernel) ⟨Nat.le_of_ble_eq_true rfl, Nat.le_of_ble_eq_true rfl⟩) (preWV_of (ci := 6) hN hK hP hD [0, 1, 2, 3, 4, 5, 6, 7, 8, 9, 10, 11, 12, 13, 14, 15, 16, 17, 18, 19, 20, 21, 22] (by decide) rfl rfl rfl) rfl rfl hl.1 rfl (lv_room (Nat.le_of_ble_eq_true rfl)) d_Mo_ask_178 ⟨Nat.le_of_ble_eq_true rfl, Nat.le_of_ble_eq_true rfl⟩) [0, 1, 2, 3, 4, 5, 6, 7, 8, 9, 10, 11, 12, 13, 14, 15, 16, 17, 18, 19, 20, 21, 22] [] rfl rfl (by decide) (by decide) (fun u H locs hw_28 hP hD hS => ?_)
              obtain ⟨x_handles_29, x_handleFacts_30, x_failures_31, x_failedRule_32, x_failedHow_33, x_stack_34, x_high_35, x_steps_36, x_how_37, x_cellNow_38, x_own_39, x_has_40⟩ := u
              replace hP : va_P G vwCl (W_Mod cI cL cZ cR cE a0 a1 a2 a3 a4 a5 a6 a7 a8 a9 a10 a11 a12 a13 a14 a15 a16 a17 a18 a19 a20 a21 a22 0 most rules editions orders sizes ops numbers y_cells hasFallback fallbackKinds fallbacks facts states counts days toldAt tells x_handles_29 x_handleFacts_30 x_failures_31 x_failedRule_32 x_failedHow_33 y_answers y_givers x_stack_34 x_high_35 x_steps_36 x_how_37 x_cellNow_38 x_own_39 x_has_40) H := hP.sub [0, 1, 2, 3, 4, 5, 6, 7, 8, 9, 10, 11, 12, 13, 14, 15, 16, 17, 18, 19, 20, 21, 22] rfl
              replace hD : va_D A (W_Mod cI cL cZ cR cE a0 a1 a2 a3 a4 a5 a6 a7 a8 a9 a10 a11 a12 a13 a14 a15 a16 a17 a18 a19 a20 a21 a22 0 most rules editions orders sizes ops numbers y_cells hasFallback fallbackKinds fallbacks facts states counts days toldAt tells x_handles_29 x_handleFacts_30 x_failures_31 x_failedRule_32 x_failedHow_33 y_answers y_givers x_stack_34 x_high_35 x_steps_36 x_how_37 x_cellNow_38 x_own_39 x_has_40) := hD.sub [0, 1, 2, 3, 4, 5, 6, 7, 8, 9, 10, 11, 12, 13, 14, 15, 16, 17, 18, 19, 20, 21, 22] (by decide) rfl
              refine lv_aload_n hx hb d_Mo_ask_181 rfl (lv_at hl 2 rfl) ?_
              refine va_get (D := G) (ci := 6) (v := .int x_how_37) (C := R_Mo) (T := T_Mo) (N := 32) hx hb hts hi_2 hown hK hP 0 rfl rfl 28 (by decide) hk_10 (fun _ h9 => h9) rfl d_Mo_ask_182 ?_
              refine lv_if_le (tgt := 217) hx hb d_Mo_ask_185 (by decide) (fun c_41 => ?_) (fun c_41 => ?_)
              · refine lv_aload_n hx hb d_Mo_ask_217 rfl (lv_at hl 2 rfl) ?_
                refine va_get (D := G) (ci := 6) (v := .ref a6) (C := R_Mo) (T := T_Mo) (N := 32) hx hb hts hi_2 hown hK hP 0 rfl rfl 8 (by decide) hk_11 (fun _ h9 => h9) rfl d_Mo_ask_218 ?_
                refine lv_iload_n hx hb d_Mo_ask_221 rfl (lv_at hl 0 rfl) ?_
                refine lv_aload_n hx hb d_Mo_ask_222 rfl (lv_at hl 2 rfl) ?_
                refine va_get (D := G) (ci := 6) (v := .long x_cellNow_38) (C := R_Mo) (T := T_Mo) (N := 32) hx hb hts hi_2 hown hK hP 0 rfl rfl 29 (by decide) hk_12 (fun _ h9 => h9) rfl d_Mo_ask_223 ?_
                refine va_last hx hb hK hP hD hS 6 1 rfl rfl (GH_lt (hgo _ (med_of (ix_or hbst c_23))) hI_maskC c_25).1 d_Mo_ask_226 (fun H locs hP hD hS => ?_)
                replace hP : va_P G vwCl (W_Mod cI cL cZ cR cE a0 a1 a2 a3 a4 a5 a6 a7 a8 a9 a10 a11 a12 a13 a14 a15 a16 a17 a18 a19 a20 a21 a22 0 most rules editions orders sizes ops numbers (vp_updL y_cells rule_.toNatClampNeg x_cellNow_38) hasFallback fallbackKinds fallbacks facts states counts days toldAt tells x_handles_29 x_handleFacts_30 x_failures_31 x_failedRule_32 x_failedHow_33 y_answers y_givers x_stack_34 x_high_35 x_steps_36 x_how_37 x_cellNow_38 x_own_39 x_has_40) H := hP
                replace hD : va_D A (W_Mod cI cL cZ cR cE a0 a1 a2 a3 a4 a5 a6 a7 a8 a9 a10 a11 a12 a13 a14 a15 a16 a17 a18 a19 a20 a21 a22 0 most rules editions orders sizes ops numbers (vp_updL y_cells rule_.toNatClampNeg x_cellNow_38) hasFallback fallbackKinds fallbacks facts states counts days toldAt tells x_handles_29 x_handleFacts_30 x_failures_31 x_failedRule_32 x_failedHow_33 y_answers y_givers x_stack_34 x_high_35 x_steps_36 x_how_37 x_cellNow_38 x_own_39 x_has_40) := hD
                refine lv_iconst (v := 0) hx hb d_Mo_ask_227 (by decide) ?_
                refine lv_istore (lv' := [(4, .int 0), (3, .int rule_), (2, .int z_best_20), (0, .ref a0), (1, .int begun)]) hx hb d_Mo_ask_228 hl (by decide) rfl (fun ls hl => ?_)
                refine W_seq (α := Int32 × (Nat → Int64) × (Nat → Int32)) (pcE := 266) (Post := (fun x H locs ls => x = L_maskD x_own_39 x_has_40 rule_ 5 0 y_answers y_givers ∧ va_P G vwCl (W_Mod cI cL cZ cR cE a0 a1 a2 a3 a4 a5 a6 a7 a8 a9 a10 a11 a12 a13 a14 a15 a16 a17 a18 a19 a20 a21 a22 0 most rules editions orders sizes ops numbers (vp_updL y_cells rule_.toNatClampNeg x_cellNow_38) hasFallback fallbackKinds fallbacks facts states counts days toldAt tells x_handles_29 x_handleFacts_30 x_failures_31 x_failedRule_32 x_failedHow_33 x.2.1 x.2.2 x_stack_34 x_high_35 x_steps_36 x_how_37 x_cellNow_38 x_own_39 x_has_40) H ∧ va_D A (W_Mod cI cL cZ cR cE a0 a1 a2 a3 a4 a5 a6 a7 a8 a9 a10 a11 a12 a13 a14 a15 a16 a17 a18 a19 a20 a21 a22 0 most rules editions orders sizes ops numbers (vp_updL y_cells rule_.toNatClampNeg x_cellNow_38) hasFallback fallbackKinds fallbacks facts states counts days toldAt tells x_handles_29 x_handleFacts_30 x_failures_31 x_failedRule_32 x_failedHow_33 x.2.1 x.2.2 x_stack_34 x_high_35 x_steps_36 x_how_37 x_cellNow_38 x_own_39 x_has_40) ∧ va_S A s.heap H locs ∧ lv_has ls 6 [(4, .int x.1), (3, .int rule_), (2, .int z_best_20), (0, .ref a0), (1, .int begun)])) (fun hKK => ?_) (fun x H locs ls hq => ?_)
                · generalize hT : L_maskD x_own_39 x_has_40 rule_ 5 0 y_answers y_givers = T at hKK
                  obtain ⟨n, hn⟩ : ∃ n : Nat, n = 5 := ⟨_, rfl⟩
                  obtain ⟨k, h_k⟩ : ∃ z : Int32, z = 0 := ⟨_, rfl⟩
                  obtain ⟨yd_answers, h_yd_answers⟩ : ∃ z : Nat → Int64, z = y_answers := ⟨_, rfl⟩
                  obtain ⟨yd_givers, h_yd_givers⟩ : ∃ z : Nat → Int32, z = y_givers := ⟨_, rfl⟩
                  replace hl : lv_has ls 6 [(4, .int k), (3, .int rule_), (2, .int z_best_20), (0, .ref a0), (1, .int begun)] := by rw [h_k]; exact hl
                  replace hP : va_P G vwCl (W_Mod cI cL cZ cR cE a0 a1 a2 a3 a4 a5 a6 a7 a8 a9 a10 a11 a12 a13 a14 a15 a16 a17 a18 a19 a20 a21 a22 0 most rules editions orders sizes ops numbers (vp_updL y_cells rule_.toNatClampNeg x_cellNow_38) hasFallback fallbackKinds fallbacks facts states counts days toldAt tells x_handles_29 x_handleFacts_30 x_failures_31 x_failedRule_32 x_failedHow_33 yd_answers yd_givers x_stack_34 x_high_35 x_steps_36 x_how_37 x_cellNow_38 x_own_39 x_has_40) H := by rw [h_yd_answers, h_yd_givers]; exact hP
                  replace hD : va_D A (W_Mod cI cL cZ cR cE a0 a1 a2 a3 a4 a5 a6 a7 a8 a9 a10 a11 a12 a13 a14 a15 a16 a17 a18 a19 a20 a21 a22 0 most rules editions orders sizes ops numbers (vp_updL y_cells rule_.toNatClampNeg x_cellNow_38) hasFallback fallbackKinds fallbacks facts states counts days toldAt tells x_handles_29 x_handleFacts_30 x_failures_31 x_failedRule_32 x_failedHow_33 yd_answers yd_givers x_stack_34 x_high_35 x_steps_36 x_how_37 x_cellNow_38 x_own_39 x_has_40) := by rw [h_yd_answers, h_yd_givers]; exact hD
                  have hI_maskD : 0 ≤ k.toInt ∧ k.toInt ≤ 4 ∧ 5 ≤ k.toInt + (n : Int) := by rw [hn, h_k]; decide
                  replace hT : L_maskD x_own_39 x_has_40 rule_ n k yd_answers yd_givers = T := by rw [← hT, hn, h_k, h_yd_answers, h_yd_givers]
                  clear hn h_k h_yd_answers h_yd_givers
                  revert hT
                  revert hI_maskD
                  revert hl
                  revert hS
                  revert hD
                  revert hP
                  revert yd_givers
                  revert yd_answers
                  revert k
                  revert ls
                  revert locs
                  revert H
                  induction n with
                  | zero =>
                    intro H locs ls k yd_answers yd_givers hP hD hS hl hI_maskD hT
                    exact absurd hI_maskD (by omega)
                  | succ n ih =>
                    intro H locs ls k yd_answers yd_givers hP hD hS hl hI_maskD hT
                    refine lv_iload hx hb d_Mo_ask_230 (lv_at hl 0 rfl) ?_
                    refine lv_iconst (v := 4) hx hb d_Mo_ask_232 (by decide) ?_
                    refine lv_icmp_ge (tgt := 266) hx hb d_Mo_ask_233 (by decide) (fun c_42 => ?_) (fun c_42 => ?_)
                    · exact hKK (k, yd_answers, yd_givers) H _ ls ⟨(by rw [← hT]; simp only [L_maskD, if_pos c_42]), hP, hD, hS, lv_sub hl [0, 1, 2, 3, 4] rfl⟩
                    · refine lv_aload_n hx hb d_Mo_ask_236 rfl (lv_at hl 3 rfl) ?_
                      refine va_get (D := G) (ci := 6) (v := .ref a22) (C := R_Mo) (T := T_Mo) (N := 32) hx hb hts hi_2 hown hK hP 0 rfl rfl 31 (by decide) hk_13 (fun _ h9 => h9) rfl d_Mo_ask_237 ?_
                      refine lv_iload hx hb d_Mo_ask_240 (lv_at hl 0 rfl) ?_
                      refine va_zald hx hb hK hP 22 2 rfl rfl (k_lt4 hI_maskD c_42) d_Mo_ask_242 ?_
                      refine lv_if_eq (tgt := 260) hx hb d_Mo_ask_243 (by decide) (fun c_43 => ?_) (fun c_43 => ?_)
                      · refine lv_iinc (v := k + 1) (lv' := [(4, .int (k + 1)), (3, .int rule_), (2, .int z_best_20), (0, .ref a0), (1, .int begun)]) hx hb d_Mo_ask_260 hl (k := 0) rfl rfl (by decide) rfl (fun ls hl => ?_)
                        refine lv_goto (tgt := 230) hx hb d_Mo_ask_263 (by decide) ?_
                        exact ih H _ ls (k + 1) yd_answers yd_givers hP hD hS (lv_sub hl [0, 1, 2, 3, 4] rfl) (by exact i_step hI_maskD c_42 rfl (by decide)) (by rw [← hT]; simp only [L_maskD, if_neg c_42, if_pos c_43])
                      · refine lv_aload_n hx hb d_Mo_ask_246 rfl (lv_at hl 3 rfl) ?_
                        refine lv_iload hx hb d_Mo_ask_247 (lv_at hl 0 rfl) ?_
                        refine lv_aload_n hx hb d_Mo_ask_249 rfl (lv_at hl 3 rfl) ?_
                        refine va_get (D := G) (ci := 6) (v := .ref a21) (C := R_Mo) (T := T_Mo) (N := 32) hx hb hts hi_2 hown hK hP 0 rfl rfl 30 (by decide) hk_14 (fun _ h9 => h9) rfl d_Mo_ask_250 ?_
                        refine lv_iload hx hb d_Mo_ask_253 (lv_at hl 0 rfl) ?_
                        refine va_lald hx hb hK hP 21 1 rfl rfl (k_lt4 hI_maskD c_42) d_Mo_ask_255 ?_
                        refine lv_iload_n hx hb d_Mo_ask_256 rfl (lv_at hl 1 rfl) ?_
                        refine cl_v hK hP hD hS hA (va_runV (As := [.int k, .long (x_own_39 k.toNatClampNeg), .int rule_]) (rest := []) ⟨hx, hb, hml, hown, hts⟩ (c_mgive l G cI cL cZ cR cE H.size a0 a1 a2 a3 a4 a5 a6 a7 a8 a9 a10 a11 a12 a13 a14 a15 a16 a17 a18 a19 a20 a21 a22 0 most rules editions orders sizes ops numbers (vp_updL y_cells rule_.toNatClampNeg x_cellNow_38) hasFallback fallbackKinds fallbacks facts states counts days toldAt tells x_handles_29 x_handleFacts_30 x_failures_31 x_failedRule_32 x_failedHow_33 yd_answers yd_givers x_stack_34 x_high_35 x_steps_36 x_how_37 x_cellNow_38 x_own_39 x_has_40 k (x_own_39 k.toNatClampNeg) rule_ (k_lt4 hI_maskD c_42)) (cwV 3 hts (gV kw_743 kw_745 kw_13 kw_21 kw_746) rfl rfl rfl (by decide +kernel) ⟨Nat.le_of_ble_eq_true rfl, Nat.le_of_ble_eq_true rfl⟩) (preWV_of (ci := 6) hN hK hP hD [0, 1, 2, 3, 4, 5, 6, 7, 8, 9, 10, 11, 12, 13, 14, 15, 16, 17, 18, 19, 20, 21, 22] (by decide) rfl rfl rfl) rfl rfl hl.1 rfl (lv_room (Nat.le_of_ble_eq_true rfl)) d_Mo_ask_257 ⟨Nat.le_of_ble_eq_true rfl, Nat.le_of_ble_eq_true rfl⟩) [0, 1, 2, 3, 4, 5, 6, 7, 8, 9, 10, 11, 12, 13, 14, 15, 16, 17, 18, 19, 20, 21, 22] [] rfl rfl (by decide) (by decide) (fun u H locs hw_46 hP hD hS => ?_)
                        obtain ⟨x_answers_47, x_givers_48⟩ := u
                        replace hP : va_P G vwCl (W_Mod cI cL cZ cR cE a0 a1 a2 a3 a4 a5 a6 a7 a8 a9 a10 a11 a12 a13 a14 a15 a16 a17 a18 a19 a20 a21 a22 0 most rules editions orders sizes ops numbers (vp_updL y_cells rule_.toNatClampNeg x_cellNow_38) hasFallback fallbackKinds fallbacks facts states counts days toldAt tells x_handles_29 x_handleFacts_30 x_failures_31 x_failedRule_32 x_failedHow_33 x_answers_47 x_givers_48 x_stack_34 x_high_35 x_steps_36 x_how_37 x_cellNow_38 x_own_39 x_has_40) H := hP.sub [0, 1, 2, 3, 4, 5, 6, 7, 8, 9, 10, 11, 12, 13, 14, 15, 16, 17, 18, 19, 20, 21, 22] rfl
                        replace hD : va_D A (W_Mod cI cL cZ cR cE a0 a1 a2 a3 a4 a5 a6 a7 a8 a9 a10 a11 a12 a13 a14 a15 a16 a17 a18 a19 a20 a21 a22 0 most rules editions orders sizes ops numbers (vp_updL y_cells rule_.toNatClampNeg x_cellNow_38) hasFallback fallbackKinds fallbacks facts states counts days toldAt tells x_handles_29 x_handleFacts_30 x_failures_31 x_failedRule_32 x_failedHow_33 x_answers_47 x_givers_48 x_stack_34 x_high_35 x_steps_36 x_how_37 x_cellNow_38 x_own_39 x_has_40) := hD.sub [0, 1, 2, 3, 4, 5, 6, 7, 8, 9, 10, 11, 12, 13, 14, 15, 16, 17, 18, 19, 20, 21, 22] (by decide) rfl
                        refine lv_iinc (v := k + 1) (lv' := [(4, .int (k + 1)), (3, .int rule_), (2, .int z_best_20), (0, .ref a0), (1, .int begun)]) hx hb d_Mo_ask_260 hl (k := 0) rfl rfl (by decide) rfl (fun ls hl => ?_)
                        refine lv_goto (tgt := 230) hx hb d_Mo_ask_263 (by decide) ?_
                        exact ih H _ ls (k + 1) x_answers_47 x_givers_48 hP hD hS (lv_sub hl [0, 1, 2, 3, 4] rfl) (by exact i_step hI_maskD c_42 rfl (by decide)) (by rw [← hT]; simp only [L_maskD, if_neg c_42, if_neg c_43, ← hw_46])
                · obtain ⟨z_k_49, z_yd_answers_50, z_yd_givers_51⟩ := x
                  obtain ⟨hw_52, hP, hD, hS, hl⟩ := hq
                  replace hP : va_P G vwCl (W_Mod cI cL cZ cR cE a0 a1 a2 a3 a4 a5 a6 a7 a8 a9 a10 a11 a12 a13 a14 a15 a16 a17 a18 a19 a20 a21 a22 0 most rules editions orders sizes ops numbers (vp_updL y_cells rule_.toNatClampNeg x_cellNow_38) hasFallback fallbackKinds fallbacks facts states counts days toldAt tells x_handles_29 x_handleFacts_30 x_failures_31 x_failedRule_32 x_failedHow_33 z_yd_answers_50 z_yd_givers_51 x_stack_34 x_high_35 x_steps_36 x_how_37 x_cellNow_38 x_own_39 x_has_40) H := hP
                  replace hD : va_D A (W_Mod cI cL cZ cR cE a0 a1 a2 a3 a4 a5 a6 a7 a8 a9 a10 a11 a12 a13 a14 a15 a16 a17 a18 a19 a20 a21 a22 0 most rules editions orders sizes ops numbers (vp_updL y_cells rule_.toNatClampNeg x_cellNow_38) hasFallback fallbackKinds fallbacks facts states counts days toldAt tells x_handles_29 x_handleFacts_30 x_failures_31 x_failedRule_32 x_failedHow_33 z_yd_answers_50 z_yd_givers_51 x_stack_34 x_high_35 x_steps_36 x_how_37 x_cellNow_38 x_own_39 x_has_40) := hD
                  replace hl : lv_has ls 6 [(4, .int z_k_49), (3, .int rule_), (2, .int z_best_20), (0, .ref a0), (1, .int begun)] := hl
                  refine lv_aload_n hx hb d_Mo_ask_266 rfl (lv_at hl 3 rfl) ?_
                  refine lv_iload_n hx hb d_Mo_ask_267 rfl (lv_at hl 2 rfl) ?_
                  refine lv_iload_n hx hb d_Mo_ask_268 rfl (lv_at hl 1 rfl) ?_
                  refine vp_callSi (W.runV (As := [.int z_best_20, .int rule_]) (rest := []) ⟨hx, hb, hml, hown, hts⟩ (c_mbehind l G cI cL cZ cR cE a0 a1 a2 a3 a4 a5 a6 a7 a8 a9 a10 a11 a12 a13 a14 a15 a16 a17 a18 a19 a20 a21 a22 0 most rules editions orders sizes ops numbers (vp_updL y_cells rule_.toNatClampNeg x_cellNow_38) hasFallback fallbackKinds fallbacks facts states counts days toldAt tells x_handles_29 x_handleFacts_30 x_failures_31 x_failedRule_32 x_failedHow_33 z_yd_answers_50 z_yd_givers_51 x_stack_34 x_high_35 x_steps_36 x_how_37 x_cellNow_38 x_own_39 x_has_40 z_best_20 rule_ hR (Or.inr (GH_lt (hgo _ (med_of (ix_or hbst c_23))) hI_maskC c_25).1)) (cwV 2 hts (gV kw_708 kw_710 kw_8 kw_21 kw_711) rfl rfl rfl (by decide +kernel) ⟨Nat.le_of_ble_eq_true rfl, Nat.le_of_ble_eq_true rfl⟩) (preRV_of (ci := 6) hN hK hP [0, 1, 2, 3, 4, 5, 6, 7, 8, 9, 10, 11, 12, 13, 14, 15, 16, 17, 18, 19, 20, 21, 22] rfl rfl rfl) rfl rfl hl.1 rfl (lv_room (Nat.le_of_ble_eq_true rfl)) d_Mo_ask_269 ⟨Nat.zero_le _, Nat.zero_le _⟩) (fun r_53 hw => ?_)
                  subst hw
                  refine lv_istore_n (lv' := [(3, .int (f_mbehind rules editions orders z_best_20 rule_)), (4, .int z_k_49), (2, .int z_best_20), (0, .ref a0), (1, .int begun)]) hx hb d_Mo_ask_272 rfl hl (by decide) rfl (fun ls hl => ?_)
                  refine lv_goto (tgt := 171) hx hb d_Mo_ask_273 (by decide) ?_
                  exact ih H _ ls (f_mbehind rules editions orders z_best_20 rule_) (vp_updL y_cells rule_.toNatClampNeg x_cellNow_38) x_handles_29 x_handleFacts_30 x_failures_31 x_failedRule_32 x_failedHow_33 z_yd_answers_50 z_yd_givers_51 x_stack_34 x_high_35 x_steps_36 x_how_37 x_cellNow_38 x_own_39 x_has_40 hP hD hS (lv_sub hl [0, 2, 3, 4] rfl) (by exact InvT_step (hgo _ (med_of (ix_or hbst c_23))) hI_maskC c_25 (by have hx := f_mdoAll_inv (cells := y_cells) (facts := facts) (failures := y_failures) (failedRule := y_failedRule) (failedHow := y_failedHow) (stack := y_stack) (own := y_own) (has := y_has) (r := rule_) hZ hm hV (InvT_h hI_maskC).1 (InvT_h hI_maskC).2; rw [← hw_28] at hx; exact hx)) (by rw [← hT]; simp only [L_maskC, if_neg c_25, ← hw_28, if_pos c_41, ← hw_52])
              · refine lv_aload_n hx hb d_Mo_ask_188 rfl (lv_at hl 2 rfl) ?_
                refine va_get (D := G) (ci := 6) (v := .ref a7) (C := R_Mo) (T := T_Mo) (N := 32) hx hb hts hi_2 hown hK hP 0 rfl rfl 9 (by decide) hk_15 (fun _ h9 => h9) rfl d_Mo_ask_189 ?_
                refine lv_iload_n hx hb d_Mo_ask_192 rfl (lv_at hl 0 rfl) ?_
                refine va_zald hx hb hK hP 7 2 rfl rfl (GH_lt (hgo _ (med_of (ix_or hbst c_23))) hI_maskC c_25).1 d_Mo_ask_193 ?_
                refine lv_if_eq (tgt := 266) hx hb d_Mo_ask_194 (by decide) (fun c_54 => ?_) (fun c_54 => ?_)
                · refine lv_aload_n hx hb d_Mo_ask_266 rfl (lv_at hl 2 rfl) ?_
                  refine lv_iload_n hx hb d_Mo_ask_267 rfl (lv_at hl 1 rfl) ?_
                  refine lv_iload_n hx hb d_Mo_ask_268 rfl (lv_at hl 0 rfl) ?_
                  refine vp_callSi (W.runV (As := [.int z_best_20, .int rule_]) (rest := []) ⟨hx, hb, hml, hown, hts⟩ (c_mbehind l G cI cL cZ cR cE a0 a1 a2 a3 a4 a5 a6 a7 a8 a9 a10 a11 a12 a13 a14 a15 a16 a17 a18 a19 a20 a21 a22 0 most rules editions orders sizes ops numbers y_cells hasFallback fallbackKinds fallbacks facts states counts days toldAt tells x_handles_29 x_handleFacts_30 x_failures_31 x_failedRule_32 x_failedHow_33 y_answers y_givers x_stack_34 x_high_35 x_steps_36 x_how_37 x_cellNow_38 x_own_39 x_has_40 z_best_20 rule_ hR (Or.inr (GH_lt (hgo _ (med_of (ix_or hbst c_23))) hI_maskC c_25).1)) (cwV 2 hts (gV kw_708 kw_710 kw_8 kw_21 kw_711) rfl rfl rfl (by decide +kernel) ⟨Nat.le_of_ble_eq_true rfl, Nat.le_of_ble_eq_true rfl⟩) (preRV_of (ci := 6) hN hK hP [0, 1, 2, 3, 4, 5, 6, 7, 8, 9, 10, 11, 12, 13, 14, 15, 16, 17, 18, 19, 20, 21, 22] rfl rfl rfl) rfl rfl hl.1 rfl (lv_room (Nat.le_of_ble_eq_true rfl)) d_Mo_ask_269 ⟨Nat.zero_le _, Nat.zero_le _⟩) (fun r_55 hw => ?_)
                  subst hw
                  refine lv_istore_n (lv' := [(3, .int (f_mbehind rules editions orders z_best_20 rule_)), (2, .int z_best_20), (0, .ref a0), (1, .int begun)]) hx hb d_Mo_ask_272 rfl hl (by decide) rfl (fun ls hl => ?_)
                  refine lv_goto (tgt := 171) hx hb d_Mo_ask_273 (by decide) ?_
                  exact ih H _ ls (f_mbehind rules editions orders z_best_20 rule_) y_cells x_handles_29 x_handleFacts_30 x_failures_31 x_failedRule_32 x_failedHow_33 y_answers y_givers x_stack_34 x_high_35 x_steps_36 x_how_37 x_cellNow_38 x_own_39 x_has_40 hP hD hS (lv_sub hl [0, 1, 2, 3] rfl) (by exact InvT_step (hgo _ (med_of (ix_or hbst c_23))) hI_maskC c_25 (by have hx := f_mdoAll_inv (cells := y_cells) (facts := facts) (failures := y_failures) (failedRule := y_failedRule) (failedHow := y_failedHow) (stack := y_stack) (own := y_own) (has := y_has) (r := rule_) hZ hm hV (InvT_h hI_maskC).1 (InvT_h hI_maskC).2; rw [← hw_28] at hx; exact hx)) (by rw [← hT]; simp only [L_maskC, if_neg c_25, ← hw_28, if_neg c_41, if_pos c_54])
                · refine lv_aload_n hx hb d_Mo_ask_197 rfl (lv_at hl 2 rfl) ?_
                  refine lv_aload_n hx hb d_Mo_ask_198 rfl (lv_at hl 2 rfl) ?_
                  refine va_get (D := G) (ci := 6) (v := .ref a8) (C := R_Mo) (T := T_Mo) (N := 32) hx hb hts hi_2 hown hK hP 0 rfl rfl 10 (by decide) hk_16 (fun _ h9 => h9) rfl d_Mo_ask_199 ?_
                  refine lv_iload_n hx hb d_Mo_ask_202 rfl (lv_at hl 0 rfl) ?_
                  refine va_iald hx hb hK hP 8 0 rfl rfl (GH_lt (hgo _ (med_of (ix_or hbst c_23))) hI_maskC c_25).1 d_Mo_ask_203 ?_
                  refine lv_aload_n hx hb d_Mo_ask_204 rfl (lv_at hl 2 rfl) ?_
                  refine va_get (D := G) (ci := 6) (v := .ref a9) (C := R_Mo) (T := T_Mo) (N := 32) hx hb hts hi_2 hown hK hP 0 rfl rfl 11 (by decide) hk_17 (fun _ h9 => h9) rfl d_Mo_ask_205 ?_
                  refine lv_iload_n hx hb d_Mo_ask_208 rfl (lv_at hl 0 rfl) ?_
                  refine va_lald hx hb hK hP 9 1 rfl rfl (GH_lt (hgo _ (med_of (ix_or hbst c_23))) hI_maskC c_25).1 d_Mo_ask_209 ?_
                  refine lv_iload_n hx hb d_Mo_ask_210 rfl (lv_at hl 0 rfl) ?_
                  refine cl_v hK hP hD hS hA (va_runV (As := [.int (fallbackKinds rule_.toNatClampNeg), .long (fallbacks rule_.toNatClampNeg), .int rule_]) (rest := []) ⟨hx, hb, hml, hown, hts⟩ (c_mgive l G cI cL cZ cR cE H.size a0 a1 a2 a3 a4 a5 a6 a7 a8 a9 a10 a11 a12 a13 a14 a15 a16 a17 a18 a19 a20 a21 a22 0 most rules editions orders sizes ops numbers y_cells hasFallback fallbackKinds fallbacks facts states counts days toldAt tells x_handles_29 x_handleFacts_30 x_failures_31 x_failedRule_32 x_failedHow_33 y_answers y_givers x_stack_34 x_high_35 x_steps_36 x_how_37 x_cellNow_38 x_own_39 x_has_40 (fallbackKinds rule_.toNatClampNeg) (fallbacks rule_.toNatClampNeg) rule_ (hFK _)) (cwV 3 hts (gV kw_743 kw_745 kw_13 kw_21 kw_746) rfl rfl rfl (by decide +kernel) ⟨Nat.le_of_ble_eq_true rfl, Nat.le_of_ble_eq_true rfl⟩) (preWV_of (ci := 6) hN hK hP hD [0, 1, 2, 3, 4, 5, 6, 7, 8, 9, 10, 11, 12, 13, 14, 15, 16, 17, 18, 19, 20, 21, 22] (by decide) rfl rfl rfl) rfl rfl hl.1 rfl (lv_room (Nat.le_of_ble_eq_true rfl)) d_Mo_ask_211 ⟨Nat.le_of_ble_eq_true rfl, Nat.le_of_ble_eq_true rfl⟩) [0, 1, 2, 3, 4, 5, 6, 7, 8, 9, 10, 11, 12, 13, 14, 15, 16, 17, 18, 19, 20, 21, 22] [] rfl rfl (by decide) (by decide) (fun u H locs hw_58 hP hD hS => ?_)
                  obtain ⟨x_answers_59, x_givers_60⟩ := u
                  replace hP : va_P G vwCl (W_Mod cI cL cZ cR cE a0 a1 a2 a3 a4 a5 a6 a7 a8 a9 a10 a11 a12 a13 a14 a15 a16 a17 a18 a19 a20 a21 a22 0 most rules editions orders sizes ops numbers y_cells hasFallback fallbackKinds fallbacks facts states counts days toldAt tells x_handles_29 x_handleFacts_30 x_failures_31 x_failedRule_32 x_failedHow_33 x_answers_59 x_givers_60 x_stack_34 x_high_35 x_steps_36 x_how_37 x_cellNow_38 x_own_39 x_has_40) H := hP.sub [0, 1, 2, 3, 4, 5, 6, 7, 8, 9, 10, 11, 12, 13, 14, 15, 16, 17, 18, 19, 20, 21, 22] rfl
                  replace hD : va_D A (W_Mod cI cL cZ cR cE a0 a1 a2 a3 a4 a5 a6 a7 a8 a9 a10 a11 a12 a13 a14 a15 a16 a17 a18 a19 a20 a21 a22 0 most rules editions orders sizes ops numbers y_cells hasFallback fallbackKinds fallbacks facts states counts days toldAt tells x_handles_29 x_handleFacts_30 x_failures_31 x_failedRule_32 x_failedHow_33 x_answers_59 x_givers_60 x_stack_34 x_high_35 x_steps_36 x_how_37 x_cellNow_38 x_own_39 x_has_40) := hD.sub [0, 1, 2, 3, 4, 5, 6, 7, 8, 9, 10, 11, 12, 13, 14, 15, 16, 17, 18, 19, 20, 21, 22] (by decide) rfl
                  refine lv_goto (tgt := 266) hx hb d_Mo_ask_214 (by decide) ?_
                  refine lv_aload_n hx hb d_Mo_ask_266 rfl (lv_at hl 2 rfl) ?_
                  refine lv_iload_n hx hb d_Mo_ask_267 rfl (lv_at hl 1 rfl) ?_
                  refine lv_iload_n hx hb d_Mo_ask_268 rfl (lv_at hl 0 rfl) ?_
                  refine vp_callSi (W.runV (As := [.int z_best_20, .int rule_]) (rest := []) ⟨hx, hb, hml, hown, hts⟩ (c_mbehind l G cI cL cZ cR cE a0 a1 a2 a3 a4 a5 a6 a7 a8 a9 a10 a11 a12 a13 a14 a15 a16 a17 a18 a19 a20 a21 a22 0 most rules editions orders sizes ops numbers y_cells hasFallback fallbackKinds fallbacks facts states counts days toldAt tells x_handles_29 x_handleFacts_30 x_failures_31 x_failedRule_32 x_failedHow_33 x_answers_59 x_givers_60 x_stack_34 x_high_35 x_steps_36 x_how_37 x_cellNow_38 x_own_39 x_has_40 z_best_20 rule_ hR (Or.inr (GH_lt (hgo _ (med_of (ix_or hbst c_23))) hI_maskC c_25).1)) (cwV 2 hts (gV kw_708 kw_710 kw_8 kw_21 kw_711) rfl rfl rfl (by decide +kernel) ⟨Nat.le_of_ble_eq_true rfl, Nat.le_of_ble_eq_true rfl⟩) (preRV_of (ci := 6) hN hK hP [0, 1, 2, 3, 4, 5, 6, 7, 8, 9, 10, 11, 12, 13, 14, 15, 16, 17, 18, 19, 20, 21, 22] rfl rfl rfl) rfl rfl hl.1 rfl (lv_room (Nat.le_of_ble_eq_true rfl)) d_Mo_ask_269 ⟨Nat.zero_le _, Nat.zero_le _⟩) (fun r_61 hw => ?_)
                  subst hw
                  refine lv_istore_n (lv' := [(3, .int (f_mbehind rules editions orders z_best_20 rule_)), (2, .int z_best_20), (0, .ref a0), (1, .int begun)]) hx hb d_Mo_ask_272 rfl hl (by decide) rfl (fun ls hl => ?_)
                  refine lv_goto (tgt := 171) hx hb d_Mo_ask_273 (by decide) ?_
                  exact ih H _ ls (f_mbehind rules editions orders z_best_20 rule_) y_cells x_handles_29 x_handleFacts_30 x_failures_31 x_failedRule_32 x_failedHow_33 x_answers_59 x_givers_60 x_stack_34 x_high_35 x_steps_36 x_how_37 x_cellNow_38 x_own_39 x_has_40 hP hD hS (lv_sub hl [0, 1, 2, 3] rfl) (by exact InvT_step (hgo _ (med_of (ix_or hbst c_23))) hI_maskC c_25 (by have hx := f_mdoAll_inv (cells := y_cells) (facts := facts) (failures := y_failures) (failedRule := y_failedRule) (failedHow := y_failedHow) (stack := y_stack) (own := y_own) (has := y_has) (r := rule_) hZ hm hV (InvT_h hI_maskC).1 (InvT_h hI_maskC).2; rw [← hw_28] at hx; exact hx)) (by rw [← hT]; simp only [L_maskC, if_neg c_25, ← hw_28, if_neg c_41, if_neg c_54, ← hw_58])
        · obtain ⟨z_rule__62, z_y_cells_63, z_y_handles_64, z_y_handleFacts_65, z_y_failures_66, z_y_failedRule_67, z_y_failedHow_68, z_y_answers_69, z_y_givers_70, z_y_stack_71, z_y_high_72, z_y_steps_73, z_y_how_74, z_y_cellNow_75, z_y_own_76, z_y_has_77⟩ := x
          obtain ⟨hw_78, hP, hD, hS, hl⟩ := hq
          replace hP : va_P G vwCl (W_Mod cI cL cZ cR cE a0 a1 a2 a3 a4 a5 a6 a7 a8 a9 a10 a11 a12 a13 a14 a15 a16 a17 a18 a19 a20 a21 a22 0 most rules editions orders sizes ops numbers z_y_cells_63 hasFallback fallbackKinds fallbacks facts states counts days toldAt tells z_y_handles_64 z_y_handleFacts_65 z_y_failures_66 z_y_failedRule_67 z_y_failedHow_68 z_y_answers_69 z_y_givers_70 z_y_stack_71 z_y_high_72 z_y_steps_73 z_y_how_74 z_y_cellNow_75 z_y_own_76 z_y_has_77) H := hP
          replace hD : va_D A (W_Mod cI cL cZ cR cE a0 a1 a2 a3 a4 a5 a6 a7 a8 a9 a10 a11 a12 a13 a14 a15 a16 a17 a18 a19 a20 a21 a22 0 most rules editions orders sizes ops numbers z_y_cells_63 hasFallback fallbackKinds fallbacks facts states counts days toldAt tells z_y_handles_64 z_y_handleFacts_65 z_y_failures_66 z_y_failedRule_67 z_y_failedHow_68 z_y_answers_69 z_y_givers_70 z_y_stack_71 z_y_high_72 z_y_steps_73 z_y_how_74 z_y_cellNow_75 z_y_own_76 z_y_has_77) := hD
          replace hl : lv_has ls 6 [(3, .int z_rule__62), (2, .int z_best_20), (0, .ref a0), (1, .int begun)] := hl
          refine lv_iconst (v := 0) hx hb d_Mo_ask_276 (by decide) ?_
          refine lv_istore (lv' := [(4, .int 0), (3, .int z_rule__62), (2, .int z_best_20), (0, .ref a0), (1, .int begun)]) hx hb d_Mo_ask_277 hl (by decide) rfl (fun ls hl => ?_)
          refine lv_iconst (v := 0) hx hb d_Mo_ask_279 (by decide) ?_
          refine lv_istore (lv' := [(5, .int 0), (4, .int 0), (3, .int z_rule__62), (2, .int z_best_20), (0, .ref a0), (1, .int begun)]) hx hb d_Mo_ask_280 hl (by decide) rfl (fun ls hl => ?_)
          refine W_seq (α := Int32 × Int32) (pcE := 315) (Post := (fun x H locs ls => x = L_maskE z_y_givers_70 5 0 0 ∧ va_P G vwCl (W_Mod cI cL cZ cR cE a0 a1 a2 a3 a4 a5 a6 a7 a8 a9 a10 a11 a12 a13 a14 a15 a16 a17 a18 a19 a20 a21 a22 0 most rules editions orders sizes ops numbers z_y_cells_63 hasFallback fallbackKinds fallbacks facts states counts days toldAt tells z_y_handles_64 z_y_handleFacts_65 z_y_failures_66 z_y_failedRule_67 z_y_failedHow_68 z_y_answers_69 z_y_givers_70 z_y_stack_71 z_y_high_72 z_y_steps_73 z_y_how_74 z_y_cellNow_75 z_y_own_76 z_y_has_77) H ∧ va_D A (W_Mod cI cL cZ cR cE a0 a1 a2 a3 a4 a5 a6 a7 a8 a9 a10 a11 a12 a13 a14 a15 a16 a17 a18 a19 a20 a21 a22 0 most rules editions orders sizes ops numbers z_y_cells_63 hasFallback fallbackKinds fallbacks facts states counts days toldAt tells z_y_handles_64 z_y_handleFacts_65 z_y_failures_66 z_y_failedRule_67 z_y_failedHow_68 z_y_answers_69 z_y_givers_70 z_y_stack_71 z_y_high_72 z_y_steps_73 z_y_how_74 z_y_cellNow_75 z_y_own_76 z_y_has_77) ∧ va_S A s.heap H locs ∧ lv_has ls 6 [(5, .int x.2), (4, .int x.1), (3, .int z_rule__62), (2, .int z_best_20), (0, .ref a0), (1, .int begun)])) (fun hKK => ?_) (fun x H locs ls hq => ?_)
          · generalize hT : L_maskE z_y_givers_70 5 0 0 = T at hKK
            obtain ⟨n, hn⟩ : ∃ n : Nat, n = 5 := ⟨_, rfl⟩
            obtain ⟨many, h_many⟩ : ∃ z : Int32, z = 0 := ⟨_, rfl⟩
            obtain ⟨k2, h_k2⟩ : ∃ z : Int32, z = 0 := ⟨_, rfl⟩
            replace hl : lv_has ls 6 [(5, .int k2), (4, .int many), (3, .int z_rule__62), (2, .int z_best_20), (0, .ref a0), (1, .int begun)] := by rw [h_many, h_k2]; exact hl
            have hI_maskE : 0 ≤ k2.toInt ∧ k2.toInt ≤ 4 ∧ 5 ≤ k2.toInt + (n : Int) := by rw [hn, h_k2]; decide
            replace hT : L_maskE z_y_givers_70 n many k2 = T := by rw [← hT, hn, h_many, h_k2]
            clear hn h_many h_k2
            revert hT
            revert hI_maskE
            revert hl
            revert hS
            revert hD
            revert hP
            revert k2
            revert many
            revert ls
            revert locs
            revert H
            induction n with
            | zero =>
              intro H locs ls many k2 hP hD hS hl hI_maskE hT
              exact absurd hI_maskE (by omega)
            | succ n ih =>
              intro H locs ls many k2 hP hD hS hl hI_maskE hT
              refine lv_iload hx hb d_Mo_ask_282 (lv_at hl 0 rfl) ?_
              refine lv_iconst (v := 4) hx hb d_Mo_ask_284 (by decide) ?_
              refine lv_icmp_ge (tgt := 315) hx hb d_Mo_ask_285 (by decide) (fun c_79 => ?_) (fun c_79 => ?_)
              · exact hKK (many, k2) H _ ls ⟨(by rw [← hT]; simp only [L_maskE, if_pos c_79]), hP, hD, hS, lv_sub hl [0, 1, 2, 3, 4, 5] rfl⟩
              · refine lv_iload hx hb d_Mo_ask_288 (lv_at hl 1 rfl) ?_
                refine lv_aload_n hx hb d_Mo_ask_290 rfl (lv_at hl 4 rfl) ?_
                refine va_get (D := G) (ci := 6) (v := .ref a19) (C := R_Mo) (T := T_Mo) (N := 32) hx hb hts hi_2 hown hK hP 0 rfl rfl 24 (by decide) hk_7 (fun _ h9 => h9) rfl d_Mo_ask_291 ?_
                refine lv_iload hx hb d_Mo_ask_294 (lv_at hl 0 rfl) ?_
                refine va_iald hx hb hK hP 19 0 rfl rfl (k_lt4 hI_maskE c_79) d_Mo_ask_296 ?_
                refine lv_iconst (v := (-1)) hx hb d_Mo_ask_297 (by decide) ?_
                refine W_join (P := (z_y_givers_70 k2.toNatClampNeg) = (-1)) (A := (0 : Int32)) (B := 1) (fr := (fun v : Int32 => F0 m 306 ls (.int v :: [.int many]))) (fun hA_81 hB_82 => ?_) ?_
                · refine lv_icmp_ne (tgt := 305) hx hb d_Mo_ask_298 (by decide) (fun c_80 => ?_) (fun c_80 => ?_)
                  · refine lv_iconst (v := 1) hx hb d_Mo_ask_305 (by decide) ?_
                    exact hB_82 c_80
                  · refine lv_iconst (v := 0) hx hb d_Mo_ask_301 (by decide) ?_
                    refine lv_goto (tgt := 306) hx hb d_Mo_ask_302 (by decide) ?_
                    exact hA_81 c_80
                refine lv_iadd hx hb d_Mo_ask_306 ?_
                refine lv_istore (lv' := [(4, .int (many + (if (z_y_givers_70 k2.toNatClampNeg) = (-1) then (0 : Int32) else 1))), (5, .int k2), (3, .int z_rule__62), (2, .int z_best_20), (0, .ref a0), (1, .int begun)]) hx hb d_Mo_ask_307 hl (by decide) rfl (fun ls hl => ?_)
                refine lv_iinc (v := k2 + 1) (lv' := [(5, .int (k2 + 1)), (4, .int (many + (if (z_y_givers_70 k2.toNatClampNeg) = (-1) then (0 : Int32) else 1))), (3, .int z_rule__62), (2, .int z_best_20), (0, .ref a0), (1, .int begun)]) hx hb d_Mo_ask_309 hl (k := 1) rfl rfl (by decide) rfl (fun ls hl => ?_)
                refine lv_goto (tgt := 282) hx hb d_Mo_ask_312 (by decide) ?_
                exact ih H _ ls (many + (if (z_y_givers_70 k2.toNatClampNeg) = (-1) then (0 : Int32) else 1)) (k2 + 1) hP hD hS (lv_sub hl [0, 1, 2, 3, 4, 5] rfl) (by exact i_step hI_maskE c_79 rfl (by decide)) (by rw [← hT]; simp only [L_maskE, if_neg c_79])
          · obtain ⟨z_many_83, z_k2_84⟩ := x
            obtain ⟨hw_85, hP, hD, hS, hl⟩ := hq
            replace hP : va_P G vwCl (W_Mod cI cL cZ cR cE a0 a1 a2 a3 a4 a5 a6 a7 a8 a9 a10 a11 a12 a13 a14 a15 a16 a17 a18 a19 a20 a21 a22 0 most rules editions orders sizes ops numbers z_y_cells_63 hasFallback fallbackKinds fallbacks facts states counts days toldAt tells z_y_handles_64 z_y_handleFacts_65 z_y_failures_66 z_y_failedRule_67 z_y_failedHow_68 z_y_answers_69 z_y_givers_70 z_y_stack_71 z_y_high_72 z_y_steps_73 z_y_how_74 z_y_cellNow_75 z_y_own_76 z_y_has_77) H := hP
            replace hD : va_D A (W_Mod cI cL cZ cR cE a0 a1 a2 a3 a4 a5 a6 a7 a8 a9 a10 a11 a12 a13 a14 a15 a16 a17 a18 a19 a20 a21 a22 0 most rules editions orders sizes ops numbers z_y_cells_63 hasFallback fallbackKinds fallbacks facts states counts days toldAt tells z_y_handles_64 z_y_handleFacts_65 z_y_failures_66 z_y_failedRule_67 z_y_failedHow_68 z_y_answers_69 z_y_givers_70 z_y_stack_71 z_y_high_72 z_y_steps_73 z_y_how_74 z_y_cellNow_75 z_y_own_76 z_y_has_77) := hD
            replace hl : lv_has ls 6 [(5, .int z_k2_84), (4, .int z_many_83), (3, .int z_rule__62), (2, .int z_best_20), (0, .ref a0), (1, .int begun)] := hl
            refine lv_iload hx hb d_Mo_ask_315 (lv_at hl 1 rfl) ?_
            exact W.iret (v := z_many_83) hx hb hr (fun t ht hW => ⟨⟨z_many_83, (0, z_y_cells_63, z_y_handles_64, z_y_handleFacts_65, z_y_failures_66, z_y_failedRule_67, z_y_failedHow_68, z_y_answers_69, z_y_givers_70, z_y_stack_71, z_y_high_72, z_y_steps_73, z_y_how_74, z_y_cellNow_75, z_y_own_76, z_y_has_77), rfl, (by rw [← hT]; unfold f_mask; rw [if_neg c_2]; rw [← hw_22]; (try dsimp only); rw [if_neg c_23]; rw [← hw_78]; (try dsimp only); rw [← hw_85]; (try dsimp only)), by rw [ht]; exact hP, va_K.moved hW.alike hK, hD⟩, hS.F ht⟩) hS.2.2 d_Mo_ask_317
      · refine lv_iconst (v := (-1)) hx hb d_Mo_ask_162 (by decide) ?_
        exact W.iret (v := (-1)) hx hb hr (fun t ht hW => ⟨⟨(-1), (0, cells, 0, handleFacts, 0, failedRule, failedHow, vp_updL (vp_updL (vp_updL (vp_updL answers (0 : Int32).toNatClampNeg 0) (1 : Int32).toNatClampNeg 0) (2 : Int32).toNatClampNeg 0) (3 : Int32).toNatClampNeg 0, upd (upd (upd (upd givers (0 : Int32).toNatClampNeg (-1)) (1 : Int32).toNatClampNeg (-1)) (2 : Int32).toNatClampNeg (-1)) (3 : Int32).toNatClampNeg (-1), stack, high, steps, how, cellNow, own, has), rfl, (by rw [← hT]; unfold f_mask; rw [if_neg c_2]; rw [← hw_22]; (try dsimp only); rw [if_pos c_23]), by rw [ht]; exact hP, va_K.moved hW.alike hK, hD⟩, hS.F ht⟩) hS.2.2 d_Mo_ask_163
  · refine lv_bipush (v := (-102)) hx hb d_Mo_ask_17 (by decide) ?_
    exact W.iret (v := (-102)) hx hb hr (fun t ht hW => ⟨⟨(-102), (0, cells, handles, handleFacts, failures, failedRule, failedHow, answers, givers, stack, high, steps, how, cellNow, own, has), rfl, (by rw [← hT]; unfold f_mask; rw [if_pos c_2]), by rw [ht]; exact hP, va_K.moved hW.alike hK, hD⟩, hS.F ht⟩) hS.2.2 d_Mo_ask_19
