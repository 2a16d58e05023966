def f_divideN  : Int64 := (-101)
set_option maxHeartbeats 4000000 in
set_option maxRecDepth 100000 in
theorem c_divideN (l : Launch) (G : va_G) (cI cL cZ cR cE : ClassId) (a0 a1 a2 a3 a4 a5 a6 a7 a8 a9 a10 a11 a12 a13 a14 a15 : Nat) (steps : Int32) (editions : Nat → Option Nat) (rules : Nat → Option Nat) (ruleCount : Int32) (daysTold : Int32) (runner_facts : Nat → Int64) (runner_stack : Nat → Int64) (runner_handleFacts : Nat → Int32) (runner_given_values : Nat → Int64) (runner_given_givers : Nat → Int32) (runner_handleCount : Int32) (runner_height : Int32) (runner_position : Int32) (runner_fault : Int32) (runner_cell : Int64) (answers_values : Nat → Int64) (answers_givers : Nat → Int32) (failures_ruleNumbers : Nat → Int32) (failures_hows : Nat → Int32) (failures_count : Int32) (k : Int32) (x : Int64) (y : Int64) (hq : f_ruleAt rules ruleCount k = none) : Met l y_Hr_divide w_Hr_divide ({ frames := 1, cells := 0, slots := 0, locals := 21 }) (preR G (TYS cI cL cZ cR cE) [.ref a0, .int k, .long x, .long y] (W_Hr cI cL cZ cR cE a0 a1 a2 a3 a4 a5 a6 a7 a8 a9 a10 a11 a12 a13 a14 a15 steps editions rules ruleCount daysTold runner_facts runner_stack runner_handleFacts runner_given_values runner_given_givers runner_handleCount runner_height runner_position runner_fault runner_cell answers_values answers_givers failures_ruleNumbers failures_hows failures_count)) (vp_Sl (fun ans_ => ans_ = f_divideN )) 0 0 (fun _ => False) := by
  refine Met.ofW (cc := b_Hr_divide) (maxL := 6) (ret := (some .long)) (by decide) rfl ?_
  intro p e s m args below meth c s₁ B hml hv
  obtain ⟨rfl, hP, hK, hN⟩ := hv
  have hx := B.exec
  have hb := B.bytes
  have hr := B.returns
  have hts := atoms_spec (ws := w_Hr_divide) B.pre
  have hown : s.vm.findClass R_Hr = some m.cls := findClass_of_methodNamed B.named
  have hlocks := B.notSynchronized
  obtain ⟨H, hH⟩ : ∃ H, H = s.heap := ⟨_, rfl⟩
  rw [← hH] at hP
  rw [← hH]
  have hk_1 := hts (.constantLong R_Hr 180 (-101)) (List.mem_cons_of_mem _ kw_466)
  have hl := lv_entry ([.ref a0, .int k, .long x, .long y]) (n := 6) (Nat.le_of_ble_eq_true rfl)
  rw [lg_entry_eq]
  generalize (lg_sl ([.ref a0, .int k, .long x, .long y]) ++ List.replicate (6 - (lg_sl ([.ref a0, .int k, .long x, .long y])).length) Slot.unset).toArray = ls at hl ⊢
  replace hl : lv_has ls 6 [(0, .ref a0), (1, .int k), (2, .long x), (4, .long y)] := hl
  generalize hT : f_divideN  = T
  refine lv_aload_n hx hb d_Hr_divide_0 rfl (lv_at hl 0 rfl) ?_
  refine lv_iload_n hx hb d_Hr_divide_1 rfl (lv_at hl 1 rfl) ?_
  refine va_csq (W.runV (As := [.int k]) (rest := []) ⟨hx, hb, hml, hown, hts⟩ (c_ruleAt l G cI cL cZ cR cE a0 a1 a2 a3 a4 a5 a6 a7 a8 a9 a10 a11 a12 a13 a14 a15 steps editions rules ruleCount daysTold runner_facts runner_stack runner_handleFacts runner_given_values runner_given_givers runner_handleCount runner_height runner_position runner_fault runner_cell answers_values answers_givers failures_ruleNumbers failures_hows failures_count k) (cwV 1 hts (gV kw_241 kw_243 kw_1 kw_15 kw_244) rfl rfl rfl (by decide +kernel) ⟨Nat.le_of_ble_eq_true rfl, Nat.le_of_ble_eq_true rfl⟩) (preRV_of (ci := 5) hN hK hP [0, 1, 2, 3, 4, 5, 6, 7, 8, 9, 10, 11, 12, 13, 14, 15] rfl rfl rfl) rfl rfl hl.1 rfl (lv_room (Nat.le_of_ble_eq_true rfl)) d_Hr_divide_2 ⟨Nat.zero_le _, Nat.zero_le _⟩) (fun r_1 hw => ?_)
  rw [hq] at hw
  subst hw
  refine W.eq (g2 := F0 m 5 ls (.null :: [])) rfl ?_
  refine lv_ifnonnullN hx hb d_Hr_divide_5 ?_
  refine lv_ldc2 (v := (-101)) hx hb hown hk_1 d_Hr_divide_8 ?_
  exact W.lret (v := (-101)) hx hb hr (fun t ht hW => ⟨(-101), rfl, (by rw [← hT]; simp only [f_divideN]), by rw [ht, hH]⟩) (fun _ h => by cases h) d_Hr_divide_11
def f_divideR (x : Int64) (y : Int64) : Int64 := f_combine 5 x y
set_option maxHeartbeats 4000000 in
set_option maxRecDepth 100000 in
theorem c_divideR (l : Launch) (G : va_G) (cI cL cZ cR cE : ClassId) (a0 a1 a2 a3 a4 a5 a6 a7 a8 a9 a10 a11 a12 a13 a14 a15 : Nat) (steps : Int32) (editions : Nat → Option Nat) (rules : Nat → Option Nat) (ruleCount : Int32) (daysTold : Int32) (runner_facts : Nat → Int64) (runner_stack : Nat → Int64) (runner_handleFacts : Nat → Int32) (runner_given_values : Nat → Int64) (runner_given_givers : Nat → Int32) (runner_handleCount : Int32) (runner_height : Int32) (runner_position : Int32) (runner_fault : Int32) (runner_cell : Int64) (answers_values : Nat → Int64) (answers_givers : Nat → Int32) (failures_ruleNumbers : Nat → Int32) (failures_hows : Nat → Int32) (failures_count : Int32) (k : Int32) (x : Int64) (y : Int64) (za : Nat) (hq : f_ruleAt rules ruleCount k = some za) (hy0 : ¬ y = 0) : Met l y_Hr_divide w_Hr_divide ({ frames := 1, cells := 0, slots := 0, locals := 24 }) (preR G (TYS cI cL cZ cR cE) [.ref a0, .int k, .long x, .long y] (W_Hr cI cL cZ cR cE a0 a1 a2 a3 a4 a5 a6 a7 a8 a9 a10 a11 a12 a13 a14 a15 steps editions rules ruleCount daysTold runner_facts runner_stack runner_handleFacts runner_given_values runner_given_givers runner_handleCount runner_height runner_position runner_fault runner_cell answers_values answers_givers failures_ruleNumbers failures_hows failures_count)) (vp_Sl (fun ans_ => ans_ = f_divideR x y)) 0 0 (fun _ => False) := by
  refine Met.ofW (cc := b_Hr_divide) (maxL := 6) (ret := (some .long)) (by decide) rfl ?_
  intro p e s m args below meth c s₁ B hml hv
  obtain ⟨rfl, hP, hK, hN⟩ := hv
  have hx := B.exec
  have hb := B.bytes
  have hr := B.returns
  have hts := atoms_spec (ws := w_Hr_divide) B.pre
  have hown : s.vm.findClass R_Hr = some m.cls := findClass_of_methodNamed B.named
  have hlocks := B.notSynchronized
  obtain ⟨H, hH⟩ : ∃ H, H = s.heap := ⟨_, rfl⟩
  rw [← hH] at hP
  rw [← hH]
  have hl := lv_entry ([.ref a0, .int k, .long x, .long y]) (n := 6) (Nat.le_of_ble_eq_true rfl)
  rw [lg_entry_eq]
  generalize (lg_sl ([.ref a0, .int k, .long x, .long y]) ++ List.replicate (6 - (lg_sl ([.ref a0, .int k, .long x, .long y])).length) Slot.unset).toArray = ls at hl ⊢
  replace hl : lv_has ls 6 [(0, .ref a0), (1, .int k), (2, .long x), (4, .long y)] := hl
  generalize hT : f_divideR x y = T
  refine lv_aload_n hx hb d_Hr_divide_0 rfl (lv_at hl 0 rfl) ?_
  refine lv_iload_n hx hb d_Hr_divide_1 rfl (lv_at hl 1 rfl) ?_
  refine va_csq (W.runV (As := [.int k]) (rest := []) ⟨hx, hb, hml, hown, hts⟩ (c_ruleAt l G cI cL cZ cR cE a0 a1 a2 a3 a4 a5 a6 a7 a8 a9 a10 a11 a12 a13 a14 a15 steps editions rules ruleCount daysTold runner_facts runner_stack runner_handleFacts runner_given_values runner_given_givers runner_handleCount runner_height runner_position runner_fault runner_cell answers_values answers_givers failures_ruleNumbers failures_hows failures_count k) (cwV 1 hts (gV kw_241 kw_243 kw_1 kw_15 kw_244) rfl rfl rfl (by decide +kernel) ⟨Nat.le_of_ble_eq_true rfl, Nat.le_of_ble_eq_true rfl⟩) (preRV_of (ci := 5) hN hK hP [0, 1, 2, 3, 4, 5, 6, 7, 8, 9, 10, 11, 12, 13, 14, 15] rfl rfl rfl) rfl rfl hl.1 rfl (lv_room (Nat.le_of_ble_eq_true rfl)) d_Hr_divide_2 ⟨Nat.zero_le _, Nat.zero_le _⟩) (fun r_1 hw => ?_)
  rw [hq] at hw
  subst hw
  refine W.eq (g2 := F0 m 5 ls (.ref za :: [])) rfl ?_
  refine lv_ifnonnull (tgt := 12) hx hb d_Hr_divide_5 (by decide) ?_
  refine lv_lload hx hb d_Hr_divide_12 (lv_at hl 3 rfl) ?_
  refine lv_lconst (v := 0) hx hb d_Hr_divide_14 (by decide) ?_
  refine lc_ne (x := y) (y := 0) (tgt := 29) hx hb d_Hr_divide_15 d_Hr_divide_16 (by decide) (fun _ => ?_) (fun k_2 => absurd k_2 hy0)
  refine lv_iconst (v := 5) hx hb d_Hr_divide_29 (by decide) ?_
  refine lv_lload_n hx hb d_Hr_divide_30 rfl (lv_at hl 2 rfl) ?_
  refine lv_lload hx hb d_Hr_divide_31 (lv_at hl 3 rfl) ?_
  refine vp_callSl (W.runS (As := [.int 5, .long x, .long y]) (rest := []) ⟨hx, hb, hml, hown, hts⟩ (c_combine l G cI cL cZ cR cE  5 x y) (va_cwS 3 hts (gS kw_534 kw_332 kw_15 kw_333) rfl rfl rfl (by decide +kernel) ⟨Nat.le_of_ble_eq_true rfl, Nat.le_of_ble_eq_true rfl⟩) (preRS_of hN hK hP [] rfl) rfl rfl hl.1 rfl (lv_room (Nat.le_of_ble_eq_true rfl)) d_Hr_divide_33 ⟨Nat.zero_le _, Nat.zero_le _⟩) (fun r_3 hw => ?_)
  subst hw
  exact W.lret (v := f_combine 5 x y) hx hb hr (fun t ht hW => ⟨f_combine 5 x y, rfl, (by rw [← hT]; simp only [f_divideR]), by rw [ht, hH]⟩) (fun _ h => by cases h) d_Hr_divide_36
def f_handleA  : Int32 := (-102)
set_option maxHeartbeats 4000000 in
set_option maxRecDepth 100000 in
theorem c_handleA (l : Launch) (G : va_G) (cI cL cZ cR cE : ClassId) (a0 a1 a2 a3 a4 a5 a6 a7 a8 a9 a10 a11 a12 a13 a14 a15 : Nat) (steps : Int32) (editions : Nat → Option Nat) (rules : Nat → Option Nat) (ruleCount : Int32) (daysTold : Int32) (runner_facts : Nat → Int64) (runner_stack : Nat → Int64) (runner_handleFacts : Nat → Int32) (runner_given_values : Nat → Int64) (runner_given_givers : Nat → Int32) (runner_handleCount : Int32) (runner_height : Int32) (runner_position : Int32) (runner_fault : Int32) (runner_cell : Int64) (answers_values : Nat → Int64) (answers_givers : Nat → Int32) (failures_ruleNumbers : Nat → Int32) (failures_hows : Nat → Int32) (failures_count : Int32) (k : Int32) (hk : k < 0) : Met l y_Hr_handle w_Hr_handle ({ frames := 0, cells := 0, slots := 0, locals := 0 }) (preR G (TYS cI cL cZ cR cE) [.ref a0, .int k] (W_Hr cI cL cZ cR cE a0 a1 a2 a3 a4 a5 a6 a7 a8 a9 a10 a11 a12 a13 a14 a15 steps editions rules ruleCount daysTold runner_facts runner_stack runner_handleFacts runner_given_values runner_given_givers runner_handleCount runner_height runner_position runner_fault runner_cell answers_values answers_givers failures_ruleNumbers failures_hows failures_count)) (vp_Si (fun ans_ => ans_ = f_handleA )) 0 0 (fun _ => False) := by
  refine Met.ofW (cc := b_Hr_handle) (maxL := 2) (ret := (some .int)) (by decide) rfl ?_
  intro p e s m args below meth c s₁ B hml hv
  obtain ⟨rfl, hP, hK, hN⟩ := hv
  have hx := B.exec
  have hb := B.bytes
  have hr := B.returns
  have hts := atoms_spec (ws := w_Hr_handle) B.pre
  have hown : s.vm.findClass R_Hr = some m.cls := findClass_of_methodNamed B.named
  have hlocks := B.notSynchronized
  obtain ⟨H, hH⟩ : ∃ H, H = s.heap := ⟨_, rfl⟩
  rw [← hH] at hP
  rw [← hH]
  have hl := lv_entry ([.ref a0, .int k]) (n := 2) (Nat.le_of_ble_eq_true rfl)
  rw [lg_entry_eq]
  generalize (lg_sl ([.ref a0, .int k]) ++ List.replicate (2 - (lg_sl ([.ref a0, .int k])).length) Slot.unset).toArray = ls at hl ⊢
  replace hl : lv_has ls 2 [(0, .ref a0), (1, .int k)] := hl
  generalize hT : f_handleA  = T
  refine lv_iload_n hx hb d_Hr_handle_0 rfl (lv_at hl 1 rfl) ?_
  refine lv_if_lt (tgt := 15) hx hb d_Hr_handle_1 (by decide) (fun _ => ?_) (fun k_1 => absurd hk k_1)
  refine lv_bipush (v := (-102)) hx hb d_Hr_handle_15 (by decide) ?_
  exact W.iret (v := (-102)) hx hb hr (fun t ht hW => ⟨(-102), rfl, (by rw [← hT]; simp only [f_handleA]), by rw [ht, hH]⟩) (fun _ h => by cases h) d_Hr_handle_17
def f_handleB  : Int32 := (-102)
set_option maxHeartbeats 4000000 in
set_option maxRecDepth 100000 in
theorem c_handleB (l : Launch) (G : va_G) (cI cL cZ cR cE : ClassId) (a0 a1 a2 a3 a4 a5 a6 a7 a8 a9 a10 a11 a12 a13 a14 a15 : Nat) (steps : Int32) (editions : Nat → Option Nat) (rules : Nat → Option Nat) (ruleCount : Int32) (daysTold : Int32) (runner_facts : Nat → Int64) (runner_stack : Nat → Int64) (runner_handleFacts : Nat → Int32) (runner_given_values : Nat → Int64) (runner_given_givers : Nat → Int32) (runner_handleCount : Int32) (runner_height : Int32) (runner_position : Int32) (runner_fault : Int32) (runner_cell : Int64) (answers_values : Nat → Int64) (answers_givers : Nat → Int32) (failures_ruleNumbers : Nat → Int32) (failures_hows : Nat → Int32) (failures_count : Int32) (k : Int32) (hk : ¬ k < 0) (hk2 : ¬ k < runner_handleCount) : Met l y_Hr_handle w_Hr_handle ({ frames := 0, cells := 0, slots := 0, locals := 0 }) (preR G (TYS cI cL cZ cR cE) [.ref a0, .int k] (W_Hr cI cL cZ cR cE a0 a1 a2 a3 a4 a5 a6 a7 a8 a9 a10 a11 a12 a13 a14 a15 steps editions rules ruleCount daysTold runner_facts runner_stack runner_handleFacts runner_given_values runner_given_givers runner_handleCount runner_height runner_position runner_fault runner_cell answers_values answers_givers failures_ruleNumbers failures_hows failures_count)) (vp_Si (fun ans_ => ans_ = f_handleB )) 0 0 (fun _ => False) := by
  refine Met.ofW (cc := b_Hr_handle) (maxL := 2) (ret := (some .int)) (by decide) rfl ?_
  intro p e s m args below meth c s₁ B hml hv
  obtain ⟨rfl, hP, hK, hN⟩ := hv
  have hx := B.exec
  have hb := B.bytes
  have hr := B.returns
  have hts := atoms_spec (ws := w_Hr_handle) B.pre
  have hown : s.vm.findClass R_Hr = some m.cls := findClass_of_methodNamed B.named
  have hlocks := B.notSynchronized
  obtain ⟨H, hH⟩ : ∃ H, H = s.heap := ⟨_, rfl⟩
  rw [← hH] at hP
  rw [← hH]
  have hi_2 : ∀ w ∈ u_ws R_Hr T_Hr 8, w ∈ w_Hr_handle := fun w h => List.mem_cons_of_mem _ (iu_Hr w h)
  have hi_4 : ∀ w ∈ u_ws R_Rn T_Rn 9, w ∈ w_Hr_handle := fun w h => List.mem_cons_of_mem _ (iu_Rn w h)
  have hk_1 := hts (.fieldLink R_Hr 31 "HandlingRules" "runner" "LHandlingRules$Runner;") (List.mem_cons_of_mem _ kw_149)
  have hk_3 := hts (.fieldLink R_Hr 193 "HandlingRules$Runner" "handleCount" "I") (List.mem_cons_of_mem _ kw_67)
  have hl := lv_entry ([.ref a0, .int k]) (n := 2) (Nat.le_of_ble_eq_true rfl)
  rw [lg_entry_eq]
  generalize (lg_sl ([.ref a0, .int k]) ++ List.replicate (2 - (lg_sl ([.ref a0, .int k])).length) Slot.unset).toArray = ls at hl ⊢
  replace hl : lv_has ls 2 [(0, .ref a0), (1, .int k)] := hl
  generalize hT : f_handleB  = T
  refine lv_iload_n hx hb d_Hr_handle_0 rfl (lv_at hl 1 rfl) ?_
  refine lv_if_lt (tgt := 15) hx hb d_Hr_handle_1 (by decide) (fun k_1 => absurd k_1 hk) (fun _ => ?_)
  refine lv_iload_n hx hb d_Hr_handle_4 rfl (lv_at hl 1 rfl) ?_
  refine lv_aload_n hx hb d_Hr_handle_5 rfl (lv_at hl 0 rfl) ?_
  refine va_get (D := G) (ci := 5) (v := .ref a3) (C := R_Hr) (T := T_Hr) (N := 8) hx hb hts hi_2 hown hK hP 0 rfl rfl 5 (by decide) hk_1 (fun _ h9 => h9) rfl d_Hr_handle_6 ?_
  refine va_get (D := G) (ci := 4) (v := .int runner_handleCount) (C := R_Rn) (T := T_Rn) (N := 9) hx hb hts hi_4 hown hK hP 3 rfl rfl 4 (by decide) hk_3 (fun _ h9 => h9) rfl d_Hr_handle_9 ?_
  refine lv_icmp_lt (tgt := 18) hx hb d_Hr_handle_12 (by decide) (fun k_2 => absurd k_2 hk2) (fun _ => ?_)
  refine lv_bipush (v := (-102)) hx hb d_Hr_handle_15 (by decide) ?_
  exact W.iret (v := (-102)) hx hb hr (fun t ht hW => ⟨(-102), rfl, (by rw [← hT]; simp only [f_handleB]), by rw [ht, hH]⟩) (fun _ h => by cases h) d_Hr_handle_17
