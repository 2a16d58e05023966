def f_editionAt (editions : Nat → Option Nat) (k : Int32) : Option Nat := if k < 0 then none else (if 6 ≤ k then none else (editions k.toNatClampNeg))
set_option maxHeartbeats 4000000 in
set_option maxRecDepth 100000 in
theorem c_editionAt (l : Launch) (G : va_G) (cI cL cZ cR cE : ClassId) (a0 a1 a2 a3 a4 a5 a6 a7 a8 a9 a10 a11 a12 a13 a14 a15 : Nat) (steps : Int32) (editions : Nat → Option Nat) (rules : Nat → Option Nat) (ruleCount : Int32) (daysTold : Int32) (runner_facts : Nat → Int64) (runner_stack : Nat → Int64) (runner_handleFacts : Nat → Int32) (runner_given_values : Nat → Int64) (runner_given_givers : Nat → Int32) (runner_handleCount : Int32) (runner_height : Int32) (runner_position : Int32) (runner_fault : Int32) (runner_cell : Int64) (answers_values : Nat → Int64) (answers_givers : Nat → Int32) (failures_ruleNumbers : Nat → Int32) (failures_hows : Nat → Int32) (failures_count : Int32) (k : Int32) : Met l y_Hr_editionAt w_Hr_editionAt ({ frames := 0, cells := 0, slots := 0, locals := 0 }) (preR G (TYS cI cL cZ cR cE) [.ref a0, .int k] (W_Hr cI cL cZ cR cE a0 a1 a2 a3 a4 a5 a6 a7 a8 a9 a10 a11 a12 a13 a14 a15 steps editions rules ruleCount daysTold runner_facts runner_stack runner_handleFacts runner_given_values runner_given_givers runner_handleCount runner_height runner_position runner_fault runner_cell answers_values answers_givers failures_ruleNumbers failures_hows failures_count)) (va_Sq (fun ans_ => ans_ = f_editionAt editions k)) 0 0 (fun _ => False) := by
  refine Met.ofW (cc := b_Hr_editionAt) (maxL := 2) (ret := (some (.object "HandlingRules$Edition"))) (by decide) rfl ?_
  intro p e s m args below meth c s₁ B hml hv
  obtain ⟨rfl, hP, hK, hN⟩ := hv
  have hx := B.exec
  have hb := B.bytes
  have hr := B.returns
  have hts := atoms_spec (ws := w_Hr_editionAt) B.pre
  have hown : s.vm.findClass R_Hr = some m.cls := findClass_of_methodNamed B.named
  have hlocks := B.notSynchronized
  obtain ⟨H, hH⟩ : ∃ H, H = s.heap := ⟨_, rfl⟩
  rw [← hH] at hP
  rw [← hH]
  have hi_2 : ∀ w ∈ u_ws R_Hr T_Hr 8, w ∈ w_Hr_editionAt := fun w h => List.mem_cons_of_mem _ (iu_Hr w h)
  have hk_1 := hts (.fieldLink R_Hr 11 "HandlingRules" "editions" "[LHandlingRules$Edition;") (List.mem_cons_of_mem _ kw_145)
  have hl := lv_entry ([.ref a0, .int k]) (n := 2) (Nat.le_of_ble_eq_true rfl)
  rw [lg_entry_eq]
  generalize (lg_sl ([.ref a0, .int k]) ++ List.replicate (2 - (lg_sl ([.ref a0, .int k])).length) Slot.unset).toArray = ls at hl ⊢
  replace hl : lv_has ls 2 [(0, .ref a0), (1, .int k)] := hl
  generalize hT : f_editionAt editions k = T
  refine lv_iload_n hx hb d_Hr_editionAt_0 rfl (lv_at hl 1 rfl) ?_
  refine lv_if_lt (tgt := 19) hx hb d_Hr_editionAt_1 (by decide) (fun c_1 => ?_) (fun c_1 => ?_)
  · refine lv_null hx hb d_Hr_editionAt_19 ?_
    exact W.aret (v := va_rf none) hx hb hr (Or.inl ⟨_, rfl⟩) (va_rf_or _) (fun t ht hW => ⟨none, rfl, (by rw [← hT]; simp only [f_editionAt, if_pos c_1]), by rw [ht, hH]⟩) (fun _ h => by cases h) d_Hr_editionAt_20
  · refine lv_iload_n hx hb d_Hr_editionAt_4 rfl (lv_at hl 1 rfl) ?_
    refine lv_bipush (v := 6) hx hb d_Hr_editionAt_5 (by decide) ?_
    refine lv_icmp_ge (tgt := 19) hx hb d_Hr_editionAt_7 (by decide) (fun c_2 => ?_) (fun c_2 => ?_)
    · refine lv_null hx hb d_Hr_editionAt_19 ?_
      exact W.aret (v := va_rf none) hx hb hr (Or.inl ⟨_, rfl⟩) (va_rf_or _) (fun t ht hW => ⟨none, rfl, (by rw [← hT]; simp only [f_editionAt, if_neg c_1, if_pos c_2]), by rw [ht, hH]⟩) (fun _ h => by cases h) d_Hr_editionAt_20
    · refine lv_aload_n hx hb d_Hr_editionAt_10 rfl (lv_at hl 0 rfl) ?_
      refine va_get (D := G) (ci := 5) (v := .ref a1) (C := R_Hr) (T := T_Hr) (N := 8) hx hb hts hi_2 hown hK hP 0 rfl rfl 1 (by decide) hk_1 (fun _ h9 => h9) rfl d_Hr_editionAt_11 ?_
      refine lv_iload_n hx hb d_Hr_editionAt_14 rfl (lv_at hl 1 rfl) ?_
      refine va_aldq hx hb hK hP 1 4 rfl rfl (ix_of c_1 c_2 rfl) d_Hr_editionAt_15 ?_
      refine lv_goto (tgt := 20) hx hb d_Hr_editionAt_16 (by decide) ?_
      exact W.aret (v := va_rf (editions k.toNatClampNeg)) hx hb hr (Or.inl ⟨_, rfl⟩) (va_rf_or _) (fun t ht hW => ⟨editions k.toNatClampNeg, rfl, (by rw [← hT]; simp only [f_editionAt, if_neg c_1, if_neg c_2]), by rw [ht, hH]⟩) (fun _ h => by cases h) d_Hr_editionAt_20
def f_ruleAt (rules : Nat → Option Nat) (ruleCount : Int32) (k : Int32) : Option Nat := if k < 0 then none else (if ruleCount ≤ k then none else (if 40 ≤ k then none else (rules k.toNatClampNeg)))
set_option maxHeartbeats 4000000 in
set_option maxRecDepth 100000 in
theorem c_ruleAt (l : Launch) (G : va_G) (cI cL cZ cR cE : ClassId) (a0 a1 a2 a3 a4 a5 a6 a7 a8 a9 a10 a11 a12 a13 a14 a15 : Nat) (steps : Int32) (editions : Nat → Option Nat) (rules : Nat → Option Nat) (ruleCount : Int32) (daysTold : Int32) (runner_facts : Nat → Int64) (runner_stack : Nat → Int64) (runner_handleFacts : Nat → Int32) (runner_given_values : Nat → Int64) (runner_given_givers : Nat → Int32) (runner_handleCount : Int32) (runner_height : Int32) (runner_position : Int32) (runner_fault : Int32) (runner_cell : Int64) (answers_values : Nat → Int64) (answers_givers : Nat → Int32) (failures_ruleNumbers : Nat → Int32) (failures_hows : Nat → Int32) (failures_count : Int32) (k : Int32) : Met l y_Hr_ruleAt w_Hr_ruleAt ({ frames := 0, cells := 0, slots := 0, locals := 0 }) (preR G (TYS cI cL cZ cR cE) [.ref a0, .int k] (W_Hr cI cL cZ cR cE a0 a1 a2 a3 a4 a5 a6 a7 a8 a9 a10 a11 a12 a13 a14 a15 steps editions rules ruleCount daysTold runner_facts runner_stack runner_handleFacts runner_given_values runner_given_givers runner_handleCount runner_height runner_position runner_fault runner_cell answers_values answers_givers failures_ruleNumbers failures_hows failures_count)) (va_Sq (fun ans_ => ans_ = f_ruleAt rules ruleCount k)) 0 0 (fun _ => False) := by
  refine Met.ofW (cc := b_Hr_ruleAt) (maxL := 2) (ret := (some (.object "HandlingRules$Rule"))) (by decide) rfl ?_
  intro p e s m args below meth c s₁ B hml hv
  obtain ⟨rfl, hP, hK, hN⟩ := hv
  have hx := B.exec
  have hb := B.bytes
  have hr := B.returns
  have hts := atoms_spec (ws := w_Hr_ruleAt) B.pre
  have hown : s.vm.findClass R_Hr = some m.cls := findClass_of_methodNamed B.named
  have hlocks := B.notSynchronized
  obtain ⟨H, hH⟩ : ∃ H, H = s.heap := ⟨_, rfl⟩
  rw [← hH] at hP
  rw [← hH]
  have hi_2 : ∀ w ∈ u_ws R_Hr T_Hr 8, w ∈ w_Hr_ruleAt := fun w h => List.mem_cons_of_mem _ (iu_Hr w h)
  have hk_1 := hts (.fieldLink R_Hr 21 "HandlingRules" "ruleCount" "I") (List.mem_cons_of_mem _ kw_147)
  have hk_3 := hts (.fieldLink R_Hr 17 "HandlingRules" "rules" "[LHandlingRules$Rule;") (List.mem_cons_of_mem _ kw_146)
  have hl := lv_entry ([.ref a0, .int k]) (n := 2) (Nat.le_of_ble_eq_true rfl)
  rw [lg_entry_eq]
  generalize (lg_sl ([.ref a0, .int k]) ++ List.replicate (2 - (lg_sl ([.ref a0, .int k])).length) Slot.unset).toArray = ls at hl ⊢
  replace hl : lv_has ls 2 [(0, .ref a0), (1, .int k)] := hl
  generalize hT : f_ruleAt rules ruleCount k = T
  refine lv_iload_n hx hb d_Hr_ruleAt_0 rfl (lv_at hl 1 rfl) ?_
  refine lv_if_lt (tgt := 27) hx hb d_Hr_ruleAt_1 (by decide) (fun c_1 => ?_) (fun c_1 => ?_)
  · refine lv_null hx hb d_Hr_ruleAt_27 ?_
    exact W.aret (v := va_rf none) hx hb hr (Or.inl ⟨_, rfl⟩) (va_rf_or _) (fun t ht hW => ⟨none, rfl, (by rw [← hT]; simp only [f_ruleAt, if_pos c_1]), by rw [ht, hH]⟩) (fun _ h => by cases h) d_Hr_ruleAt_28
  · refine lv_iload_n hx hb d_Hr_ruleAt_4 rfl (lv_at hl 1 rfl) ?_
    refine lv_aload_n hx hb d_Hr_ruleAt_5 rfl (lv_at hl 0 rfl) ?_
    refine va_get (D := G) (ci := 5) (v := .int ruleCount) (C := R_Hr) (T := T_Hr) (N := 8) hx hb hts hi_2 hown hK hP 0 rfl rfl 3 (by decide) hk_1 (fun _ h9 => h9) rfl d_Hr_ruleAt_6 ?_
    refine lv_icmp_ge (tgt := 27) hx hb d_Hr_ruleAt_9 (by decide) (fun c_2 => ?_) (fun c_2 => ?_)
    · refine lv_null hx hb d_Hr_ruleAt_27 ?_
      exact W.aret (v := va_rf none) hx hb hr (Or.inl ⟨_, rfl⟩) (va_rf_or _) (fun t ht hW => ⟨none, rfl, (by rw [← hT]; simp only [f_ruleAt, if_neg c_1, if_pos c_2]), by rw [ht, hH]⟩) (fun _ h => by cases h) d_Hr_ruleAt_28
    · refine lv_iload_n hx hb d_Hr_ruleAt_12 rfl (lv_at hl 1 rfl) ?_
      refine lv_bipush (v := 40) hx hb d_Hr_ruleAt_13 (by decide) ?_
      refine lv_icmp_ge (tgt := 27) hx hb d_Hr_ruleAt_15 (by decide) (fun c_3 => ?_) (fun c_3 => ?_)
      · refine lv_null hx hb d_Hr_ruleAt_27 ?_
        exact W.aret (v := va_rf none) hx hb hr (Or.inl ⟨_, rfl⟩) (va_rf_or _) (fun t ht hW => ⟨none, rfl, (by rw [← hT]; simp only [f_ruleAt, if_neg c_1, if_neg c_2, if_pos c_3]), by rw [ht, hH]⟩) (fun _ h => by cases h) d_Hr_ruleAt_28
      · refine lv_aload_n hx hb d_Hr_ruleAt_18 rfl (lv_at hl 0 rfl) ?_
        refine va_get (D := G) (ci := 5) (v := .ref a2) (C := R_Hr) (T := T_Hr) (N := 8) hx hb hts hi_2 hown hK hP 0 rfl rfl 2 (by decide) hk_3 (fun _ h9 => h9) rfl d_Hr_ruleAt_19 ?_
        refine lv_iload_n hx hb d_Hr_ruleAt_22 rfl (lv_at hl 1 rfl) ?_
        refine va_aldq hx hb hK hP 2 3 rfl rfl (ix_of c_1 c_3 rfl) d_Hr_ruleAt_23 ?_
        refine lv_goto (tgt := 28) hx hb d_Hr_ruleAt_24 (by decide) ?_
        exact W.aret (v := va_rf (rules k.toNatClampNeg)) hx hb hr (Or.inl ⟨_, rfl⟩) (va_rf_or _) (fun t ht hW => ⟨rules k.toNatClampNeg, rfl, (by rw [← hT]; simp only [f_ruleAt, if_neg c_1, if_neg c_2, if_neg c_3]), by rw [ht, hH]⟩) (fun _ h => by cases h) d_Hr_ruleAt_28
def f_answer (answers_values : Nat → Int64) (k : Int32) : Int64 := f_valueOf answers_values k
set_option maxHeartbeats 4000000 in
set_option maxRecDepth 100000 in
theorem c_answer (l : Launch) (G : va_G) (cI cL cZ cR cE : ClassId) (a0 a1 a2 a3 a4 a5 a6 a7 a8 a9 a10 a11 a12 a13 a14 a15 : Nat) (steps : Int32) (editions : Nat → Option Nat) (rules : Nat → Option Nat) (ruleCount : Int32) (daysTold : Int32) (runner_facts : Nat → Int64) (runner_stack : Nat → Int64) (runner_handleFacts : Nat → Int32) (runner_given_values : Nat → Int64) (runner_given_givers : Nat → Int32) (runner_handleCount : Int32) (runner_height : Int32) (runner_position : Int32) (runner_fault : Int32) (runner_cell : Int64) (answers_values : Nat → Int64) (answers_givers : Nat → Int32) (failures_ruleNumbers : Nat → Int32) (failures_hows : Nat → Int32) (failures_count : Int32) (k : Int32) : Met l y_Hr_answer w_Hr_answer ({ frames := 1, cells := 0, slots := 0, locals := 21 }) (preR G (TYS cI cL cZ cR cE) [.ref a0, .int k] (W_Hr cI cL cZ cR cE a0 a1 a2 a3 a4 a5 a6 a7 a8 a9 a10 a11 a12 a13 a14 a15 steps editions rules ruleCount daysTold runner_facts runner_stack runner_handleFacts runner_given_values runner_given_givers runner_handleCount runner_height runner_position runner_fault runner_cell answers_values answers_givers failures_ruleNumbers failures_hows failures_count)) (vp_Sl (fun ans_ => ans_ = f_answer answers_values k)) 0 0 (fun _ => False) := by
  refine Met.ofW (cc := b_Hr_answer) (maxL := 2) (ret := (some .long)) (by decide) rfl ?_
  intro p e s m args below meth c s₁ B hml hv
  obtain ⟨rfl, hP, hK, hN⟩ := hv
  have hx := B.exec
  have hb := B.bytes
  have hr := B.returns
  have hts := atoms_spec (ws := w_Hr_answer) B.pre
  have hown : s.vm.findClass R_Hr = some m.cls := findClass_of_methodNamed B.named
  have hlocks := B.notSynchronized
  obtain ⟨H, hH⟩ : ∃ H, H = s.heap := ⟨_, rfl⟩
  rw [← hH] at hP
  rw [← hH]
  have hi_2 : ∀ w ∈ u_ws R_Hr T_Hr 8, w ∈ w_Hr_answer := fun w h => List.mem_cons_of_mem _ (iu_Hr w h)
  have hk_1 := hts (.fieldLink R_Hr 38 "HandlingRules" "answers" "LHandlingRules$Answers;") (List.mem_cons_of_mem _ kw_150)
  have hl := lv_entry ([.ref a0, .int k]) (n := 2) (Nat.le_of_ble_eq_true rfl)
  rw [lg_entry_eq]
  generalize (lg_sl ([.ref a0, .int k]) ++ List.replicate (2 - (lg_sl ([.ref a0, .int k])).length) Slot.unset).toArray = ls at hl ⊢
  replace hl : lv_has ls 2 [(0, .ref a0), (1, .int k)] := hl
  generalize hT : f_answer answers_values k = T
  refine lv_aload_n hx hb d_Hr_answer_0 rfl (lv_at hl 0 rfl) ?_
  refine va_get (D := G) (ci := 5) (v := .ref a10) (C := R_Hr) (T := T_Hr) (N := 8) hx hb hts hi_2 hown hK hP 0 rfl rfl 6 (by decide) hk_1 (fun _ h9 => h9) rfl d_Hr_answer_1 ?_
  refine lv_iload_n hx hb d_Hr_answer_4 rfl (lv_at hl 1 rfl) ?_
  refine vp_callSl (W.runV (As := [.int k]) (rest := []) ⟨hx, hb, hml, hown, hts⟩ (c_valueOf l G cI cL cZ cR cE a10 a11 a12 answers_values answers_givers k) (cwV 1 hts (gV kw_421 kw_407 kw_408 kw_17 kw_409) rfl rfl rfl (by decide +kernel) ⟨Nat.le_of_ble_eq_true rfl, Nat.le_of_ble_eq_true rfl⟩) (preRV_of (ci := 0) hN hK hP [10, 11, 12] rfl rfl rfl) rfl rfl hl.1 rfl (lv_room (Nat.le_of_ble_eq_true rfl)) d_Hr_answer_5 ⟨Nat.zero_le _, Nat.zero_le _⟩) (fun r_1 hw => ?_)
  subst hw
  exact W.lret (v := f_valueOf answers_values k) hx hb hr (fun t ht hW => ⟨f_valueOf answers_values k, rfl, (by rw [← hT]; simp only [f_answer]), by rw [ht, hH]⟩) (fun _ h => by cases h) d_Hr_answer_8
def f_by (answers_givers : Nat → Int32) (k : Int32) : Int32 := f_giverOf answers_givers k
set_option maxHeartbeats 4000000 in
set_option maxRecDepth 100000 in
theorem c_by (l : Launch) (G : va_G) (cI cL cZ cR cE : ClassId) (a0 a1 a2 a3 a4 a5 a6 a7 a8 a9 a10 a11 a12 a13 a14 a15 : Nat) (steps : Int32) (editions : Nat → Option Nat) (rules : Nat → Option Nat) (ruleCount : Int32) (daysTold : Int32) (runner_facts : Nat → Int64) (runner_stack : Nat → Int64) (runner_handleFacts : Nat → Int32) (runner_given_values : Nat → Int64) (runner_given_givers : Nat → Int32) (runner_handleCount : Int32) (runner_height : Int32) (runner_position : Int32) (runner_fault : Int32) (runner_cell : Int64) (answers_values : Nat → Int64) (answers_givers : Nat → Int32) (failures_ruleNumbers : Nat → Int32) (failures_hows : Nat → Int32) (failures_count : Int32) (k : Int32) : Met l y_Hr_by w_Hr_by ({ frames := 1, cells := 0, slots := 0, locals := 21 }) (preR G (TYS cI cL cZ cR cE) [.ref a0, .int k] (W_Hr cI cL cZ cR cE a0 a1 a2 a3 a4 a5 a6 a7 a8 a9 a10 a11 a12 a13 a14 a15 steps editions rules ruleCount daysTold runner_facts runner_stack runner_handleFacts runner_given_values runner_given_givers runner_handleCount runner_height runner_position runner_fault runner_cell answers_values answers_givers failures_ruleNumbers failures_hows failures_count)) (vp_Si (fun ans_ => ans_ = f_by answers_givers k)) 0 0 (fun _ => False) := by
  refine Met.ofW (cc := b_Hr_by) (maxL := 2) (ret := (some .int)) (by decide) rfl ?_
  intro p e s m args below meth c s₁ B hml hv
  obtain ⟨rfl, hP, hK, hN⟩ := hv
  have hx := B.exec
  have hb := B.bytes
  have hr := B.returns
  have hts := atoms_spec (ws := w_Hr_by) B.pre
  have hown : s.vm.findClass R_Hr = some m.cls := findClass_of_methodNamed B.named
  have hlocks := B.notSynchronized
  obtain ⟨H, hH⟩ : ∃ H, H = s.heap := ⟨_, rfl⟩
  rw [← hH] at hP
  rw [← hH]
  have hi_2 : ∀ w ∈ u_ws R_Hr T_Hr 8, w ∈ w_Hr_by := fun w h => List.mem_cons_of_mem _ (iu_Hr w h)
  have hk_1 := hts (.fieldLink R_Hr 38 "HandlingRules" "answers" "LHandlingRules$Answers;") (List.mem_cons_of_mem _ kw_150)
  have hl := lv_entry ([.ref a0, .int k]) (n := 2) (Nat.le_of_ble_eq_true rfl)
  rw [lg_entry_eq]
  generalize (lg_sl ([.ref a0, .int k]) ++ List.replicate (2 - (lg_sl ([.ref a0, .int k])).length) Slot.unset).toArray = ls at hl ⊢
  replace hl : lv_has ls 2 [(0, .ref a0), (1, .int k)] := hl
  generalize hT : f_by answers_givers k = T
  refine lv_aload_n hx hb d_Hr_by_0 rfl (lv_at hl 0 rfl) ?_
  refine va_get (D := G) (ci := 5) (v := .ref a10) (C := R_Hr) (T := T_Hr) (N := 8) hx hb hts hi_2 hown hK hP 0 rfl rfl 6 (by decide) hk_1 (fun _ h9 => h9) rfl d_Hr_by_1 ?_
  refine lv_iload_n hx hb d_Hr_by_4 rfl (lv_at hl 1 rfl) ?_
  refine vp_callSi (W.runV (As := [.int k]) (rest := []) ⟨hx, hb, hml, hown, hts⟩ (c_giverOf l G cI cL cZ cR cE a10 a11 a12 answers_values answers_givers k) (cwV 1 hts (gV kw_426 kw_403 kw_404 kw_17 kw_405) rfl rfl rfl (by decide +kernel) ⟨Nat.le_of_ble_eq_true rfl, Nat.le_of_ble_eq_true rfl⟩) (preRV_of (ci := 0) hN hK hP [10, 11, 12] rfl rfl rfl) rfl rfl hl.1 rfl (lv_room (Nat.le_of_ble_eq_true rfl)) d_Hr_by_5 ⟨Nat.zero_le _, Nat.zero_le _⟩) (fun r_1 hw => ?_)
  subst hw
  exact W.iret (v := f_giverOf answers_givers k) hx hb hr (fun t ht hW => ⟨f_giverOf answers_givers k, rfl, (by rw [← hT]; simp only [f_by]), by rw [ht, hH]⟩) (fun _ h => by cases h) d_Hr_by_8
def f_failed (failures_ruleNumbers : Nat → Int32) (failures_hows : Nat → Int32) (failures_count : Int32) (i : Int32) (what : Int32) : Int32 := if what = 0 then (f_numberAt failures_ruleNumbers failures_count i) else (if what = 1 then (f_howAt failures_hows failures_count i) else (-1))
set_option maxHeartbeats 4000000 in
set_option maxRecDepth 100000 in
theorem c_failed (l : Launch) (G : va_G) (cI cL cZ cR cE : ClassId) (a0 a1 a2 a3 a4 a5 a6 a7 a8 a9 a10 a11 a12 a13 a14 a15 : Nat) (steps : Int32) (editions : Nat → Option Nat) (rules : Nat → Option Nat) (ruleCount : Int32) (daysTold : Int32) (runner_facts : Nat → Int64) (runner_stack : Nat → Int64) (runner_handleFacts : Nat → Int32) (runner_given_values : Nat → Int64) (runner_given_givers : Nat → Int32) (runner_handleCount : Int32) (runner_height : Int32) (runner_position : Int32) (runner_fault : Int32) (runner_cell : Int64) (answers_values : Nat → Int64) (answers_givers : Nat → Int32) (failures_ruleNumbers : Nat → Int32) (failures_hows : Nat → Int32) (failures_count : Int32) (i : Int32) (what : Int32) : Met l y_Hr_failed w_Hr_failed ({ frames := 1, cells := 0, slots := 0, locals := 21 }) (preR G (TYS cI cL cZ cR cE) [.ref a0, .int i, .int what] (W_Hr cI cL cZ cR cE a0 a1 a2 a3 a4 a5 a6 a7 a8 a9 a10 a11 a12 a13 a14 a15 steps editions rules ruleCount daysTold runner_facts runner_stack runner_handleFacts runner_given_values runner_given_givers runner_handleCount runner_height runner_position runner_fault runner_cell answers_values answers_givers failures_ruleNumbers failures_hows failures_count)) (vp_Si (fun ans_ => ans_ = f_failed failures_ruleNumbers failures_hows failures_count i what)) 0 0 (fun _ => False) := by
  refine Met.ofW (cc := b_Hr_failed) (maxL := 3) (ret := (some .int)) (by decide) rfl ?_
  intro p e s m args below meth c s₁ B hml hv
  obtain ⟨rfl, hP, hK, hN⟩ := hv
  have hx := B.exec
  have hb := B.bytes
  have hr := B.returns
  have hts := atoms_spec (ws := w_Hr_failed) B.pre
  have hown : s.vm.findClass R_Hr = some m.cls := findClass_of_methodNamed B.named
  have hlocks := B.notSynchronized
  obtain ⟨H, hH⟩ : ∃ H, H = s.heap := ⟨_, rfl⟩
  rw [← hH] at hP
  rw [← hH]
  have hi_2 : ∀ w ∈ u_ws R_Hr T_Hr 8, w ∈ w_Hr_failed := fun w h => List.mem_cons_of_mem _ (iu_Hr w h)
  have hk_1 := hts (.fieldLink R_Hr 45 "HandlingRules" "failures" "LHandlingRules$Failures;") (List.mem_cons_of_mem _ kw_151)
  have hl := lv_entry ([.ref a0, .int i, .int what]) (n := 3) (Nat.le_of_ble_eq_true rfl)
  rw [lg_entry_eq]
  generalize (lg_sl ([.ref a0, .int i, .int what]) ++ List.replicate (3 - (lg_sl ([.ref a0, .int i, .int what])).length) Slot.unset).toArray = ls at hl ⊢
  replace hl : lv_has ls 3 [(0, .ref a0), (1, .int i), (2, .int what)] := hl
  generalize hT : f_failed failures_ruleNumbers failures_hows failures_count i what = T
  refine lv_iload_n hx hb d_Hr_failed_0 rfl (lv_at hl 2 rfl) ?_
  refine lv_if_ne (tgt := 13) hx hb d_Hr_failed_1 (by decide) (fun c_1 => ?_) (fun c_1 => ?_)
  · refine lv_iload_n hx hb d_Hr_failed_13 rfl (lv_at hl 2 rfl) ?_
    refine lv_iconst (v := 1) hx hb d_Hr_failed_14 (by decide) ?_
    refine lv_icmp_ne (tgt := 29) hx hb d_Hr_failed_15 (by decide) (fun c_2 => ?_) (fun c_2 => ?_)
    · refine lv_iconst (v := (-1)) hx hb d_Hr_failed_29 (by decide) ?_
      exact W.iret (v := (-1)) hx hb hr (fun t ht hW => ⟨(-1), rfl, (by rw [← hT]; simp only [f_failed, if_neg c_1, if_neg c_2]), by rw [ht, hH]⟩) (fun _ h => by cases h) d_Hr_failed_30
    · refine lv_aload_n hx hb d_Hr_failed_18 rfl (lv_at hl 0 rfl) ?_
      refine va_get (D := G) (ci := 5) (v := .ref a13) (C := R_Hr) (T := T_Hr) (N := 8) hx hb hts hi_2 hown hK hP 0 rfl rfl 7 (by decide) hk_1 (fun _ h9 => h9) rfl d_Hr_failed_19 ?_
      refine lv_iload_n hx hb d_Hr_failed_22 rfl (lv_at hl 1 rfl) ?_
      refine vp_callSi (W.runV (As := [.int i]) (rest := []) ⟨hx, hb, hml, hown, hts⟩ (c_howAt l G cI cL cZ cR cE a13 a14 a15 failures_ruleNumbers failures_hows failures_count i) (cwV 1 hts (gV kw_435 kw_436 kw_437 kw_18 kw_438) rfl rfl rfl (by decide +kernel) ⟨Nat.le_of_ble_eq_true rfl, Nat.le_of_ble_eq_true rfl⟩) (preRV_of (ci := 2) hN hK hP [13, 14, 15] rfl rfl rfl) rfl rfl hl.1 rfl (lv_room (Nat.le_of_ble_eq_true rfl)) d_Hr_failed_23 ⟨Nat.zero_le _, Nat.zero_le _⟩) (fun r_3 hw => ?_)
      subst hw
      refine lv_goto (tgt := 30) hx hb d_Hr_failed_26 (by decide) ?_
      exact W.iret (v := f_howAt failures_hows failures_count i) hx hb hr (fun t ht hW => ⟨f_howAt failures_hows failures_count i, rfl, (by rw [← hT]; simp only [f_failed, if_neg c_1, if_pos c_2]), by rw [ht, hH]⟩) (fun _ h => by cases h) d_Hr_failed_30
  · refine lv_aload_n hx hb d_Hr_failed_4 rfl (lv_at hl 0 rfl) ?_
    refine va_get (D := G) (ci := 5) (v := .ref a13) (C := R_Hr) (T := T_Hr) (N := 8) hx hb hts hi_2 hown hK hP 0 rfl rfl 7 (by decide) hk_1 (fun _ h9 => h9) rfl d_Hr_failed_5 ?_
    refine lv_iload_n hx hb d_Hr_failed_8 rfl (lv_at hl 1 rfl) ?_
    refine vp_callSi (W.runV (As := [.int i]) (rest := []) ⟨hx, hb, hml, hown, hts⟩ (c_numberAt l G cI cL cZ cR cE a13 a14 a15 failures_ruleNumbers failures_hows failures_count i) (cwV 1 hts (gV kw_431 kw_432 kw_433 kw_18 kw_434) rfl rfl rfl (by decide +kernel) ⟨Nat.le_of_ble_eq_true rfl, Nat.le_of_ble_eq_true rfl⟩) (preRV_of (ci := 2) hN hK hP [13, 14, 15] rfl rfl rfl) rfl rfl hl.1 rfl (lv_room (Nat.le_of_ble_eq_true rfl)) d_Hr_failed_9 ⟨Nat.zero_le _, Nat.zero_le _⟩) (fun r_4 hw => ?_)
    subst hw
    exact W.iret (v := f_numberAt failures_ruleNumbers failures_count i) hx hb hr (fun t ht hW => ⟨f_numberAt failures_ruleNumbers failures_count i, rfl, (by rw [← hT]; simp only [f_failed, if_pos c_1]), by rw [ht, hH]⟩) (fun _ h => by cases h) d_Hr_failed_12
def f_fact (runner_facts : Nat → Int64) (k : Int32) (w : Int64) : Int32 × (Nat → Int64) := if (f_isWithin k.toInt64 0 7) = 0 then ((-102), runner_facts) else (match f_setFact runner_facts k w with | x_facts_6 => (1, x_facts_6))
set_option maxHeartbeats 4000000 in
set_option maxRecDepth 100000 in
theorem c_fact (l : Launch) (G : va_G) (cI cL cZ cR cE : ClassId) (sz : Nat) (a0 a1 a2 a3 a4 a5 a6 a7 a8 a9 a10 a11 a12 a13 a14 a15 : Nat) (steps : Int32) (editions : Nat → Option Nat) (rules : Nat → Option Nat) (ruleCount : Int32) (daysTold : Int32) (runner_facts : Nat → Int64) (runner_stack : Nat → Int64) (runner_handleFacts : Nat → Int32) (runner_given_values : Nat → Int64) (runner_given_givers : Nat → Int32) (runner_handleCount : Int32) (runner_height : Int32) (runner_position : Int32) (runner_fault : Int32) (runner_cell : Int64) (answers_values : Nat → Int64) (answers_givers : Nat → Int32) (failures_ruleNumbers : Nat → Int32) (failures_hows : Nat → Int32) (failures_count : Int32) (k : Int32) (w : Int64) : Met l y_Hr_fact w_Hr_fact ({ frames := 1, cells := 0, slots := 0, locals := 25 }) (preW G (TYS cI cL cZ cR cE) [.ref a0, .int k, .long w] sz (W_Hr cI cL cZ cR cE a0 a1 a2 a3 a4 a5 a6 a7 a8 a9 a10 a11 a12 a13 a14 a15 steps editions rules ruleCount daysTold runner_facts runner_stack runner_handleFacts runner_given_values runner_given_givers runner_handleCount runner_height runner_position runner_fault runner_cell answers_values answers_givers failures_ruleNumbers failures_hows failures_count)) (va_Qi (fun (ans_ : Int32) (u : (Nat → Int64)) => (ans_, u) = f_fact runner_facts k w) (fun u t => va_P G vwCl (W_Hr cI cL cZ cR cE a0 a1 a2 a3 a4 a5 a6 a7 a8 a9 a10 a11 a12 a13 a14 a15 steps editions rules ruleCount daysTold u runner_stack runner_handleFacts runner_given_values runner_given_givers runner_handleCount runner_height runner_position runner_fault runner_cell answers_values answers_givers failures_ruleNumbers failures_hows failures_count) t.heap ∧ va_K G vwCl (TYS cI cL cZ cR cE) t ∧ va_D (va_A (W_Hr cI cL cZ cR cE a0 a1 a2 a3 a4 a5 a6 a7 a8 a9 a10 a11 a12 a13 a14 a15 steps editions rules ruleCount daysTold runner_facts runner_stack runner_handleFacts runner_given_values runner_given_givers runner_handleCount runner_height runner_position runner_fault runner_cell answers_values answers_givers failures_ruleNumbers failures_hows failures_count) sz) (W_Hr cI cL cZ cR cE a0 a1 a2 a3 a4 a5 a6 a7 a8 a9 a10 a11 a12 a13 a14 a15 steps editions rules ruleCount daysTold u runner_stack runner_handleFacts runner_given_values runner_given_givers runner_handleCount runner_height runner_position runner_fault runner_cell answers_values answers_givers failures_ruleNumbers failures_hows failures_count)) (va_A (W_Hr cI cL cZ cR cE a0 a1 a2 a3 a4 a5 a6 a7 a8 a9 a10 a11 a12 a13 a14 a15 steps editions rules ruleCount daysTold runner_facts runner_stack runner_handleFacts runner_given_values runner_given_givers runner_handleCount runner_height runner_position runner_fault runner_cell answers_values answers_givers failures_ruleNumbers failures_hows failures_count) sz)) 0 0 (va_A (W_Hr cI cL cZ cR cE a0 a1 a2 a3 a4 a5 a6 a7 a8 a9 a10 a11 a12 a13 a14 a15 steps editions rules ruleCount daysTold runner_facts runner_stack runner_handleFacts runner_given_values runner_given_givers runner_handleCount runner_height runner_position runner_fault runner_cell answers_values answers_givers failures_ruleNumbers failures_hows failures_count) sz) := by
  refine Met.ofW (cc := b_Hr_fact) (maxL := 4) (ret := (some .int)) (by decide) rfl ?_
  intro p e s m args below meth c s₁ B hml hv
  obtain ⟨rfl, hsz, hP, hK, hD0, hN⟩ := hv
  have hx := B.exec
  have hb := B.bytes
  have hr := B.returns
  have hts := atoms_spec (ws := w_Hr_fact) B.pre
  have hown : s.vm.findClass R_Hr = some m.cls := findClass_of_methodNamed B.named
  have hlocks := B.notSynchronized
  subst hsz
  have hD := hD0.self (sz := s.heap.size)
  clear hD0
  generalize hAe : va_A (W_Hr cI cL cZ cR cE a0 a1 a2 a3 a4 a5 a6 a7 a8 a9 a10 a11 a12 a13 a14 a15 steps editions rules ruleCount daysTold runner_facts runner_stack runner_handleFacts runner_given_values runner_given_givers runner_handleCount runner_height runner_position runner_fault runner_cell answers_values answers_givers failures_ruleNumbers failures_hows failures_count) s.heap.size = A at hD ⊢
  have hA : ∀ q : Nat, s.heap.size ≤ q → A q := fun q h => by rw [← hAe]; exact Or.inr h
  clear hAe
  have hS : va_S A s.heap s.heap [] := va_S.rf
  obtain ⟨H, hH⟩ : ∃ H, H = s.heap := ⟨_, rfl⟩
  rw [← hH] at hP
  replace hS : va_S A s.heap H [] := by rw [hH]; exact hS
  rw [← hH]
  clear hH
  have hi_3 : ∀ w ∈ u_ws R_Hr T_Hr 8, w ∈ w_Hr_fact := fun w h => List.mem_cons_of_mem _ (iu_Hr w h)
  have hk_1 := hts (.constantLong R_Hr 122 7) (List.mem_cons_of_mem _ kw_248)
  have hk_2 := hts (.fieldLink R_Hr 31 "HandlingRules" "runner" "LHandlingRules$Runner;") (List.mem_cons_of_mem _ kw_149)
  have hl := lv_entry ([.ref a0, .int k, .long w]) (n := 4) (Nat.le_of_ble_eq_true rfl)
  rw [lg_entry_eq]
  generalize (lg_sl ([.ref a0, .int k, .long w]) ++ List.replicate (4 - (lg_sl ([.ref a0, .int k, .long w])).length) Slot.unset).toArray = ls at hl ⊢
  replace hl : lv_has ls 4 [(0, .ref a0), (1, .int k), (2, .long w)] := hl
  generalize hT : f_fact runner_facts k w = T
  refine lv_iload_n hx hb d_Hr_fact_0 rfl (lv_at hl 1 rfl) ?_
  refine lv_i2l (v := k.toInt64) hx hb d_Hr_fact_1 rfl ?_
  refine lv_lconst (v := 0) hx hb d_Hr_fact_2 (by decide) ?_
  refine lv_ldc2 (v := 7) hx hb hown hk_1 d_Hr_fact_3 ?_
  refine vp_callSi (W.runS (As := [.long k.toInt64, .long 0, .long 7]) (rest := []) ⟨hx, hb, hml, hown, hts⟩ (c_isWithin l G cI cL cZ cR cE  k.toInt64 0 7) (va_cwS 3 hts (gS kw_178 kw_179 kw_15 kw_180) rfl rfl rfl (by decide +kernel) ⟨Nat.le_of_ble_eq_true rfl, Nat.le_of_ble_eq_true rfl⟩) (preRS_of hN hK hP [] rfl) rfl rfl hl.1 rfl (lv_room (Nat.le_of_ble_eq_true rfl)) d_Hr_fact_6 ⟨Nat.zero_le _, Nat.zero_le _⟩) (fun r_1 hw => ?_)
  subst hw
  refine lv_if_ne (tgt := 15) hx hb d_Hr_fact_9 (by decide) (fun c_2 => ?_) (fun c_2 => ?_)
  · refine lv_aload_n hx hb d_Hr_fact_15 rfl (lv_at hl 0 rfl) ?_
    refine va_get (D := G) (ci := 5) (v := .ref a3) (C := R_Hr) (T := T_Hr) (N := 8) hx hb hts hi_3 hown hK hP 0 rfl rfl 5 (by decide) hk_2 (fun _ h9 => h9) rfl d_Hr_fact_16 ?_
    refine lv_iload_n hx hb d_Hr_fact_19 rfl (lv_at hl 1 rfl) ?_
    refine lv_lload_n hx hb d_Hr_fact_20 rfl (lv_at hl 2 rfl) ?_
    refine cl_v hK hP hD hS hA (va_runV (As := [.int k, .long w]) (rest := []) ⟨hx, hb, hml, hown, hts⟩ (c_setFact l G cI cL cZ cR cE H.size a3 a4 a5 a6 a7 a8 a9 runner_facts runner_stack runner_handleFacts runner_given_values runner_given_givers runner_handleCount runner_height runner_position runner_fault runner_cell k w) (cwV 2 hts (gV kw_268 kw_269 kw_270 kw_16 kw_271) rfl rfl rfl (by decide +kernel) ⟨Nat.le_of_ble_eq_true rfl, Nat.le_of_ble_eq_true rfl⟩) (preWV_of (ci := 4) hN hK hP hD [3, 4, 5, 6, 7, 8, 9] (by decide) rfl rfl rfl) rfl rfl hl.1 rfl (lv_room (Nat.le_of_ble_eq_true rfl)) d_Hr_fact_21 ⟨Nat.le_of_ble_eq_true rfl, Nat.le_of_ble_eq_true rfl⟩) [3, 4, 5, 6, 7, 8, 9] [0, 1, 2, 10, 11, 12, 13, 14, 15] rfl rfl (by decide) (by decide) (fun u H locs hw_5 hP hD hS => ?_)
    obtain ⟨x_facts_6, rfl⟩ : ∃ z, z = u := ⟨_, rfl⟩
    replace hP : va_P G vwCl (W_Hr cI cL cZ cR cE a0 a1 a2 a3 a4 a5 a6 a7 a8 a9 a10 a11 a12 a13 a14 a15 steps editions rules ruleCount daysTold x_facts_6 runner_stack runner_handleFacts runner_given_values runner_given_givers runner_handleCount runner_height runner_position runner_fault runner_cell answers_values answers_givers failures_ruleNumbers failures_hows failures_count) H := hP.sub [0, 1, 2, 9, 10, 11, 12, 13, 14, 15, 3, 4, 5, 6, 7, 8] rfl
    replace hD : va_D A (W_Hr cI cL cZ cR cE a0 a1 a2 a3 a4 a5 a6 a7 a8 a9 a10 a11 a12 a13 a14 a15 steps editions rules ruleCount daysTold x_facts_6 runner_stack runner_handleFacts runner_given_values runner_given_givers runner_handleCount runner_height runner_position runner_fault runner_cell answers_values answers_givers failures_ruleNumbers failures_hows failures_count) := hD.sub [0, 1, 2, 9, 10, 11, 12, 13, 14, 15, 3, 4, 5, 6, 7, 8] (by decide) rfl
    refine lv_iconst (v := 1) hx hb d_Hr_fact_24 (by decide) ?_
    exact W.iret (v := 1) hx hb hr (fun t ht hW => ⟨⟨1, x_facts_6, rfl, (by rw [← hT]; simp only [f_fact, if_neg c_2, ← hw_5]), by rw [ht]; exact hP, va_K.moved hW.alike hK, hD⟩, hS.F ht⟩) hS.2.2 d_Hr_fact_25
  · refine lv_bipush (v := (-102)) hx hb d_Hr_fact_12 (by decide) ?_
    exact W.iret (v := (-102)) hx hb hr (fun t ht hW => ⟨⟨(-102), runner_facts, rfl, (by rw [← hT]; simp only [f_fact, if_pos c_2]), by rw [ht]; exact hP, va_K.moved hW.alike hK, hD⟩, hS.F ht⟩) hS.2.2 d_Hr_fact_14
def f_forget  : Int32 × Int32 := (0, 0)
set_option maxHeartbeats 4000000 in
set_option maxRecDepth 100000 in
theorem c_forget (l : Launch) (G : va_G) (cI cL cZ cR cE : ClassId) (sz : Nat) (a0 a1 a2 a3 a4 a5 a6 a7 a8 a9 a10 a11 a12 a13 a14 a15 : Nat) (steps : Int32) (editions : Nat → Option Nat) (rules : Nat → Option Nat) (ruleCount : Int32) (daysTold : Int32) (runner_facts : Nat → Int64) (runner_stack : Nat → Int64) (runner_handleFacts : Nat → Int32) (runner_given_values : Nat → Int64) (runner_given_givers : Nat → Int32) (runner_handleCount : Int32) (runner_height : Int32) (runner_position : Int32) (runner_fault : Int32) (runner_cell : Int64) (answers_values : Nat → Int64) (answers_givers : Nat → Int32) (failures_ruleNumbers : Nat → Int32) (failures_hows : Nat → Int32) (failures_count : Int32) : Met l y_Hr_forgetLatestRun w_Hr_forgetLatestRun ({ frames := 0, cells := 0, slots := 0, locals := 0 }) (preW G (TYS cI cL cZ cR cE) [.ref a0] sz (W_Hr cI cL cZ cR cE a0 a1 a2 a3 a4 a5 a6 a7 a8 a9 a10 a11 a12 a13 a14 a15 steps editions rules ruleCount daysTold runner_facts runner_stack runner_handleFacts runner_given_values runner_given_givers runner_handleCount runner_height runner_position runner_fault runner_cell answers_values answers_givers failures_ruleNumbers failures_hows failures_count)) (va_Qv (fun u : Int32 × Int32 => u = f_forget ) (fun u t => va_P G vwCl (W_Hr cI cL cZ cR cE a0 a1 a2 a3 a4 a5 a6 a7 a8 a9 a10 a11 a12 a13 a14 a15 steps editions rules ruleCount daysTold runner_facts runner_stack runner_handleFacts runner_given_values runner_given_givers u.1 runner_height runner_position runner_fault runner_cell answers_values answers_givers failures_ruleNumbers failures_hows u.2) t.heap ∧ va_K G vwCl (TYS cI cL cZ cR cE) t ∧ va_D (va_A (W_Hr cI cL cZ cR cE a0 a1 a2 a3 a4 a5 a6 a7 a8 a9 a10 a11 a12 a13 a14 a15 steps editions rules ruleCount daysTold runner_facts runner_stack runner_handleFacts runner_given_values runner_given_givers runner_handleCount runner_height runner_position runner_fault runner_cell answers_values answers_givers failures_ruleNumbers failures_hows failures_count) sz) (W_Hr cI cL cZ cR cE a0 a1 a2 a3 a4 a5 a6 a7 a8 a9 a10 a11 a12 a13 a14 a15 steps editions rules ruleCount daysTold runner_facts runner_stack runner_handleFacts runner_given_values runner_given_givers u.1 runner_height runner_position runner_fault runner_cell answers_values answers_givers failures_ruleNumbers failures_hows u.2)) (va_A (W_Hr cI cL cZ cR cE a0 a1 a2 a3 a4 a5 a6 a7 a8 a9 a10 a11 a12 a13 a14 a15 steps editions rules ruleCount daysTold runner_facts runner_stack runner_handleFacts runner_given_values runner_given_givers runner_handleCount runner_height runner_position runner_fault runner_cell answers_values answers_givers failures_ruleNumbers failures_hows failures_count) sz)) 0 0 (va_A (W_Hr cI cL cZ cR cE a0 a1 a2 a3 a4 a5 a6 a7 a8 a9 a10 a11 a12 a13 a14 a15 steps editions rules ruleCount daysTold runner_facts runner_stack runner_handleFacts runner_given_values runner_given_givers runner_handleCount runner_height runner_position runner_fault runner_cell answers_values answers_givers failures_ruleNumbers failures_hows failures_count) sz) := by
  refine Met.ofW (cc := b_Hr_forgetLatestRun) (maxL := 1) (ret := none) (by decide) rfl ?_
  intro p e s m args below meth c s₁ B hml hv
  obtain ⟨rfl, hsz, hP, hK, hD0, hN⟩ := hv
  have hx := B.exec
  have hb := B.bytes
  have hr := B.returns
  have hts := atoms_spec (ws := w_Hr_forgetLatestRun) B.pre
  have hown : s.vm.findClass R_Hr = some m.cls := findClass_of_methodNamed B.named
  have hlocks := B.notSynchronized
  subst hsz
  have hD := hD0.self (sz := s.heap.size)
  clear hD0
  generalize hAe : va_A (W_Hr cI cL cZ cR cE a0 a1 a2 a3 a4 a5 a6 a7 a8 a9 a10 a11 a12 a13 a14 a15 steps editions rules ruleCount daysTold runner_facts runner_stack runner_handleFacts runner_given_values runner_given_givers runner_handleCount runner_height runner_position runner_fault runner_cell answers_values answers_givers failures_ruleNumbers failures_hows failures_count) s.heap.size = A at hD ⊢
  have hA : ∀ q : Nat, s.heap.size ≤ q → A q := fun q h => by rw [← hAe]; exact Or.inr h
  clear hAe
  have hS : va_S A s.heap s.heap [] := va_S.rf
  obtain ⟨H, hH⟩ : ∃ H, H = s.heap := ⟨_, rfl⟩
  rw [← hH] at hP
  replace hS : va_S A s.heap H [] := by rw [hH]; exact hS
  rw [← hH]
  clear hH
  have hi_2 : ∀ w ∈ u_ws R_Hr T_Hr 8, w ∈ w_Hr_forgetLatestRun := fun w h => List.mem_cons_of_mem _ (iu_Hr w h)
  have hi_4 : ∀ w ∈ u_ws R_Rn T_Rn 9, w ∈ w_Hr_forgetLatestRun := fun w h => List.mem_cons_of_mem _ (iu_Rn w h)
  have hi_7 : ∀ w ∈ u_ws R_Fa T_Fa 3, w ∈ w_Hr_forgetLatestRun := fun w h => List.mem_cons_of_mem _ (iu_Fa w h)
  have hk_1 := hts (.fieldLink R_Hr 31 "HandlingRules" "runner" "LHandlingRules$Runner;") (List.mem_cons_of_mem _ kw_149)
  have hk_3 := hts (.fieldLink R_Hr 193 "HandlingRules$Runner" "handleCount" "I") (List.mem_cons_of_mem _ kw_67)
  have hk_5 := hts (.fieldLink R_Hr 45 "HandlingRules" "failures" "LHandlingRules$Failures;") (List.mem_cons_of_mem _ kw_151)
  have hk_6 := hts (.fieldLink R_Hr 137 "HandlingRules$Failures" "count" "I") (List.mem_cons_of_mem _ kw_104)
  have hl := lv_entry ([.ref a0]) (n := 1) (Nat.le_of_ble_eq_true rfl)
  rw [lg_entry_eq]
  generalize (lg_sl ([.ref a0]) ++ List.replicate (1 - (lg_sl ([.ref a0])).length) Slot.unset).toArray = ls at hl ⊢
  replace hl : lv_has ls 1 [(0, .ref a0)] := hl
  generalize hT : f_forget  = T
  refine lv_aload_n hx hb d_Hr_forgetLatestRun_0 rfl (lv_at hl 0 rfl) ?_
  refine va_get (D := G) (ci := 5) (v := .ref a3) (C := R_Hr) (T := T_Hr) (N := 8) hx hb hts hi_2 hown hK hP 0 rfl rfl 5 (by decide) hk_1 (fun _ h9 => h9) rfl d_Hr_forgetLatestRun_1 ?_
  refine lv_iconst (v := 0) hx hb d_Hr_forgetLatestRun_4 (by decide) ?_
  refine va_put (D := G) (ci := 4) (v := .int 0) (ty := (.int)) (C := R_Rn) (T := T_Rn) (N := 9) hx hb hts hi_4 ty_Rn tyk_Rn nm_Rn hown hK hP hD hS 3 rfl rfl 4 (by decide) hk_3 (fun _ h9 => h9) rfl (by decide +kernel) rfl rfl (Nat.le_of_ble_eq_true rfl) d_Hr_forgetLatestRun_5 (fun H locs hP hD hS => ?_)
  replace hP : va_P G vwCl (W_Hr cI cL cZ cR cE a0 a1 a2 a3 a4 a5 a6 a7 a8 a9 a10 a11 a12 a13 a14 a15 steps editions rules ruleCount daysTold runner_facts runner_stack runner_handleFacts runner_given_values runner_given_givers 0 runner_height runner_position runner_fault runner_cell answers_values answers_givers failures_ruleNumbers failures_hows failures_count) H := hP
  replace hD : va_D A (W_Hr cI cL cZ cR cE a0 a1 a2 a3 a4 a5 a6 a7 a8 a9 a10 a11 a12 a13 a14 a15 steps editions rules ruleCount daysTold runner_facts runner_stack runner_handleFacts runner_given_values runner_given_givers 0 runner_height runner_position runner_fault runner_cell answers_values answers_givers failures_ruleNumbers failures_hows failures_count) := hD
  refine lv_aload_n hx hb d_Hr_forgetLatestRun_8 rfl (lv_at hl 0 rfl) ?_
  refine va_get (D := G) (ci := 5) (v := .ref a13) (C := R_Hr) (T := T_Hr) (N := 8) hx hb hts hi_2 hown hK hP 0 rfl rfl 7 (by decide) hk_5 (fun _ h9 => h9) rfl d_Hr_forgetLatestRun_9 ?_
  refine lv_iconst (v := 0) hx hb d_Hr_forgetLatestRun_12 (by decide) ?_
  refine va_put (D := G) (ci := 2) (v := .int 0) (ty := (.int)) (C := R_Fa) (T := T_Fa) (N := 3) hx hb hts hi_7 ty_Fa tyk_Fa nm_Fa hown hK hP hD hS 13 rfl rfl 2 (by decide) hk_6 (fun _ h9 => h9) rfl (by decide +kernel) rfl rfl (Nat.le_of_ble_eq_true rfl) d_Hr_forgetLatestRun_13 (fun H locs hP hD hS => ?_)
  replace hP : va_P G vwCl (W_Hr cI cL cZ cR cE a0 a1 a2 a3 a4 a5 a6 a7 a8 a9 a10 a11 a12 a13 a14 a15 steps editions rules ruleCount daysTold runner_facts runner_stack runner_handleFacts runner_given_values runner_given_givers 0 runner_height runner_position runner_fault runner_cell answers_values answers_givers failures_ruleNumbers failures_hows 0) H := hP
  replace hD : va_D A (W_Hr cI cL cZ cR cE a0 a1 a2 a3 a4 a5 a6 a7 a8 a9 a10 a11 a12 a13 a14 a15 steps editions rules ruleCount daysTold runner_facts runner_stack runner_handleFacts runner_given_values runner_given_givers 0 runner_height runner_position runner_fault runner_cell answers_values answers_givers failures_ruleNumbers failures_hows 0) := hD
  exact W.vret hx hb hr (fun t ht hW => ⟨⟨(0, 0), rfl, (by rw [← hT]; simp only [f_forget]), by rw [ht]; exact hP, va_K.moved hW.alike hK, hD⟩, hS.F ht⟩) hS.2.2 d_Hr_forgetLatestRun_16
def f_doRule (steps : Int32) (runner_facts : Nat → Int64) (runner_stack : Nat → Int64) (runner_handleFacts : Nat → Int32) (runner_given_values : Nat → Int64) (runner_given_givers : Nat → Int32) (runner_handleCount : Int32) (failures_ruleNumbers : Nat → Int32) (failures_hows : Nat → Int32) (failures_count : Int32) (znumber : Int32) (zops : Nat → Int32) (znumbers : Nat → Int64) (zlength : Int32) (zcell : Int64) : Int32 × (Nat → Int64) × (Nat → Int32) × (Nat → Int64) × (Nat → Int32) × Int32 × Int32 × Int32 × Int32 × Int64 × (Nat → Int32) × (Nat → Int32) × Int32 := match f_run runner_facts runner_stack runner_handleFacts runner_given_values runner_given_givers runner_handleCount znumber zops znumbers zlength zcell steps with | (r_2, x_stack_4, x_handleFacts_5, x_given_values_6, x_given_givers_7, x_handleCount_8, x_height_9, x_position_10, x_fault_11, x_cell_12) => (if x_fault_11 = 0 then (r_2, (x_stack_4, x_handleFacts_5, x_given_values_6, x_given_givers_7, x_handleCount_8, x_height_9, x_position_10, x_fault_11, x_cell_12, failures_ruleNumbers, failures_hows, failures_count)) else (match f_addFail failures_ruleNumbers failures_hows failures_count znumber x_fault_11 with | (x_ruleNumbers_17, x_hows_18, x_count_19) => (r_2, (x_stack_4, x_handleFacts_5, x_given_values_6, x_given_givers_7, x_handleCount_8, x_height_9, x_position_10, x_fault_11, x_cell_12, x_ruleNumbers_17, x_hows_18, x_count_19))))
set_option maxHeartbeats 4000000 in
set_option maxRecDepth 100000 in
theorem c_doRule (l : Launch) (G : va_G) (cI cL cZ cR cE : ClassId) (sz : Nat) (a0 a1 a2 a3 a4 a5 a6 a7 a8 a9 a10 a11 a12 a13 a14 a15 : Nat) (za0 za1 za2 : Nat) (steps : Int32) (editions : Nat → Option Nat) (rules : Nat → Option Nat) (ruleCount : Int32) (daysTold : Int32) (runner_facts : Nat → Int64) (runner_stack : Nat → Int64) (runner_handleFacts : Nat → Int32) (runner_given_values : Nat → Int64) (runner_given_givers : Nat → Int32) (runner_handleCount : Int32) (runner_height : Int32) (runner_position : Int32) (runner_fault : Int32) (runner_cell : Int64) (answers_values : Nat → Int64) (answers_givers : Nat → Int32) (failures_ruleNumbers : Nat → Int32) (failures_hows : Nat → Int32) (failures_count : Int32) (znumber : Int32) (zhome : Nat) (zrank : Int32) (zname : Int32) (zops : Nat → Int32) (znumbers : Nat → Int64) (zlength : Int32) (zcell : Int64) (zfallbackKind : Int32) (zfallbackValue : Int64) (hst : steps.toInt ≤ 100) (hfc : ¬ failures_count < 0) : Met l y_Hr_doRule w_Hr_doRule ({ frames := 5, cells := 0, slots := 0, locals := 122 }) (preW G (TYS cI cL cZ cR cE) [.ref a0, .ref za0] sz (W_Hr cI cL cZ cR cE a0 a1 a2 a3 a4 a5 a6 a7 a8 a9 a10 a11 a12 a13 a14 a15 steps editions rules ruleCount daysTold runner_facts runner_stack runner_handleFacts runner_given_values runner_given_givers runner_handleCount runner_height runner_position runner_fault runner_cell answers_values answers_givers failures_ruleNumbers failures_hows failures_count ++ W_Rul cI cL cZ cR cE za0 za1 za2 znumber zhome zrank zname zops znumbers zlength zcell zfallbackKind zfallbackValue)) (va_Qi (fun (ans_ : Int32) (u : (Nat → Int64) × (Nat → Int32) × (Nat → Int64) × (Nat → Int32) × Int32 × Int32 × Int32 × Int32 × Int64 × (Nat → Int32) × (Nat → Int32) × Int32) => (ans_, u) = f_doRule steps runner_facts runner_stack runner_handleFacts runner_given_values runner_given_givers runner_handleCount failures_ruleNumbers failures_hows failures_count znumber zops znumbers zlength zcell) (fun u t => va_P G vwCl (W_Hr cI cL cZ cR cE a0 a1 a2 a3 a4 a5 a6 a7 a8 a9 a10 a11 a12 a13 a14 a15 steps editions rules ruleCount daysTold runner_facts u.1 u.2.1 u.2.2.1 u.2.2.2.1 u.2.2.2.2.1 u.2.2.2.2.2.1 u.2.2.2.2.2.2.1 u.2.2.2.2.2.2.2.1 u.2.2.2.2.2.2.2.2.1 answers_values answers_givers u.2.2.2.2.2.2.2.2.2.1 u.2.2.2.2.2.2.2.2.2.2.1 u.2.2.2.2.2.2.2.2.2.2.2 ++ W_Rul cI cL cZ cR cE za0 za1 za2 znumber zhome zrank zname zops znumbers zlength zcell zfallbackKind zfallbackValue) t.heap ∧ va_K G vwCl (TYS cI cL cZ cR cE) t ∧ va_D (va_A (W_Hr cI cL cZ cR cE a0 a1 a2 a3 a4 a5 a6 a7 a8 a9 a10 a11 a12 a13 a14 a15 steps editions rules ruleCount daysTold runner_facts runner_stack runner_handleFacts runner_given_values runner_given_givers runner_handleCount runner_height runner_position runner_fault runner_cell answers_values answers_givers failures_ruleNumbers failures_hows failures_count ++ W_Rul cI cL cZ cR cE za0 za1 za2 znumber zhome zrank zname zops znumbers zlength zcell zfallbackKind zfallbackValue) sz) (W_Hr cI cL cZ cR cE a0 a1 a2 a3 a4 a5 a6 a7 a8 a9 a10 a11 a12 a13 a14 a15 steps editions rules ruleCount daysTold runner_facts u.1 u.2.1 u.2.2.1 u.2.2.2.1 u.2.2.2.2.1 u.2.2.2.2.2.1 u.2.2.2.2.2.2.1 u.2.2.2.2.2.2.2.1 u.2.2.2.2.2.2.2.2.1 answers_values answers_givers u.2.2.2.2.2.2.2.2.2.1 u.2.2.2.2.2.2.2.2.2.2.1 u.2.2.2.2.2.2.2.2.2.2.2 ++ W_Rul cI cL cZ cR cE za0 za1 za2 znumber zhome zrank zname zops znumbers zlength zcell zfallbackKind zfallbackValue)) (va_A (W_Hr cI cL cZ cR cE a0 a1 a2 a3 a4 a5 a6 a7 a8 a9 a10 a11 a12 a13 a14 a15 steps editions rules ruleCount daysTold runner_facts runner_stack runner_handleFacts runner_given_values runner_given_givers runner_handleCount runner_height runner_position runner_fault runner_cell answers_values answers_givers failures_ruleNumbers failures_hows failures_count ++ W_Rul cI cL cZ cR cE za0 za1 za2 znumber zhome zrank zname zops znumbers zlength zcell zfallbackKind zfallbackValue) sz)) 0 0 (va_A (W_Hr cI cL cZ cR cE a0 a1 a2 a3 a4 a5 a6 a7 a8 a9 a10 a11 a12 a13 a14 a15 steps editions rules ruleCount daysTold runner_facts runner_stack runner_handleFacts runner_given_values runner_given_givers runner_handleCount runner_height runner_position runner_fault runner_cell answers_values answers_givers failures_ruleNumbers failures_hows failures_count ++ W_Rul cI cL cZ cR cE za0 za1 za2 znumber zhome zrank zname zops znumbers zlength zcell zfallbackKind zfallbackValue) sz) := by
  refine Met.ofW (cc := b_Hr_doRule) (maxL := 3) (ret := (some .int)) (by decide) rfl ?_
  intro p e s m args below meth c s₁ B hml hv
  obtain ⟨rfl, hsz, hP, hK, hD0, hN⟩ := hv
  have hx := B.exec
  have hb := B.bytes
  have hr := B.returns
  have hts := atoms_spec (ws := w_Hr_doRule) B.pre
  have hown : s.vm.findClass R_Hr = some m.cls := findClass_of_methodNamed B.named
  have hlocks := B.notSynchronized
  subst hsz
  have hD := hD0.self (sz := s.heap.size)
  clear hD0
  generalize hAe : va_A (W_Hr cI cL cZ cR cE a0 a1 a2 a3 a4 a5 a6 a7 a8 a9 a10 a11 a12 a13 a14 a15 steps editions rules ruleCount daysTold runner_facts runner_stack runner_handleFacts runner_given_values runner_given_givers runner_handleCount runner_height runner_position runner_fault runner_cell answers_values answers_givers failures_ruleNumbers failures_hows failures_count ++ W_Rul cI cL cZ cR cE za0 za1 za2 znumber zhome zrank zname zops znumbers zlength zcell zfallbackKind zfallbackValue) s.heap.size = A at hD ⊢
  have hA : ∀ q : Nat, s.heap.size ≤ q → A q := fun q h => by rw [← hAe]; exact Or.inr h
  clear hAe
  have hS : va_S A s.heap s.heap [] := va_S.rf
  obtain ⟨H, hH⟩ : ∃ H, H = s.heap := ⟨_, rfl⟩
  rw [← hH] at hP
  replace hS : va_S A s.heap H [] := by rw [hH]; exact hS
  rw [← hH]
  clear hH
  have hi_2 : ∀ w ∈ u_ws R_Hr T_Hr 8, w ∈ w_Hr_doRule := fun w h => List.mem_cons_of_mem _ (iu_Hr w h)
  have hi_5 : ∀ w ∈ u_ws R_Rn T_Rn 9, w ∈ w_Hr_doRule := fun w h => List.mem_cons_of_mem _ (iu_Rn w h)
  have hi_8 : ∀ w ∈ u_ws R_Ru T_Ru 10, w ∈ w_Hr_doRule := fun w h => List.mem_cons_of_mem _ (iu_Ru w h)
  have hk_1 := hts (.fieldLink R_Hr 31 "HandlingRules" "runner" "LHandlingRules$Runner;") (List.mem_cons_of_mem _ kw_149)
  have hk_3 := hts (.fieldLink R_Hr 58 "HandlingRules" "steps" "I") (List.mem_cons_of_mem _ kw_144)
  have hk_4 := hts (.fieldLink R_Hr 212 "HandlingRules$Runner" "fault" "I") (List.mem_cons_of_mem _ kw_71)
  have hk_6 := hts (.fieldLink R_Hr 45 "HandlingRules" "failures" "LHandlingRules$Failures;") (List.mem_cons_of_mem _ kw_151)
  have hk_7 := hts (.fieldLink R_Hr 87 "HandlingRules$Rule" "number" "I") (List.mem_cons_of_mem _ kw_188)
  have hl := lv_entry ([.ref a0, .ref za0]) (n := 3) (Nat.le_of_ble_eq_true rfl)
  rw [lg_entry_eq]
  generalize (lg_sl ([.ref a0, .ref za0]) ++ List.replicate (3 - (lg_sl ([.ref a0, .ref za0])).length) Slot.unset).toArray = ls at hl ⊢
  replace hl : lv_has ls 3 [(0, .ref a0), (1, .ref za0)] := hl
  generalize hT : f_doRule steps runner_facts runner_stack runner_handleFacts runner_given_values runner_given_givers runner_handleCount failures_ruleNumbers failures_hows failures_count znumber zops znumbers zlength zcell = T
  refine lv_aload_n hx hb d_Hr_doRule_0 rfl (lv_at hl 0 rfl) ?_
  refine va_get (D := G) (ci := 5) (v := .ref a3) (C := R_Hr) (T := T_Hr) (N := 8) hx hb hts hi_2 hown hK hP 0 rfl rfl 5 (by decide) hk_1 (fun _ h9 => h9) rfl d_Hr_doRule_1 ?_
  refine lv_aload_n hx hb d_Hr_doRule_4 rfl (lv_at hl 1 rfl) ?_
  refine lv_aload_n hx hb d_Hr_doRule_5 rfl (lv_at hl 0 rfl) ?_
  refine va_get (D := G) (ci := 5) (v := .int steps) (C := R_Hr) (T := T_Hr) (N := 8) hx hb hts hi_2 hown hK hP 0 rfl rfl 0 (by decide) hk_3 (fun _ h9 => h9) rfl d_Hr_doRule_6 ?_
  refine cl_i hK hP hD hS hA (va_runV (As := [.ref za0, .int steps]) (rest := []) ⟨hx, hb, hml, hown, hts⟩ (c_run l G cI cL cZ cR cE H.size a3 a4 a5 a6 a7 a8 a9 za0 za1 za2 runner_facts runner_stack runner_handleFacts runner_given_values runner_given_givers runner_handleCount runner_height runner_position runner_fault runner_cell znumber zhome zrank zname zops znumbers zlength zcell zfallbackKind zfallbackValue steps hst) (cwV 2 hts (gV kw_288 kw_289 kw_290 kw_16 kw_291) rfl rfl rfl (by decide +kernel) ⟨Nat.le_of_ble_eq_true rfl, Nat.le_of_ble_eq_true rfl⟩) (preWV_of (ci := 4) hN hK hP hD [3, 4, 5, 6, 7, 8, 9, 16, 17, 18] (by decide) rfl rfl rfl) rfl rfl hl.1 rfl (lv_room (Nat.le_of_ble_eq_true rfl)) d_Hr_doRule_9 ⟨Nat.le_of_ble_eq_true rfl, Nat.le_of_ble_eq_true rfl⟩) [3, 4, 5, 6, 7, 8, 9, 16, 17, 18] [0, 1, 2, 10, 11, 12, 13, 14, 15] rfl rfl (by decide) (by decide) (fun r_2 u H locs hw_3 hP hD hS => ?_)
  obtain ⟨x_stack_4, x_handleFacts_5, x_given_values_6, x_given_givers_7, x_handleCount_8, x_height_9, x_position_10, x_fault_11, x_cell_12⟩ := u
  replace hP : va_P G vwCl (W_Hr cI cL cZ cR cE a0 a1 a2 a3 a4 a5 a6 a7 a8 a9 a10 a11 a12 a13 a14 a15 steps editions rules ruleCount daysTold runner_facts x_stack_4 x_handleFacts_5 x_given_values_6 x_given_givers_7 x_handleCount_8 x_height_9 x_position_10 x_fault_11 x_cell_12 answers_values answers_givers failures_ruleNumbers failures_hows failures_count ++ W_Rul cI cL cZ cR cE za0 za1 za2 znumber zhome zrank zname zops znumbers zlength zcell zfallbackKind zfallbackValue) H := hP.sub [0, 1, 2, 9, 10, 11, 12, 13, 14, 15, 3, 4, 5, 6, 7, 8, 16, 17, 18] rfl
  replace hD : va_D A (W_Hr cI cL cZ cR cE a0 a1 a2 a3 a4 a5 a6 a7 a8 a9 a10 a11 a12 a13 a14 a15 steps editions rules ruleCount daysTold runner_facts x_stack_4 x_handleFacts_5 x_given_values_6 x_given_givers_7 x_handleCount_8 x_height_9 x_position_10 x_fault_11 x_cell_12 answers_values answers_givers failures_ruleNumbers failures_hows failures_count ++ W_Rul cI cL cZ cR cE za0 za1 za2 znumber zhome zrank zname zops znumbers zlength zcell zfallbackKind zfallbackValue) := hD.sub [0, 1, 2, 9, 10, 11, 12, 13, 14, 15, 3, 4, 5, 6, 7, 8, 16, 17, 18] (by decide) rfl
  refine lv_istore_n (lv' := [(2, .int r_2), (0, .ref a0), (1, .ref za0)]) hx hb d_Hr_doRule_12 rfl hl (by decide) rfl (fun ls hl => ?_)
  refine lv_aload_n hx hb d_Hr_doRule_13 rfl (lv_at hl 1 rfl) ?_
  refine va_get (D := G) (ci := 5) (v := .ref a3) (C := R_Hr) (T := T_Hr) (N := 8) hx hb hts hi_2 hown hK hP 0 rfl rfl 5 (by decide) hk_1 (fun _ h9 => h9) rfl d_Hr_doRule_14 ?_
  refine va_get (D := G) (ci := 4) (v := .int x_fault_11) (C := R_Rn) (T := T_Rn) (N := 9) hx hb hts hi_5 hown hK hP 3 rfl rfl 7 (by decide) hk_4 (fun _ h9 => h9) rfl d_Hr_doRule_17 ?_
  refine lv_if_eq (tgt := 41) hx hb d_Hr_doRule_20 (by decide) (fun c_13 => ?_) (fun c_13 => ?_)
  · refine lv_iload_n hx hb d_Hr_doRule_41 rfl (lv_at hl 0 rfl) ?_
    exact W.iret (v := r_2) hx hb hr (fun t ht hW => ⟨⟨r_2, (x_stack_4, x_handleFacts_5, x_given_values_6, x_given_givers_7, x_handleCount_8, x_height_9, x_position_10, x_fault_11, x_cell_12, failures_ruleNumbers, failures_hows, failures_count), rfl, (by rw [← hT]; simp only [f_doRule, ← hw_3, if_pos c_13]), by rw [ht]; exact hP, va_K.moved hW.alike hK, hD⟩, hS.F ht⟩) hS.2.2 d_Hr_doRule_42
  · refine lv_aload_n hx hb d_Hr_doRule_23 rfl (lv_at hl 1 rfl) ?_
    refine va_get (D := G) (ci := 5) (v := .ref a13) (C := R_Hr) (T := T_Hr) (N := 8) hx hb hts hi_2 hown hK hP 0 rfl rfl 7 (by decide) hk_6 (fun _ h9 => h9) rfl d_Hr_doRule_24 ?_
    refine lv_aload_n hx hb d_Hr_doRule_27 rfl (lv_at hl 2 rfl) ?_
    refine va_get (D := G) (ci := 3) (v := .int znumber) (C := R_Ru) (T := T_Ru) (N := 10) hx hb hts hi_8 hown hK hP 16 rfl rfl 0 (by decide) hk_7 (fun _ h9 => h9) rfl d_Hr_doRule_28 ?_
    refine lv_aload_n hx hb d_Hr_doRule_31 rfl (lv_at hl 1 rfl) ?_
    refine va_get (D := G) (ci := 5) (v := .ref a3) (C := R_Hr) (T := T_Hr) (N := 8) hx hb hts hi_2 hown hK hP 0 rfl rfl 5 (by decide) hk_1 (fun _ h9 => h9) rfl d_Hr_doRule_32 ?_
    refine va_get (D := G) (ci := 4) (v := .int x_fault_11) (C := R_Rn) (T := T_Rn) (N := 9) hx hb hts hi_5 hown hK hP 3 rfl rfl 7 (by decide) hk_4 (fun _ h9 => h9) rfl d_Hr_doRule_35 ?_
    refine cl_v hK hP hD hS hA (va_runV (As := [.int znumber, .int x_fault_11]) (rest := []) ⟨hx, hb, hml, hown, hts⟩ (c_addFail l G cI cL cZ cR cE H.size a13 a14 a15 failures_ruleNumbers failures_hows failures_count znumber x_fault_11 hfc) (cwV 2 hts (gV kw_364 kw_365 kw_366 kw_18 kw_367) rfl rfl rfl (by decide +kernel) ⟨Nat.le_of_ble_eq_true rfl, Nat.le_of_ble_eq_true rfl⟩) (preWV_of (ci := 2) hN hK hP hD [13, 14, 15] (by decide) rfl rfl rfl) rfl rfl hl.1 rfl (lv_room (Nat.le_of_ble_eq_true rfl)) d_Hr_doRule_38 ⟨Nat.le_of_ble_eq_true rfl, Nat.le_of_ble_eq_true rfl⟩) [13, 14, 15] [0, 1, 2, 3, 4, 5, 6, 7, 8, 9, 10, 11, 12, 16, 17, 18] rfl rfl (by decide) (by decide) (fun u H locs hw_16 hP hD hS => ?_)
    obtain ⟨x_ruleNumbers_17, x_hows_18, x_count_19⟩ := u
    replace hP : va_P G vwCl (W_Hr cI cL cZ cR cE a0 a1 a2 a3 a4 a5 a6 a7 a8 a9 a10 a11 a12 a13 a14 a15 steps editions rules ruleCount daysTold runner_facts x_stack_4 x_handleFacts_5 x_given_values_6 x_given_givers_7 x_handleCount_8 x_height_9 x_position_10 x_fault_11 x_cell_12 answers_values answers_givers x_ruleNumbers_17 x_hows_18 x_count_19 ++ W_Rul cI cL cZ cR cE za0 za1 za2 znumber zhome zrank zname zops znumbers zlength zcell zfallbackKind zfallbackValue) H := hP.sub [0, 1, 2, 3, 4, 5, 6, 7, 8, 9, 10, 11, 12, 16, 17, 18, 13, 14, 15] rfl
    replace hD : va_D A (W_Hr cI cL cZ cR cE a0 a1 a2 a3 a4 a5 a6 a7 a8 a9 a10 a11 a12 a13 a14 a15 steps editions rules ruleCount daysTold runner_facts x_stack_4 x_handleFacts_5 x_given_values_6 x_given_givers_7 x_handleCount_8 x_height_9 x_position_10 x_fault_11 x_cell_12 answers_values answers_givers x_ruleNumbers_17 x_hows_18 x_count_19 ++ W_Rul cI cL cZ cR cE za0 za1 za2 znumber zhome zrank zname zops znumbers zlength zcell zfallbackKind zfallbackValue) := hD.sub [0, 1, 2, 3, 4, 5, 6, 7, 8, 9, 10, 11, 12, 16, 17, 18, 13, 14, 15] (by decide) rfl
    refine lv_iload_n hx hb d_Hr_doRule_41 rfl (lv_at hl 0 rfl) ?_
    exact W.iret (v := r_2) hx hb hr (fun t ht hW => ⟨⟨r_2, (x_stack_4, x_handleFacts_5, x_given_values_6, x_given_givers_7, x_handleCount_8, x_height_9, x_position_10, x_fault_11, x_cell_12, x_ruleNumbers_17, x_hows_18, x_count_19), rfl, (by rw [← hT]; simp only [f_doRule, ← hw_3, if_neg c_13, ← hw_16]), by rw [ht]; exact hP, va_K.moved hW.alike hK, hD⟩, hS.F ht⟩) hS.2.2 d_Hr_doRule_42
def f_settle (runner_given_values : Nat → Int64) (runner_given_givers : Nat → Int32) (runner_fault : Int32) (runner_cell : Int64) (answers_values : Nat → Int64) (answers_givers : Nat → Int32) (znumber : Int32) (zcell : Int64) (zfallbackKind : Int32) (zfallbackValue : Int64) : (Nat → Int64) × (Nat → Int32) × Int64 := if runner_fault = 0 then (match f_addMissing answers_values answers_givers runner_given_values runner_given_givers with | (x_values_13, x_givers_14) => (x_values_13, x_givers_14, runner_cell)) else (if zfallbackKind = (-1) then (answers_values, answers_givers, zcell) else (if (f_isGiven answers_givers zfallbackKind) = 0 then (match f_give answers_values answers_givers zfallbackKind.toInt64 zfallbackValue znumber with | (x_values_8, x_givers_9) => (x_values_8, x_givers_9, zcell)) else (answers_values, answers_givers, zcell)))
set_option maxHeartbeats 4000000 in
set_option maxRecDepth 100000 in
theorem c_settle (l : Launch) (G : va_G) (cI cL cZ cR cE : ClassId) (sz : Nat) (a0 a1 a2 a3 a4 a5 a6 a7 a8 a9 a10 a11 a12 a13 a14 a15 : Nat) (za0 za1 za2 : Nat) (steps : Int32) (editions : Nat → Option Nat) (rules : Nat → Option Nat) (ruleCount : Int32) (daysTold : Int32) (runner_facts : Nat → Int64) (runner_stack : Nat → Int64) (runner_handleFacts : Nat → Int32) (runner_given_values : Nat → Int64) (runner_given_givers : Nat → Int32) (runner_handleCount : Int32) (runner_height : Int32) (runner_position : Int32) (runner_fault : Int32) (runner_cell : Int64) (answers_values : Nat → Int64) (answers_givers : Nat → Int32) (failures_ruleNumbers : Nat → Int32) (failures_hows : Nat → Int32) (failures_count : Int32) (znumber : Int32) (zhome : Nat) (zrank : Int32) (zname : Int32) (zops : Nat → Int32) (znumbers : Nat → Int64) (zlength : Int32) (zcell : Int64) (zfallbackKind : Int32) (zfallbackValue : Int64) : Met l y_Hr_settle w_Hr_settle ({ frames := 3, cells := 0, slots := 0, locals := 72 }) (preW G (TYS cI cL cZ cR cE) [.ref a0, .ref za0] sz (W_Hr cI cL cZ cR cE a0 a1 a2 a3 a4 a5 a6 a7 a8 a9 a10 a11 a12 a13 a14 a15 steps editions rules ruleCount daysTold runner_facts runner_stack runner_handleFacts runner_given_values runner_given_givers runner_handleCount runner_height runner_position runner_fault runner_cell answers_values answers_givers failures_ruleNumbers failures_hows failures_count ++ W_Rul cI cL cZ cR cE za0 za1 za2 znumber zhome zrank zname zops znumbers zlength zcell zfallbackKind zfallbackValue)) (va_Qv (fun u : (Nat → Int64) × (Nat → Int32) × Int64 => u = f_settle runner_given_values runner_given_givers runner_fault runner_cell answers_values answers_givers znumber zcell zfallbackKind zfallbackValue) (fun u t => va_P G vwCl (W_Hr cI cL cZ cR cE a0 a1 a2 a3 a4 a5 a6 a7 a8 a9 a10 a11 a12 a13 a14 a15 steps editions rules ruleCount daysTold runner_facts runner_stack runner_handleFacts runner_given_values runner_given_givers runner_handleCount runner_height runner_position runner_fault runner_cell u.1 u.2.1 failures_ruleNumbers failures_hows failures_count ++ W_Rul cI cL cZ cR cE za0 za1 za2 znumber zhome zrank zname zops znumbers zlength u.2.2 zfallbackKind zfallbackValue) t.heap ∧ va_K G vwCl (TYS cI cL cZ cR cE) t ∧ va_D (va_A (W_Hr cI cL cZ cR cE a0 a1 a2 a3 a4 a5 a6 a7 a8 a9 a10 a11 a12 a13 a14 a15 steps editions rules ruleCount daysTold runner_facts runner_stack runner_handleFacts runner_given_values runner_given_givers runner_handleCount runner_height runner_position runner_fault runner_cell answers_values answers_givers failures_ruleNumbers failures_hows failures_count ++ W_Rul cI cL cZ cR cE za0 za1 za2 znumber zhome zrank zname zops znumbers zlength zcell zfallbackKind zfallbackValue) sz) (W_Hr cI cL cZ cR cE a0 a1 a2 a3 a4 a5 a6 a7 a8 a9 a10 a11 a12 a13 a14 a15 steps editions rules ruleCount daysTold runner_facts runner_stack runner_handleFacts runner_given_values runner_given_givers runner_handleCount runner_height runner_position runner_fault runner_cell u.1 u.2.1 failures_ruleNumbers failures_hows failures_count ++ W_Rul cI cL cZ cR cE za0 za1 za2 znumber zhome zrank zname zops znumbers zlength u.2.2 zfallbackKind zfallbackValue)) (va_A (W_Hr cI cL cZ cR cE a0 a1 a2 a3 a4 a5 a6 a7 a8 a9 a10 a11 a12 a13 a14 a15 steps editions rules ruleCount daysTold runner_facts runner_stack runner_handleFacts runner_given_values runner_given_givers runner_handleCount runner_height runner_position runner_fault runner_cell answers_values answers_givers failures_ruleNumbers failures_hows failures_count ++ W_Rul cI cL cZ cR cE za0 za1 za2 znumber zhome zrank zname zops znumbers zlength zcell zfallbackKind zfallbackValue) sz)) 0 0 (va_A (W_Hr cI cL cZ cR cE a0 a1 a2 a3 a4 a5 a6 a7 a8 a9 a10 a11 a12 a13 a14 a15 steps editions rules ruleCount daysTold runner_facts runner_stack runner_handleFacts runner_given_values runner_given_givers runner_handleCount runner_height runner_position runner_fault runner_cell answers_values answers_givers failures_ruleNumbers failures_hows failures_count ++ W_Rul cI cL cZ cR cE za0 za1 za2 znumber zhome zrank zname zops znumbers zlength zcell zfallbackKind zfallbackValue) sz) := by
  refine Met.ofW (cc := b_Hr_settle) (maxL := 2) (ret := none) (by decide) rfl ?_
  intro p e s m args below meth c s₁ B hml hv
  obtain ⟨rfl, hsz, hP, hK, hD0, hN⟩ := hv
  have hx := B.exec
  have hb := B.bytes
  have hr := B.returns
  have hts := atoms_spec (ws := w_Hr_settle) B.pre
  have hown : s.vm.findClass R_Hr = some m.cls := findClass_of_methodNamed B.named
  have hlocks := B.notSynchronized
  subst hsz
  have hD := hD0.self (sz := s.heap.size)
  clear hD0
  generalize hAe : va_A (W_Hr cI cL cZ cR cE a0 a1 a2 a3 a4 a5 a6 a7 a8 a9 a10 a11 a12 a13 a14 a15 steps editions rules ruleCount daysTold runner_facts runner_stack runner_handleFacts runner_given_values runner_given_givers runner_handleCount runner_height runner_position runner_fault runner_cell answers_values answers_givers failures_ruleNumbers failures_hows failures_count ++ W_Rul cI cL cZ cR cE za0 za1 za2 znumber zhome zrank zname zops znumbers zlength zcell zfallbackKind zfallbackValue) s.heap.size = A at hD ⊢
  have hA : ∀ q : Nat, s.heap.size ≤ q → A q := fun q h => by rw [← hAe]; exact Or.inr h
  clear hAe
  have hS : va_S A s.heap s.heap [] := va_S.rf
  obtain ⟨H, hH⟩ : ∃ H, H = s.heap := ⟨_, rfl⟩
  rw [← hH] at hP
  replace hS : va_S A s.heap H [] := by rw [hH]; exact hS
  rw [← hH]
  clear hH
  have hi_2 : ∀ w ∈ u_ws R_Hr T_Hr 8, w ∈ w_Hr_settle := fun w h => List.mem_cons_of_mem _ (iu_Hr w h)
  have hi_4 : ∀ w ∈ u_ws R_Rn T_Rn 9, w ∈ w_Hr_settle := fun w h => List.mem_cons_of_mem _ (iu_Rn w h)
  have hi_6 : ∀ w ∈ u_ws R_Ru T_Ru 10, w ∈ w_Hr_settle := fun w h => List.mem_cons_of_mem _ (iu_Ru w h)
  have hk_1 := hts (.fieldLink R_Hr 31 "HandlingRules" "runner" "LHandlingRules$Runner;") (List.mem_cons_of_mem _ kw_149)
  have hk_10 := hts (.fieldLink R_Hr 219 "HandlingRules$Runner" "cell" "J") (List.mem_cons_of_mem _ kw_73)
  have hk_11 := hts (.fieldLink R_Hr 173 "HandlingRules$Rule" "cell" "J") (List.mem_cons_of_mem _ kw_203)
  have hk_12 := hts (.fieldLink R_Hr 220 "HandlingRules$Runner" "given" "LHandlingRules$Answers;") (List.mem_cons_of_mem _ kw_65)
  have hk_3 := hts (.fieldLink R_Hr 212 "HandlingRules$Runner" "fault" "I") (List.mem_cons_of_mem _ kw_71)
  have hk_5 := hts (.fieldLink R_Hr 115 "HandlingRules$Rule" "fallbackKind" "I") (List.mem_cons_of_mem _ kw_205)
  have hk_7 := hts (.fieldLink R_Hr 38 "HandlingRules" "answers" "LHandlingRules$Answers;") (List.mem_cons_of_mem _ kw_150)
  have hk_8 := hts (.fieldLink R_Hr 118 "HandlingRules$Rule" "fallbackValue" "J") (List.mem_cons_of_mem _ kw_207)
  have hk_9 := hts (.fieldLink R_Hr 87 "HandlingRules$Rule" "number" "I") (List.mem_cons_of_mem _ kw_188)
  have hl := lv_entry ([.ref a0, .ref za0]) (n := 2) (Nat.le_of_ble_eq_true rfl)
  rw [lg_entry_eq]
  generalize (lg_sl ([.ref a0, .ref za0]) ++ List.replicate (2 - (lg_sl ([.ref a0, .ref za0])).length) Slot.unset).toArray = ls at hl ⊢
  replace hl : lv_has ls 2 [(0, .ref a0), (1, .ref za0)] := hl
  generalize hT : f_settle runner_given_values runner_given_givers runner_fault runner_cell answers_values answers_givers znumber zcell zfallbackKind zfallbackValue = T
  refine lv_aload_n hx hb d_Hr_settle_0 rfl (lv_at hl 0 rfl) ?_
  refine va_get (D := G) (ci := 5) (v := .ref a3) (C := R_Hr) (T := T_Hr) (N := 8) hx hb hts hi_2 hown hK hP 0 rfl rfl 5 (by decide) hk_1 (fun _ h9 => h9) rfl d_Hr_settle_1 ?_
  refine va_get (D := G) (ci := 4) (v := .int runner_fault) (C := R_Rn) (T := T_Rn) (N := 9) hx hb hts hi_4 hown hK hP 3 rfl rfl 7 (by decide) hk_3 (fun _ h9 => h9) rfl d_Hr_settle_4 ?_
  refine lv_if_ne (tgt := 38) hx hb d_Hr_settle_7 (by decide) (fun c_1 => ?_) (fun c_1 => ?_)
  · refine lv_aload_n hx hb d_Hr_settle_38 rfl (lv_at hl 1 rfl) ?_
    refine va_get (D := G) (ci := 3) (v := .int zfallbackKind) (C := R_Ru) (T := T_Ru) (N := 10) hx hb hts hi_6 hown hK hP 16 rfl rfl 8 (by decide) hk_5 (fun _ h9 => h9) rfl d_Hr_settle_39 ?_
    refine lv_iconst (v := (-1)) hx hb d_Hr_settle_42 (by decide) ?_
    refine lv_icmp_eq (tgt := 80) hx hb d_Hr_settle_43 (by decide) (fun c_2 => ?_) (fun c_2 => ?_)
    · exact W.vret hx hb hr (fun t ht hW => ⟨⟨(answers_values, answers_givers, zcell), rfl, (by rw [← hT]; simp only [f_settle, if_neg c_1, if_pos c_2]), by rw [ht]; exact hP, va_K.moved hW.alike hK, hD⟩, hS.F ht⟩) hS.2.2 d_Hr_settle_80
    · refine lv_aload_n hx hb d_Hr_settle_46 rfl (lv_at hl 0 rfl) ?_
      refine va_get (D := G) (ci := 5) (v := .ref a10) (C := R_Hr) (T := T_Hr) (N := 8) hx hb hts hi_2 hown hK hP 0 rfl rfl 6 (by decide) hk_7 (fun _ h9 => h9) rfl d_Hr_settle_47 ?_
      refine lv_aload_n hx hb d_Hr_settle_50 rfl (lv_at hl 1 rfl) ?_
      refine va_get (D := G) (ci := 3) (v := .int zfallbackKind) (C := R_Ru) (T := T_Ru) (N := 10) hx hb hts hi_6 hown hK hP 16 rfl rfl 8 (by decide) hk_5 (fun _ h9 => h9) rfl d_Hr_settle_51 ?_
      refine vp_callSi (W.runV (As := [.int zfallbackKind]) (rest := []) ⟨hx, hb, hml, hown, hts⟩ (c_isGiven l G cI cL cZ cR cE a10 a11 a12 answers_values answers_givers zfallbackKind) (cwV 1 hts (gV kw_411 kw_399 kw_400 kw_17 kw_401) rfl rfl rfl (by decide +kernel) ⟨Nat.le_of_ble_eq_true rfl, Nat.le_of_ble_eq_true rfl⟩) (preRV_of (ci := 0) hN hK hP [10, 11, 12] rfl rfl rfl) rfl rfl hl.1 rfl (lv_room (Nat.le_of_ble_eq_true rfl)) d_Hr_settle_54 ⟨Nat.zero_le _, Nat.zero_le _⟩) (fun r_3 hw => ?_)
      subst hw
      refine lv_if_ne (tgt := 80) hx hb d_Hr_settle_57 (by decide) (fun c_4 => ?_) (fun c_4 => ?_)
      · exact W.vret hx hb hr (fun t ht hW => ⟨⟨(answers_values, answers_givers, zcell), rfl, (by rw [← hT]; simp only [f_settle, if_neg c_1, if_neg c_2, if_neg c_4]), by rw [ht]; exact hP, va_K.moved hW.alike hK, hD⟩, hS.F ht⟩) hS.2.2 d_Hr_settle_80
      · refine lv_aload_n hx hb d_Hr_settle_60 rfl (lv_at hl 0 rfl) ?_
        refine va_get (D := G) (ci := 5) (v := .ref a10) (C := R_Hr) (T := T_Hr) (N := 8) hx hb hts hi_2 hown hK hP 0 rfl rfl 6 (by decide) hk_7 (fun _ h9 => h9) rfl d_Hr_settle_61 ?_
        refine lv_aload_n hx hb d_Hr_settle_64 rfl (lv_at hl 1 rfl) ?_
        refine va_get (D := G) (ci := 3) (v := .int zfallbackKind) (C := R_Ru) (T := T_Ru) (N := 10) hx hb hts hi_6 hown hK hP 16 rfl rfl 8 (by decide) hk_5 (fun _ h9 => h9) rfl d_Hr_settle_65 ?_
        refine lv_i2l (v := zfallbackKind.toInt64) hx hb d_Hr_settle_68 rfl ?_
        refine lv_aload_n hx hb d_Hr_settle_69 rfl (lv_at hl 1 rfl) ?_
        refine va_get (D := G) (ci := 3) (v := .long zfallbackValue) (C := R_Ru) (T := T_Ru) (N := 10) hx hb hts hi_6 hown hK hP 16 rfl rfl 9 (by decide) hk_8 (fun _ h9 => h9) rfl d_Hr_settle_70 ?_
        refine lv_aload_n hx hb d_Hr_settle_73 rfl (lv_at hl 1 rfl) ?_
        refine va_get (D := G) (ci := 3) (v := .int znumber) (C := R_Ru) (T := T_Ru) (N := 10) hx hb hts hi_6 hown hK hP 16 rfl rfl 0 (by decide) hk_9 (fun _ h9 => h9) rfl d_Hr_settle_74 ?_
        refine cl_v hK hP hD hS hA (va_runV (As := [.long zfallbackKind.toInt64, .long zfallbackValue, .int znumber]) (rest := []) ⟨hx, hb, hml, hown, hts⟩ (c_give l G cI cL cZ cR cE H.size a10 a11 a12 answers_values answers_givers zfallbackKind.toInt64 zfallbackValue znumber) (cwV 3 hts (gV kw_412 kw_350 kw_351 kw_17 kw_352) rfl rfl rfl (by decide +kernel) ⟨Nat.le_of_ble_eq_true rfl, Nat.le_of_ble_eq_true rfl⟩) (preWV_of (ci := 0) hN hK hP hD [10, 11, 12] (by decide) rfl rfl rfl) rfl rfl hl.1 rfl (lv_room (Nat.le_of_ble_eq_true rfl)) d_Hr_settle_77 ⟨Nat.le_of_ble_eq_true rfl, Nat.le_of_ble_eq_true rfl⟩) [10, 11, 12] [0, 1, 2, 3, 4, 5, 6, 7, 8, 9, 13, 14, 15, 16, 17, 18] rfl rfl (by decide) (by decide) (fun u H locs hw_7 hP hD hS => ?_)
        obtain ⟨x_values_8, x_givers_9⟩ := u
        replace hP : va_P G vwCl (W_Hr cI cL cZ cR cE a0 a1 a2 a3 a4 a5 a6 a7 a8 a9 a10 a11 a12 a13 a14 a15 steps editions rules ruleCount daysTold runner_facts runner_stack runner_handleFacts runner_given_values runner_given_givers runner_handleCount runner_height runner_position runner_fault runner_cell x_values_8 x_givers_9 failures_ruleNumbers failures_hows failures_count ++ W_Rul cI cL cZ cR cE za0 za1 za2 znumber zhome zrank zname zops znumbers zlength zcell zfallbackKind zfallbackValue) H := hP.sub [0, 1, 2, 3, 4, 5, 6, 7, 8, 9, 16, 17, 18, 10, 11, 12, 13, 14, 15] rfl
        replace hD : va_D A (W_Hr cI cL cZ cR cE a0 a1 a2 a3 a4 a5 a6 a7 a8 a9 a10 a11 a12 a13 a14 a15 steps editions rules ruleCount daysTold runner_facts runner_stack runner_handleFacts runner_given_values runner_given_givers runner_handleCount runner_height runner_position runner_fault runner_cell x_values_8 x_givers_9 failures_ruleNumbers failures_hows failures_count ++ W_Rul cI cL cZ cR cE za0 za1 za2 znumber zhome zrank zname zops znumbers zlength zcell zfallbackKind zfallbackValue) := hD.sub [0, 1, 2, 3, 4, 5, 6, 7, 8, 9, 16, 17, 18, 10, 11, 12, 13, 14, 15] (by decide) rfl
        exact W.vret hx hb hr (fun t ht hW => ⟨⟨(x_values_8, x_givers_9, zcell), rfl, (by rw [← hT]; simp only [f_settle, if_neg c_1, if_neg c_2, if_pos c_4, ← hw_7]), by rw [ht]; exact hP, va_K.moved hW.alike hK, hD⟩, hS.F ht⟩) hS.2.2 d_Hr_settle_80
  · refine lv_aload_n hx hb d_Hr_settle_10 rfl (lv_at hl 1 rfl) ?_
    refine lv_aload_n hx hb d_Hr_settle_11 rfl (lv_at hl 0 rfl) ?_
    refine va_get (D := G) (ci := 5) (v := .ref a3) (C := R_Hr) (T := T_Hr) (N := 8) hx hb hts hi_2 hown hK hP 0 rfl rfl 5 (by decide) hk_1 (fun _ h9 => h9) rfl d_Hr_settle_12 ?_
    refine va_get (D := G) (ci := 4) (v := .long runner_cell) (C := R_Rn) (T := T_Rn) (N := 9) hx hb hts hi_4 hown hK hP 3 rfl rfl 8 (by decide) hk_10 (fun _ h9 => h9) rfl d_Hr_settle_15 ?_
    refine va_put (D := G) (ci := 3) (v := .long runner_cell) (ty := (.long)) (C := R_Ru) (T := T_Ru) (N := 10) hx hb hts hi_6 ty_Ru tyk_Ru nm_Ru hown hK hP hD hS 16 rfl rfl 7 (by decide) hk_11 (fun _ h9 => h9) rfl (by decide +kernel) rfl rfl (Nat.le_of_ble_eq_true rfl) d_Hr_settle_18 (fun H locs hP hD hS => ?_)
    replace hP : va_P G vwCl (W_Hr cI cL cZ cR cE a0 a1 a2 a3 a4 a5 a6 a7 a8 a9 a10 a11 a12 a13 a14 a15 steps editions rules ruleCount daysTold runner_facts runner_stack runner_handleFacts runner_given_values runner_given_givers runner_handleCount runner_height runner_position runner_fault runner_cell answers_values answers_givers failures_ruleNumbers failures_hows failures_count ++ W_Rul cI cL cZ cR cE za0 za1 za2 znumber zhome zrank zname zops znumbers zlength runner_cell zfallbackKind zfallbackValue) H := hP
    replace hD : va_D A (W_Hr cI cL cZ cR cE a0 a1 a2 a3 a4 a5 a6 a7 a8 a9 a10 a11 a12 a13 a14 a15 steps editions rules ruleCount daysTold runner_facts runner_stack runner_handleFacts runner_given_values runner_given_givers runner_handleCount runner_height runner_position runner_fault runner_cell answers_values answers_givers failures_ruleNumbers failures_hows failures_count ++ W_Rul cI cL cZ cR cE za0 za1 za2 znumber zhome zrank zname zops znumbers zlength runner_cell zfallbackKind zfallbackValue) := hD
    refine lv_aload_n hx hb d_Hr_settle_21 rfl (lv_at hl 0 rfl) ?_
    refine va_get (D := G) (ci := 5) (v := .ref a10) (C := R_Hr) (T := T_Hr) (N := 8) hx hb hts hi_2 hown hK hP 0 rfl rfl 6 (by decide) hk_7 (fun _ h9 => h9) rfl d_Hr_settle_22 ?_
    refine lv_aload_n hx hb d_Hr_settle_25 rfl (lv_at hl 0 rfl) ?_
    refine va_get (D := G) (ci := 5) (v := .ref a3) (C := R_Hr) (T := T_Hr) (N := 8) hx hb hts hi_2 hown hK hP 0 rfl rfl 5 (by decide) hk_1 (fun _ h9 => h9) rfl d_Hr_settle_26 ?_
    refine va_get (D := G) (ci := 4) (v := .ref a7) (C := R_Rn) (T := T_Rn) (N := 9) hx hb hts hi_4 hown hK hP 3 rfl rfl 3 (by decide) hk_12 (fun _ h9 => h9) rfl d_Hr_settle_29 ?_
    refine cl_v hK hP hD hS hA (va_runV (As := [.ref a7]) (rest := []) ⟨hx, hb, hml, hown, hts⟩ (c_addMissing l G cI cL cZ cR cE H.size a10 a11 a12 a7 a8 a9 answers_values answers_givers runner_given_values runner_given_givers) (cwV 1 hts (gV kw_394 kw_395 kw_396 kw_17 kw_397) rfl rfl rfl (by decide +kernel) ⟨Nat.le_of_ble_eq_true rfl, Nat.le_of_ble_eq_true rfl⟩) (preWV_of (ci := 0) hN hK hP hD [10, 11, 12, 7, 8, 9] (by decide) rfl rfl rfl) rfl rfl hl.1 rfl (lv_room (Nat.le_of_ble_eq_true rfl)) d_Hr_settle_32 ⟨Nat.le_of_ble_eq_true rfl, Nat.le_of_ble_eq_true rfl⟩) [10, 11, 12, 7, 8, 9] [0, 1, 2, 3, 4, 5, 6, 13, 14, 15, 16, 17, 18] rfl rfl (by decide) (by decide) (fun u H locs hw_12 hP hD hS => ?_)
    obtain ⟨x_values_13, x_givers_14⟩ := u
    replace hP : va_P G vwCl (W_Hr cI cL cZ cR cE a0 a1 a2 a3 a4 a5 a6 a7 a8 a9 a10 a11 a12 a13 a14 a15 steps editions rules ruleCount daysTold runner_facts runner_stack runner_handleFacts runner_given_values runner_given_givers runner_handleCount runner_height runner_position runner_fault runner_cell x_values_13 x_givers_14 failures_ruleNumbers failures_hows failures_count ++ W_Rul cI cL cZ cR cE za0 za1 za2 znumber zhome zrank zname zops znumbers zlength runner_cell zfallbackKind zfallbackValue) H := hP.sub [0, 1, 2, 3, 4, 5, 6, 16, 17, 18, 13, 14, 15, 7, 8, 9, 10, 11, 12] rfl
    replace hD : va_D A (W_Hr cI cL cZ cR cE a0 a1 a2 a3 a4 a5 a6 a7 a8 a9 a10 a11 a12 a13 a14 a15 steps editions rules ruleCount daysTold runner_facts runner_stack runner_handleFacts runner_given_values runner_given_givers runner_handleCount runner_height runner_position runner_fault runner_cell x_values_13 x_givers_14 failures_ruleNumbers failures_hows failures_count ++ W_Rul cI cL cZ cR cE za0 za1 za2 znumber zhome zrank zname zops znumbers zlength runner_cell zfallbackKind zfallbackValue) := hD.sub [0, 1, 2, 3, 4, 5, 6, 16, 17, 18, 13, 14, 15, 7, 8, 9, 10, 11, 12] (by decide) rfl
    refine lv_goto (tgt := 80) hx hb d_Hr_settle_35 (by decide) ?_
    exact W.vret hx hb hr (fun t ht hW => ⟨⟨(x_values_13, x_givers_14, runner_cell), rfl, (by rw [← hT]; simp only [f_settle, if_pos c_1, ← hw_12]), by rw [ht]; exact hP, va_K.moved hW.alike hK, hD⟩, hS.F ht⟩) hS.2.2 d_Hr_settle_80
