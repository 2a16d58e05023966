def f_top (stack : Nat → Int64) (height : Int32) : Int64 := if height ≤ 0 then 0 else (if 8 < height then 0 else (stack (height - 1).toNatClampNeg))
set_option maxHeartbeats 4000000 in
set_option maxRecDepth 100000 in
theorem c_top (l : Launch) (G : va_G) (cI cL cZ cR cE : ClassId) (a0 a1 a2 a3 a4 a5 a6 : Nat) (facts : Nat → Int64) (stack : Nat → Int64) (handleFacts : Nat → Int32) (given_values : Nat → Int64) (given_givers : Nat → Int32) (handleCount : Int32) (height : Int32) (position : Int32) (fault : Int32) (cell : Int64) : Met l y_Rn_top w_Rn_top ({ frames := 0, cells := 0, slots := 0, locals := 0 }) (preR G (TYS cI cL cZ cR cE) [.ref a0] (W_Run cI cL cZ cR cE a0 a1 a2 a3 a4 a5 a6 facts stack handleFacts given_values given_givers handleCount height position fault cell)) (vp_Sl (fun ans_ => ans_ = f_top stack height)) 0 0 (fun _ => False) := by
  refine Met.ofW (cc := b_Rn_top) (maxL := 1) (ret := (some .long)) (by decide) rfl ?_
  intro p e s m args below meth c s₁ B hml hv
  obtain ⟨rfl, hP, hK, hN⟩ := hv
  have hx := B.exec
  have hb := B.bytes
  have hr := B.returns
  have hts := atoms_spec (ws := w_Rn_top) B.pre
  have hown : s.vm.findClass R_Rn = some m.cls := findClass_of_methodNamed B.named
  have hlocks := B.notSynchronized
  obtain ⟨H, hH⟩ : ∃ H, H = s.heap := ⟨_, rfl⟩
  rw [← hH] at hP
  rw [← hH]
  have hi_2 : ∀ w ∈ u_ws R_Rn T_Rn 9, w ∈ w_Rn_top := fun w h => List.mem_cons_of_mem _ (iu_Rn w h)
  have hk_1 := hts (.fieldLink R_Rn 33 "HandlingRules$Runner" "height" "I") (List.mem_cons_of_mem _ kw_68)
  have hk_3 := hts (.fieldLink R_Rn 15 "HandlingRules$Runner" "stack" "[J") (List.mem_cons_of_mem _ kw_62)
  have hl := lv_entry ([.ref a0]) (n := 1) (Nat.le_of_ble_eq_true rfl)
  rw [lg_entry_eq]
  generalize (lg_sl ([.ref a0]) ++ List.replicate (1 - (lg_sl ([.ref a0])).length) Slot.unset).toArray = ls at hl ⊢
  replace hl : lv_has ls 1 [(0, .ref a0)] := hl
  generalize hT : f_top stack height = T
  refine lv_aload_n hx hb d_Rn_top_0 rfl (lv_at hl 0 rfl) ?_
  refine va_get (D := G) (ci := 4) (v := .int height) (C := R_Rn) (T := T_Rn) (N := 9) hx hb hts hi_2 hown hK hP 0 rfl rfl 5 (by decide) hk_1 (fun _ h9 => h9) rfl d_Rn_top_1 ?_
  refine lv_if_le (tgt := 30) hx hb d_Rn_top_4 (by decide) (fun c_1 => ?_) (fun c_1 => ?_)
  · refine lv_lconst (v := 0) hx hb d_Rn_top_30 (by decide) ?_
    exact W.lret (v := 0) hx hb hr (fun t ht hW => ⟨0, rfl, (by rw [← hT]; simp only [f_top, if_pos c_1]), by rw [ht, hH]⟩) (fun _ h => by cases h) d_Rn_top_31
  · refine lv_aload_n hx hb d_Rn_top_7 rfl (lv_at hl 0 rfl) ?_
    refine va_get (D := G) (ci := 4) (v := .int height) (C := R_Rn) (T := T_Rn) (N := 9) hx hb hts hi_2 hown hK hP 0 rfl rfl 5 (by decide) hk_1 (fun _ h9 => h9) rfl d_Rn_top_8 ?_
    refine lv_bipush (v := 8) hx hb d_Rn_top_11 (by decide) ?_
    refine lv_icmp_gt (tgt := 30) hx hb d_Rn_top_13 (by decide) (fun c_2 => ?_) (fun c_2 => ?_)
    · refine lv_lconst (v := 0) hx hb d_Rn_top_30 (by decide) ?_
      exact W.lret (v := 0) hx hb hr (fun t ht hW => ⟨0, rfl, (by rw [← hT]; simp only [f_top, if_neg c_1, if_pos c_2]), by rw [ht, hH]⟩) (fun _ h => by cases h) d_Rn_top_31
    · refine lv_aload_n hx hb d_Rn_top_16 rfl (lv_at hl 0 rfl) ?_
      refine va_get (D := G) (ci := 4) (v := .ref a2) (C := R_Rn) (T := T_Rn) (N := 9) hx hb hts hi_2 hown hK hP 0 rfl rfl 1 (by decide) hk_3 (fun _ h9 => h9) rfl d_Rn_top_17 ?_
      refine lv_aload_n hx hb d_Rn_top_20 rfl (lv_at hl 0 rfl) ?_
      refine va_get (D := G) (ci := 4) (v := .int height) (C := R_Rn) (T := T_Rn) (N := 9) hx hb hts hi_2 hown hK hP 0 rfl rfl 5 (by decide) hk_1 (fun _ h9 => h9) rfl d_Rn_top_21 ?_
      refine lv_iconst (v := 1) hx hb d_Rn_top_24 (by decide) ?_
      refine lv_isub hx hb d_Rn_top_25 ?_
      refine va_lald hx hb hK hP 2 1 rfl rfl (ix_pred c_1 c_2 rfl) d_Rn_top_26 ?_
      refine lv_goto (tgt := 31) hx hb d_Rn_top_27 (by decide) ?_
      exact W.lret (v := stack (height - 1).toNatClampNeg) hx hb hr (fun t ht hW => ⟨stack (height - 1).toNatClampNeg, rfl, (by rw [← hT]; simp only [f_top, if_neg c_1, if_neg c_2]), by rw [ht, hH]⟩) (fun _ h => by cases h) d_Rn_top_31
def f_push (stack : Nat → Int64) (height : Int32) (w : Int64) : (Nat → Int64) × Int32 := if height < 0 then (stack, height) else (if 8 ≤ height then (stack, height) else (vp_updL stack height.toNatClampNeg w, height + 1))
set_option maxHeartbeats 4000000 in
set_option maxRecDepth 100000 in
theorem c_push (l : Launch) (G : va_G) (cI cL cZ cR cE : ClassId) (sz : Nat) (a0 a1 a2 a3 a4 a5 a6 : Nat) (facts : Nat → Int64) (stack : Nat → Int64) (handleFacts : Nat → Int32) (given_values : Nat → Int64) (given_givers : Nat → Int32) (handleCount : Int32) (height : Int32) (position : Int32) (fault : Int32) (cell : Int64) (w : Int64) : Met l y_Rn_push w_Rn_push ({ frames := 0, cells := 0, slots := 0, locals := 0 }) (preW G (TYS cI cL cZ cR cE) [.ref a0, .long w] sz (W_Run cI cL cZ cR cE a0 a1 a2 a3 a4 a5 a6 facts stack handleFacts given_values given_givers handleCount height position fault cell)) (va_Qv (fun u : (Nat → Int64) × Int32 => u = f_push stack height w) (fun u t => va_P G vwCl (W_Run cI cL cZ cR cE a0 a1 a2 a3 a4 a5 a6 facts u.1 handleFacts given_values given_givers handleCount u.2 position fault cell) t.heap ∧ va_K G vwCl (TYS cI cL cZ cR cE) t ∧ va_D (va_A (W_Run cI cL cZ cR cE a0 a1 a2 a3 a4 a5 a6 facts stack handleFacts given_values given_givers handleCount height position fault cell) sz) (W_Run cI cL cZ cR cE a0 a1 a2 a3 a4 a5 a6 facts u.1 handleFacts given_values given_givers handleCount u.2 position fault cell)) (va_A (W_Run cI cL cZ cR cE a0 a1 a2 a3 a4 a5 a6 facts stack handleFacts given_values given_givers handleCount height position fault cell) sz)) 0 0 (va_A (W_Run cI cL cZ cR cE a0 a1 a2 a3 a4 a5 a6 facts stack handleFacts given_values given_givers handleCount height position fault cell) sz) := by
  refine Met.ofW (cc := b_Rn_push) (maxL := 3) (ret := none) (by decide) rfl ?_
  intro p e s m args below meth c s₁ B hml hv
  obtain ⟨rfl, hsz, hP, hK, hD0, hN⟩ := hv
  have hx := B.exec
  have hb := B.bytes
  have hr := B.returns
  have hts := atoms_spec (ws := w_Rn_push) B.pre
  have hown : s.vm.findClass R_Rn = some m.cls := findClass_of_methodNamed B.named
  have hlocks := B.notSynchronized
  subst hsz
  have hD := hD0.self (sz := s.heap.size)
  clear hD0
  generalize hAe : va_A (W_Run cI cL cZ cR cE a0 a1 a2 a3 a4 a5 a6 facts stack handleFacts given_values given_givers handleCount height position fault cell) s.heap.size = A at hD ⊢
  have hA : ∀ q : Nat, s.heap.size ≤ q → A q := fun q h => by rw [← hAe]; exact Or.inr h
  clear hAe
  have hS : va_S A s.heap s.heap [] := va_S.rf
  obtain ⟨H, hH⟩ : ∃ H, H = s.heap := ⟨_, rfl⟩
  rw [← hH] at hP
  replace hS : va_S A s.heap H [] := by rw [hH]; exact hS
  rw [← hH]
  clear hH
  have hi_2 : ∀ w ∈ u_ws R_Rn T_Rn 9, w ∈ w_Rn_push := fun w h => List.mem_cons_of_mem _ (iu_Rn w h)
  have hk_1 := hts (.fieldLink R_Rn 33 "HandlingRules$Runner" "height" "I") (List.mem_cons_of_mem _ kw_68)
  have hk_3 := hts (.fieldLink R_Rn 15 "HandlingRules$Runner" "stack" "[J") (List.mem_cons_of_mem _ kw_62)
  have hl := lv_entry ([.ref a0, .long w]) (n := 3) (Nat.le_of_ble_eq_true rfl)
  rw [lg_entry_eq]
  generalize (lg_sl ([.ref a0, .long w]) ++ List.replicate (3 - (lg_sl ([.ref a0, .long w])).length) Slot.unset).toArray = ls at hl ⊢
  replace hl : lv_has ls 3 [(0, .ref a0), (1, .long w)] := hl
  generalize hT : f_push stack height w = T
  refine lv_aload_n hx hb d_Rn_push_0 rfl (lv_at hl 0 rfl) ?_
  refine va_get (D := G) (ci := 4) (v := .int height) (C := R_Rn) (T := T_Rn) (N := 9) hx hb hts hi_2 hown hK hP 0 rfl rfl 5 (by decide) hk_1 (fun _ h9 => h9) rfl d_Rn_push_1 ?_
  refine lv_if_lt (tgt := 36) hx hb d_Rn_push_4 (by decide) (fun c_1 => ?_) (fun c_1 => ?_)
  · exact W.vret hx hb hr (fun t ht hW => ⟨⟨(stack, height), rfl, (by rw [← hT]; simp only [f_push, if_pos c_1]), by rw [ht]; exact hP, va_K.moved hW.alike hK, hD⟩, hS.F ht⟩) hS.2.2 d_Rn_push_36
  · refine lv_aload_n hx hb d_Rn_push_7 rfl (lv_at hl 0 rfl) ?_
    refine va_get (D := G) (ci := 4) (v := .int height) (C := R_Rn) (T := T_Rn) (N := 9) hx hb hts hi_2 hown hK hP 0 rfl rfl 5 (by decide) hk_1 (fun _ h9 => h9) rfl d_Rn_push_8 ?_
    refine lv_bipush (v := 8) hx hb d_Rn_push_11 (by decide) ?_
    refine lv_icmp_ge (tgt := 36) hx hb d_Rn_push_13 (by decide) (fun c_2 => ?_) (fun c_2 => ?_)
    · exact W.vret hx hb hr (fun t ht hW => ⟨⟨(stack, height), rfl, (by rw [← hT]; simp only [f_push, if_neg c_1, if_pos c_2]), by rw [ht]; exact hP, va_K.moved hW.alike hK, hD⟩, hS.F ht⟩) hS.2.2 d_Rn_push_36
    · refine lv_aload_n hx hb d_Rn_push_16 rfl (lv_at hl 0 rfl) ?_
      refine va_get (D := G) (ci := 4) (v := .ref a2) (C := R_Rn) (T := T_Rn) (N := 9) hx hb hts hi_2 hown hK hP 0 rfl rfl 1 (by decide) hk_3 (fun _ h9 => h9) rfl d_Rn_push_17 ?_
      refine lv_aload_n hx hb d_Rn_push_20 rfl (lv_at hl 0 rfl) ?_
      refine va_get (D := G) (ci := 4) (v := .int height) (C := R_Rn) (T := T_Rn) (N := 9) hx hb hts hi_2 hown hK hP 0 rfl rfl 5 (by decide) hk_1 (fun _ h9 => h9) rfl d_Rn_push_21 ?_
      refine lv_lload_n hx hb d_Rn_push_24 rfl (lv_at hl 1 rfl) ?_
      refine va_last hx hb hK hP hD hS 2 1 rfl rfl (ix_of c_1 c_2 rfl) d_Rn_push_25 (fun H locs hP hD hS => ?_)
      replace hP : va_P G vwCl (W_Run cI cL cZ cR cE a0 a1 a2 a3 a4 a5 a6 facts (vp_updL stack height.toNatClampNeg w) handleFacts given_values given_givers handleCount height position fault cell) H := hP
      replace hD : va_D A (W_Run cI cL cZ cR cE a0 a1 a2 a3 a4 a5 a6 facts (vp_updL stack height.toNatClampNeg w) handleFacts given_values given_givers handleCount height position fault cell) := hD
      refine lv_aload_n hx hb d_Rn_push_26 rfl (lv_at hl 0 rfl) ?_
      refine lv_dup hx hb d_Rn_push_27 rfl ?_
      refine va_get (D := G) (ci := 4) (v := .int height) (C := R_Rn) (T := T_Rn) (N := 9) hx hb hts hi_2 hown hK hP 0 rfl rfl 5 (by decide) hk_1 (fun _ h9 => h9) rfl d_Rn_push_28 ?_
      refine lv_iconst (v := 1) hx hb d_Rn_push_31 (by decide) ?_
      refine lv_iadd hx hb d_Rn_push_32 ?_
      refine va_put (D := G) (ci := 4) (v := .int (height + 1)) (ty := (.int)) (C := R_Rn) (T := T_Rn) (N := 9) hx hb hts hi_2 ty_Rn tyk_Rn nm_Rn hown hK hP hD hS 0 rfl rfl 5 (by decide) hk_1 (fun _ h9 => h9) rfl (by decide +kernel) rfl rfl (Nat.le_of_ble_eq_true rfl) d_Rn_push_33 (fun H locs hP hD hS => ?_)
      replace hP : va_P G vwCl (W_Run cI cL cZ cR cE a0 a1 a2 a3 a4 a5 a6 facts (vp_updL stack height.toNatClampNeg w) handleFacts given_values given_givers handleCount (height + 1) position fault cell) H := hP
      replace hD : va_D A (W_Run cI cL cZ cR cE a0 a1 a2 a3 a4 a5 a6 facts (vp_updL stack height.toNatClampNeg w) handleFacts given_values given_givers handleCount (height + 1) position fault cell) := hD
      exact W.vret hx hb hr (fun t ht hW => ⟨⟨(vp_updL stack height.toNatClampNeg w, height + 1), rfl, (by rw [← hT]; simp only [f_push, if_neg c_1, if_neg c_2]), by rw [ht]; exact hP, va_K.moved hW.alike hK, hD⟩, hS.F ht⟩) hS.2.2 d_Rn_push_36
def f_pop (stack : Nat → Int64) (height : Int32) : Int64 × Int32 := if height ≤ 0 then (f_top stack height, height) else (f_top stack height, height - 1)
set_option maxHeartbeats 4000000 in
set_option maxRecDepth 100000 in
theorem c_pop (l : Launch) (G : va_G) (cI cL cZ cR cE : ClassId) (sz : Nat) (a0 a1 a2 a3 a4 a5 a6 : Nat) (facts : Nat → Int64) (stack : Nat → Int64) (handleFacts : Nat → Int32) (given_values : Nat → Int64) (given_givers : Nat → Int32) (handleCount : Int32) (height : Int32) (position : Int32) (fault : Int32) (cell : Int64) : Met l y_Rn_pop w_Rn_pop ({ frames := 1, cells := 0, slots := 0, locals := 20 }) (preW G (TYS cI cL cZ cR cE) [.ref a0] sz (W_Run cI cL cZ cR cE a0 a1 a2 a3 a4 a5 a6 facts stack handleFacts given_values given_givers handleCount height position fault cell)) (va_Ql (fun (ans_ : Int64) (u : Int32) => (ans_, u) = f_pop stack height) (fun u t => va_P G vwCl (W_Run cI cL cZ cR cE a0 a1 a2 a3 a4 a5 a6 facts stack handleFacts given_values given_givers handleCount u position fault cell) t.heap ∧ va_K G vwCl (TYS cI cL cZ cR cE) t ∧ va_D (va_A (W_Run cI cL cZ cR cE a0 a1 a2 a3 a4 a5 a6 facts stack handleFacts given_values given_givers handleCount height position fault cell) sz) (W_Run cI cL cZ cR cE a0 a1 a2 a3 a4 a5 a6 facts stack handleFacts given_values given_givers handleCount u position fault cell)) (va_A (W_Run cI cL cZ cR cE a0 a1 a2 a3 a4 a5 a6 facts stack handleFacts given_values given_givers handleCount height position fault cell) sz)) 0 0 (va_A (W_Run cI cL cZ cR cE a0 a1 a2 a3 a4 a5 a6 facts stack handleFacts given_values given_givers handleCount height position fault cell) sz) := by
  refine Met.ofW (cc := b_Rn_pop) (maxL := 3) (ret := (some .long)) (by decide) rfl ?_
  intro p e s m args below meth c s₁ B hml hv
  obtain ⟨rfl, hsz, hP, hK, hD0, hN⟩ := hv
  have hx := B.exec
  have hb := B.bytes
  have hr := B.returns
  have hts := atoms_spec (ws := w_Rn_pop) B.pre
  have hown : s.vm.findClass R_Rn = some m.cls := findClass_of_methodNamed B.named
  have hlocks := B.notSynchronized
  subst hsz
  have hD := hD0.self (sz := s.heap.size)
  clear hD0
  generalize hAe : va_A (W_Run cI cL cZ cR cE a0 a1 a2 a3 a4 a5 a6 facts stack handleFacts given_values given_givers handleCount height position fault cell) s.heap.size = A at hD ⊢
  have hA : ∀ q : Nat, s.heap.size ≤ q → A q := fun q h => by rw [← hAe]; exact Or.inr h
  clear hAe
  have hS : va_S A s.heap s.heap [] := va_S.rf
  obtain ⟨H, hH⟩ : ∃ H, H = s.heap := ⟨_, rfl⟩
  rw [← hH] at hP
  replace hS : va_S A s.heap H [] := by rw [hH]; exact hS
  rw [← hH]
  clear hH
  have hi_2 : ∀ w ∈ u_ws R_Rn T_Rn 9, w ∈ w_Rn_pop := fun w h => List.mem_cons_of_mem _ (iu_Rn w h)
  have hk_1 := hts (.fieldLink R_Rn 33 "HandlingRules$Runner" "height" "I") (List.mem_cons_of_mem _ kw_68)
  have hl := lv_entry ([.ref a0]) (n := 3) (Nat.le_of_ble_eq_true rfl)
  rw [lg_entry_eq]
  generalize (lg_sl ([.ref a0]) ++ List.replicate (3 - (lg_sl ([.ref a0])).length) Slot.unset).toArray = ls at hl ⊢
  replace hl : lv_has ls 3 [(0, .ref a0)] := hl
  generalize hT : f_pop stack height = T
  refine lv_aload_n hx hb d_Rn_pop_0 rfl (lv_at hl 0 rfl) ?_
  refine vp_callSl (W.runV (As := []) (rest := []) ⟨hx, hb, hml, hown, hts⟩ (c_top l G cI cL cZ cR cE a0 a1 a2 a3 a4 a5 a6 facts stack handleFacts given_values given_givers handleCount height position fault cell) (cwV 0 hts (gV kw_321 kw_322 kw_323 kw_16 kw_324) rfl rfl rfl (by decide +kernel) ⟨Nat.le_of_ble_eq_true rfl, Nat.le_of_ble_eq_true rfl⟩) (preRV_of (ci := 4) hN hK hP [0, 1, 2, 3, 4, 5, 6] rfl rfl rfl) rfl rfl hl.1 rfl (lv_room (Nat.le_of_ble_eq_true rfl)) d_Rn_pop_1 ⟨Nat.zero_le _, Nat.zero_le _⟩) (fun r_1 hw => ?_)
  subst hw
  refine lv_lstore_n (lv' := [(1, .long (f_top stack height)), (0, .ref a0)]) hx hb d_Rn_pop_4 rfl hl (by decide) rfl (fun ls hl => ?_)
  refine lv_aload_n hx hb d_Rn_pop_5 rfl (lv_at hl 1 rfl) ?_
  refine va_get (D := G) (ci := 4) (v := .int height) (C := R_Rn) (T := T_Rn) (N := 9) hx hb hts hi_2 hown hK hP 0 rfl rfl 5 (by decide) hk_1 (fun _ h9 => h9) rfl d_Rn_pop_6 ?_
  refine lv_if_le (tgt := 22) hx hb d_Rn_pop_9 (by decide) (fun c_2 => ?_) (fun c_2 => ?_)
  · refine lv_lload_n hx hb d_Rn_pop_22 rfl (lv_at hl 0 rfl) ?_
    exact W.lret (v := f_top stack height) hx hb hr (fun t ht hW => ⟨⟨f_top stack height, height, rfl, (by rw [← hT]; simp only [f_pop, if_pos c_2]), by rw [ht]; exact hP, va_K.moved hW.alike hK, hD⟩, hS.F ht⟩) hS.2.2 d_Rn_pop_23
  · refine lv_aload_n hx hb d_Rn_pop_12 rfl (lv_at hl 1 rfl) ?_
    refine lv_dup hx hb d_Rn_pop_13 rfl ?_
    refine va_get (D := G) (ci := 4) (v := .int height) (C := R_Rn) (T := T_Rn) (N := 9) hx hb hts hi_2 hown hK hP 0 rfl rfl 5 (by decide) hk_1 (fun _ h9 => h9) rfl d_Rn_pop_14 ?_
    refine lv_iconst (v := 1) hx hb d_Rn_pop_17 (by decide) ?_
    refine lv_isub hx hb d_Rn_pop_18 ?_
    refine va_put (D := G) (ci := 4) (v := .int (height - 1)) (ty := (.int)) (C := R_Rn) (T := T_Rn) (N := 9) hx hb hts hi_2 ty_Rn tyk_Rn nm_Rn hown hK hP hD hS 0 rfl rfl 5 (by decide) hk_1 (fun _ h9 => h9) rfl (by decide +kernel) rfl rfl (Nat.le_of_ble_eq_true rfl) d_Rn_pop_19 (fun H locs hP hD hS => ?_)
    replace hP : va_P G vwCl (W_Run cI cL cZ cR cE a0 a1 a2 a3 a4 a5 a6 facts stack handleFacts given_values given_givers handleCount (height - 1) position fault cell) H := hP
    replace hD : va_D A (W_Run cI cL cZ cR cE a0 a1 a2 a3 a4 a5 a6 facts stack handleFacts given_values given_givers handleCount (height - 1) position fault cell) := hD
    refine lv_lload_n hx hb d_Rn_pop_22 rfl (lv_at hl 0 rfl) ?_
    exact W.lret (v := f_top stack height) hx hb hr (fun t ht hW => ⟨⟨f_top stack height, height - 1, rfl, (by rw [← hT]; simp only [f_pop, if_neg c_2]), by rw [ht]; exact hP, va_K.moved hW.alike hK, hD⟩, hS.F ht⟩) hS.2.2 d_Rn_pop_23
def f_setFact (facts : Nat → Int64) (k : Int32) (w : Int64) : (Nat → Int64) := if k < 0 then facts else (if 8 ≤ k then facts else (vp_updL facts k.toNatClampNeg w))
set_option maxHeartbeats 4000000 in
set_option maxRecDepth 100000 in
theorem c_setFact (l : Launch) (G : va_G) (cI cL cZ cR cE : ClassId) (sz : Nat) (a0 a1 a2 a3 a4 a5 a6 : Nat) (facts : Nat → Int64) (stack : Nat → Int64) (handleFacts : Nat → Int32) (given_values : Nat → Int64) (given_givers : Nat → Int32) (handleCount : Int32) (height : Int32) (position : Int32) (fault : Int32) (cell : Int64) (k : Int32) (w : Int64) : Met l y_Rn_setFact w_Rn_setFact ({ frames := 0, cells := 0, slots := 0, locals := 0 }) (preW G (TYS cI cL cZ cR cE) [.ref a0, .int k, .long w] sz (W_Run cI cL cZ cR cE a0 a1 a2 a3 a4 a5 a6 facts stack handleFacts given_values given_givers handleCount height position fault cell)) (va_Qv (fun u : (Nat → Int64) => u = f_setFact facts k w) (fun u t => va_P G vwCl (W_Run cI cL cZ cR cE a0 a1 a2 a3 a4 a5 a6 u stack handleFacts given_values given_givers handleCount height position fault cell) t.heap ∧ va_K G vwCl (TYS cI cL cZ cR cE) t ∧ va_D (va_A (W_Run cI cL cZ cR cE a0 a1 a2 a3 a4 a5 a6 facts stack handleFacts given_values given_givers handleCount height position fault cell) sz) (W_Run cI cL cZ cR cE a0 a1 a2 a3 a4 a5 a6 u stack handleFacts given_values given_givers handleCount height position fault cell)) (va_A (W_Run cI cL cZ cR cE a0 a1 a2 a3 a4 a5 a6 facts stack handleFacts given_values given_givers handleCount height position fault cell) sz)) 0 0 (va_A (W_Run cI cL cZ cR cE a0 a1 a2 a3 a4 a5 a6 facts stack handleFacts given_values given_givers handleCount height position fault cell) sz) := by
  refine Met.ofW (cc := b_Rn_setFact) (maxL := 4) (ret := none) (by decide) rfl ?_
  intro p e s m args below meth c s₁ B hml hv
  obtain ⟨rfl, hsz, hP, hK, hD0, hN⟩ := hv
  have hx := B.exec
  have hb := B.bytes
  have hr := B.returns
  have hts := atoms_spec (ws := w_Rn_setFact) B.pre
  have hown : s.vm.findClass R_Rn = some m.cls := findClass_of_methodNamed B.named
  have hlocks := B.notSynchronized
  subst hsz
  have hD := hD0.self (sz := s.heap.size)
  clear hD0
  generalize hAe : va_A (W_Run cI cL cZ cR cE a0 a1 a2 a3 a4 a5 a6 facts stack handleFacts given_values given_givers handleCount height position fault cell) s.heap.size = A at hD ⊢
  have hA : ∀ q : Nat, s.heap.size ≤ q → A q := fun q h => by rw [← hAe]; exact Or.inr h
  clear hAe
  have hS : va_S A s.heap s.heap [] := va_S.rf
  obtain ⟨H, hH⟩ : ∃ H, H = s.heap := ⟨_, rfl⟩
  rw [← hH] at hP
  replace hS : va_S A s.heap H [] := by rw [hH]; exact hS
  rw [← hH]
  clear hH
  have hi_2 : ∀ w ∈ u_ws R_Rn T_Rn 9, w ∈ w_Rn_setFact := fun w h => List.mem_cons_of_mem _ (iu_Rn w h)
  have hk_1 := hts (.fieldLink R_Rn 9 "HandlingRules$Runner" "facts" "[J") (List.mem_cons_of_mem _ kw_61)
  have hl := lv_entry ([.ref a0, .int k, .long w]) (n := 4) (Nat.le_of_ble_eq_true rfl)
  rw [lg_entry_eq]
  generalize (lg_sl ([.ref a0, .int k, .long w]) ++ List.replicate (4 - (lg_sl ([.ref a0, .int k, .long w])).length) Slot.unset).toArray = ls at hl ⊢
  replace hl : lv_has ls 4 [(0, .ref a0), (1, .int k), (2, .long w)] := hl
  generalize hT : f_setFact facts k w = T
  refine lv_iload_n hx hb d_Rn_setFact_0 rfl (lv_at hl 1 rfl) ?_
  refine lv_if_lt (tgt := 17) hx hb d_Rn_setFact_1 (by decide) (fun c_1 => ?_) (fun c_1 => ?_)
  · exact W.vret hx hb hr (fun t ht hW => ⟨⟨facts, rfl, (by rw [← hT]; simp only [f_setFact, if_pos c_1]), by rw [ht]; exact hP, va_K.moved hW.alike hK, hD⟩, hS.F ht⟩) hS.2.2 d_Rn_setFact_17
  · refine lv_iload_n hx hb d_Rn_setFact_4 rfl (lv_at hl 1 rfl) ?_
    refine lv_bipush (v := 8) hx hb d_Rn_setFact_5 (by decide) ?_
    refine lv_icmp_ge (tgt := 17) hx hb d_Rn_setFact_7 (by decide) (fun c_2 => ?_) (fun c_2 => ?_)
    · exact W.vret hx hb hr (fun t ht hW => ⟨⟨facts, rfl, (by rw [← hT]; simp only [f_setFact, if_neg c_1, if_pos c_2]), by rw [ht]; exact hP, va_K.moved hW.alike hK, hD⟩, hS.F ht⟩) hS.2.2 d_Rn_setFact_17
    · refine lv_aload_n hx hb d_Rn_setFact_10 rfl (lv_at hl 0 rfl) ?_
      refine va_get (D := G) (ci := 4) (v := .ref a1) (C := R_Rn) (T := T_Rn) (N := 9) hx hb hts hi_2 hown hK hP 0 rfl rfl 0 (by decide) hk_1 (fun _ h9 => h9) rfl d_Rn_setFact_11 ?_
      refine lv_iload_n hx hb d_Rn_setFact_14 rfl (lv_at hl 1 rfl) ?_
      refine lv_lload_n hx hb d_Rn_setFact_15 rfl (lv_at hl 2 rfl) ?_
      refine va_last hx hb hK hP hD hS 1 1 rfl rfl (ix_of c_1 c_2 rfl) d_Rn_setFact_16 (fun H locs hP hD hS => ?_)
      replace hP : va_P G vwCl (W_Run cI cL cZ cR cE a0 a1 a2 a3 a4 a5 a6 (vp_updL facts k.toNatClampNeg w) stack handleFacts given_values given_givers handleCount height position fault cell) H := hP
      replace hD : va_D A (W_Run cI cL cZ cR cE a0 a1 a2 a3 a4 a5 a6 (vp_updL facts k.toNatClampNeg w) stack handleFacts given_values given_givers handleCount height position fault cell) := hD
      exact W.vret hx hb hr (fun t ht hW => ⟨⟨vp_updL facts k.toNatClampNeg w, rfl, (by rw [← hT]; simp only [f_setFact, if_neg c_1, if_neg c_2]), by rw [ht]; exact hP, va_K.moved hW.alike hK, hD⟩, hS.F ht⟩) hS.2.2 d_Rn_setFact_17
def f_factOf (facts : Nat → Int64) (k : Int64) : Int64 := if (f_isWithin k 0 7) = 0 then 0 else (facts k.toInt32.toNatClampNeg)
set_option maxHeartbeats 4000000 in
set_option maxRecDepth 100000 in
theorem c_factOf (l : Launch) (G : va_G) (cI cL cZ cR cE : ClassId) (a0 a1 a2 a3 a4 a5 a6 : Nat) (facts : Nat → Int64) (stack : Nat → Int64) (handleFacts : Nat → Int32) (given_values : Nat → Int64) (given_givers : Nat → Int32) (handleCount : Int32) (height : Int32) (position : Int32) (fault : Int32) (cell : Int64) (k : Int64) : Met l y_Rn_factOf w_Rn_factOf ({ frames := 1, cells := 0, slots := 0, locals := 25 }) (preR G (TYS cI cL cZ cR cE) [.ref a0, .long k] (W_Run cI cL cZ cR cE a0 a1 a2 a3 a4 a5 a6 facts stack handleFacts given_values given_givers handleCount height position fault cell)) (vp_Sl (fun ans_ => ans_ = f_factOf facts k)) 0 0 (fun _ => False) := by
  refine Met.ofW (cc := b_Rn_factOf) (maxL := 3) (ret := (some .long)) (by decide) rfl ?_
  intro p e s m args below meth c s₁ B hml hv
  obtain ⟨rfl, hP, hK, hN⟩ := hv
  have hx := B.exec
  have hb := B.bytes
  have hr := B.returns
  have hts := atoms_spec (ws := w_Rn_factOf) B.pre
  have hown : s.vm.findClass R_Rn = some m.cls := findClass_of_methodNamed B.named
  have hlocks := B.notSynchronized
  obtain ⟨H, hH⟩ : ∃ H, H = s.heap := ⟨_, rfl⟩
  rw [← hH] at hP
  rw [← hH]
  have hi_3 : ∀ w ∈ u_ws R_Rn T_Rn 9, w ∈ w_Rn_factOf := fun w h => List.mem_cons_of_mem _ (iu_Rn w h)
  have hk_1 := hts (.constantLong R_Rn 133 7) (List.mem_cons_of_mem _ kw_342)
  have hk_2 := hts (.fieldLink R_Rn 9 "HandlingRules$Runner" "facts" "[J") (List.mem_cons_of_mem _ kw_61)
  have hl := lv_entry ([.ref a0, .long k]) (n := 3) (Nat.le_of_ble_eq_true rfl)
  rw [lg_entry_eq]
  generalize (lg_sl ([.ref a0, .long k]) ++ List.replicate (3 - (lg_sl ([.ref a0, .long k])).length) Slot.unset).toArray = ls at hl ⊢
  replace hl : lv_has ls 3 [(0, .ref a0), (1, .long k)] := hl
  generalize hT : f_factOf facts k = T
  refine lv_lload_n hx hb d_Rn_factOf_0 rfl (lv_at hl 1 rfl) ?_
  refine lv_lconst (v := 0) hx hb d_Rn_factOf_1 (by decide) ?_
  refine lv_ldc2 (v := 7) hx hb hown hk_1 d_Rn_factOf_2 ?_
  refine vp_callSi (run_of (va_runSN (As := [.long k, .long 0, .long 7]) (rest := []) ⟨hx, hb, hml, hown, hts⟩ (c_isWithin l G cI cL cZ cR cE  k 0 7) ⟨va_cnB 3 hts (gC kw_180) rfl rfl rfl (nwN_5 hN) (hts _ (List.mem_cons_of_mem _ kw_15)) (by decide +kernel) ⟨Nat.le_of_ble_eq_true rfl, Nat.le_of_ble_eq_true rfl⟩, hts _ (List.mem_cons_of_mem _ kw_179), trivial⟩ (preRS_of hN hK hP [] rfl) rfl rfl hl.1 rfl (lv_room (Nat.le_of_ble_eq_true rfl)) d_Rn_factOf_5 ⟨Nat.zero_le _, Nat.zero_le _⟩)) (fun r_1 hw => ?_)
  subst hw
  refine lv_if_eq (tgt := 21) hx hb d_Rn_factOf_8 (by decide) (fun c_2 => ?_) (fun c_2 => ?_)
  · refine lv_lconst (v := 0) hx hb d_Rn_factOf_21 (by decide) ?_
    exact W.lret (v := 0) hx hb hr (fun t ht hW => ⟨0, rfl, (by rw [← hT]; simp only [f_factOf, if_pos c_2]), by rw [ht, hH]⟩) (fun _ h => by cases h) d_Rn_factOf_22
  · refine lv_aload_n hx hb d_Rn_factOf_11 rfl (lv_at hl 0 rfl) ?_
    refine va_get (D := G) (ci := 4) (v := .ref a1) (C := R_Rn) (T := T_Rn) (N := 9) hx hb hts hi_3 hown hK hP 0 rfl rfl 0 (by decide) hk_2 (fun _ h9 => h9) rfl d_Rn_factOf_12 ?_
    refine lv_lload_n hx hb d_Rn_factOf_15 rfl (lv_at hl 1 rfl) ?_
    refine lv_l2i (v := k.toInt32) hx hb d_Rn_factOf_16 rfl ?_
    refine va_lald hx hb hK hP 1 1 rfl rfl (ix_w c_2 rfl (by decide)) d_Rn_factOf_17 ?_
    refine lv_goto (tgt := 22) hx hb d_Rn_factOf_18 (by decide) ?_
    exact W.lret (v := facts k.toInt32.toNatClampNeg) hx hb hr (fun t ht hW => ⟨facts k.toInt32.toNatClampNeg, rfl, (by rw [← hT]; simp only [f_factOf, if_neg c_2]), by rw [ht, hH]⟩) (fun _ h => by cases h) d_Rn_factOf_22
def f_keep (handleFacts : Nat → Int32) (handleCount : Int32) (k : Int64) : Int32 × (Nat → Int32) × Int32 := if handleCount < 0 then (handleCount, (handleFacts, handleCount)) else (if 16 ≤ handleCount then (handleCount, (handleFacts, handleCount)) else (handleCount, (upd handleFacts handleCount.toNatClampNeg k.toInt32, handleCount + 1)))
set_option maxHeartbeats 4000000 in
set_option maxRecDepth 100000 in
theorem c_keep (l : Launch) (G : va_G) (cI cL cZ cR cE : ClassId) (sz : Nat) (a0 a1 a2 a3 a4 a5 a6 : Nat) (facts : Nat → Int64) (stack : Nat → Int64) (handleFacts : Nat → Int32) (given_values : Nat → Int64) (given_givers : Nat → Int32) (handleCount : Int32) (height : Int32) (position : Int32) (fault : Int32) (cell : Int64) (k : Int64) : Met l y_Rn_keep w_Rn_keep ({ frames := 0, cells := 0, slots := 0, locals := 0 }) (preW G (TYS cI cL cZ cR cE) [.ref a0, .long k] sz (W_Run cI cL cZ cR cE a0 a1 a2 a3 a4 a5 a6 facts stack handleFacts given_values given_givers handleCount height position fault cell)) (va_Qi (fun (ans_ : Int32) (u : (Nat → Int32) × Int32) => (ans_, u) = f_keep handleFacts handleCount k) (fun u t => va_P G vwCl (W_Run cI cL cZ cR cE a0 a1 a2 a3 a4 a5 a6 facts stack u.1 given_values given_givers u.2 height position fault cell) t.heap ∧ va_K G vwCl (TYS cI cL cZ cR cE) t ∧ va_D (va_A (W_Run cI cL cZ cR cE a0 a1 a2 a3 a4 a5 a6 facts stack handleFacts given_values given_givers handleCount height position fault cell) sz) (W_Run cI cL cZ cR cE a0 a1 a2 a3 a4 a5 a6 facts stack u.1 given_values given_givers u.2 height position fault cell)) (va_A (W_Run cI cL cZ cR cE a0 a1 a2 a3 a4 a5 a6 facts stack handleFacts given_values given_givers handleCount height position fault cell) sz)) 0 0 (va_A (W_Run cI cL cZ cR cE a0 a1 a2 a3 a4 a5 a6 facts stack handleFacts given_values given_givers handleCount height position fault cell) sz) := by
  refine Met.ofW (cc := b_Rn_keep) (maxL := 4) (ret := (some .int)) (by decide) rfl ?_
  intro p e s m args below meth c s₁ B hml hv
  obtain ⟨rfl, hsz, hP, hK, hD0, hN⟩ := hv
  have hx := B.exec
  have hb := B.bytes
  have hr := B.returns
  have hts := atoms_spec (ws := w_Rn_keep) B.pre
  have hown : s.vm.findClass R_Rn = some m.cls := findClass_of_methodNamed B.named
  have hlocks := B.notSynchronized
  subst hsz
  have hD := hD0.self (sz := s.heap.size)
  clear hD0
  generalize hAe : va_A (W_Run cI cL cZ cR cE a0 a1 a2 a3 a4 a5 a6 facts stack handleFacts given_values given_givers handleCount height position fault cell) s.heap.size = A at hD ⊢
  have hA : ∀ q : Nat, s.heap.size ≤ q → A q := fun q h => by rw [← hAe]; exact Or.inr h
  clear hAe
  have hS : va_S A s.heap s.heap [] := va_S.rf
  obtain ⟨H, hH⟩ : ∃ H, H = s.heap := ⟨_, rfl⟩
  rw [← hH] at hP
  replace hS : va_S A s.heap H [] := by rw [hH]; exact hS
  rw [← hH]
  clear hH
  have hi_2 : ∀ w ∈ u_ws R_Rn T_Rn 9, w ∈ w_Rn_keep := fun w h => List.mem_cons_of_mem _ (iu_Rn w h)
  have hk_1 := hts (.fieldLink R_Rn 29 "HandlingRules$Runner" "handleCount" "I") (List.mem_cons_of_mem _ kw_66)
  have hk_3 := hts (.fieldLink R_Rn 18 "HandlingRules$Runner" "handleFacts" "[I") (List.mem_cons_of_mem _ kw_63)
  have hl := lv_entry ([.ref a0, .long k]) (n := 4) (Nat.le_of_ble_eq_true rfl)
  rw [lg_entry_eq]
  generalize (lg_sl ([.ref a0, .long k]) ++ List.replicate (4 - (lg_sl ([.ref a0, .long k])).length) Slot.unset).toArray = ls at hl ⊢
  replace hl : lv_has ls 4 [(0, .ref a0), (1, .long k)] := hl
  generalize hT : f_keep handleFacts handleCount k = T
  refine lv_aload_n hx hb d_Rn_keep_0 rfl (lv_at hl 0 rfl) ?_
  refine va_get (D := G) (ci := 4) (v := .int handleCount) (C := R_Rn) (T := T_Rn) (N := 9) hx hb hts hi_2 hown hK hP 0 rfl rfl 4 (by decide) hk_1 (fun _ h9 => h9) rfl d_Rn_keep_1 ?_
  refine lv_istore_n (lv' := [(3, .int handleCount), (0, .ref a0), (1, .long k)]) hx hb d_Rn_keep_4 rfl hl (by decide) rfl (fun ls hl => ?_)
  refine lv_iload_n hx hb d_Rn_keep_5 rfl (lv_at hl 0 rfl) ?_
  refine lv_if_lt (tgt := 33) hx hb d_Rn_keep_6 (by decide) (fun c_1 => ?_) (fun c_1 => ?_)
  · refine lv_iload_n hx hb d_Rn_keep_33 rfl (lv_at hl 0 rfl) ?_
    exact W.iret (v := handleCount) hx hb hr (fun t ht hW => ⟨⟨handleCount, (handleFacts, handleCount), rfl, (by rw [← hT]; simp only [f_keep, if_pos c_1]), by rw [ht]; exact hP, va_K.moved hW.alike hK, hD⟩, hS.F ht⟩) hS.2.2 d_Rn_keep_34
  · refine lv_iload_n hx hb d_Rn_keep_9 rfl (lv_at hl 0 rfl) ?_
    refine lv_bipush (v := 16) hx hb d_Rn_keep_10 (by decide) ?_
    refine lv_icmp_ge (tgt := 33) hx hb d_Rn_keep_12 (by decide) (fun c_2 => ?_) (fun c_2 => ?_)
    · refine lv_iload_n hx hb d_Rn_keep_33 rfl (lv_at hl 0 rfl) ?_
      exact W.iret (v := handleCount) hx hb hr (fun t ht hW => ⟨⟨handleCount, (handleFacts, handleCount), rfl, (by rw [← hT]; simp only [f_keep, if_neg c_1, if_pos c_2]), by rw [ht]; exact hP, va_K.moved hW.alike hK, hD⟩, hS.F ht⟩) hS.2.2 d_Rn_keep_34
    · refine lv_aload_n hx hb d_Rn_keep_15 rfl (lv_at hl 1 rfl) ?_
      refine va_get (D := G) (ci := 4) (v := .ref a3) (C := R_Rn) (T := T_Rn) (N := 9) hx hb hts hi_2 hown hK hP 0 rfl rfl 2 (by decide) hk_3 (fun _ h9 => h9) rfl d_Rn_keep_16 ?_
      refine lv_iload_n hx hb d_Rn_keep_19 rfl (lv_at hl 0 rfl) ?_
      refine lv_lload_n hx hb d_Rn_keep_20 rfl (lv_at hl 2 rfl) ?_
      refine lv_l2i (v := k.toInt32) hx hb d_Rn_keep_21 rfl ?_
      refine va_iast hx hb hK hP hD hS 3 0 rfl rfl (ix_of c_1 c_2 rfl) d_Rn_keep_22 (fun H locs hP hD hS => ?_)
      replace hP : va_P G vwCl (W_Run cI cL cZ cR cE a0 a1 a2 a3 a4 a5 a6 facts stack (upd handleFacts handleCount.toNatClampNeg k.toInt32) given_values given_givers handleCount height position fault cell) H := hP
      replace hD : va_D A (W_Run cI cL cZ cR cE a0 a1 a2 a3 a4 a5 a6 facts stack (upd handleFacts handleCount.toNatClampNeg k.toInt32) given_values given_givers handleCount height position fault cell) := hD
      refine lv_aload_n hx hb d_Rn_keep_23 rfl (lv_at hl 1 rfl) ?_
      refine lv_dup hx hb d_Rn_keep_24 rfl ?_
      refine va_get (D := G) (ci := 4) (v := .int handleCount) (C := R_Rn) (T := T_Rn) (N := 9) hx hb hts hi_2 hown hK hP 0 rfl rfl 4 (by decide) hk_1 (fun _ h9 => h9) rfl d_Rn_keep_25 ?_
      refine lv_iconst (v := 1) hx hb d_Rn_keep_28 (by decide) ?_
      refine lv_iadd hx hb d_Rn_keep_29 ?_
      refine va_put (D := G) (ci := 4) (v := .int (handleCount + 1)) (ty := (.int)) (C := R_Rn) (T := T_Rn) (N := 9) hx hb hts hi_2 ty_Rn tyk_Rn nm_Rn hown hK hP hD hS 0 rfl rfl 4 (by decide) hk_1 (fun _ h9 => h9) rfl (by decide +kernel) rfl rfl (Nat.le_of_ble_eq_true rfl) d_Rn_keep_30 (fun H locs hP hD hS => ?_)
      replace hP : va_P G vwCl (W_Run cI cL cZ cR cE a0 a1 a2 a3 a4 a5 a6 facts stack (upd handleFacts handleCount.toNatClampNeg k.toInt32) given_values given_givers (handleCount + 1) height position fault cell) H := hP
      replace hD : va_D A (W_Run cI cL cZ cR cE a0 a1 a2 a3 a4 a5 a6 facts stack (upd handleFacts handleCount.toNatClampNeg k.toInt32) given_values given_givers (handleCount + 1) height position fault cell) := hD
      refine lv_iload_n hx hb d_Rn_keep_33 rfl (lv_at hl 0 rfl) ?_
      exact W.iret (v := handleCount) hx hb hr (fun t ht hW => ⟨⟨handleCount, (upd handleFacts handleCount.toNatClampNeg k.toInt32, handleCount + 1), rfl, (by rw [← hT]; simp only [f_keep, if_neg c_1, if_neg c_2]), by rw [ht]; exact hP, va_K.moved hW.alike hK, hD⟩, hS.F ht⟩) hS.2.2 d_Rn_keep_34
def f_factBehind (facts : Nat → Int64) (handleFacts : Nat → Int32) (handleCount : Int32) (k : Int64) : Int64 := if (f_isWithin k 0 ((handleCount - 1).toInt64)) = 0 then 0 else (if 16 ≤ k then 0 else (f_factOf facts ((handleFacts k.toInt32.toNatClampNeg).toInt64)))
set_option maxHeartbeats 4000000 in
set_option maxRecDepth 100000 in
theorem c_factBehind (l : Launch) (G : va_G) (cI cL cZ cR cE : ClassId) (a0 a1 a2 a3 a4 a5 a6 : Nat) (facts : Nat → Int64) (stack : Nat → Int64) (handleFacts : Nat → Int32) (given_values : Nat → Int64) (given_givers : Nat → Int32) (handleCount : Int32) (height : Int32) (position : Int32) (fault : Int32) (cell : Int64) (k : Int64) : Met l y_Rn_factBehind w_Rn_factBehind ({ frames := 2, cells := 0, slots := 0, locals := 47 }) (preR G (TYS cI cL cZ cR cE) [.ref a0, .long k] (W_Run cI cL cZ cR cE a0 a1 a2 a3 a4 a5 a6 facts stack handleFacts given_values given_givers handleCount height position fault cell)) (vp_Sl (fun ans_ => ans_ = f_factBehind facts handleFacts handleCount k)) 0 0 (fun _ => False) := by
  refine Met.ofW (cc := b_Rn_factBehind) (maxL := 4) (ret := (some .long)) (by decide) rfl ?_
  intro p e s m args below meth c s₁ B hml hv
  obtain ⟨rfl, hP, hK, hN⟩ := hv
  have hx := B.exec
  have hb := B.bytes
  have hr := B.returns
  have hts := atoms_spec (ws := w_Rn_factBehind) B.pre
  have hown : s.vm.findClass R_Rn = some m.cls := findClass_of_methodNamed B.named
  have hlocks := B.notSynchronized
  obtain ⟨H, hH⟩ : ∃ H, H = s.heap := ⟨_, rfl⟩
  rw [← hH] at hP
  rw [← hH]
  have hi_2 : ∀ w ∈ u_ws R_Rn T_Rn 9, w ∈ w_Rn_factBehind := fun w h => List.mem_cons_of_mem _ (iu_Rn w h)
  have hk_1 := hts (.fieldLink R_Rn 29 "HandlingRules$Runner" "handleCount" "I") (List.mem_cons_of_mem _ kw_66)
  have hk_3 := hts (.constantLong R_Rn 135 16) (List.mem_cons_of_mem _ kw_363)
  have hk_4 := hts (.fieldLink R_Rn 18 "HandlingRules$Runner" "handleFacts" "[I") (List.mem_cons_of_mem _ kw_63)
  have hl := lv_entry ([.ref a0, .long k]) (n := 4) (Nat.le_of_ble_eq_true rfl)
  rw [lg_entry_eq]
  generalize (lg_sl ([.ref a0, .long k]) ++ List.replicate (4 - (lg_sl ([.ref a0, .long k])).length) Slot.unset).toArray = ls at hl ⊢
  replace hl : lv_has ls 4 [(0, .ref a0), (1, .long k)] := hl
  generalize hT : f_factBehind facts handleFacts handleCount k = T
  refine lv_lload_n hx hb d_Rn_factBehind_0 rfl (lv_at hl 1 rfl) ?_
  refine lv_lconst (v := 0) hx hb d_Rn_factBehind_1 (by decide) ?_
  refine lv_aload_n hx hb d_Rn_factBehind_2 rfl (lv_at hl 0 rfl) ?_
  refine va_get (D := G) (ci := 4) (v := .int handleCount) (C := R_Rn) (T := T_Rn) (N := 9) hx hb hts hi_2 hown hK hP 0 rfl rfl 4 (by decide) hk_1 (fun _ h9 => h9) rfl d_Rn_factBehind_3 ?_
  refine lv_iconst (v := 1) hx hb d_Rn_factBehind_6 (by decide) ?_
  refine lv_isub hx hb d_Rn_factBehind_7 ?_
  refine lv_i2l (v := (handleCount - 1).toInt64) hx hb d_Rn_factBehind_8 rfl ?_
  refine vp_callSi (run_of (va_runSN (As := [.long k, .long 0, .long ((handleCount - 1).toInt64)]) (rest := []) ⟨hx, hb, hml, hown, hts⟩ (c_isWithin l G cI cL cZ cR cE  k 0 ((handleCount - 1).toInt64)) ⟨va_cnB 3 hts (gC kw_180) rfl rfl rfl (nwN_5 hN) (hts _ (List.mem_cons_of_mem _ kw_15)) (by decide +kernel) ⟨Nat.le_of_ble_eq_true rfl, Nat.le_of_ble_eq_true rfl⟩, hts _ (List.mem_cons_of_mem _ kw_179), trivial⟩ (preRS_of hN hK hP [] rfl) rfl rfl hl.1 rfl (lv_room (Nat.le_of_ble_eq_true rfl)) d_Rn_factBehind_9 ⟨Nat.zero_le _, Nat.zero_le _⟩)) (fun r_1 hw => ?_)
  subst hw
  refine lv_if_eq (tgt := 27) hx hb d_Rn_factBehind_12 (by decide) (fun c_2 => ?_) (fun c_2 => ?_)
  · refine lv_iconst (v := 0) hx hb d_Rn_factBehind_27 (by decide) ?_
    refine lv_istore_n (lv' := [(3, .int 0), (0, .ref a0), (1, .long k)]) hx hb d_Rn_factBehind_28 rfl hl (by decide) rfl (fun ls hl => ?_)
    refine lv_iload_n hx hb d_Rn_factBehind_29 rfl (lv_at hl 0 rfl) ?_
    refine lv_if_eq (tgt := 48) hx hb d_Rn_factBehind_30 (by decide) (fun _ => ?_) (fun k_3 => absurd (by decide) k_3)
    refine lv_lconst (v := 0) hx hb d_Rn_factBehind_48 (by decide) ?_
    exact W.lret (v := 0) hx hb hr (fun t ht hW => ⟨0, rfl, (by rw [← hT]; simp only [f_factBehind, if_pos c_2]), by rw [ht, hH]⟩) (fun _ h => by cases h) d_Rn_factBehind_49
  · refine lv_lload_n hx hb d_Rn_factBehind_15 rfl (lv_at hl 1 rfl) ?_
    refine lv_ldc2 (v := 16) hx hb hown hk_3 d_Rn_factBehind_16 ?_
    refine lc_ge (x := k) (y := 16) (tgt := 27) hx hb d_Rn_factBehind_19 d_Rn_factBehind_20 (by decide) (fun c_4 => ?_) (fun c_4 => ?_)
    · refine lv_iconst (v := 0) hx hb d_Rn_factBehind_27 (by decide) ?_
      refine lv_istore_n (lv' := [(3, .int 0), (0, .ref a0), (1, .long k)]) hx hb d_Rn_factBehind_28 rfl hl (by decide) rfl (fun ls hl => ?_)
      refine lv_iload_n hx hb d_Rn_factBehind_29 rfl (lv_at hl 0 rfl) ?_
      refine lv_if_eq (tgt := 48) hx hb d_Rn_factBehind_30 (by decide) (fun _ => ?_) (fun k_5 => absurd (by decide) k_5)
      refine lv_lconst (v := 0) hx hb d_Rn_factBehind_48 (by decide) ?_
      exact W.lret (v := 0) hx hb hr (fun t ht hW => ⟨0, rfl, (by rw [← hT]; simp only [f_factBehind, if_neg c_2, if_pos c_4]), by rw [ht, hH]⟩) (fun _ h => by cases h) d_Rn_factBehind_49
    · refine lv_iconst (v := 1) hx hb d_Rn_factBehind_23 (by decide) ?_
      refine lv_goto (tgt := 28) hx hb d_Rn_factBehind_24 (by decide) ?_
      refine lv_istore_n (lv' := [(3, .int 1), (0, .ref a0), (1, .long k)]) hx hb d_Rn_factBehind_28 rfl hl (by decide) rfl (fun ls hl => ?_)
      refine lv_iload_n hx hb d_Rn_factBehind_29 rfl (lv_at hl 0 rfl) ?_
      refine lv_if_eq (tgt := 48) hx hb d_Rn_factBehind_30 (by decide) (fun k_6 => absurd k_6 (by decide)) (fun _ => ?_)
      refine lv_aload_n hx hb d_Rn_factBehind_33 rfl (lv_at hl 1 rfl) ?_
      refine lv_aload_n hx hb d_Rn_factBehind_34 rfl (lv_at hl 1 rfl) ?_
      refine va_get (D := G) (ci := 4) (v := .ref a3) (C := R_Rn) (T := T_Rn) (N := 9) hx hb hts hi_2 hown hK hP 0 rfl rfl 2 (by decide) hk_4 (fun _ h9 => h9) rfl d_Rn_factBehind_35 ?_
      refine lv_lload_n hx hb d_Rn_factBehind_38 rfl (lv_at hl 2 rfl) ?_
      refine lv_l2i (v := k.toInt32) hx hb d_Rn_factBehind_39 rfl ?_
      refine va_iald hx hb hK hP 3 0 rfl rfl (ix_lw c_2 c_4 rfl (by decide)) d_Rn_factBehind_40 ?_
      refine lv_i2l (v := (handleFacts k.toInt32.toNatClampNeg).toInt64) hx hb d_Rn_factBehind_41 rfl ?_
      refine vp_callSl (W.runV (As := [.long ((handleFacts k.toInt32.toNatClampNeg).toInt64)]) (rest := []) ⟨hx, hb, hml, hown, hts⟩ (c_factOf l G cI cL cZ cR cE a0 a1 a2 a3 a4 a5 a6 facts stack handleFacts given_values given_givers handleCount height position fault cell ((handleFacts k.toInt32.toNatClampNeg).toInt64)) (cwV 1 hts (gV kw_338 kw_339 kw_340 kw_16 kw_341) rfl rfl rfl (by decide +kernel) ⟨Nat.le_of_ble_eq_true rfl, Nat.le_of_ble_eq_true rfl⟩) (preRV_of (ci := 4) hN hK hP [0, 1, 2, 3, 4, 5, 6] rfl rfl rfl) rfl rfl hl.1 rfl (lv_room (Nat.le_of_ble_eq_true rfl)) d_Rn_factBehind_42 ⟨Nat.zero_le _, Nat.zero_le _⟩) (fun r_7 hw => ?_)
      subst hw
      refine lv_goto (tgt := 49) hx hb d_Rn_factBehind_45 (by decide) ?_
      exact W.lret (v := f_factOf facts ((handleFacts k.toInt32.toNatClampNeg).toInt64)) hx hb hr (fun t ht hW => ⟨f_factOf facts ((handleFacts k.toInt32.toNatClampNeg).toInt64), rfl, (by rw [← hT]; simp only [f_factBehind, if_neg c_2, if_neg c_4]), by rw [ht, hH]⟩) (fun _ h => by cases h) d_Rn_factBehind_49
def f_isInside (position : Int32) (zlength : Int32) : Int32 := if position < 0 then 0 else (if zlength ≤ position then 0 else (if 12 ≤ position then 0 else 1))
set_option maxHeartbeats 4000000 in
set_option maxRecDepth 100000 in
theorem c_isInside (l : Launch) (G : va_G) (cI cL cZ cR cE : ClassId) (a0 a1 a2 a3 a4 a5 a6 : Nat) (za0 za1 za2 : Nat) (facts : Nat → Int64) (stack : Nat → Int64) (handleFacts : Nat → Int32) (given_values : Nat → Int64) (given_givers : Nat → Int32) (handleCount : Int32) (height : Int32) (position : Int32) (fault : Int32) (cell : Int64) (znumber : Int32) (zhome : Nat) (zrank : Int32) (zname : Int32) (zops : Nat → Int32) (znumbers : Nat → Int64) (zlength : Int32) (zcell : Int64) (zfallbackKind : Int32) (zfallbackValue : Int64) : Met l y_Rn_isInside w_Rn_isInside ({ frames := 0, cells := 0, slots := 0, locals := 0 }) (preR G (TYS cI cL cZ cR cE) [.ref a0, .ref za0] (W_Run cI cL cZ cR cE a0 a1 a2 a3 a4 a5 a6 facts stack handleFacts given_values given_givers handleCount height position fault cell ++ W_Rul cI cL cZ cR cE za0 za1 za2 znumber zhome zrank zname zops znumbers zlength zcell zfallbackKind zfallbackValue)) (vp_Si (fun ans_ => ans_ = f_isInside position zlength)) 0 0 (fun _ => False) := by
  refine Met.ofW (cc := b_Rn_isInside) (maxL := 2) (ret := (some .boolean)) (by decide) rfl ?_
  intro p e s m args below meth c s₁ B hml hv
  obtain ⟨rfl, hP, hK, hN⟩ := hv
  have hx := B.exec
  have hb := B.bytes
  have hr := B.returns
  have hts := atoms_spec (ws := w_Rn_isInside) B.pre
  have hown : s.vm.findClass R_Rn = some m.cls := findClass_of_methodNamed B.named
  have hlocks := B.notSynchronized
  obtain ⟨H, hH⟩ : ∃ H, H = s.heap := ⟨_, rfl⟩
  rw [← hH] at hP
  rw [← hH]
  have hi_2 : ∀ w ∈ u_ws R_Rn T_Rn 9, w ∈ w_Rn_isInside := fun w h => List.mem_cons_of_mem _ (iu_Rn w h)
  have hi_4 : ∀ w ∈ u_ws R_Ru T_Ru 10, w ∈ w_Rn_isInside := fun w h => List.mem_cons_of_mem _ (iu_Ru w h)
  have hk_1 := hts (.fieldLink R_Rn 36 "HandlingRules$Runner" "position" "I") (List.mem_cons_of_mem _ kw_69)
  have hk_3 := hts (.fieldLink R_Rn 70 "HandlingRules$Rule" "length" "I") (List.mem_cons_of_mem _ kw_200)
  have hl := lv_entry ([.ref a0, .ref za0]) (n := 2) (Nat.le_of_ble_eq_true rfl)
  rw [lg_entry_eq]
  generalize (lg_sl ([.ref a0, .ref za0]) ++ List.replicate (2 - (lg_sl ([.ref a0, .ref za0])).length) Slot.unset).toArray = ls at hl ⊢
  replace hl : lv_has ls 2 [(0, .ref a0), (1, .ref za0)] := hl
  generalize hT : f_isInside position zlength = T
  refine lv_aload_n hx hb d_Rn_isInside_0 rfl (lv_at hl 0 rfl) ?_
  refine va_get (D := G) (ci := 4) (v := .int position) (C := R_Rn) (T := T_Rn) (N := 9) hx hb hts hi_2 hown hK hP 0 rfl rfl 6 (by decide) hk_1 (fun _ h9 => h9) rfl d_Rn_isInside_1 ?_
  refine lv_if_lt (tgt := 31) hx hb d_Rn_isInside_4 (by decide) (fun c_1 => ?_) (fun c_1 => ?_)
  · refine lv_iconst (v := 0) hx hb d_Rn_isInside_31 (by decide) ?_
    exact W.zret (v := 0) hx hb hr rfl (fun t ht hW => ⟨0, rfl, (by rw [← hT]; simp only [f_isInside, if_pos c_1]), by rw [ht, hH]⟩) (fun _ h => by cases h) d_Rn_isInside_32
  · refine lv_aload_n hx hb d_Rn_isInside_7 rfl (lv_at hl 0 rfl) ?_
    refine va_get (D := G) (ci := 4) (v := .int position) (C := R_Rn) (T := T_Rn) (N := 9) hx hb hts hi_2 hown hK hP 0 rfl rfl 6 (by decide) hk_1 (fun _ h9 => h9) rfl d_Rn_isInside_8 ?_
    refine lv_aload_n hx hb d_Rn_isInside_11 rfl (lv_at hl 1 rfl) ?_
    refine va_get (D := G) (ci := 3) (v := .int zlength) (C := R_Ru) (T := T_Ru) (N := 10) hx hb hts hi_4 hown hK hP 7 rfl rfl 6 (by decide) hk_3 (fun _ h9 => h9) rfl d_Rn_isInside_12 ?_
    refine lv_icmp_ge (tgt := 31) hx hb d_Rn_isInside_15 (by decide) (fun c_2 => ?_) (fun c_2 => ?_)
    · refine lv_iconst (v := 0) hx hb d_Rn_isInside_31 (by decide) ?_
      exact W.zret (v := 0) hx hb hr rfl (fun t ht hW => ⟨0, rfl, (by rw [← hT]; simp only [f_isInside, if_neg c_1, if_pos c_2]), by rw [ht, hH]⟩) (fun _ h => by cases h) d_Rn_isInside_32
    · refine lv_aload_n hx hb d_Rn_isInside_18 rfl (lv_at hl 0 rfl) ?_
      refine va_get (D := G) (ci := 4) (v := .int position) (C := R_Rn) (T := T_Rn) (N := 9) hx hb hts hi_2 hown hK hP 0 rfl rfl 6 (by decide) hk_1 (fun _ h9 => h9) rfl d_Rn_isInside_19 ?_
      refine lv_bipush (v := 12) hx hb d_Rn_isInside_22 (by decide) ?_
      refine lv_icmp_ge (tgt := 31) hx hb d_Rn_isInside_24 (by decide) (fun c_3 => ?_) (fun c_3 => ?_)
      · refine lv_iconst (v := 0) hx hb d_Rn_isInside_31 (by decide) ?_
        exact W.zret (v := 0) hx hb hr rfl (fun t ht hW => ⟨0, rfl, (by rw [← hT]; simp only [f_isInside, if_neg c_1, if_neg c_2, if_pos c_3]), by rw [ht, hH]⟩) (fun _ h => by cases h) d_Rn_isInside_32
      · refine lv_iconst (v := 1) hx hb d_Rn_isInside_27 (by decide) ?_
        refine lv_goto (tgt := 32) hx hb d_Rn_isInside_28 (by decide) ?_
        exact W.zret (v := 1) hx hb hr rfl (fun t ht hW => ⟨1, rfl, (by rw [← hT]; simp only [f_isInside, if_neg c_1, if_neg c_2, if_neg c_3]), by rw [ht, hH]⟩) (fun _ h => by cases h) d_Rn_isInside_32
theorem ix_inside {position : Int32} {zlength : Int32} (h : ¬ f_isInside position zlength = 0) : vp_in position 12 := by
  unfold f_isInside at h
  by_cases c1 : position < 0
  · rw [if_pos c1] at h; exact absurd rfl h
  · rw [if_neg c1] at h
    by_cases c2 : zlength ≤ position
    · rw [if_pos c2] at h; exact absurd rfl h
    · rw [if_neg c2] at h
      by_cases c3 : 12 ≤ position
      · rw [if_pos c3] at h; exact absurd rfl h
      · exact ix_of c1 c3 rfl
def f_begin (given_values : Nat → Int64) (given_givers : Nat → Int32) (zcell : Int64) : (Nat → Int64) × (Nat → Int32) × Int32 × Int32 × Int32 × Int64 := match f_clear given_values given_givers with | (x_values_4, x_givers_5) => (x_values_4, x_givers_5, 0, 0, 0, zcell)
set_option maxHeartbeats 4000000 in
set_option maxRecDepth 100000 in
theorem c_begin (l : Launch) (G : va_G) (cI cL cZ cR cE : ClassId) (sz : Nat) (a0 a1 a2 a3 a4 a5 a6 : Nat) (za0 za1 za2 : Nat) (facts : Nat → Int64) (stack : Nat → Int64) (handleFacts : Nat → Int32) (given_values : Nat → Int64) (given_givers : Nat → Int32) (handleCount : Int32) (height : Int32) (position : Int32) (fault : Int32) (cell : Int64) (znumber : Int32) (zhome : Nat) (zrank : Int32) (zname : Int32) (zops : Nat → Int32) (znumbers : Nat → Int64) (zlength : Int32) (zcell : Int64) (zfallbackKind : Int32) (zfallbackValue : Int64) : Met l y_Rn_begin w_Rn_begin ({ frames := 1, cells := 0, slots := 0, locals := 21 }) (preW G (TYS cI cL cZ cR cE) [.ref a0, .ref za0] sz (W_Run cI cL cZ cR cE a0 a1 a2 a3 a4 a5 a6 facts stack handleFacts given_values given_givers handleCount height position fault cell ++ W_Rul cI cL cZ cR cE za0 za1 za2 znumber zhome zrank zname zops znumbers zlength zcell zfallbackKind zfallbackValue)) (va_Qv (fun u : (Nat → Int64) × (Nat → Int32) × Int32 × Int32 × Int32 × Int64 => u = f_begin given_values given_givers zcell) (fun u t => va_P G vwCl (W_Run cI cL cZ cR cE a0 a1 a2 a3 a4 a5 a6 facts stack handleFacts u.1 u.2.1 handleCount u.2.2.1 u.2.2.2.1 u.2.2.2.2.1 u.2.2.2.2.2 ++ W_Rul cI cL cZ cR cE za0 za1 za2 znumber zhome zrank zname zops znumbers zlength zcell zfallbackKind zfallbackValue) t.heap ∧ va_K G vwCl (TYS cI cL cZ cR cE) t ∧ va_D (va_A (W_Run cI cL cZ cR cE a0 a1 a2 a3 a4 a5 a6 facts stack handleFacts given_values given_givers handleCount height position fault cell ++ W_Rul cI cL cZ cR cE za0 za1 za2 znumber zhome zrank zname zops znumbers zlength zcell zfallbackKind zfallbackValue) sz) (W_Run cI cL cZ cR cE a0 a1 a2 a3 a4 a5 a6 facts stack handleFacts u.1 u.2.1 handleCount u.2.2.1 u.2.2.2.1 u.2.2.2.2.1 u.2.2.2.2.2 ++ W_Rul cI cL cZ cR cE za0 za1 za2 znumber zhome zrank zname zops znumbers zlength zcell zfallbackKind zfallbackValue)) (va_A (W_Run cI cL cZ cR cE a0 a1 a2 a3 a4 a5 a6 facts stack handleFacts given_values given_givers handleCount height position fault cell ++ W_Rul cI cL cZ cR cE za0 za1 za2 znumber zhome zrank zname zops znumbers zlength zcell zfallbackKind zfallbackValue) sz)) 0 0 (va_A (W_Run cI cL cZ cR cE a0 a1 a2 a3 a4 a5 a6 facts stack handleFacts given_values given_givers handleCount height position fault cell ++ W_Rul cI cL cZ cR cE za0 za1 za2 znumber zhome zrank zname zops znumbers zlength zcell zfallbackKind zfallbackValue) sz) := by
  refine Met.ofW (cc := b_Rn_begin) (maxL := 2) (ret := none) (by decide) rfl ?_
  intro p e s m args below meth c s₁ B hml hv
  obtain ⟨rfl, hsz, hP, hK, hD0, hN⟩ := hv
  have hx := B.exec
  have hb := B.bytes
  have hr := B.returns
  have hts := atoms_spec (ws := w_Rn_begin) B.pre
  have hown : s.vm.findClass R_Rn = some m.cls := findClass_of_methodNamed B.named
  have hlocks := B.notSynchronized
  subst hsz
  have hD := hD0.self (sz := s.heap.size)
  clear hD0
  generalize hAe : va_A (W_Run cI cL cZ cR cE a0 a1 a2 a3 a4 a5 a6 facts stack handleFacts given_values given_givers handleCount height position fault cell ++ W_Rul cI cL cZ cR cE za0 za1 za2 znumber zhome zrank zname zops znumbers zlength zcell zfallbackKind zfallbackValue) s.heap.size = A at hD ⊢
  have hA : ∀ q : Nat, s.heap.size ≤ q → A q := fun q h => by rw [← hAe]; exact Or.inr h
  clear hAe
  have hS : va_S A s.heap s.heap [] := va_S.rf
  obtain ⟨H, hH⟩ : ∃ H, H = s.heap := ⟨_, rfl⟩
  rw [← hH] at hP
  replace hS : va_S A s.heap H [] := by rw [hH]; exact hS
  rw [← hH]
  clear hH
  have hi_2 : ∀ w ∈ u_ws R_Rn T_Rn 9, w ∈ w_Rn_begin := fun w h => List.mem_cons_of_mem _ (iu_Rn w h)
  have hi_7 : ∀ w ∈ u_ws R_Ru T_Ru 10, w ∈ w_Rn_begin := fun w h => List.mem_cons_of_mem _ (iu_Ru w h)
  have hk_1 := hts (.fieldLink R_Rn 25 "HandlingRules$Runner" "given" "LHandlingRules$Answers;") (List.mem_cons_of_mem _ kw_64)
  have hk_3 := hts (.fieldLink R_Rn 33 "HandlingRules$Runner" "height" "I") (List.mem_cons_of_mem _ kw_68)
  have hk_4 := hts (.fieldLink R_Rn 36 "HandlingRules$Runner" "position" "I") (List.mem_cons_of_mem _ kw_69)
  have hk_5 := hts (.fieldLink R_Rn 39 "HandlingRules$Runner" "fault" "I") (List.mem_cons_of_mem _ kw_70)
  have hk_6 := hts (.fieldLink R_Rn 69 "HandlingRules$Rule" "cell" "J") (List.mem_cons_of_mem _ kw_202)
  have hk_8 := hts (.fieldLink R_Rn 42 "HandlingRules$Runner" "cell" "J") (List.mem_cons_of_mem _ kw_72)
  have hl := lv_entry ([.ref a0, .ref za0]) (n := 2) (Nat.le_of_ble_eq_true rfl)
  rw [lg_entry_eq]
  generalize (lg_sl ([.ref a0, .ref za0]) ++ List.replicate (2 - (lg_sl ([.ref a0, .ref za0])).length) Slot.unset).toArray = ls at hl ⊢
  replace hl : lv_has ls 2 [(0, .ref a0), (1, .ref za0)] := hl
  generalize hT : f_begin given_values given_givers zcell = T
  refine lv_aload_n hx hb d_Rn_begin_0 rfl (lv_at hl 0 rfl) ?_
  refine va_get (D := G) (ci := 4) (v := .ref a4) (C := R_Rn) (T := T_Rn) (N := 9) hx hb hts hi_2 hown hK hP 0 rfl rfl 3 (by decide) hk_1 (fun _ h9 => h9) rfl d_Rn_begin_1 ?_
  refine cl_v hK hP hD hS hA (va_runV (As := []) (rest := []) ⟨hx, hb, hml, hown, hts⟩ (c_clear l G cI cL cZ cR cE H.size a4 a5 a6 given_values given_givers) (cwV 0 hts (gV kw_296 kw_297 kw_298 kw_17 kw_299) rfl rfl rfl (by decide +kernel) ⟨Nat.le_of_ble_eq_true rfl, Nat.le_of_ble_eq_true rfl⟩) (preWV_of (ci := 0) hN hK hP hD [4, 5, 6] (by decide) rfl rfl rfl) rfl rfl hl.1 rfl (lv_room (Nat.le_of_ble_eq_true rfl)) d_Rn_begin_4 ⟨Nat.le_of_ble_eq_true rfl, Nat.le_of_ble_eq_true rfl⟩) [4, 5, 6] [0, 1, 2, 3, 7, 8, 9] rfl rfl (by decide) (by decide) (fun u H locs hw_3 hP hD hS => ?_)
  obtain ⟨x_values_4, x_givers_5⟩ := u
  replace hP : va_P G vwCl (W_Run cI cL cZ cR cE a0 a1 a2 a3 a4 a5 a6 facts stack handleFacts x_values_4 x_givers_5 handleCount height position fault cell ++ W_Rul cI cL cZ cR cE za0 za1 za2 znumber zhome zrank zname zops znumbers zlength zcell zfallbackKind zfallbackValue) H := hP.sub [0, 1, 2, 3, 7, 8, 9, 4, 5, 6] rfl
  replace hD : va_D A (W_Run cI cL cZ cR cE a0 a1 a2 a3 a4 a5 a6 facts stack handleFacts x_values_4 x_givers_5 handleCount height position fault cell ++ W_Rul cI cL cZ cR cE za0 za1 za2 znumber zhome zrank zname zops znumbers zlength zcell zfallbackKind zfallbackValue) := hD.sub [0, 1, 2, 3, 7, 8, 9, 4, 5, 6] (by decide) rfl
  refine lv_aload_n hx hb d_Rn_begin_7 rfl (lv_at hl 0 rfl) ?_
  refine lv_iconst (v := 0) hx hb d_Rn_begin_8 (by decide) ?_
  refine va_put (D := G) (ci := 4) (v := .int 0) (ty := (.int)) (C := R_Rn) (T := T_Rn) (N := 9) hx hb hts hi_2 ty_Rn tyk_Rn nm_Rn hown hK hP hD hS 0 rfl rfl 5 (by decide) hk_3 (fun _ h9 => h9) rfl (by decide +kernel) rfl rfl (Nat.le_of_ble_eq_true rfl) d_Rn_begin_9 (fun H locs hP hD hS => ?_)
  replace hP : va_P G vwCl (W_Run cI cL cZ cR cE a0 a1 a2 a3 a4 a5 a6 facts stack handleFacts x_values_4 x_givers_5 handleCount 0 position fault cell ++ W_Rul cI cL cZ cR cE za0 za1 za2 znumber zhome zrank zname zops znumbers zlength zcell zfallbackKind zfallbackValue) H := hP
  replace hD : va_D A (W_Run cI cL cZ cR cE a0 a1 a2 a3 a4 a5 a6 facts stack handleFacts x_values_4 x_givers_5 handleCount 0 position fault cell ++ W_Rul cI cL cZ cR cE za0 za1 za2 znumber zhome zrank zname zops znumbers zlength zcell zfallbackKind zfallbackValue) := hD
  refine lv_aload_n hx hb d_Rn_begin_12 rfl (lv_at hl 0 rfl) ?_
  refine lv_iconst (v := 0) hx hb d_Rn_begin_13 (by decide) ?_
  refine va_put (D := G) (ci := 4) (v := .int 0) (ty := (.int)) (C := R_Rn) (T := T_Rn) (N := 9) hx hb hts hi_2 ty_Rn tyk_Rn nm_Rn hown hK hP hD hS 0 rfl rfl 6 (by decide) hk_4 (fun _ h9 => h9) rfl (by decide +kernel) rfl rfl (Nat.le_of_ble_eq_true rfl) d_Rn_begin_14 (fun H locs hP hD hS => ?_)
  replace hP : va_P G vwCl (W_Run cI cL cZ cR cE a0 a1 a2 a3 a4 a5 a6 facts stack handleFacts x_values_4 x_givers_5 handleCount 0 0 fault cell ++ W_Rul cI cL cZ cR cE za0 za1 za2 znumber zhome zrank zname zops znumbers zlength zcell zfallbackKind zfallbackValue) H := hP
  replace hD : va_D A (W_Run cI cL cZ cR cE a0 a1 a2 a3 a4 a5 a6 facts stack handleFacts x_values_4 x_givers_5 handleCount 0 0 fault cell ++ W_Rul cI cL cZ cR cE za0 za1 za2 znumber zhome zrank zname zops znumbers zlength zcell zfallbackKind zfallbackValue) := hD
  refine lv_aload_n hx hb d_Rn_begin_17 rfl (lv_at hl 0 rfl) ?_
  refine lv_iconst (v := 0) hx hb d_Rn_begin_18 (by decide) ?_
  refine va_put (D := G) (ci := 4) (v := .int 0) (ty := (.int)) (C := R_Rn) (T := T_Rn) (N := 9) hx hb hts hi_2 ty_Rn tyk_Rn nm_Rn hown hK hP hD hS 0 rfl rfl 7 (by decide) hk_5 (fun _ h9 => h9) rfl (by decide +kernel) rfl rfl (Nat.le_of_ble_eq_true rfl) d_Rn_begin_19 (fun H locs hP hD hS => ?_)
  replace hP : va_P G vwCl (W_Run cI cL cZ cR cE a0 a1 a2 a3 a4 a5 a6 facts stack handleFacts x_values_4 x_givers_5 handleCount 0 0 0 cell ++ W_Rul cI cL cZ cR cE za0 za1 za2 znumber zhome zrank zname zops znumbers zlength zcell zfallbackKind zfallbackValue) H := hP
  replace hD : va_D A (W_Run cI cL cZ cR cE a0 a1 a2 a3 a4 a5 a6 facts stack handleFacts x_values_4 x_givers_5 handleCount 0 0 0 cell ++ W_Rul cI cL cZ cR cE za0 za1 za2 znumber zhome zrank zname zops znumbers zlength zcell zfallbackKind zfallbackValue) := hD
  refine lv_aload_n hx hb d_Rn_begin_22 rfl (lv_at hl 0 rfl) ?_
  refine lv_aload_n hx hb d_Rn_begin_23 rfl (lv_at hl 1 rfl) ?_
  refine va_get (D := G) (ci := 3) (v := .long zcell) (C := R_Ru) (T := T_Ru) (N := 10) hx hb hts hi_7 hown hK hP 7 rfl rfl 7 (by decide) hk_6 (fun _ h9 => h9) rfl d_Rn_begin_24 ?_
  refine va_put (D := G) (ci := 4) (v := .long zcell) (ty := (.long)) (C := R_Rn) (T := T_Rn) (N := 9) hx hb hts hi_2 ty_Rn tyk_Rn nm_Rn hown hK hP hD hS 0 rfl rfl 8 (by decide) hk_8 (fun _ h9 => h9) rfl (by decide +kernel) rfl rfl (Nat.le_of_ble_eq_true rfl) d_Rn_begin_27 (fun H locs hP hD hS => ?_)
  replace hP : va_P G vwCl (W_Run cI cL cZ cR cE a0 a1 a2 a3 a4 a5 a6 facts stack handleFacts x_values_4 x_givers_5 handleCount 0 0 0 zcell ++ W_Rul cI cL cZ cR cE za0 za1 za2 znumber zhome zrank zname zops znumbers zlength zcell zfallbackKind zfallbackValue) H := hP
  replace hD : va_D A (W_Run cI cL cZ cR cE a0 a1 a2 a3 a4 a5 a6 facts stack handleFacts x_values_4 x_givers_5 handleCount 0 0 0 zcell ++ W_Rul cI cL cZ cR cE za0 za1 za2 znumber zhome zrank zname zops znumbers zlength zcell zfallbackKind zfallbackValue) := hD
  exact W.vret hx hb hr (fun t ht hW => ⟨⟨(x_values_4, x_givers_5, 0, 0, 0, zcell), rfl, (by rw [← hT]; simp only [f_begin, ← hw_3]), by rw [ht]; exact hP, va_K.moved hW.alike hK, hD⟩, hS.F ht⟩) hS.2.2 d_Rn_begin_30
