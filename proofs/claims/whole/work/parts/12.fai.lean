def f_addFail (ruleNumbers : Nat → Int32) (hows : Nat → Int32) (count : Int32) (num : Int32) (how : Int32) : (Nat → Int32) × (Nat → Int32) × Int32 := if 8 ≤ count then (ruleNumbers, hows, count) else (upd ruleNumbers count.toNatClampNeg num, upd hows count.toNatClampNeg how, count + 1)
set_option maxHeartbeats 4000000 in
set_option maxRecDepth 100000 in
theorem c_addFail (l : Launch) (G : va_G) (cI cL cZ cR cE : ClassId) (sz : Nat) (a0 a1 a2 : Nat) (ruleNumbers : Nat → Int32) (hows : Nat → Int32) (count : Int32) (num : Int32) (how : Int32) (hc0 : ¬ count < 0) : Met l y_Fa_add w_Fa_add ({ frames := 0, cells := 0, slots := 0, locals := 0 }) (preW G (TYS cI cL cZ cR cE) [.ref a0, .int num, .int how] sz (W_Fai cI cL cZ cR cE a0 a1 a2 ruleNumbers hows count)) (va_Qv (fun u : (Nat → Int32) × (Nat → Int32) × Int32 => u = f_addFail ruleNumbers hows count num how) (fun u t => va_P G vwCl (W_Fai cI cL cZ cR cE a0 a1 a2 u.1 u.2.1 u.2.2) t.heap ∧ va_K G vwCl (TYS cI cL cZ cR cE) t ∧ va_D (va_A (W_Fai cI cL cZ cR cE a0 a1 a2 ruleNumbers hows count) sz) (W_Fai cI cL cZ cR cE a0 a1 a2 u.1 u.2.1 u.2.2)) (va_A (W_Fai cI cL cZ cR cE a0 a1 a2 ruleNumbers hows count) sz)) 0 0 (va_A (W_Fai cI cL cZ cR cE a0 a1 a2 ruleNumbers hows count) sz) := by
  refine Met.ofW (cc := b_Fa_add) (maxL := 3) (ret := none) (by decide) rfl ?_
  intro p e s m args below meth c s₁ B hml hv
  obtain ⟨rfl, hsz, hP, hK, hD0, hN⟩ := hv
  have hx := B.exec
  have hb := B.bytes
  have hr := B.returns
  have hts := atoms_spec (ws := w_Fa_add) B.pre
  have hown : s.vm.findClass R_Fa = some m.cls := findClass_of_methodNamed B.named
  have hlocks := B.notSynchronized
  subst hsz
  have hD := hD0.self (sz := s.heap.size)
  clear hD0
  generalize hAe : va_A (W_Fai cI cL cZ cR cE a0 a1 a2 ruleNumbers hows count) s.heap.size = A at hD ⊢
  have hA : ∀ q : Nat, s.heap.size ≤ q → A q := fun q h => by rw [← hAe]; exact Or.inr h
  clear hAe
  have hS : va_S A s.heap s.heap [] := va_S.rf
  obtain ⟨H, hH⟩ : ∃ H, H = s.heap := ⟨_, rfl⟩
  rw [← hH] at hP
  replace hS : va_S A s.heap H [] := by rw [hH]; exact hS
  rw [← hH]
  clear hH
  have hi_2 : ∀ w ∈ u_ws R_Fa T_Fa 3, w ∈ w_Fa_add := fun w h => List.mem_cons_of_mem _ (iu_Fa w h)
  have hk_1 := hts (.fieldLink R_Fa 18 "HandlingRules$Failures" "count" "I") (List.mem_cons_of_mem _ kw_103)
  have hk_3 := hts (.fieldLink R_Fa 9 "HandlingRules$Failures" "ruleNumbers" "[I") (List.mem_cons_of_mem _ kw_101)
  have hk_4 := hts (.fieldLink R_Fa 15 "HandlingRules$Failures" "hows" "[I") (List.mem_cons_of_mem _ kw_102)
  have hl := lv_entry ([.ref a0, .int num, .int how]) (n := 3) (Nat.le_of_ble_eq_true rfl)
  rw [lg_entry_eq]
  generalize (lg_sl ([.ref a0, .int num, .int how]) ++ List.replicate (3 - (lg_sl ([.ref a0, .int num, .int how])).length) Slot.unset).toArray = ls at hl ⊢
  replace hl : lv_has ls 3 [(0, .ref a0), (1, .int num), (2, .int how)] := hl
  generalize hT : f_addFail ruleNumbers hows count num how = T
  refine lv_aload_n hx hb d_Fa_add_0 rfl (lv_at hl 0 rfl) ?_
  refine va_get (D := G) (ci := 2) (v := .int count) (C := R_Fa) (T := T_Fa) (N := 3) hx hb hts hi_2 hown hK hP 0 rfl rfl 2 (by decide) hk_1 (fun _ h9 => h9) rfl d_Fa_add_1 ?_
  refine lv_bipush (v := 8) hx hb d_Fa_add_4 (by decide) ?_
  refine lv_icmp_ge (tgt := 39) hx hb d_Fa_add_6 (by decide) (fun c_1 => ?_) (fun c_1 => ?_)
  · exact W.vret hx hb hr (fun t ht hW => ⟨⟨(ruleNumbers, hows, count), rfl, (by rw [← hT]; simp only [f_addFail, if_pos c_1]), by rw [ht]; exact hP, va_K.moved hW.alike hK, hD⟩, hS.F ht⟩) hS.2.2 d_Fa_add_39
  · refine lv_aload_n hx hb d_Fa_add_9 rfl (lv_at hl 0 rfl) ?_
    refine va_get (D := G) (ci := 2) (v := .ref a1) (C := R_Fa) (T := T_Fa) (N := 3) hx hb hts hi_2 hown hK hP 0 rfl rfl 0 (by decide) hk_3 (fun _ h9 => h9) rfl d_Fa_add_10 ?_
    refine lv_aload_n hx hb d_Fa_add_13 rfl (lv_at hl 0 rfl) ?_
    refine va_get (D := G) (ci := 2) (v := .int count) (C := R_Fa) (T := T_Fa) (N := 3) hx hb hts hi_2 hown hK hP 0 rfl rfl 2 (by decide) hk_1 (fun _ h9 => h9) rfl d_Fa_add_14 ?_
    refine lv_iload_n hx hb d_Fa_add_17 rfl (lv_at hl 1 rfl) ?_
    refine va_iast hx hb hK hP hD hS 1 0 rfl rfl (ix_of hc0 c_1 rfl) d_Fa_add_18 (fun H locs hP hD hS => ?_)
    replace hP : va_P G vwCl (W_Fai cI cL cZ cR cE a0 a1 a2 (upd ruleNumbers count.toNatClampNeg num) hows count) H := hP
    replace hD : va_D A (W_Fai cI cL cZ cR cE a0 a1 a2 (upd ruleNumbers count.toNatClampNeg num) hows count) := hD
    refine lv_aload_n hx hb d_Fa_add_19 rfl (lv_at hl 0 rfl) ?_
    refine va_get (D := G) (ci := 2) (v := .ref a2) (C := R_Fa) (T := T_Fa) (N := 3) hx hb hts hi_2 hown hK hP 0 rfl rfl 1 (by decide) hk_4 (fun _ h9 => h9) rfl d_Fa_add_20 ?_
    refine lv_aload_n hx hb d_Fa_add_23 rfl (lv_at hl 0 rfl) ?_
    refine va_get (D := G) (ci := 2) (v := .int count) (C := R_Fa) (T := T_Fa) (N := 3) hx hb hts hi_2 hown hK hP 0 rfl rfl 2 (by decide) hk_1 (fun _ h9 => h9) rfl d_Fa_add_24 ?_
    refine lv_iload_n hx hb d_Fa_add_27 rfl (lv_at hl 2 rfl) ?_
    refine va_iast hx hb hK hP hD hS 2 0 rfl rfl (ix_of hc0 c_1 rfl) d_Fa_add_28 (fun H locs hP hD hS => ?_)
    replace hP : va_P G vwCl (W_Fai cI cL cZ cR cE a0 a1 a2 (upd ruleNumbers count.toNatClampNeg num) (upd hows count.toNatClampNeg how) count) H := hP
    replace hD : va_D A (W_Fai cI cL cZ cR cE a0 a1 a2 (upd ruleNumbers count.toNatClampNeg num) (upd hows count.toNatClampNeg how) count) := hD
    refine lv_aload_n hx hb d_Fa_add_29 rfl (lv_at hl 0 rfl) ?_
    refine lv_dup hx hb d_Fa_add_30 rfl ?_
    refine va_get (D := G) (ci := 2) (v := .int count) (C := R_Fa) (T := T_Fa) (N := 3) hx hb hts hi_2 hown hK hP 0 rfl rfl 2 (by decide) hk_1 (fun _ h9 => h9) rfl d_Fa_add_31 ?_
    refine lv_iconst (v := 1) hx hb d_Fa_add_34 (by decide) ?_
    refine lv_iadd hx hb d_Fa_add_35 ?_
    refine va_put (D := G) (ci := 2) (v := .int (count + 1)) (ty := (.int)) (C := R_Fa) (T := T_Fa) (N := 3) hx hb hts hi_2 ty_Fa tyk_Fa nm_Fa hown hK hP hD hS 0 rfl rfl 2 (by decide) hk_1 (fun _ h9 => h9) rfl (by decide +kernel) rfl rfl (Nat.le_of_ble_eq_true rfl) d_Fa_add_36 (fun H locs hP hD hS => ?_)
    replace hP : va_P G vwCl (W_Fai cI cL cZ cR cE a0 a1 a2 (upd ruleNumbers count.toNatClampNeg num) (upd hows count.toNatClampNeg how) (count + 1)) H := hP
    replace hD : va_D A (W_Fai cI cL cZ cR cE a0 a1 a2 (upd ruleNumbers count.toNatClampNeg num) (upd hows count.toNatClampNeg how) (count + 1)) := hD
    exact W.vret hx hb hr (fun t ht hW => ⟨⟨(upd ruleNumbers count.toNatClampNeg num, upd hows count.toNatClampNeg how, count + 1), rfl, (by rw [← hT]; simp only [f_addFail, if_neg c_1]), by rw [ht]; exact hP, va_K.moved hW.alike hK, hD⟩, hS.F ht⟩) hS.2.2 d_Fa_add_39
def f_numberAt (ruleNumbers : Nat → Int32) (count : Int32) (i : Int32) : Int32 := if i < 0 then (-1) else (if count ≤ i then (-1) else (if 8 ≤ i then (-1) else (ruleNumbers i.toNatClampNeg)))
set_option maxHeartbeats 4000000 in
set_option maxRecDepth 100000 in
theorem c_numberAt (l : Launch) (G : va_G) (cI cL cZ cR cE : ClassId) (a0 a1 a2 : Nat) (ruleNumbers : Nat → Int32) (hows : Nat → Int32) (count : Int32) (i : Int32) : Met l y_Fa_numberAt w_Fa_numberAt ({ frames := 0, cells := 0, slots := 0, locals := 0 }) (preR G (TYS cI cL cZ cR cE) [.ref a0, .int i] (W_Fai cI cL cZ cR cE a0 a1 a2 ruleNumbers hows count)) (vp_Si (fun ans_ => ans_ = f_numberAt ruleNumbers count i)) 0 0 (fun _ => False) := by
  refine Met.ofW (cc := b_Fa_numberAt) (maxL := 2) (ret := (some .int)) (by decide) rfl ?_
  intro p e s m args below meth c s₁ B hml hv
  obtain ⟨rfl, hP, hK, hN⟩ := hv
  have hx := B.exec
  have hb := B.bytes
  have hr := B.returns
  have hts := atoms_spec (ws := w_Fa_numberAt) B.pre
  have hown : s.vm.findClass R_Fa = some m.cls := findClass_of_methodNamed B.named
  have hlocks := B.notSynchronized
  obtain ⟨H, hH⟩ : ∃ H, H = s.heap := ⟨_, rfl⟩
  rw [← hH] at hP
  rw [← hH]
  have hi_2 : ∀ w ∈ u_ws R_Fa T_Fa 3, w ∈ w_Fa_numberAt := fun w h => List.mem_cons_of_mem _ (iu_Fa w h)
  have hk_1 := hts (.fieldLink R_Fa 18 "HandlingRules$Failures" "count" "I") (List.mem_cons_of_mem _ kw_103)
  have hk_3 := hts (.fieldLink R_Fa 9 "HandlingRules$Failures" "ruleNumbers" "[I") (List.mem_cons_of_mem _ kw_101)
  have hl := lv_entry ([.ref a0, .int i]) (n := 2) (Nat.le_of_ble_eq_true rfl)
  rw [lg_entry_eq]
  generalize (lg_sl ([.ref a0, .int i]) ++ List.replicate (2 - (lg_sl ([.ref a0, .int i])).length) Slot.unset).toArray = ls at hl ⊢
  replace hl : lv_has ls 2 [(0, .ref a0), (1, .int i)] := hl
  generalize hT : f_numberAt ruleNumbers count i = T
  refine lv_iload_n hx hb d_Fa_numberAt_0 rfl (lv_at hl 1 rfl) ?_
  refine lv_if_lt (tgt := 27) hx hb d_Fa_numberAt_1 (by decide) (fun c_1 => ?_) (fun c_1 => ?_)
  · refine lv_iconst (v := (-1)) hx hb d_Fa_numberAt_27 (by decide) ?_
    exact W.iret (v := (-1)) hx hb hr (fun t ht hW => ⟨(-1), rfl, (by rw [← hT]; simp only [f_numberAt, if_pos c_1]), by rw [ht, hH]⟩) (fun _ h => by cases h) d_Fa_numberAt_28
  · refine lv_iload_n hx hb d_Fa_numberAt_4 rfl (lv_at hl 1 rfl) ?_
    refine lv_aload_n hx hb d_Fa_numberAt_5 rfl (lv_at hl 0 rfl) ?_
    refine va_get (D := G) (ci := 2) (v := .int count) (C := R_Fa) (T := T_Fa) (N := 3) hx hb hts hi_2 hown hK hP 0 rfl rfl 2 (by decide) hk_1 (fun _ h9 => h9) rfl d_Fa_numberAt_6 ?_
    refine lv_icmp_ge (tgt := 27) hx hb d_Fa_numberAt_9 (by decide) (fun c_2 => ?_) (fun c_2 => ?_)
    · refine lv_iconst (v := (-1)) hx hb d_Fa_numberAt_27 (by decide) ?_
      exact W.iret (v := (-1)) hx hb hr (fun t ht hW => ⟨(-1), rfl, (by rw [← hT]; simp only [f_numberAt, if_neg c_1, if_pos c_2]), by rw [ht, hH]⟩) (fun _ h => by cases h) d_Fa_numberAt_28
    · refine lv_iload_n hx hb d_Fa_numberAt_12 rfl (lv_at hl 1 rfl) ?_
      refine lv_bipush (v := 8) hx hb d_Fa_numberAt_13 (by decide) ?_
      refine lv_icmp_ge (tgt := 27) hx hb d_Fa_numberAt_15 (by decide) (fun c_3 => ?_) (fun c_3 => ?_)
      · refine lv_iconst (v := (-1)) hx hb d_Fa_numberAt_27 (by decide) ?_
        exact W.iret (v := (-1)) hx hb hr (fun t ht hW => ⟨(-1), rfl, (by rw [← hT]; simp only [f_numberAt, if_neg c_1, if_neg c_2, if_pos c_3]), by rw [ht, hH]⟩) (fun _ h => by cases h) d_Fa_numberAt_28
      · refine lv_aload_n hx hb d_Fa_numberAt_18 rfl (lv_at hl 0 rfl) ?_
        refine va_get (D := G) (ci := 2) (v := .ref a1) (C := R_Fa) (T := T_Fa) (N := 3) hx hb hts hi_2 hown hK hP 0 rfl rfl 0 (by decide) hk_3 (fun _ h9 => h9) rfl d_Fa_numberAt_19 ?_
        refine lv_iload_n hx hb d_Fa_numberAt_22 rfl (lv_at hl 1 rfl) ?_
        refine va_iald hx hb hK hP 1 0 rfl rfl (ix_of c_1 c_3 rfl) d_Fa_numberAt_23 ?_
        refine lv_goto (tgt := 28) hx hb d_Fa_numberAt_24 (by decide) ?_
        exact W.iret (v := ruleNumbers i.toNatClampNeg) hx hb hr (fun t ht hW => ⟨ruleNumbers i.toNatClampNeg, rfl, (by rw [← hT]; simp only [f_numberAt, if_neg c_1, if_neg c_2, if_neg c_3]), by rw [ht, hH]⟩) (fun _ h => by cases h) d_Fa_numberAt_28
def f_howAt (hows : Nat → Int32) (count : Int32) (i : Int32) : Int32 := if i < 0 then (-1) else (if count ≤ i then (-1) else (if 8 ≤ i then (-1) else (hows i.toNatClampNeg)))
set_option maxHeartbeats 4000000 in
set_option maxRecDepth 100000 in
theorem c_howAt (l : Launch) (G : va_G) (cI cL cZ cR cE : ClassId) (a0 a1 a2 : Nat) (ruleNumbers : Nat → Int32) (hows : Nat → Int32) (count : Int32) (i : Int32) : Met l y_Fa_howAt w_Fa_howAt ({ frames := 0, cells := 0, slots := 0, locals := 0 }) (preR G (TYS cI cL cZ cR cE) [.ref a0, .int i] (W_Fai cI cL cZ cR cE a0 a1 a2 ruleNumbers hows count)) (vp_Si (fun ans_ => ans_ = f_howAt hows count i)) 0 0 (fun _ => False) := by
  refine Met.ofW (cc := b_Fa_howAt) (maxL := 2) (ret := (some .int)) (by decide) rfl ?_
  intro p e s m args below meth c s₁ B hml hv
  obtain ⟨rfl, hP, hK, hN⟩ := hv
  have hx := B.exec
  have hb := B.bytes
  have hr := B.returns
  have hts := atoms_spec (ws := w_Fa_howAt) B.pre
  have hown : s.vm.findClass R_Fa = some m.cls := findClass_of_methodNamed B.named
  have hlocks := B.notSynchronized
  obtain ⟨H, hH⟩ : ∃ H, H = s.heap := ⟨_, rfl⟩
  rw [← hH] at hP
  rw [← hH]
  have hi_2 : ∀ w ∈ u_ws R_Fa T_Fa 3, w ∈ w_Fa_howAt := fun w h => List.mem_cons_of_mem _ (iu_Fa w h)
  have hk_1 := hts (.fieldLink R_Fa 18 "HandlingRules$Failures" "count" "I") (List.mem_cons_of_mem _ kw_103)
  have hk_3 := hts (.fieldLink R_Fa 15 "HandlingRules$Failures" "hows" "[I") (List.mem_cons_of_mem _ kw_102)
  have hl := lv_entry ([.ref a0, .int i]) (n := 2) (Nat.le_of_ble_eq_true rfl)
  rw [lg_entry_eq]
  generalize (lg_sl ([.ref a0, .int i]) ++ List.replicate (2 - (lg_sl ([.ref a0, .int i])).length) Slot.unset).toArray = ls at hl ⊢
  replace hl : lv_has ls 2 [(0, .ref a0), (1, .int i)] := hl
  generalize hT : f_howAt hows count i = T
  refine lv_iload_n hx hb d_Fa_howAt_0 rfl (lv_at hl 1 rfl) ?_
  refine lv_if_lt (tgt := 27) hx hb d_Fa_howAt_1 (by decide) (fun c_1 => ?_) (fun c_1 => ?_)
  · refine lv_iconst (v := (-1)) hx hb d_Fa_howAt_27 (by decide) ?_
    exact W.iret (v := (-1)) hx hb hr (fun t ht hW => ⟨(-1), rfl, (by rw [← hT]; simp only [f_howAt, if_pos c_1]), by rw [ht, hH]⟩) (fun _ h => by cases h) d_Fa_howAt_28
  · refine lv_iload_n hx hb d_Fa_howAt_4 rfl (lv_at hl 1 rfl) ?_
    refine lv_aload_n hx hb d_Fa_howAt_5 rfl (lv_at hl 0 rfl) ?_
    refine va_get (D := G) (ci := 2) (v := .int count) (C := R_Fa) (T := T_Fa) (N := 3) hx hb hts hi_2 hown hK hP 0 rfl rfl 2 (by decide) hk_1 (fun _ h9 => h9) rfl d_Fa_howAt_6 ?_
    refine lv_icmp_ge (tgt := 27) hx hb d_Fa_howAt_9 (by decide) (fun c_2 => ?_) (fun c_2 => ?_)
    · refine lv_iconst (v := (-1)) hx hb d_Fa_howAt_27 (by decide) ?_
      exact W.iret (v := (-1)) hx hb hr (fun t ht hW => ⟨(-1), rfl, (by rw [← hT]; simp only [f_howAt, if_neg c_1, if_pos c_2]), by rw [ht, hH]⟩) (fun _ h => by cases h) d_Fa_howAt_28
    · refine lv_iload_n hx hb d_Fa_howAt_12 rfl (lv_at hl 1 rfl) ?_
      refine lv_bipush (v := 8) hx hb d_Fa_howAt_13 (by decide) ?_
      refine lv_icmp_ge (tgt := 27) hx hb d_Fa_howAt_15 (by decide) (fun c_3 => ?_) (fun c_3 => ?_)
      · refine lv_iconst (v := (-1)) hx hb d_Fa_howAt_27 (by decide) ?_
        exact W.iret (v := (-1)) hx hb hr (fun t ht hW => ⟨(-1), rfl, (by rw [← hT]; simp only [f_howAt, if_neg c_1, if_neg c_2, if_pos c_3]), by rw [ht, hH]⟩) (fun _ h => by cases h) d_Fa_howAt_28
      · refine lv_aload_n hx hb d_Fa_howAt_18 rfl (lv_at hl 0 rfl) ?_
        refine va_get (D := G) (ci := 2) (v := .ref a2) (C := R_Fa) (T := T_Fa) (N := 3) hx hb hts hi_2 hown hK hP 0 rfl rfl 1 (by decide) hk_3 (fun _ h9 => h9) rfl d_Fa_howAt_19 ?_
        refine lv_iload_n hx hb d_Fa_howAt_22 rfl (lv_at hl 1 rfl) ?_
        refine va_iald hx hb hK hP 2 0 rfl rfl (ix_of c_1 c_3 rfl) d_Fa_howAt_23 ?_
        refine lv_goto (tgt := 28) hx hb d_Fa_howAt_24 (by decide) ?_
        exact W.iret (v := hows i.toNatClampNeg) hx hb hr (fun t ht hW => ⟨hows i.toNatClampNeg, rfl, (by rw [← hT]; simp only [f_howAt, if_neg c_1, if_neg c_2, if_neg c_3]), by rw [ht, hH]⟩) (fun _ h => by cases h) d_Fa_howAt_28
