def f_append (ops : Nat → Int32) (numbers : Nat → Int64) (length : Int32) (op : Int32) (n : Int64) : (Nat → Int32) × (Nat → Int64) × Int32 := if 12 ≤ length then (ops, numbers, length) else (upd ops length.toNatClampNeg op, vp_updL numbers length.toNatClampNeg n, length + 1)
set_option maxHeartbeats 4000000 in
set_option maxRecDepth 100000 in
theorem c_append (l : Launch) (G : va_G) (cI cL cZ cR cE : ClassId) (sz : Nat) (a0 a1 a2 : Nat) (number : Int32) (home : Nat) (rank : Int32) (name : Int32) (ops : Nat → Int32) (numbers : Nat → Int64) (length : Int32) (cell : Int64) (fallbackKind : Int32) (fallbackValue : Int64) (op : Int32) (n : Int64) (hc0 : ¬ length < 0) : Met l y_Ru_append w_Ru_append ({ frames := 0, cells := 0, slots := 0, locals := 0 }) (preW G (TYS cI cL cZ cR cE) [.ref a0, .int op, .long n] sz (W_Rul cI cL cZ cR cE a0 a1 a2 number home rank name ops numbers length cell fallbackKind fallbackValue)) (va_Qv (fun u : (Nat → Int32) × (Nat → Int64) × Int32 => u = f_append ops numbers length op n) (fun u t => va_P G vwCl (W_Rul cI cL cZ cR cE a0 a1 a2 number home rank name u.1 u.2.1 u.2.2 cell fallbackKind fallbackValue) t.heap ∧ va_K G vwCl (TYS cI cL cZ cR cE) t ∧ va_D (va_A (W_Rul cI cL cZ cR cE a0 a1 a2 number home rank name ops numbers length cell fallbackKind fallbackValue) sz) (W_Rul cI cL cZ cR cE a0 a1 a2 number home rank name u.1 u.2.1 u.2.2 cell fallbackKind fallbackValue)) (va_A (W_Rul cI cL cZ cR cE a0 a1 a2 number home rank name ops numbers length cell fallbackKind fallbackValue) sz)) 0 0 (va_A (W_Rul cI cL cZ cR cE a0 a1 a2 number home rank name ops numbers length cell fallbackKind fallbackValue) sz) := by
  refine Met.ofW (cc := b_Ru_append) (maxL := 4) (ret := none) (by decide) rfl ?_
  intro p e s m args below meth c s₁ B hml hv
  obtain ⟨rfl, hsz, hP, hK, hD0, hN⟩ := hv
  have hx := B.exec
  have hb := B.bytes
  have hr := B.returns
  have hts := atoms_spec (ws := w_Ru_append) B.pre
  have hown : s.vm.findClass R_Ru = some m.cls := findClass_of_methodNamed B.named
  have hlocks := B.notSynchronized
  subst hsz
  have hD := hD0.self (sz := s.heap.size)
  clear hD0
  generalize hAe : va_A (W_Rul cI cL cZ cR cE a0 a1 a2 number home rank name ops numbers length cell fallbackKind fallbackValue) s.heap.size = A at hD ⊢
  have hA : ∀ q : Nat, s.heap.size ≤ q → A q := fun q h => by rw [← hAe]; exact Or.inr h
  clear hAe
  have hS : va_S A s.heap s.heap [] := va_S.rf
  obtain ⟨H, hH⟩ : ∃ H, H = s.heap := ⟨_, rfl⟩
  rw [← hH] at hP
  replace hS : va_S A s.heap H [] := by rw [hH]; exact hS
  rw [← hH]
  clear hH
  have hi_2 : ∀ w ∈ u_ws R_Ru T_Ru 10, w ∈ w_Ru_append := fun w h => List.mem_cons_of_mem _ (iu_Ru w h)
  have hk_1 := hts (.fieldLink R_Ru 19 "HandlingRules$Rule" "length" "I") (List.mem_cons_of_mem _ kw_198)
  have hk_3 := hts (.fieldLink R_Ru 9 "HandlingRules$Rule" "ops" "[I") (List.mem_cons_of_mem _ kw_194)
  have hk_4 := hts (.fieldLink R_Ru 15 "HandlingRules$Rule" "numbers" "[J") (List.mem_cons_of_mem _ kw_196)
  have hl := lv_entry ([.ref a0, .int op, .long n]) (n := 4) (Nat.le_of_ble_eq_true rfl)
  rw [lg_entry_eq]
  generalize (lg_sl ([.ref a0, .int op, .long n]) ++ List.replicate (4 - (lg_sl ([.ref a0, .int op, .long n])).length) Slot.unset).toArray = ls at hl ⊢
  replace hl : lv_has ls 4 [(0, .ref a0), (1, .int op), (2, .long n)] := hl
  generalize hT : f_append ops numbers length op n = T
  refine lv_aload_n hx hb d_Ru_append_0 rfl (lv_at hl 0 rfl) ?_
  refine va_get (D := G) (ci := 3) (v := .int length) (C := R_Ru) (T := T_Ru) (N := 10) hx hb hts hi_2 hown hK hP 0 rfl rfl 6 (by decide) hk_1 (fun _ h9 => h9) rfl d_Ru_append_1 ?_
  refine lv_bipush (v := 12) hx hb d_Ru_append_4 (by decide) ?_
  refine lv_icmp_ge (tgt := 39) hx hb d_Ru_append_6 (by decide) (fun c_1 => ?_) (fun c_1 => ?_)
  · exact W.vret hx hb hr (fun t ht hW => ⟨⟨(ops, numbers, length), rfl, (by rw [← hT]; simp only [f_append, if_pos c_1]), by rw [ht]; exact hP, va_K.moved hW.alike hK, hD⟩, hS.F ht⟩) hS.2.2 d_Ru_append_39
  · refine lv_aload_n hx hb d_Ru_append_9 rfl (lv_at hl 0 rfl) ?_
    refine va_get (D := G) (ci := 3) (v := .ref a1) (C := R_Ru) (T := T_Ru) (N := 10) hx hb hts hi_2 hown hK hP 0 rfl rfl 4 (by decide) hk_3 (fun _ h9 => h9) rfl d_Ru_append_10 ?_
    refine lv_aload_n hx hb d_Ru_append_13 rfl (lv_at hl 0 rfl) ?_
    refine va_get (D := G) (ci := 3) (v := .int length) (C := R_Ru) (T := T_Ru) (N := 10) hx hb hts hi_2 hown hK hP 0 rfl rfl 6 (by decide) hk_1 (fun _ h9 => h9) rfl d_Ru_append_14 ?_
    refine lv_iload_n hx hb d_Ru_append_17 rfl (lv_at hl 1 rfl) ?_
    refine va_iast hx hb hK hP hD hS 1 0 rfl rfl (ix_of hc0 c_1 rfl) d_Ru_append_18 (fun H locs hP hD hS => ?_)
    replace hP : va_P G vwCl (W_Rul cI cL cZ cR cE a0 a1 a2 number home rank name (upd ops length.toNatClampNeg op) numbers length cell fallbackKind fallbackValue) H := hP
    replace hD : va_D A (W_Rul cI cL cZ cR cE a0 a1 a2 number home rank name (upd ops length.toNatClampNeg op) numbers length cell fallbackKind fallbackValue) := hD
    refine lv_aload_n hx hb d_Ru_append_19 rfl (lv_at hl 0 rfl) ?_
    refine va_get (D := G) (ci := 3) (v := .ref a2) (C := R_Ru) (T := T_Ru) (N := 10) hx hb hts hi_2 hown hK hP 0 rfl rfl 5 (by decide) hk_4 (fun _ h9 => h9) rfl d_Ru_append_20 ?_
    refine lv_aload_n hx hb d_Ru_append_23 rfl (lv_at hl 0 rfl) ?_
    refine va_get (D := G) (ci := 3) (v := .int length) (C := R_Ru) (T := T_Ru) (N := 10) hx hb hts hi_2 hown hK hP 0 rfl rfl 6 (by decide) hk_1 (fun _ h9 => h9) rfl d_Ru_append_24 ?_
    refine lv_lload_n hx hb d_Ru_append_27 rfl (lv_at hl 2 rfl) ?_
    refine va_last hx hb hK hP hD hS 2 1 rfl rfl (ix_of hc0 c_1 rfl) d_Ru_append_28 (fun H locs hP hD hS => ?_)
    replace hP : va_P G vwCl (W_Rul cI cL cZ cR cE a0 a1 a2 number home rank name (upd ops length.toNatClampNeg op) (vp_updL numbers length.toNatClampNeg n) length cell fallbackKind fallbackValue) H := hP
    replace hD : va_D A (W_Rul cI cL cZ cR cE a0 a1 a2 number home rank name (upd ops length.toNatClampNeg op) (vp_updL numbers length.toNatClampNeg n) length cell fallbackKind fallbackValue) := hD
    refine lv_aload_n hx hb d_Ru_append_29 rfl (lv_at hl 0 rfl) ?_
    refine lv_dup hx hb d_Ru_append_30 rfl ?_
    refine va_get (D := G) (ci := 3) (v := .int length) (C := R_Ru) (T := T_Ru) (N := 10) hx hb hts hi_2 hown hK hP 0 rfl rfl 6 (by decide) hk_1 (fun _ h9 => h9) rfl d_Ru_append_31 ?_
    refine lv_iconst (v := 1) hx hb d_Ru_append_34 (by decide) ?_
    refine lv_iadd hx hb d_Ru_append_35 ?_
    refine va_put (D := G) (ci := 3) (v := .int (length + 1)) (ty := (.int)) (C := R_Ru) (T := T_Ru) (N := 10) hx hb hts hi_2 ty_Ru tyk_Ru nm_Ru hown hK hP hD hS 0 rfl rfl 6 (by decide) hk_1 (fun _ h9 => h9) rfl (by decide +kernel) rfl rfl (Nat.le_of_ble_eq_true rfl) d_Ru_append_36 (fun H locs hP hD hS => ?_)
    replace hP : va_P G vwCl (W_Rul cI cL cZ cR cE a0 a1 a2 number home rank name (upd ops length.toNatClampNeg op) (vp_updL numbers length.toNatClampNeg n) (length + 1) cell fallbackKind fallbackValue) H := hP
    replace hD : va_D A (W_Rul cI cL cZ cR cE a0 a1 a2 number home rank name (upd ops length.toNatClampNeg op) (vp_updL numbers length.toNatClampNeg n) (length + 1) cell fallbackKind fallbackValue) := hD
    exact W.vret hx hb hr (fun t ht hW => ⟨⟨(upd ops length.toNatClampNeg op, vp_updL numbers length.toNatClampNeg n, length + 1), rfl, (by rw [← hT]; simp only [f_append, if_neg c_1]), by rw [ht]; exact hP, va_K.moved hW.alike hK, hD⟩, hS.F ht⟩) hS.2.2 d_Ru_append_39
def f_goesBefore (number : Int32) (rank : Int32) (name : Int32) (znumber : Int32) (zrank : Int32) (zname : Int32) : Int32 := if rank = zrank then (if name = zname then (if znumber ≤ number then 0 else 1) else (if zname ≤ name then 0 else 1)) else (if zrank ≤ rank then 0 else 1)
set_option maxHeartbeats 4000000 in
set_option maxRecDepth 100000 in
theorem c_goesBefore (l : Launch) (G : va_G) (cI cL cZ cR cE : ClassId) (a0 a1 a2 : Nat) (za0 za1 za2 : Nat) (number : Int32) (home : Nat) (rank : Int32) (name : Int32) (ops : Nat → Int32) (numbers : Nat → Int64) (length : Int32) (cell : Int64) (fallbackKind : Int32) (fallbackValue : Int64) (znumber : Int32) (zhome : Nat) (zrank : Int32) (zname : Int32) (zops : Nat → Int32) (znumbers : Nat → Int64) (zlength : Int32) (zcell : Int64) (zfallbackKind : Int32) (zfallbackValue : Int64) : Met l y_Ru_goesBefore w_Ru_goesBefore ({ frames := 0, cells := 0, slots := 0, locals := 0 }) (preR G (TYS cI cL cZ cR cE) [.ref a0, .ref za0] (W_Rul cI cL cZ cR cE a0 a1 a2 number home rank name ops numbers length cell fallbackKind fallbackValue ++ W_Rul cI cL cZ cR cE za0 za1 za2 znumber zhome zrank zname zops znumbers zlength zcell zfallbackKind zfallbackValue)) (vp_Si (fun ans_ => ans_ = f_goesBefore number rank name znumber zrank zname)) 0 0 (fun _ => False) := by
  refine Met.ofW (cc := b_Ru_goesBefore) (maxL := 2) (ret := (some .boolean)) (by decide) rfl ?_
  intro p e s m args below meth c s₁ B hml hv
  obtain ⟨rfl, hP, hK, hN⟩ := hv
  have hx := B.exec
  have hb := B.bytes
  have hr := B.returns
  have hts := atoms_spec (ws := w_Ru_goesBefore) B.pre
  have hown : s.vm.findClass R_Ru = some m.cls := findClass_of_methodNamed B.named
  have hlocks := B.notSynchronized
  obtain ⟨H, hH⟩ : ∃ H, H = s.heap := ⟨_, rfl⟩
  rw [← hH] at hP
  rw [← hH]
  have hi_2 : ∀ w ∈ u_ws R_Ru T_Ru 10, w ∈ w_Ru_goesBefore := fun w h => List.mem_cons_of_mem _ (iu_Ru w h)
  have hk_1 := hts (.fieldLink R_Ru 40 "HandlingRules$Rule" "rank" "I") (List.mem_cons_of_mem _ kw_192)
  have hk_3 := hts (.fieldLink R_Ru 43 "HandlingRules$Rule" "name" "I") (List.mem_cons_of_mem _ kw_193)
  have hk_4 := hts (.fieldLink R_Ru 33 "HandlingRules$Rule" "number" "I") (List.mem_cons_of_mem _ kw_187)
  have hl := lv_entry ([.ref a0, .ref za0]) (n := 2) (Nat.le_of_ble_eq_true rfl)
  rw [lg_entry_eq]
  generalize (lg_sl ([.ref a0, .ref za0]) ++ List.replicate (2 - (lg_sl ([.ref a0, .ref za0])).length) Slot.unset).toArray = ls at hl ⊢
  replace hl : lv_has ls 2 [(0, .ref a0), (1, .ref za0)] := hl
  generalize hT : f_goesBefore number rank name znumber zrank zname = T
  refine lv_aload_n hx hb d_Ru_goesBefore_0 rfl (lv_at hl 0 rfl) ?_
  refine va_get (D := G) (ci := 3) (v := .int rank) (C := R_Ru) (T := T_Ru) (N := 10) hx hb hts hi_2 hown hK hP 0 rfl rfl 2 (by decide) hk_1 (fun _ h9 => h9) rfl d_Ru_goesBefore_1 ?_
  refine lv_aload_n hx hb d_Ru_goesBefore_4 rfl (lv_at hl 1 rfl) ?_
  refine va_get (D := G) (ci := 3) (v := .int zrank) (C := R_Ru) (T := T_Ru) (N := 10) hx hb hts hi_2 hown hK hP 3 rfl rfl 2 (by decide) hk_1 (fun _ h9 => h9) rfl d_Ru_goesBefore_5 ?_
  refine lv_icmp_eq (tgt := 28) hx hb d_Ru_goesBefore_8 (by decide) (fun c_1 => ?_) (fun c_1 => ?_)
  · refine lv_aload_n hx hb d_Ru_goesBefore_28 rfl (lv_at hl 0 rfl) ?_
    refine va_get (D := G) (ci := 3) (v := .int name) (C := R_Ru) (T := T_Ru) (N := 10) hx hb hts hi_2 hown hK hP 0 rfl rfl 3 (by decide) hk_3 (fun _ h9 => h9) rfl d_Ru_goesBefore_29 ?_
    refine lv_aload_n hx hb d_Ru_goesBefore_32 rfl (lv_at hl 1 rfl) ?_
    refine va_get (D := G) (ci := 3) (v := .int zname) (C := R_Ru) (T := T_Ru) (N := 10) hx hb hts hi_2 hown hK hP 3 rfl rfl 3 (by decide) hk_3 (fun _ h9 => h9) rfl d_Ru_goesBefore_33 ?_
    refine lv_icmp_eq (tgt := 58) hx hb d_Ru_goesBefore_36 (by decide) (fun c_2 => ?_) (fun c_2 => ?_)
    · refine lv_aload_n hx hb d_Ru_goesBefore_58 rfl (lv_at hl 0 rfl) ?_
      refine va_get (D := G) (ci := 3) (v := .int number) (C := R_Ru) (T := T_Ru) (N := 10) hx hb hts hi_2 hown hK hP 0 rfl rfl 0 (by decide) hk_4 (fun _ h9 => h9) rfl d_Ru_goesBefore_59 ?_
      refine lv_aload_n hx hb d_Ru_goesBefore_62 rfl (lv_at hl 1 rfl) ?_
      refine va_get (D := G) (ci := 3) (v := .int znumber) (C := R_Ru) (T := T_Ru) (N := 10) hx hb hts hi_2 hown hK hP 3 rfl rfl 0 (by decide) hk_4 (fun _ h9 => h9) rfl d_Ru_goesBefore_63 ?_
      refine lv_icmp_ge (tgt := 73) hx hb d_Ru_goesBefore_66 (by decide) (fun c_3 => ?_) (fun c_3 => ?_)
      · refine lv_iconst (v := 0) hx hb d_Ru_goesBefore_73 (by decide) ?_
        exact W.zret (v := 0) hx hb hr rfl (fun t ht hW => ⟨0, rfl, (by rw [← hT]; simp only [f_goesBefore, if_pos c_1, if_pos c_2, if_pos c_3]), by rw [ht, hH]⟩) (fun _ h => by cases h) d_Ru_goesBefore_74
      · refine lv_iconst (v := 1) hx hb d_Ru_goesBefore_69 (by decide) ?_
        refine lv_goto (tgt := 74) hx hb d_Ru_goesBefore_70 (by decide) ?_
        exact W.zret (v := 1) hx hb hr rfl (fun t ht hW => ⟨1, rfl, (by rw [← hT]; simp only [f_goesBefore, if_pos c_1, if_pos c_2, if_neg c_3]), by rw [ht, hH]⟩) (fun _ h => by cases h) d_Ru_goesBefore_74
    · refine lv_aload_n hx hb d_Ru_goesBefore_39 rfl (lv_at hl 0 rfl) ?_
      refine va_get (D := G) (ci := 3) (v := .int name) (C := R_Ru) (T := T_Ru) (N := 10) hx hb hts hi_2 hown hK hP 0 rfl rfl 3 (by decide) hk_3 (fun _ h9 => h9) rfl d_Ru_goesBefore_40 ?_
      refine lv_aload_n hx hb d_Ru_goesBefore_43 rfl (lv_at hl 1 rfl) ?_
      refine va_get (D := G) (ci := 3) (v := .int zname) (C := R_Ru) (T := T_Ru) (N := 10) hx hb hts hi_2 hown hK hP 3 rfl rfl 3 (by decide) hk_3 (fun _ h9 => h9) rfl d_Ru_goesBefore_44 ?_
      refine lv_icmp_ge (tgt := 54) hx hb d_Ru_goesBefore_47 (by decide) (fun c_4 => ?_) (fun c_4 => ?_)
      · refine lv_iconst (v := 0) hx hb d_Ru_goesBefore_54 (by decide) ?_
        refine lv_goto (tgt := 74) hx hb d_Ru_goesBefore_55 (by decide) ?_
        exact W.zret (v := 0) hx hb hr rfl (fun t ht hW => ⟨0, rfl, (by rw [← hT]; simp only [f_goesBefore, if_pos c_1, if_neg c_2, if_pos c_4]), by rw [ht, hH]⟩) (fun _ h => by cases h) d_Ru_goesBefore_74
      · refine lv_iconst (v := 1) hx hb d_Ru_goesBefore_50 (by decide) ?_
        refine lv_goto (tgt := 74) hx hb d_Ru_goesBefore_51 (by decide) ?_
        exact W.zret (v := 1) hx hb hr rfl (fun t ht hW => ⟨1, rfl, (by rw [← hT]; simp only [f_goesBefore, if_pos c_1, if_neg c_2, if_neg c_4]), by rw [ht, hH]⟩) (fun _ h => by cases h) d_Ru_goesBefore_74
  · refine lv_aload_n hx hb d_Ru_goesBefore_11 rfl (lv_at hl 0 rfl) ?_
    refine va_get (D := G) (ci := 3) (v := .int rank) (C := R_Ru) (T := T_Ru) (N := 10) hx hb hts hi_2 hown hK hP 0 rfl rfl 2 (by decide) hk_1 (fun _ h9 => h9) rfl d_Ru_goesBefore_12 ?_
    refine lv_aload_n hx hb d_Ru_goesBefore_15 rfl (lv_at hl 1 rfl) ?_
    refine va_get (D := G) (ci := 3) (v := .int zrank) (C := R_Ru) (T := T_Ru) (N := 10) hx hb hts hi_2 hown hK hP 3 rfl rfl 2 (by decide) hk_1 (fun _ h9 => h9) rfl d_Ru_goesBefore_16 ?_
    refine lv_icmp_ge (tgt := 26) hx hb d_Ru_goesBefore_19 (by decide) (fun c_5 => ?_) (fun c_5 => ?_)
    · refine lv_iconst (v := 0) hx hb d_Ru_goesBefore_26 (by decide) ?_
      exact W.zret (v := 0) hx hb hr rfl (fun t ht hW => ⟨0, rfl, (by rw [← hT]; simp only [f_goesBefore, if_neg c_1, if_pos c_5]), by rw [ht, hH]⟩) (fun _ h => by cases h) d_Ru_goesBefore_27
    · refine lv_iconst (v := 1) hx hb d_Ru_goesBefore_22 (by decide) ?_
      refine lv_goto (tgt := 27) hx hb d_Ru_goesBefore_23 (by decide) ?_
      exact W.zret (v := 1) hx hb hr rfl (fun t ht hW => ⟨1, rfl, (by rw [← hT]; simp only [f_goesBefore, if_neg c_1, if_neg c_5]), by rw [ht, hH]⟩) (fun _ h => by cases h) d_Ru_goesBefore_27
