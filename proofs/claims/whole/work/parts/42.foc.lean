def f_codeN  : Int32 := (-101)
set_option maxHeartbeats 4000000 in
set_option maxRecDepth 100000 in
theorem c_codeN (l : Launch) (G : va_G) (cI cL cZ cR cE : ClassId) (a0 a1 a2 a3 a4 a5 a6 a7 a8 a9 a10 a11 a12 a13 a14 a15 : Nat) (steps : Int32) (editions : Nat → Option Nat) (rules : Nat → Option Nat) (ruleCount : Int32) (daysTold : Int32) (runner_facts : Nat → Int64) (runner_stack : Nat → Int64) (runner_handleFacts : Nat → Int32) (runner_given_values : Nat → Int64) (runner_given_givers : Nat → Int32) (runner_handleCount : Int32) (runner_height : Int32) (runner_position : Int32) (runner_fault : Int32) (runner_cell : Int64) (answers_values : Nat → Int64) (answers_givers : Nat → Int32) (failures_ruleNumbers : Nat → Int32) (failures_hows : Nat → Int32) (failures_count : Int32) (k : Int32) (op : Int32) (n_ : Int64) (hq : f_ruleAt rules ruleCount k = none) : Met l y_Hr_code w_Hr_code ({ frames := 1, cells := 0, slots := 0, locals := 21 }) (preR G (TYS cI cL cZ cR cE) [.ref a0, .int k, .int op, .long n_] (W_Hr cI cL cZ cR cE a0 a1 a2 a3 a4 a5 a6 a7 a8 a9 a10 a11 a12 a13 a14 a15 steps editions rules ruleCount daysTold runner_facts runner_stack runner_handleFacts runner_given_values runner_given_givers runner_handleCount runner_height runner_position runner_fault runner_cell answers_values answers_givers failures_ruleNumbers failures_hows failures_count)) (vp_Si (fun ans_ => ans_ = f_codeN )) 0 0 (fun _ => False) := by
  refine Met.ofW (cc := b_Hr_code) (maxL := 6) (ret := (some .int)) (by decide) rfl ?_
  intro p e s m args below meth c s₁ B hml hv
  obtain ⟨rfl, hP, hK, hN⟩ := hv
  have hx := B.exec
  have hb := B.bytes
  have hr := B.returns
  have hts := atoms_spec (ws := w_Hr_code) B.pre
  have hown : s.vm.findClass R_Hr = some m.cls := findClass_of_methodNamed B.named
  have hlocks := B.notSynchronized
  obtain ⟨H, hH⟩ : ∃ H, H = s.heap := ⟨_, rfl⟩
  rw [← hH] at hP
  rw [← hH]
  have hl := lv_entry ([.ref a0, .int k, .int op, .long n_]) (n := 6) (Nat.le_of_ble_eq_true rfl)
  rw [lg_entry_eq]
  generalize (lg_sl ([.ref a0, .int k, .int op, .long n_]) ++ List.replicate (6 - (lg_sl ([.ref a0, .int k, .int op, .long n_])).length) Slot.unset).toArray = ls at hl ⊢
  replace hl : lv_has ls 6 [(0, .ref a0), (1, .int k), (2, .int op), (3, .long n_)] := hl
  generalize hT : f_codeN  = T
  refine lv_aload_n hx hb d_Hr_code_0 rfl (lv_at hl 0 rfl) ?_
  refine lv_iload_n hx hb d_Hr_code_1 rfl (lv_at hl 1 rfl) ?_
  refine va_csq (W.runV (As := [.int k]) (rest := []) ⟨hx, hb, hml, hown, hts⟩ (c_ruleAt l G cI cL cZ cR cE a0 a1 a2 a3 a4 a5 a6 a7 a8 a9 a10 a11 a12 a13 a14 a15 steps editions rules ruleCount daysTold runner_facts runner_stack runner_handleFacts runner_given_values runner_given_givers runner_handleCount runner_height runner_position runner_fault runner_cell answers_values answers_givers failures_ruleNumbers failures_hows failures_count k) (cwV 1 hts (gV kw_241 kw_243 kw_1 kw_15 kw_244) rfl rfl rfl (by decide +kernel) ⟨Nat.le_of_ble_eq_true rfl, Nat.le_of_ble_eq_true rfl⟩) (preRV_of (ci := 5) hN hK hP [0, 1, 2, 3, 4, 5, 6, 7, 8, 9, 10, 11, 12, 13, 14, 15] rfl rfl rfl) rfl rfl hl.1 rfl (lv_room (Nat.le_of_ble_eq_true rfl)) d_Hr_code_2 ⟨Nat.zero_le _, Nat.zero_le _⟩) (fun r_1 hw => ?_)
  rw [hq] at hw
  subst hw
  refine W.eq (g2 := F0 m 5 ls (.null :: [])) rfl ?_
  refine lv_astoreN (lv' := [(5, .null), (0, .ref a0), (1, .int k), (2, .int op), (3, .long n_)]) hx hb d_Hr_code_5 hl (by decide) rfl (fun ls hl => ?_)
  refine lv_aloadN hx hb d_Hr_code_7 (lv_at hl 0 rfl) ?_
  refine lv_ifnonnullN hx hb d_Hr_code_9 ?_
  refine lv_bipush (v := (-101)) hx hb d_Hr_code_12 (by decide) ?_
  exact W.iret (v := (-101)) hx hb hr (fun t ht hW => ⟨(-101), rfl, (by rw [← hT]; simp only [f_codeN]), by rw [ht, hH]⟩) (fun _ h => by cases h) d_Hr_code_14
def f_codeS (zops : Nat → Int32) (znumbers : Nat → Int64) (zlength : Int32) (ystate : Int32) (op : Int32) (n_ : Int64) : Int32 × (Nat → Int32) × (Nat → Int64) × Int32 := if (f_isInstruction op n_) = 0 then ((-102), (zops, znumbers, zlength)) else (if ystate = 1 then (if zlength < 12 then (if (f_hasNumber op) = 0 then (match f_append zops znumbers zlength op 0 with | (x_ops_11, x_numbers_12, x_length_13) => (x_length_13, (x_ops_11, x_numbers_12, x_length_13))) else (match f_append zops znumbers zlength op n_ with | (x_ops_17, x_numbers_18, x_length_19) => (x_length_19, (x_ops_17, x_numbers_18, x_length_19)))) else ((-104), (zops, znumbers, zlength))) else ((-103), (zops, znumbers, zlength)))
set_option maxHeartbeats 4000000 in
set_option maxRecDepth 100000 in
theorem c_codeS (l : Launch) (G : va_G) (cI cL cZ cR cE : ClassId) (sz : Nat) (a0 a1 a2 a3 a4 a5 a6 a7 a8 a9 a10 a11 a12 a13 a14 a15 : Nat) (za0 za1 za2 : Nat) (ya0 ya1 : Nat) (steps : Int32) (editions : Nat → Option Nat) (rules : Nat → Option Nat) (ruleCount : Int32) (daysTold : Int32) (runner_facts : Nat → Int64) (runner_stack : Nat → Int64) (runner_handleFacts : Nat → Int32) (runner_given_values : Nat → Int64) (runner_given_givers : Nat → Int32) (runner_handleCount : Int32) (runner_height : Int32) (runner_position : Int32) (runner_fault : Int32) (runner_cell : Int64) (answers_values : Nat → Int64) (answers_givers : Nat → Int32) (failures_ruleNumbers : Nat → Int32) (failures_hows : Nat → Int32) (failures_count : Int32) (znumber : Int32) (zrank : Int32) (zname : Int32) (zops : Nat → Int32) (znumbers : Nat → Int64) (zlength : Int32) (zcell : Int64) (zfallbackKind : Int32) (zfallbackValue : Int64) (ystate : Int32) (ycount : Int32) (yfrom : Int32) (ytoldAs : Int32) (yorder : Nat → Option Nat) (k : Int32) (op : Int32) (n_ : Int64) (hq : f_ruleAt rules ruleCount k = some za0) (hl0 : ¬ zlength < 0) : Met l y_Hr_code w_Hr_code ({ frames := 2, cells := 0, slots := 0, locals := 47 }) (preW G (TYS cI cL cZ cR cE) [.ref a0, .int k, .int op, .long n_] sz (W_Hr cI cL cZ cR cE a0 a1 a2 a3 a4 a5 a6 a7 a8 a9 a10 a11 a12 a13 a14 a15 steps editions rules ruleCount daysTold runner_facts runner_stack runner_handleFacts runner_given_values runner_given_givers runner_handleCount runner_height runner_position runner_fault runner_cell answers_values answers_givers failures_ruleNumbers failures_hows failures_count ++ W_Rul cI cL cZ cR cE za0 za1 za2 znumber ya0 zrank zname zops znumbers zlength zcell zfallbackKind zfallbackValue ++ W_Edi cI cL cZ cR cE ya0 ya1 ystate ycount yfrom ytoldAs yorder)) (va_Qi (fun (ans_ : Int32) (u : (Nat → Int32) × (Nat → Int64) × Int32) => (ans_, u) = f_codeS zops znumbers zlength ystate op n_) (fun u t => va_P G vwCl (W_Hr cI cL cZ cR cE a0 a1 a2 a3 a4 a5 a6 a7 a8 a9 a10 a11 a12 a13 a14 a15 steps editions rules ruleCount daysTold runner_facts runner_stack runner_handleFacts runner_given_values runner_given_givers runner_handleCount runner_height runner_position runner_fault runner_cell answers_values answers_givers failures_ruleNumbers failures_hows failures_count ++ W_Rul cI cL cZ cR cE za0 za1 za2 znumber ya0 zrank zname u.1 u.2.1 u.2.2 zcell zfallbackKind zfallbackValue ++ W_Edi cI cL cZ cR cE ya0 ya1 ystate ycount yfrom ytoldAs yorder) t.heap ∧ va_K G vwCl (TYS cI cL cZ cR cE) t ∧ va_D (va_A (W_Hr cI cL cZ cR cE a0 a1 a2 a3 a4 a5 a6 a7 a8 a9 a10 a11 a12 a13 a14 a15 steps editions rules ruleCount daysTold runner_facts runner_stack runner_handleFacts runner_given_values runner_given_givers runner_handleCount runner_height runner_position runner_fault runner_cell answers_values answers_givers failures_ruleNumbers failures_hows failures_count ++ W_Rul cI cL cZ cR cE za0 za1 za2 znumber ya0 zrank zname zops znumbers zlength zcell zfallbackKind zfallbackValue ++ W_Edi cI cL cZ cR cE ya0 ya1 ystate ycount yfrom ytoldAs yorder) sz) (W_Hr cI cL cZ cR cE a0 a1 a2 a3 a4 a5 a6 a7 a8 a9 a10 a11 a12 a13 a14 a15 steps editions rules ruleCount daysTold runner_facts runner_stack runner_handleFacts runner_given_values runner_given_givers runner_handleCount runner_height runner_position runner_fault runner_cell answers_values answers_givers failures_ruleNumbers failures_hows failures_count ++ W_Rul cI cL cZ cR cE za0 za1 za2 znumber ya0 zrank zname u.1 u.2.1 u.2.2 zcell zfallbackKind zfallbackValue ++ W_Edi cI cL cZ cR cE ya0 ya1 ystate ycount yfrom ytoldAs yorder)) (va_A (W_Hr cI cL cZ cR cE a0 a1 a2 a3 a4 a5 a6 a7 a8 a9 a10 a11 a12 a13 a14 a15 steps editions rules ruleCount daysTold runner_facts runner_stack runner_handleFacts runner_given_values runner_given_givers runner_handleCount runner_height runner_position runner_fault runner_cell answers_values answers_givers failures_ruleNumbers failures_hows failures_count ++ W_Rul cI cL cZ cR cE za0 za1 za2 znumber ya0 zrank zname zops znumbers zlength zcell zfallbackKind zfallbackValue ++ W_Edi cI cL cZ cR cE ya0 ya1 ystate ycount yfrom ytoldAs yorder) sz)) 0 0 (va_A (W_Hr cI cL cZ cR cE a0 a1 a2 a3 a4 a5 a6 a7 a8 a9 a10 a11 a12 a13 a14 a15 steps editions rules ruleCount daysTold runner_facts runner_stack runner_handleFacts runner_given_values runner_given_givers runner_handleCount runner_height runner_position runner_fault runner_cell answers_values answers_givers failures_ruleNumbers failures_hows failures_count ++ W_Rul cI cL cZ cR cE za0 za1 za2 znumber ya0 zrank zname zops znumbers zlength zcell zfallbackKind zfallbackValue ++ W_Edi cI cL cZ cR cE ya0 ya1 ystate ycount yfrom ytoldAs yorder) sz) := by
  refine Met.ofW (cc := b_Hr_code) (maxL := 6) (ret := (some .int)) (by decide) rfl ?_
  intro p e s m args below meth c s₁ B hml hv
  obtain ⟨rfl, hsz, hP, hK, hD0, hN⟩ := hv
  have hx := B.exec
  have hb := B.bytes
  have hr := B.returns
  have hts := atoms_spec (ws := w_Hr_code) B.pre
  have hown : s.vm.findClass R_Hr = some m.cls := findClass_of_methodNamed B.named
  have hlocks := B.notSynchronized
  subst hsz
  have hD := hD0.self (sz := s.heap.size)
  clear hD0
  generalize hAe : va_A (W_Hr cI cL cZ cR cE a0 a1 a2 a3 a4 a5 a6 a7 a8 a9 a10 a11 a12 a13 a14 a15 steps editions rules ruleCount daysTold runner_facts runner_stack runner_handleFacts runner_given_values runner_given_givers runner_handleCount runner_height runner_position runner_fault runner_cell answers_values answers_givers failures_ruleNumbers failures_hows failures_count ++ W_Rul cI cL cZ cR cE za0 za1 za2 znumber ya0 zrank zname zops znumbers zlength zcell zfallbackKind zfallbackValue ++ W_Edi cI cL cZ cR cE ya0 ya1 ystate ycount yfrom ytoldAs yorder) s.heap.size = A at hD ⊢
  have hA : ∀ q : Nat, s.heap.size ≤ q → A q := fun q h => by rw [← hAe]; exact Or.inr h
  clear hAe
  have hS : va_S A s.heap s.heap [] := va_S.rf
  obtain ⟨H, hH⟩ : ∃ H, H = s.heap := ⟨_, rfl⟩
  rw [← hH] at hP
  replace hS : va_S A s.heap H [] := by rw [hH]; exact hS
  rw [← hH]
  clear hH
  have hi_2 : ∀ w ∈ u_ws R_Ru T_Ru 10, w ∈ w_Hr_code := fun w h => List.mem_cons_of_mem _ (iu_Ru w h)
  have hi_4 : ∀ w ∈ u_ws R_Ed T_Ed 5, w ∈ w_Hr_code := fun w h => List.mem_cons_of_mem _ (iu_Ed w h)
  have hk_1 := hts (.fieldLink R_Hr 98 "HandlingRules$Rule" "home" "LHandlingRules$Edition;") (List.mem_cons_of_mem _ kw_191)
  have hk_3 := hts (.fieldLink R_Hr 74 "HandlingRules$Edition" "state" "I") (List.mem_cons_of_mem _ kw_125)
  have hk_5 := hts (.fieldLink R_Hr 102 "HandlingRules$Rule" "length" "I") (List.mem_cons_of_mem _ kw_199)
  have hl := lv_entry ([.ref a0, .int k, .int op, .long n_]) (n := 6) (Nat.le_of_ble_eq_true rfl)
  rw [lg_entry_eq]
  generalize (lg_sl ([.ref a0, .int k, .int op, .long n_]) ++ List.replicate (6 - (lg_sl ([.ref a0, .int k, .int op, .long n_])).length) Slot.unset).toArray = ls at hl ⊢
  replace hl : lv_has ls 6 [(0, .ref a0), (1, .int k), (2, .int op), (3, .long n_)] := hl
  generalize hT : f_codeS zops znumbers zlength ystate op n_ = T
  refine lv_aload_n hx hb d_Hr_code_0 rfl (lv_at hl 0 rfl) ?_
  refine lv_iload_n hx hb d_Hr_code_1 rfl (lv_at hl 1 rfl) ?_
  refine va_csq (W.runV (As := [.int k]) (rest := []) ⟨hx, hb, hml, hown, hts⟩ (c_ruleAt l G cI cL cZ cR cE a0 a1 a2 a3 a4 a5 a6 a7 a8 a9 a10 a11 a12 a13 a14 a15 steps editions rules ruleCount daysTold runner_facts runner_stack runner_handleFacts runner_given_values runner_given_givers runner_handleCount runner_height runner_position runner_fault runner_cell answers_values answers_givers failures_ruleNumbers failures_hows failures_count k) (cwV 1 hts (gV kw_241 kw_243 kw_1 kw_15 kw_244) rfl rfl rfl (by decide +kernel) ⟨Nat.le_of_ble_eq_true rfl, Nat.le_of_ble_eq_true rfl⟩) (preRV_of (ci := 5) hN hK hP [0, 1, 2, 3, 4, 5, 6, 7, 8, 9, 10, 11, 12, 13, 14, 15] rfl rfl rfl) rfl rfl hl.1 rfl (lv_room (Nat.le_of_ble_eq_true rfl)) d_Hr_code_2 ⟨Nat.zero_le _, Nat.zero_le _⟩) (fun r_1 hw => ?_)
  rw [hq] at hw
  subst hw
  refine W.eq (g2 := F0 m 5 ls (.ref za0 :: [])) rfl ?_
  refine lv_astore (lv' := [(5, .ref za0), (0, .ref a0), (1, .int k), (2, .int op), (3, .long n_)]) hx hb d_Hr_code_5 hl (by decide) rfl (fun ls hl => ?_)
  refine lv_aload hx hb d_Hr_code_7 (lv_at hl 0 rfl) ?_
  refine lv_ifnonnull (tgt := 15) hx hb d_Hr_code_9 (by decide) ?_
  refine lv_iload_n hx hb d_Hr_code_15 rfl (lv_at hl 3 rfl) ?_
  refine lv_lload_n hx hb d_Hr_code_16 rfl (lv_at hl 4 rfl) ?_
  refine vp_callSi (W.runS (As := [.int op, .long n_]) (rest := []) ⟨hx, hb, hml, hown, hts⟩ (c_isInstruction l G cI cL cZ cR cE  op n_) (va_cwS 2 hts (gS kw_245 kw_246 kw_15 kw_247) rfl rfl rfl (by decide +kernel) ⟨Nat.le_of_ble_eq_true rfl, Nat.le_of_ble_eq_true rfl⟩) (preRS_of hN hK hP [] rfl) rfl rfl hl.1 rfl (lv_room (Nat.le_of_ble_eq_true rfl)) d_Hr_code_17 ⟨Nat.zero_le _, Nat.zero_le _⟩) (fun r_2 hw => ?_)
  subst hw
  refine lv_if_ne (tgt := 26) hx hb d_Hr_code_20 (by decide) (fun c_3 => ?_) (fun c_3 => ?_)
  · refine lv_aload hx hb d_Hr_code_26 (lv_at hl 0 rfl) ?_
    refine va_get (D := G) (ci := 3) (v := .ref ya0) (C := R_Ru) (T := T_Ru) (N := 10) hx hb hts hi_2 hown hK hP 16 rfl rfl 1 (by decide) hk_1 (fun _ h9 => h9) rfl d_Hr_code_28 ?_
    refine va_get (D := G) (ci := 1) (v := .int ystate) (C := R_Ed) (T := T_Ed) (N := 5) hx hb hts hi_4 hown hK hP 19 rfl rfl 0 (by decide) hk_3 (fun _ h9 => h9) rfl d_Hr_code_31 ?_
    refine lv_iconst (v := 1) hx hb d_Hr_code_34 (by decide) ?_
    refine lv_icmp_eq (tgt := 41) hx hb d_Hr_code_35 (by decide) (fun c_4 => ?_) (fun c_4 => ?_)
    · refine lv_aload hx hb d_Hr_code_41 (lv_at hl 0 rfl) ?_
      refine va_get (D := G) (ci := 3) (v := .int zlength) (C := R_Ru) (T := T_Ru) (N := 10) hx hb hts hi_2 hown hK hP 16 rfl rfl 6 (by decide) hk_5 (fun _ h9 => h9) rfl d_Hr_code_43 ?_
      refine lv_bipush (v := 12) hx hb d_Hr_code_46 (by decide) ?_
      refine lv_icmp_lt (tgt := 54) hx hb d_Hr_code_48 (by decide) (fun c_5 => ?_) (fun c_5 => ?_)
      · refine lv_aload hx hb d_Hr_code_54 (lv_at hl 0 rfl) ?_
        refine lv_iload_n hx hb d_Hr_code_56 rfl (lv_at hl 3 rfl) ?_
        refine lv_iload_n hx hb d_Hr_code_57 rfl (lv_at hl 3 rfl) ?_
        refine vp_callSi (W.runS (As := [.int op]) (rest := [.int op, .ref za0]) ⟨hx, hb, hml, hown, hts⟩ (c_hasNumber l G cI cL cZ cR cE  op) (va_cwS 1 hts (gS kw_253 kw_254 kw_15 kw_255) rfl rfl rfl (by decide +kernel) ⟨Nat.le_of_ble_eq_true rfl, Nat.le_of_ble_eq_true rfl⟩) (preRS_of hN hK hP [] rfl) rfl rfl hl.1 rfl (lv_room (Nat.le_of_ble_eq_true rfl)) d_Hr_code_58 ⟨Nat.zero_le _, Nat.zero_le _⟩) (fun r_6 hw => ?_)
        subst hw
        refine lv_if_eq (tgt := 68) hx hb d_Hr_code_61 (by decide) (fun c_7 => ?_) (fun c_7 => ?_)
        · refine lv_lconst (v := 0) hx hb d_Hr_code_68 (by decide) ?_
          refine cl_v hK hP hD hS hA (va_runV (As := [.int op, .long 0]) (rest := []) ⟨hx, hb, hml, hown, hts⟩ (c_append l G cI cL cZ cR cE H.size za0 za1 za2 znumber ya0 zrank zname zops znumbers zlength zcell zfallbackKind zfallbackValue op 0 hl0) (cwV 2 hts (gV kw_256 kw_257 kw_258 kw_22 kw_259) rfl rfl rfl (by decide +kernel) ⟨Nat.le_of_ble_eq_true rfl, Nat.le_of_ble_eq_true rfl⟩) (preWV_of (ci := 3) hN hK hP hD [16, 17, 18] (by decide) rfl rfl rfl) rfl rfl hl.1 rfl (lv_room (Nat.le_of_ble_eq_true rfl)) d_Hr_code_69 ⟨Nat.le_of_ble_eq_true rfl, Nat.le_of_ble_eq_true rfl⟩) [16, 17, 18] [0, 1, 2, 3, 4, 5, 6, 7, 8, 9, 10, 11, 12, 13, 14, 15, 19, 20] rfl rfl (by decide) (by decide) (fun u H locs hw_10 hP hD hS => ?_)
          obtain ⟨x_ops_11, x_numbers_12, x_length_13⟩ := u
          replace hP : va_P G vwCl (W_Hr cI cL cZ cR cE a0 a1 a2 a3 a4 a5 a6 a7 a8 a9 a10 a11 a12 a13 a14 a15 steps editions rules ruleCount daysTold runner_facts runner_stack runner_handleFacts runner_given_values runner_given_givers runner_handleCount runner_height runner_position runner_fault runner_cell answers_values answers_givers failures_ruleNumbers failures_hows failures_count ++ W_Rul cI cL cZ cR cE za0 za1 za2 znumber ya0 zrank zname x_ops_11 x_numbers_12 x_length_13 zcell zfallbackKind zfallbackValue ++ W_Edi cI cL cZ cR cE ya0 ya1 ystate ycount yfrom ytoldAs yorder) H := hP.sub [0, 1, 2, 3, 4, 5, 6, 7, 8, 9, 10, 11, 12, 13, 14, 15, 18, 19, 20, 16, 17] rfl
          replace hD : va_D A (W_Hr cI cL cZ cR cE a0 a1 a2 a3 a4 a5 a6 a7 a8 a9 a10 a11 a12 a13 a14 a15 steps editions rules ruleCount daysTold runner_facts runner_stack runner_handleFacts runner_given_values runner_given_givers runner_handleCount runner_height runner_position runner_fault runner_cell answers_values answers_givers failures_ruleNumbers failures_hows failures_count ++ W_Rul cI cL cZ cR cE za0 za1 za2 znumber ya0 zrank zname x_ops_11 x_numbers_12 x_length_13 zcell zfallbackKind zfallbackValue ++ W_Edi cI cL cZ cR cE ya0 ya1 ystate ycount yfrom ytoldAs yorder) := hD.sub [0, 1, 2, 3, 4, 5, 6, 7, 8, 9, 10, 11, 12, 13, 14, 15, 18, 19, 20, 16, 17] (by decide) rfl
          refine lv_aload hx hb d_Hr_code_72 (lv_at hl 0 rfl) ?_
          refine va_get (D := G) (ci := 3) (v := .int x_length_13) (C := R_Ru) (T := T_Ru) (N := 10) hx hb hts hi_2 hown hK hP 16 rfl rfl 6 (by decide) hk_5 (fun _ h9 => h9) rfl d_Hr_code_74 ?_
          exact W.iret (v := x_length_13) hx hb hr (fun t ht hW => ⟨⟨x_length_13, (x_ops_11, x_numbers_12, x_length_13), rfl, (by rw [← hT]; simp only [f_codeS, if_neg c_3, if_pos c_4, if_pos c_5, if_pos c_7, ← hw_10]), by rw [ht]; exact hP, va_K.moved hW.alike hK, hD⟩, hS.F ht⟩) hS.2.2 d_Hr_code_77
        · refine lv_lload_n hx hb d_Hr_code_64 rfl (lv_at hl 4 rfl) ?_
          refine lv_goto (tgt := 69) hx hb d_Hr_code_65 (by decide) ?_
          refine cl_v hK hP hD hS hA (va_runV (As := [.int op, .long n_]) (rest := []) ⟨hx, hb, hml, hown, hts⟩ (c_append l G cI cL cZ cR cE H.size za0 za1 za2 znumber ya0 zrank zname zops znumbers zlength zcell zfallbackKind zfallbackValue op n_ hl0) (cwV 2 hts (gV kw_256 kw_257 kw_258 kw_22 kw_259) rfl rfl rfl (by decide +kernel) ⟨Nat.le_of_ble_eq_true rfl, Nat.le_of_ble_eq_true rfl⟩) (preWV_of (ci := 3) hN hK hP hD [16, 17, 18] (by decide) rfl rfl rfl) rfl rfl hl.1 rfl (lv_room (Nat.le_of_ble_eq_true rfl)) d_Hr_code_69 ⟨Nat.le_of_ble_eq_true rfl, Nat.le_of_ble_eq_true rfl⟩) [16, 17, 18] [0, 1, 2, 3, 4, 5, 6, 7, 8, 9, 10, 11, 12, 13, 14, 15, 19, 20] rfl rfl (by decide) (by decide) (fun u H locs hw_16 hP hD hS => ?_)
          obtain ⟨x_ops_17, x_numbers_18, x_length_19⟩ := u
          replace hP : va_P G vwCl (W_Hr cI cL cZ cR cE a0 a1 a2 a3 a4 a5 a6 a7 a8 a9 a10 a11 a12 a13 a14 a15 steps editions rules ruleCount daysTold runner_facts runner_stack runner_handleFacts runner_given_values runner_given_givers runner_handleCount runner_height runner_position runner_fault runner_cell answers_values answers_givers failures_ruleNumbers failures_hows failures_count ++ W_Rul cI cL cZ cR cE za0 za1 za2 znumber ya0 zrank zname x_ops_17 x_numbers_18 x_length_19 zcell zfallbackKind zfallbackValue ++ W_Edi cI cL cZ cR cE ya0 ya1 ystate ycount yfrom ytoldAs yorder) H := hP.sub [0, 1, 2, 3, 4, 5, 6, 7, 8, 9, 10, 11, 12, 13, 14, 15, 18, 19, 20, 16, 17] rfl
          replace hD : va_D A (W_Hr cI cL cZ cR cE a0 a1 a2 a3 a4 a5 a6 a7 a8 a9 a10 a11 a12 a13 a14 a15 steps editions rules ruleCount daysTold runner_facts runner_stack runner_handleFacts runner_given_values runner_given_givers runner_handleCount runner_height runner_position runner_fault runner_cell answers_values answers_givers failures_ruleNumbers failures_hows failures_count ++ W_Rul cI cL cZ cR cE za0 za1 za2 znumber ya0 zrank zname x_ops_17 x_numbers_18 x_length_19 zcell zfallbackKind zfallbackValue ++ W_Edi cI cL cZ cR cE ya0 ya1 ystate ycount yfrom ytoldAs yorder) := hD.sub [0, 1, 2, 3, 4, 5, 6, 7, 8, 9, 10, 11, 12, 13, 14, 15, 18, 19, 20, 16, 17] (by decide) rfl
          refine lv_aload hx hb d_Hr_code_72 (lv_at hl 0 rfl) ?_
          refine va_get (D := G) (ci := 3) (v := .int x_length_19) (C := R_Ru) (T := T_Ru) (N := 10) hx hb hts hi_2 hown hK hP 16 rfl rfl 6 (by decide) hk_5 (fun _ h9 => h9) rfl d_Hr_code_74 ?_
          exact W.iret (v := x_length_19) hx hb hr (fun t ht hW => ⟨⟨x_length_19, (x_ops_17, x_numbers_18, x_length_19), rfl, (by rw [← hT]; simp only [f_codeS, if_neg c_3, if_pos c_4, if_pos c_5, if_neg c_7, ← hw_16]), by rw [ht]; exact hP, va_K.moved hW.alike hK, hD⟩, hS.F ht⟩) hS.2.2 d_Hr_code_77
      · refine lv_bipush (v := (-104)) hx hb d_Hr_code_51 (by decide) ?_
        exact W.iret (v := (-104)) hx hb hr (fun t ht hW => ⟨⟨(-104), (zops, znumbers, zlength), rfl, (by rw [← hT]; simp only [f_codeS, if_neg c_3, if_pos c_4, if_neg c_5]), by rw [ht]; exact hP, va_K.moved hW.alike hK, hD⟩, hS.F ht⟩) hS.2.2 d_Hr_code_53
    · refine lv_bipush (v := (-103)) hx hb d_Hr_code_38 (by decide) ?_
      exact W.iret (v := (-103)) hx hb hr (fun t ht hW => ⟨⟨(-103), (zops, znumbers, zlength), rfl, (by rw [← hT]; simp only [f_codeS, if_neg c_3, if_neg c_4]), by rw [ht]; exact hP, va_K.moved hW.alike hK, hD⟩, hS.F ht⟩) hS.2.2 d_Hr_code_40
  · refine lv_bipush (v := (-102)) hx hb d_Hr_code_23 (by decide) ?_
    exact W.iret (v := (-102)) hx hb hr (fun t ht hW => ⟨⟨(-102), (zops, znumbers, zlength), rfl, (by rw [← hT]; simp only [f_codeS, if_pos c_3]), by rw [ht]; exact hP, va_K.moved hW.alike hK, hD⟩, hS.F ht⟩) hS.2.2 d_Hr_code_25
def f_fallbackN  : Int32 := (-101)
set_option maxHeartbeats 4000000 in
set_option maxRecDepth 100000 in
theorem c_fallbackN (l : Launch) (G : va_G) (cI cL cZ cR cE : ClassId) (a0 a1 a2 a3 a4 a5 a6 a7 a8 a9 a10 a11 a12 a13 a14 a15 : Nat) (steps : Int32) (editions : Nat → Option Nat) (rules : Nat → Option Nat) (ruleCount : Int32) (daysTold : Int32) (runner_facts : Nat → Int64) (runner_stack : Nat → Int64) (runner_handleFacts : Nat → Int32) (runner_given_values : Nat → Int64) (runner_given_givers : Nat → Int32) (runner_handleCount : Int32) (runner_height : Int32) (runner_position : Int32) (runner_fault : Int32) (runner_cell : Int64) (answers_values : Nat → Int64) (answers_givers : Nat → Int32) (failures_ruleNumbers : Nat → Int32) (failures_hows : Nat → Int32) (failures_count : Int32) (k : Int32) (kind : Int32) (w : Int64) (hq : f_ruleAt rules ruleCount k = none) : Met l y_Hr_fallback w_Hr_fallback ({ frames := 1, cells := 0, slots := 0, locals := 21 }) (preR G (TYS cI cL cZ cR cE) [.ref a0, .int k, .int kind, .long w] (W_Hr cI cL cZ cR cE a0 a1 a2 a3 a4 a5 a6 a7 a8 a9 a10 a11 a12 a13 a14 a15 steps editions rules ruleCount daysTold runner_facts runner_stack runner_handleFacts runner_given_values runner_given_givers runner_handleCount runner_height runner_position runner_fault runner_cell answers_values answers_givers failures_ruleNumbers failures_hows failures_count)) (vp_Si (fun ans_ => ans_ = f_fallbackN )) 0 0 (fun _ => False) := by
  refine Met.ofW (cc := b_Hr_fallback) (maxL := 6) (ret := (some .int)) (by decide) rfl ?_
  intro p e s m args below meth c s₁ B hml hv
  obtain ⟨rfl, hP, hK, hN⟩ := hv
  have hx := B.exec
  have hb := B.bytes
  have hr := B.returns
  have hts := atoms_spec (ws := w_Hr_fallback) B.pre
  have hown : s.vm.findClass R_Hr = some m.cls := findClass_of_methodNamed B.named
  have hlocks := B.notSynchronized
  obtain ⟨H, hH⟩ : ∃ H, H = s.heap := ⟨_, rfl⟩
  rw [← hH] at hP
  rw [← hH]
  have hl := lv_entry ([.ref a0, .int k, .int kind, .long w]) (n := 6) (Nat.le_of_ble_eq_true rfl)
  rw [lg_entry_eq]
  generalize (lg_sl ([.ref a0, .int k, .int kind, .long w]) ++ List.replicate (6 - (lg_sl ([.ref a0, .int k, .int kind, .long w])).length) Slot.unset).toArray = ls at hl ⊢
  replace hl : lv_has ls 6 [(0, .ref a0), (1, .int k), (2, .int kind), (3, .long w)] := hl
  generalize hT : f_fallbackN  = T
  refine lv_aload_n hx hb d_Hr_fallback_0 rfl (lv_at hl 0 rfl) ?_
  refine lv_iload_n hx hb d_Hr_fallback_1 rfl (lv_at hl 1 rfl) ?_
  refine va_csq (W.runV (As := [.int k]) (rest := []) ⟨hx, hb, hml, hown, hts⟩ (c_ruleAt l G cI cL cZ cR cE a0 a1 a2 a3 a4 a5 a6 a7 a8 a9 a10 a11 a12 a13 a14 a15 steps editions rules ruleCount daysTold runner_facts runner_stack runner_handleFacts runner_given_values runner_given_givers runner_handleCount runner_height runner_position runner_fault runner_cell answers_values answers_givers failures_ruleNumbers failures_hows failures_count k) (cwV 1 hts (gV kw_241 kw_243 kw_1 kw_15 kw_244) rfl rfl rfl (by decide +kernel) ⟨Nat.le_of_ble_eq_true rfl, Nat.le_of_ble_eq_true rfl⟩) (preRV_of (ci := 5) hN hK hP [0, 1, 2, 3, 4, 5, 6, 7, 8, 9, 10, 11, 12, 13, 14, 15] rfl rfl rfl) rfl rfl hl.1 rfl (lv_room (Nat.le_of_ble_eq_true rfl)) d_Hr_fallback_2 ⟨Nat.zero_le _, Nat.zero_le _⟩) (fun r_1 hw => ?_)
  rw [hq] at hw
  subst hw
  refine W.eq (g2 := F0 m 5 ls (.null :: [])) rfl ?_
  refine lv_astoreN (lv' := [(5, .null), (0, .ref a0), (1, .int k), (2, .int kind), (3, .long w)]) hx hb d_Hr_fallback_5 hl (by decide) rfl (fun ls hl => ?_)
  refine lv_aloadN hx hb d_Hr_fallback_7 (lv_at hl 0 rfl) ?_
  refine lv_ifnonnullN hx hb d_Hr_fallback_9 ?_
  refine lv_bipush (v := (-101)) hx hb d_Hr_fallback_12 (by decide) ?_
  exact W.iret (v := (-101)) hx hb hr (fun t ht hW => ⟨(-101), rfl, (by rw [← hT]; simp only [f_fallbackN]), by rw [ht, hH]⟩) (fun _ h => by cases h) d_Hr_fallback_14
def f_fallbackS (zfallbackKind : Int32) (zfallbackValue : Int64) (ystate : Int32) (kind : Int32) (w : Int64) : Int32 × Int32 × Int64 := if (f_isWithin kind.toInt64 0 3) = 0 then ((-102), (zfallbackKind, zfallbackValue)) else (if ystate = 1 then (1, (kind, w)) else ((-103), (zfallbackKind, zfallbackValue)))
set_option maxHeartbeats 4000000 in
set_option maxRecDepth 100000 in
theorem c_fallbackS (l : Launch) (G : va_G) (cI cL cZ cR cE : ClassId) (sz : Nat) (a0 a1 a2 a3 a4 a5 a6 a7 a8 a9 a10 a11 a12 a13 a14 a15 : Nat) (za0 za1 za2 : Nat) (ya0 ya1 : Nat) (steps : Int32) (editions : Nat → Option Nat) (rules : Nat → Option Nat) (ruleCount : Int32) (daysTold : Int32) (runner_facts : Nat → Int64) (runner_stack : Nat → Int64) (runner_handleFacts : Nat → Int32) (runner_given_values : Nat → Int64) (runner_given_givers : Nat → Int32) (runner_handleCount : Int32) (runner_height : Int32) (runner_position : Int32) (runner_fault : Int32) (runner_cell : Int64) (answers_values : Nat → Int64) (answers_givers : Nat → Int32) (failures_ruleNumbers : Nat → Int32) (failures_hows : Nat → Int32) (failures_count : Int32) (znumber : Int32) (zrank : Int32) (zname : Int32) (zops : Nat → Int32) (znumbers : Nat → Int64) (zlength : Int32) (zcell : Int64) (zfallbackKind : Int32) (zfallbackValue : Int64) (ystate : Int32) (ycount : Int32) (yfrom : Int32) (ytoldAs : Int32) (yorder : Nat → Option Nat) (k : Int32) (kind : Int32) (w : Int64) (hq : f_ruleAt rules ruleCount k = some za0) : Met l y_Hr_fallback w_Hr_fallback ({ frames := 1, cells := 0, slots := 0, locals := 25 }) (preW G (TYS cI cL cZ cR cE) [.ref a0, .int k, .int kind, .long w] sz (W_Hr cI cL cZ cR cE a0 a1 a2 a3 a4 a5 a6 a7 a8 a9 a10 a11 a12 a13 a14 a15 steps editions rules ruleCount daysTold runner_facts runner_stack runner_handleFacts runner_given_values runner_given_givers runner_handleCount runner_height runner_position runner_fault runner_cell answers_values answers_givers failures_ruleNumbers failures_hows failures_count ++ W_Rul cI cL cZ cR cE za0 za1 za2 znumber ya0 zrank zname zops znumbers zlength zcell zfallbackKind zfallbackValue ++ W_Edi cI cL cZ cR cE ya0 ya1 ystate ycount yfrom ytoldAs yorder)) (va_Qi (fun (ans_ : Int32) (u : Int32 × Int64) => (ans_, u) = f_fallbackS zfallbackKind zfallbackValue ystate kind w) (fun u t => va_P G vwCl (W_Hr cI cL cZ cR cE a0 a1 a2 a3 a4 a5 a6 a7 a8 a9 a10 a11 a12 a13 a14 a15 steps editions rules ruleCount daysTold runner_facts runner_stack runner_handleFacts runner_given_values runner_given_givers runner_handleCount runner_height runner_position runner_fault runner_cell answers_values answers_givers failures_ruleNumbers failures_hows failures_count ++ W_Rul cI cL cZ cR cE za0 za1 za2 znumber ya0 zrank zname zops znumbers zlength zcell u.1 u.2 ++ W_Edi cI cL cZ cR cE ya0 ya1 ystate ycount yfrom ytoldAs yorder) t.heap ∧ va_K G vwCl (TYS cI cL cZ cR cE) t ∧ va_D (va_A (W_Hr cI cL cZ cR cE a0 a1 a2 a3 a4 a5 a6 a7 a8 a9 a10 a11 a12 a13 a14 a15 steps editions rules ruleCount daysTold runner_facts runner_stack runner_handleFacts runner_given_values runner_given_givers runner_handleCount runner_height runner_position runner_fault runner_cell answers_values answers_givers failures_ruleNumbers failures_hows failures_count ++ W_Rul cI cL cZ cR cE za0 za1 za2 znumber ya0 zrank zname zops znumbers zlength zcell zfallbackKind zfallbackValue ++ W_Edi cI cL cZ cR cE ya0 ya1 ystate ycount yfrom ytoldAs yorder) sz) (W_Hr cI cL cZ cR cE a0 a1 a2 a3 a4 a5 a6 a7 a8 a9 a10 a11 a12 a13 a14 a15 steps editions rules ruleCount daysTold runner_facts runner_stack runner_handleFacts runner_given_values runner_given_givers runner_handleCount runner_height runner_position runner_fault runner_cell answers_values answers_givers failures_ruleNumbers failures_hows failures_count ++ W_Rul cI cL cZ cR cE za0 za1 za2 znumber ya0 zrank zname zops znumbers zlength zcell u.1 u.2 ++ W_Edi cI cL cZ cR cE ya0 ya1 ystate ycount yfrom ytoldAs yorder)) (va_A (W_Hr cI cL cZ cR cE a0 a1 a2 a3 a4 a5 a6 a7 a8 a9 a10 a11 a12 a13 a14 a15 steps editions rules ruleCount daysTold runner_facts runner_stack runner_handleFacts runner_given_values runner_given_givers runner_handleCount runner_height runner_position runner_fault runner_cell answers_values answers_givers failures_ruleNumbers failures_hows failures_count ++ W_Rul cI cL cZ cR cE za0 za1 za2 znumber ya0 zrank zname zops znumbers zlength zcell zfallbackKind zfallbackValue ++ W_Edi cI cL cZ cR cE ya0 ya1 ystate ycount yfrom ytoldAs yorder) sz)) 0 0 (va_A (W_Hr cI cL cZ cR cE a0 a1 a2 a3 a4 a5 a6 a7 a8 a9 a10 a11 a12 a13 a14 a15 steps editions rules ruleCount daysTold runner_facts runner_stack runner_handleFacts runner_given_values runner_given_givers runner_handleCount runner_height runner_position runner_fault runner_cell answers_values answers_givers failures_ruleNumbers failures_hows failures_count ++ W_Rul cI cL cZ cR cE za0 za1 za2 znumber ya0 zrank zname zops znumbers zlength zcell zfallbackKind zfallbackValue ++ W_Edi cI cL cZ cR cE ya0 ya1 ystate ycount yfrom ytoldAs yorder) sz) := by
  refine Met.ofW (cc := b_Hr_fallback) (maxL := 6) (ret := (some .int)) (by decide) rfl ?_
  intro p e s m args below meth c s₁ B hml hv
  obtain ⟨rfl, hsz, hP, hK, hD0, hN⟩ := hv
  have hx := B.exec
  have hb := B.bytes
  have hr := B.returns
  have hts := atoms_spec (ws := w_Hr_fallback) B.pre
  have hown : s.vm.findClass R_Hr = some m.cls := findClass_of_methodNamed B.named
  have hlocks := B.notSynchronized
  subst hsz
  have hD := hD0.self (sz := s.heap.size)
  clear hD0
  generalize hAe : va_A (W_Hr cI cL cZ cR cE a0 a1 a2 a3 a4 a5 a6 a7 a8 a9 a10 a11 a12 a13 a14 a15 steps editions rules ruleCount daysTold runner_facts runner_stack runner_handleFacts runner_given_values runner_given_givers runner_handleCount runner_height runner_position runner_fault runner_cell answers_values answers_givers failures_ruleNumbers failures_hows failures_count ++ W_Rul cI cL cZ cR cE za0 za1 za2 znumber ya0 zrank zname zops znumbers zlength zcell zfallbackKind zfallbackValue ++ W_Edi cI cL cZ cR cE ya0 ya1 ystate ycount yfrom ytoldAs yorder) s.heap.size = A at hD ⊢
  have hA : ∀ q : Nat, s.heap.size ≤ q → A q := fun q h => by rw [← hAe]; exact Or.inr h
  clear hAe
  have hS : va_S A s.heap s.heap [] := va_S.rf
  obtain ⟨H, hH⟩ : ∃ H, H = s.heap := ⟨_, rfl⟩
  rw [← hH] at hP
  replace hS : va_S A s.heap H [] := by rw [hH]; exact hS
  rw [← hH]
  clear hH
  have hi_3 : ∀ w ∈ u_ws R_Ru T_Ru 10, w ∈ w_Hr_fallback := fun w h => List.mem_cons_of_mem _ (iu_Ru w h)
  have hi_5 : ∀ w ∈ u_ws R_Ed T_Ed 5, w ∈ w_Hr_fallback := fun w h => List.mem_cons_of_mem _ (iu_Ed w h)
  have hk_1 := hts (.constantLong R_Hr 113 3) (List.mem_cons_of_mem _ kw_251)
  have hk_2 := hts (.fieldLink R_Hr 98 "HandlingRules$Rule" "home" "LHandlingRules$Edition;") (List.mem_cons_of_mem _ kw_191)
  have hk_4 := hts (.fieldLink R_Hr 74 "HandlingRules$Edition" "state" "I") (List.mem_cons_of_mem _ kw_125)
  have hk_6 := hts (.fieldLink R_Hr 115 "HandlingRules$Rule" "fallbackKind" "I") (List.mem_cons_of_mem _ kw_205)
  have hk_7 := hts (.fieldLink R_Hr 118 "HandlingRules$Rule" "fallbackValue" "J") (List.mem_cons_of_mem _ kw_207)
  have hl := lv_entry ([.ref a0, .int k, .int kind, .long w]) (n := 6) (Nat.le_of_ble_eq_true rfl)
  rw [lg_entry_eq]
  generalize (lg_sl ([.ref a0, .int k, .int kind, .long w]) ++ List.replicate (6 - (lg_sl ([.ref a0, .int k, .int kind, .long w])).length) Slot.unset).toArray = ls at hl ⊢
  replace hl : lv_has ls 6 [(0, .ref a0), (1, .int k), (2, .int kind), (3, .long w)] := hl
  generalize hT : f_fallbackS zfallbackKind zfallbackValue ystate kind w = T
  refine lv_aload_n hx hb d_Hr_fallback_0 rfl (lv_at hl 0 rfl) ?_
  refine lv_iload_n hx hb d_Hr_fallback_1 rfl (lv_at hl 1 rfl) ?_
  refine va_csq (W.runV (As := [.int k]) (rest := []) ⟨hx, hb, hml, hown, hts⟩ (c_ruleAt l G cI cL cZ cR cE a0 a1 a2 a3 a4 a5 a6 a7 a8 a9 a10 a11 a12 a13 a14 a15 steps editions rules ruleCount daysTold runner_facts runner_stack runner_handleFacts runner_given_values runner_given_givers runner_handleCount runner_height runner_position runner_fault runner_cell answers_values answers_givers failures_ruleNumbers failures_hows failures_count k) (cwV 1 hts (gV kw_241 kw_243 kw_1 kw_15 kw_244) rfl rfl rfl (by decide +kernel) ⟨Nat.le_of_ble_eq_true rfl, Nat.le_of_ble_eq_true rfl⟩) (preRV_of (ci := 5) hN hK hP [0, 1, 2, 3, 4, 5, 6, 7, 8, 9, 10, 11, 12, 13, 14, 15] rfl rfl rfl) rfl rfl hl.1 rfl (lv_room (Nat.le_of_ble_eq_true rfl)) d_Hr_fallback_2 ⟨Nat.zero_le _, Nat.zero_le _⟩) (fun r_1 hw => ?_)
  rw [hq] at hw
  subst hw
  refine W.eq (g2 := F0 m 5 ls (.ref za0 :: [])) rfl ?_
  refine lv_astore (lv' := [(5, .ref za0), (0, .ref a0), (1, .int k), (2, .int kind), (3, .long w)]) hx hb d_Hr_fallback_5 hl (by decide) rfl (fun ls hl => ?_)
  refine lv_aload hx hb d_Hr_fallback_7 (lv_at hl 0 rfl) ?_
  refine lv_ifnonnull (tgt := 15) hx hb d_Hr_fallback_9 (by decide) ?_
  refine lv_iload_n hx hb d_Hr_fallback_15 rfl (lv_at hl 3 rfl) ?_
  refine lv_i2l (v := kind.toInt64) hx hb d_Hr_fallback_16 rfl ?_
  refine lv_lconst (v := 0) hx hb d_Hr_fallback_17 (by decide) ?_
  refine lv_ldc2 (v := 3) hx hb hown hk_1 d_Hr_fallback_18 ?_
  refine vp_callSi (W.runS (As := [.long kind.toInt64, .long 0, .long 3]) (rest := []) ⟨hx, hb, hml, hown, hts⟩ (c_isWithin l G cI cL cZ cR cE  kind.toInt64 0 3) (va_cwS 3 hts (gS kw_178 kw_179 kw_15 kw_180) rfl rfl rfl (by decide +kernel) ⟨Nat.le_of_ble_eq_true rfl, Nat.le_of_ble_eq_true rfl⟩) (preRS_of hN hK hP [] rfl) rfl rfl hl.1 rfl (lv_room (Nat.le_of_ble_eq_true rfl)) d_Hr_fallback_21 ⟨Nat.zero_le _, Nat.zero_le _⟩) (fun r_2 hw => ?_)
  subst hw
  refine lv_if_ne (tgt := 30) hx hb d_Hr_fallback_24 (by decide) (fun c_3 => ?_) (fun c_3 => ?_)
  · refine lv_aload hx hb d_Hr_fallback_30 (lv_at hl 0 rfl) ?_
    refine va_get (D := G) (ci := 3) (v := .ref ya0) (C := R_Ru) (T := T_Ru) (N := 10) hx hb hts hi_3 hown hK hP 16 rfl rfl 1 (by decide) hk_2 (fun _ h9 => h9) rfl d_Hr_fallback_32 ?_
    refine va_get (D := G) (ci := 1) (v := .int ystate) (C := R_Ed) (T := T_Ed) (N := 5) hx hb hts hi_5 hown hK hP 19 rfl rfl 0 (by decide) hk_4 (fun _ h9 => h9) rfl d_Hr_fallback_35 ?_
    refine lv_iconst (v := 1) hx hb d_Hr_fallback_38 (by decide) ?_
    refine lv_icmp_eq (tgt := 45) hx hb d_Hr_fallback_39 (by decide) (fun c_4 => ?_) (fun c_4 => ?_)
    · refine lv_aload hx hb d_Hr_fallback_45 (lv_at hl 0 rfl) ?_
      refine lv_iload_n hx hb d_Hr_fallback_47 rfl (lv_at hl 3 rfl) ?_
      refine va_put (D := G) (ci := 3) (v := .int kind) (ty := (.int)) (C := R_Ru) (T := T_Ru) (N := 10) hx hb hts hi_3 ty_Ru tyk_Ru nm_Ru hown hK hP hD hS 16 rfl rfl 8 (by decide) hk_6 (fun _ h9 => h9) rfl (by decide +kernel) rfl rfl (Nat.le_of_ble_eq_true rfl) d_Hr_fallback_48 (fun H locs hP hD hS => ?_)
      replace hP : va_P G vwCl (W_Hr cI cL cZ cR cE a0 a1 a2 a3 a4 a5 a6 a7 a8 a9 a10 a11 a12 a13 a14 a15 steps editions rules ruleCount daysTold runner_facts runner_stack runner_handleFacts runner_given_values runner_given_givers runner_handleCount runner_height runner_position runner_fault runner_cell answers_values answers_givers failures_ruleNumbers failures_hows failures_count ++ W_Rul cI cL cZ cR cE za0 za1 za2 znumber ya0 zrank zname zops znumbers zlength zcell kind zfallbackValue ++ W_Edi cI cL cZ cR cE ya0 ya1 ystate ycount yfrom ytoldAs yorder) H := hP
      replace hD : va_D A (W_Hr cI cL cZ cR cE a0 a1 a2 a3 a4 a5 a6 a7 a8 a9 a10 a11 a12 a13 a14 a15 steps editions rules ruleCount daysTold runner_facts runner_stack runner_handleFacts runner_given_values runner_given_givers runner_handleCount runner_height runner_position runner_fault runner_cell answers_values answers_givers failures_ruleNumbers failures_hows failures_count ++ W_Rul cI cL cZ cR cE za0 za1 za2 znumber ya0 zrank zname zops znumbers zlength zcell kind zfallbackValue ++ W_Edi cI cL cZ cR cE ya0 ya1 ystate ycount yfrom ytoldAs yorder) := hD
      refine lv_aload hx hb d_Hr_fallback_51 (lv_at hl 0 rfl) ?_
      refine lv_lload_n hx hb d_Hr_fallback_53 rfl (lv_at hl 4 rfl) ?_
      refine va_put (D := G) (ci := 3) (v := .long w) (ty := (.long)) (C := R_Ru) (T := T_Ru) (N := 10) hx hb hts hi_3 ty_Ru tyk_Ru nm_Ru hown hK hP hD hS 16 rfl rfl 9 (by decide) hk_7 (fun _ h9 => h9) rfl (by decide +kernel) rfl rfl (Nat.le_of_ble_eq_true rfl) d_Hr_fallback_54 (fun H locs hP hD hS => ?_)
      replace hP : va_P G vwCl (W_Hr cI cL cZ cR cE a0 a1 a2 a3 a4 a5 a6 a7 a8 a9 a10 a11 a12 a13 a14 a15 steps editions rules ruleCount daysTold runner_facts runner_stack runner_handleFacts runner_given_values runner_given_givers runner_handleCount runner_height runner_position runner_fault runner_cell answers_values answers_givers failures_ruleNumbers failures_hows failures_count ++ W_Rul cI cL cZ cR cE za0 za1 za2 znumber ya0 zrank zname zops znumbers zlength zcell kind w ++ W_Edi cI cL cZ cR cE ya0 ya1 ystate ycount yfrom ytoldAs yorder) H := hP
      replace hD : va_D A (W_Hr cI cL cZ cR cE a0 a1 a2 a3 a4 a5 a6 a7 a8 a9 a10 a11 a12 a13 a14 a15 steps editions rules ruleCount daysTold runner_facts runner_stack runner_handleFacts runner_given_values runner_given_givers runner_handleCount runner_height runner_position runner_fault runner_cell answers_values answers_givers failures_ruleNumbers failures_hows failures_count ++ W_Rul cI cL cZ cR cE za0 za1 za2 znumber ya0 zrank zname zops znumbers zlength zcell kind w ++ W_Edi cI cL cZ cR cE ya0 ya1 ystate ycount yfrom ytoldAs yorder) := hD
      refine lv_iconst (v := 1) hx hb d_Hr_fallback_57 (by decide) ?_
      exact W.iret (v := 1) hx hb hr (fun t ht hW => ⟨⟨1, (kind, w), rfl, (by rw [← hT]; simp only [f_fallbackS, if_neg c_3, if_pos c_4]), by rw [ht]; exact hP, va_K.moved hW.alike hK, hD⟩, hS.F ht⟩) hS.2.2 d_Hr_fallback_58
    · refine lv_bipush (v := (-103)) hx hb d_Hr_fallback_42 (by decide) ?_
      exact W.iret (v := (-103)) hx hb hr (fun t ht hW => ⟨⟨(-103), (zfallbackKind, zfallbackValue), rfl, (by rw [← hT]; simp only [f_fallbackS, if_neg c_3, if_neg c_4]), by rw [ht]; exact hP, va_K.moved hW.alike hK, hD⟩, hS.F ht⟩) hS.2.2 d_Hr_fallback_44
  · refine lv_bipush (v := (-102)) hx hb d_Hr_fallback_27 (by decide) ?_
    exact W.iret (v := (-102)) hx hb hr (fun t ht hW => ⟨⟨(-102), (zfallbackKind, zfallbackValue), rfl, (by rw [← hT]; simp only [f_fallbackS, if_pos c_3]), by rw [ht]; exact hP, va_K.moved hW.alike hK, hD⟩, hS.F ht⟩) hS.2.2 d_Hr_fallback_29
def f_cellN  : Int64 := 0
set_option maxHeartbeats 4000000 in
set_option maxRecDepth 100000 in
theorem c_cellN (l : Launch) (G : va_G) (cI cL cZ cR cE : ClassId) (a0 a1 a2 a3 a4 a5 a6 a7 a8 a9 a10 a11 a12 a13 a14 a15 : Nat) (steps : Int32) (editions : Nat → Option Nat) (rules : Nat → Option Nat) (ruleCount : Int32) (daysTold : Int32) (runner_facts : Nat → Int64) (runner_stack : Nat → Int64) (runner_handleFacts : Nat → Int32) (runner_given_values : Nat → Int64) (runner_given_givers : Nat → Int32) (runner_handleCount : Int32) (runner_height : Int32) (runner_position : Int32) (runner_fault : Int32) (runner_cell : Int64) (answers_values : Nat → Int64) (answers_givers : Nat → Int32) (failures_ruleNumbers : Nat → Int32) (failures_hows : Nat → Int32) (failures_count : Int32) (k : Int32) (hq : f_ruleAt rules ruleCount k = none) : Met l y_Hr_cell w_Hr_cell ({ frames := 1, cells := 0, slots := 0, locals := 21 }) (preR G (TYS cI cL cZ cR cE) [.ref a0, .int k] (W_Hr cI cL cZ cR cE a0 a1 a2 a3 a4 a5 a6 a7 a8 a9 a10 a11 a12 a13 a14 a15 steps editions rules ruleCount daysTold runner_facts runner_stack runner_handleFacts runner_given_values runner_given_givers runner_handleCount runner_height runner_position runner_fault runner_cell answers_values answers_givers failures_ruleNumbers failures_hows failures_count)) (vp_Sl (fun ans_ => ans_ = f_cellN )) 0 0 (fun _ => False) := by
  refine Met.ofW (cc := b_Hr_cell) (maxL := 3) (ret := (some .long)) (by decide) rfl ?_
  intro p e s m args below meth c s₁ B hml hv
  obtain ⟨rfl, hP, hK, hN⟩ := hv
  have hx := B.exec
  have hb := B.bytes
  have hr := B.returns
  have hts := atoms_spec (ws := w_Hr_cell) B.pre
  have hown : s.vm.findClass R_Hr = some m.cls := findClass_of_methodNamed B.named
  have hlocks := B.notSynchronized
  obtain ⟨H, hH⟩ : ∃ H, H = s.heap := ⟨_, rfl⟩
  rw [← hH] at hP
  rw [← hH]
  have hl := lv_entry ([.ref a0, .int k]) (n := 3) (Nat.le_of_ble_eq_true rfl)
  rw [lg_entry_eq]
  generalize (lg_sl ([.ref a0, .int k]) ++ List.replicate (3 - (lg_sl ([.ref a0, .int k])).length) Slot.unset).toArray = ls at hl ⊢
  replace hl : lv_has ls 3 [(0, .ref a0), (1, .int k)] := hl
  generalize hT : f_cellN  = T
  refine lv_aload_n hx hb d_Hr_cell_0 rfl (lv_at hl 0 rfl) ?_
  refine lv_iload_n hx hb d_Hr_cell_1 rfl (lv_at hl 1 rfl) ?_
  refine va_csq (W.runV (As := [.int k]) (rest := []) ⟨hx, hb, hml, hown, hts⟩ (c_ruleAt l G cI cL cZ cR cE a0 a1 a2 a3 a4 a5 a6 a7 a8 a9 a10 a11 a12 a13 a14 a15 steps editions rules ruleCount daysTold runner_facts runner_stack runner_handleFacts runner_given_values runner_given_givers runner_handleCount runner_height runner_position runner_fault runner_cell answers_values answers_givers failures_ruleNumbers failures_hows failures_count k) (cwV 1 hts (gV kw_241 kw_243 kw_1 kw_15 kw_244) rfl rfl rfl (by decide +kernel) ⟨Nat.le_of_ble_eq_true rfl, Nat.le_of_ble_eq_true rfl⟩) (preRV_of (ci := 5) hN hK hP [0, 1, 2, 3, 4, 5, 6, 7, 8, 9, 10, 11, 12, 13, 14, 15] rfl rfl rfl) rfl rfl hl.1 rfl (lv_room (Nat.le_of_ble_eq_true rfl)) d_Hr_cell_2 ⟨Nat.zero_le _, Nat.zero_le _⟩) (fun r_1 hw => ?_)
  rw [hq] at hw
  subst hw
  refine W.eq (g2 := F0 m 5 ls (.null :: [])) rfl ?_
  refine lv_astore_nN (lv' := [(2, .null), (0, .ref a0), (1, .int k)]) hx hb d_Hr_cell_5 rfl hl (by decide) rfl (fun ls hl => ?_)
  refine lv_aload_nN hx hb d_Hr_cell_6 rfl (lv_at hl 0 rfl) ?_
  refine lv_ifnonnullN hx hb d_Hr_cell_7 ?_
  refine lv_lconst (v := 0) hx hb d_Hr_cell_10 (by decide) ?_
  refine lv_goto (tgt := 18) hx hb d_Hr_cell_11 (by decide) ?_
  exact W.lret (v := 0) hx hb hr (fun t ht hW => ⟨0, rfl, (by rw [← hT]; simp only [f_cellN]), by rw [ht, hH]⟩) (fun _ h => by cases h) d_Hr_cell_18
def f_cellS (zcell : Int64) : Int64 := zcell
set_option maxHeartbeats 4000000 in
set_option maxRecDepth 100000 in
theorem c_cellS (l : Launch) (G : va_G) (cI cL cZ cR cE : ClassId) (a0 a1 a2 a3 a4 a5 a6 a7 a8 a9 a10 a11 a12 a13 a14 a15 : Nat) (za0 za1 za2 : Nat) (steps : Int32) (editions : Nat → Option Nat) (rules : Nat → Option Nat) (ruleCount : Int32) (daysTold : Int32) (runner_facts : Nat → Int64) (runner_stack : Nat → Int64) (runner_handleFacts : Nat → Int32) (runner_given_values : Nat → Int64) (runner_given_givers : Nat → Int32) (runner_handleCount : Int32) (runner_height : Int32) (runner_position : Int32) (runner_fault : Int32) (runner_cell : Int64) (answers_values : Nat → Int64) (answers_givers : Nat → Int32) (failures_ruleNumbers : Nat → Int32) (failures_hows : Nat → Int32) (failures_count : Int32) (znumber : Int32) (zhome : Nat) (zrank : Int32) (zname : Int32) (zops : Nat → Int32) (znumbers : Nat → Int64) (zlength : Int32) (zcell : Int64) (zfallbackKind : Int32) (zfallbackValue : Int64) (k : Int32) (hq : f_ruleAt rules ruleCount k = some za0) : Met l y_Hr_cell w_Hr_cell ({ frames := 1, cells := 0, slots := 0, locals := 21 }) (preR G (TYS cI cL cZ cR cE) [.ref a0, .int k] (W_Hr cI cL cZ cR cE a0 a1 a2 a3 a4 a5 a6 a7 a8 a9 a10 a11 a12 a13 a14 a15 steps editions rules ruleCount daysTold runner_facts runner_stack runner_handleFacts runner_given_values runner_given_givers runner_handleCount runner_height runner_position runner_fault runner_cell answers_values answers_givers failures_ruleNumbers failures_hows failures_count ++ W_Rul cI cL cZ cR cE za0 za1 za2 znumber zhome zrank zname zops znumbers zlength zcell zfallbackKind zfallbackValue)) (vp_Sl (fun ans_ => ans_ = f_cellS zcell)) 0 0 (fun _ => False) := by
  refine Met.ofW (cc := b_Hr_cell) (maxL := 3) (ret := (some .long)) (by decide) rfl ?_
  intro p e s m args below meth c s₁ B hml hv
  obtain ⟨rfl, hP, hK, hN⟩ := hv
  have hx := B.exec
  have hb := B.bytes
  have hr := B.returns
  have hts := atoms_spec (ws := w_Hr_cell) B.pre
  have hown : s.vm.findClass R_Hr = some m.cls := findClass_of_methodNamed B.named
  have hlocks := B.notSynchronized
  obtain ⟨H, hH⟩ : ∃ H, H = s.heap := ⟨_, rfl⟩
  rw [← hH] at hP
  rw [← hH]
  have hi_2 : ∀ w ∈ u_ws R_Ru T_Ru 10, w ∈ w_Hr_cell := fun w h => List.mem_cons_of_mem _ (iu_Ru w h)
  have hk_1 := hts (.fieldLink R_Hr 173 "HandlingRules$Rule" "cell" "J") (List.mem_cons_of_mem _ kw_203)
  have hl := lv_entry ([.ref a0, .int k]) (n := 3) (Nat.le_of_ble_eq_true rfl)
  rw [lg_entry_eq]
  generalize (lg_sl ([.ref a0, .int k]) ++ List.replicate (3 - (lg_sl ([.ref a0, .int k])).length) Slot.unset).toArray = ls at hl ⊢
  replace hl : lv_has ls 3 [(0, .ref a0), (1, .int k)] := hl
  generalize hT : f_cellS zcell = T
  refine lv_aload_n hx hb d_Hr_cell_0 rfl (lv_at hl 0 rfl) ?_
  refine lv_iload_n hx hb d_Hr_cell_1 rfl (lv_at hl 1 rfl) ?_
  refine va_csq (W.runV (As := [.int k]) (rest := []) ⟨hx, hb, hml, hown, hts⟩ (c_ruleAt l G cI cL cZ cR cE a0 a1 a2 a3 a4 a5 a6 a7 a8 a9 a10 a11 a12 a13 a14 a15 steps editions rules ruleCount daysTold runner_facts runner_stack runner_handleFacts runner_given_values runner_given_givers runner_handleCount runner_height runner_position runner_fault runner_cell answers_values answers_givers failures_ruleNumbers failures_hows failures_count k) (cwV 1 hts (gV kw_241 kw_243 kw_1 kw_15 kw_244) rfl rfl rfl (by decide +kernel) ⟨Nat.le_of_ble_eq_true rfl, Nat.le_of_ble_eq_true rfl⟩) (preRV_of (ci := 5) hN hK hP [0, 1, 2, 3, 4, 5, 6, 7, 8, 9, 10, 11, 12, 13, 14, 15] rfl rfl rfl) rfl rfl hl.1 rfl (lv_room (Nat.le_of_ble_eq_true rfl)) d_Hr_cell_2 ⟨Nat.zero_le _, Nat.zero_le _⟩) (fun r_1 hw => ?_)
  rw [hq] at hw
  subst hw
  refine W.eq (g2 := F0 m 5 ls (.ref za0 :: [])) rfl ?_
  refine lv_astore_n (lv' := [(2, .ref za0), (0, .ref a0), (1, .int k)]) hx hb d_Hr_cell_5 rfl hl (by decide) rfl (fun ls hl => ?_)
  refine lv_aload_n hx hb d_Hr_cell_6 rfl (lv_at hl 0 rfl) ?_
  refine lv_ifnonnull (tgt := 14) hx hb d_Hr_cell_7 (by decide) ?_
  refine lv_aload_n hx hb d_Hr_cell_14 rfl (lv_at hl 0 rfl) ?_
  refine va_get (D := G) (ci := 3) (v := .long zcell) (C := R_Ru) (T := T_Ru) (N := 10) hx hb hts hi_2 hown hK hP 16 rfl rfl 7 (by decide) hk_1 (fun _ h9 => h9) rfl d_Hr_cell_15 ?_
  exact W.lret (v := zcell) hx hb hr (fun t ht hW => ⟨zcell, rfl, (by rw [← hT]; simp only [f_cellS]), by rw [ht, hH]⟩) (fun _ h => by cases h) d_Hr_cell_18
def f_editionN  : Int32 := (-102)
set_option maxHeartbeats 4000000 in
set_option maxRecDepth 100000 in
theorem c_editionN (l : Launch) (G : va_G) (cI cL cZ cR cE : ClassId) (a0 a1 a2 a3 a4 a5 a6 a7 a8 a9 a10 a11 a12 a13 a14 a15 : Nat) (steps : Int32) (editions : Nat → Option Nat) (rules : Nat → Option Nat) (ruleCount : Int32) (daysTold : Int32) (runner_facts : Nat → Int64) (runner_stack : Nat → Int64) (runner_handleFacts : Nat → Int32) (runner_given_values : Nat → Int64) (runner_given_givers : Nat → Int32) (runner_handleCount : Int32) (runner_height : Int32) (runner_position : Int32) (runner_fault : Int32) (runner_cell : Int64) (answers_values : Nat → Int64) (answers_givers : Nat → Int32) (failures_ruleNumbers : Nat → Int32) (failures_hows : Nat → Int32) (failures_count : Int32) (k : Int32) (what : Int32) (hq : f_editionAt editions k = none) : Met l y_Hr_edition w_Hr_edition ({ frames := 1, cells := 0, slots := 0, locals := 21 }) (preR G (TYS cI cL cZ cR cE) [.ref a0, .int k, .int what] (W_Hr cI cL cZ cR cE a0 a1 a2 a3 a4 a5 a6 a7 a8 a9 a10 a11 a12 a13 a14 a15 steps editions rules ruleCount daysTold runner_facts runner_stack runner_handleFacts runner_given_values runner_given_givers runner_handleCount runner_height runner_position runner_fault runner_cell answers_values answers_givers failures_ruleNumbers failures_hows failures_count)) (vp_Si (fun ans_ => ans_ = f_editionN )) 0 0 (fun _ => False) := by
  refine Met.ofW (cc := b_Hr_edition) (maxL := 4) (ret := (some .int)) (by decide) rfl ?_
  intro p e s m args below meth c s₁ B hml hv
  obtain ⟨rfl, hP, hK, hN⟩ := hv
  have hx := B.exec
  have hb := B.bytes
  have hr := B.returns
  have hts := atoms_spec (ws := w_Hr_edition) B.pre
  have hown : s.vm.findClass R_Hr = some m.cls := findClass_of_methodNamed B.named
  have hlocks := B.notSynchronized
  obtain ⟨H, hH⟩ : ∃ H, H = s.heap := ⟨_, rfl⟩
  rw [← hH] at hP
  rw [← hH]
  have hl := lv_entry ([.ref a0, .int k, .int what]) (n := 4) (Nat.le_of_ble_eq_true rfl)
  rw [lg_entry_eq]
  generalize (lg_sl ([.ref a0, .int k, .int what]) ++ List.replicate (4 - (lg_sl ([.ref a0, .int k, .int what])).length) Slot.unset).toArray = ls at hl ⊢
  replace hl : lv_has ls 4 [(0, .ref a0), (1, .int k), (2, .int what)] := hl
  generalize hT : f_editionN  = T
  refine lv_aload_n hx hb d_Hr_edition_0 rfl (lv_at hl 0 rfl) ?_
  refine lv_iload_n hx hb d_Hr_edition_1 rfl (lv_at hl 1 rfl) ?_
  refine va_csq (W.runV (As := [.int k]) (rest := []) ⟨hx, hb, hml, hown, hts⟩ (c_editionAt l G cI cL cZ cR cE a0 a1 a2 a3 a4 a5 a6 a7 a8 a9 a10 a11 a12 a13 a14 a15 steps editions rules ruleCount daysTold runner_facts runner_stack runner_handleFacts runner_given_values runner_given_givers runner_handleCount runner_height runner_position runner_fault runner_cell answers_values answers_givers failures_ruleNumbers failures_hows failures_count k) (cwV 1 hts (gV kw_173 kw_175 kw_0 kw_15 kw_176) rfl rfl rfl (by decide +kernel) ⟨Nat.le_of_ble_eq_true rfl, Nat.le_of_ble_eq_true rfl⟩) (preRV_of (ci := 5) hN hK hP [0, 1, 2, 3, 4, 5, 6, 7, 8, 9, 10, 11, 12, 13, 14, 15] rfl rfl rfl) rfl rfl hl.1 rfl (lv_room (Nat.le_of_ble_eq_true rfl)) d_Hr_edition_2 ⟨Nat.zero_le _, Nat.zero_le _⟩) (fun r_1 hw => ?_)
  rw [hq] at hw
  subst hw
  refine W.eq (g2 := F0 m 5 ls (.null :: [])) rfl ?_
  refine lv_astore_nN (lv' := [(3, .null), (0, .ref a0), (1, .int k), (2, .int what)]) hx hb d_Hr_edition_5 rfl hl (by decide) rfl (fun ls hl => ?_)
  refine lv_aload_nN hx hb d_Hr_edition_6 rfl (lv_at hl 0 rfl) ?_
  refine lv_ifnonnullN hx hb d_Hr_edition_7 ?_
  refine lv_bipush (v := (-102)) hx hb d_Hr_edition_10 (by decide) ?_
  exact W.iret (v := (-102)) hx hb hr (fun t ht hW => ⟨(-102), rfl, (by rw [← hT]; simp only [f_editionN]), by rw [ht, hH]⟩) (fun _ h => by cases h) d_Hr_edition_12
def f_editionS (ystate : Int32) (ycount : Int32) (yfrom : Int32) (what : Int32) : Int32 := if what = 0 then ystate else (if what = 1 then ycount else (if what = 2 then yfrom else (-102)))
set_option maxHeartbeats 4000000 in
set_option maxRecDepth 100000 in
theorem c_editionS (l : Launch) (G : va_G) (cI cL cZ cR cE : ClassId) (a0 a1 a2 a3 a4 a5 a6 a7 a8 a9 a10 a11 a12 a13 a14 a15 : Nat) (ya0 ya1 : Nat) (steps : Int32) (editions : Nat → Option Nat) (rules : Nat → Option Nat) (ruleCount : Int32) (daysTold : Int32) (runner_facts : Nat → Int64) (runner_stack : Nat → Int64) (runner_handleFacts : Nat → Int32) (runner_given_values : Nat → Int64) (runner_given_givers : Nat → Int32) (runner_handleCount : Int32) (runner_height : Int32) (runner_position : Int32) (runner_fault : Int32) (runner_cell : Int64) (answers_values : Nat → Int64) (answers_givers : Nat → Int32) (failures_ruleNumbers : Nat → Int32) (failures_hows : Nat → Int32) (failures_count : Int32) (ystate : Int32) (ycount : Int32) (yfrom : Int32) (ytoldAs : Int32) (yorder : Nat → Option Nat) (k : Int32) (what : Int32) (hq : f_editionAt editions k = some ya0) : Met l y_Hr_edition w_Hr_edition ({ frames := 1, cells := 0, slots := 0, locals := 21 }) (preR G (TYS cI cL cZ cR cE) [.ref a0, .int k, .int what] (W_Hr cI cL cZ cR cE a0 a1 a2 a3 a4 a5 a6 a7 a8 a9 a10 a11 a12 a13 a14 a15 steps editions rules ruleCount daysTold runner_facts runner_stack runner_handleFacts runner_given_values runner_given_givers runner_handleCount runner_height runner_position runner_fault runner_cell answers_values answers_givers failures_ruleNumbers failures_hows failures_count ++ W_Edi cI cL cZ cR cE ya0 ya1 ystate ycount yfrom ytoldAs yorder)) (vp_Si (fun ans_ => ans_ = f_editionS ystate ycount yfrom what)) 0 0 (fun _ => False) := by
  refine Met.ofW (cc := b_Hr_edition) (maxL := 4) (ret := (some .int)) (by decide) rfl ?_
  intro p e s m args below meth c s₁ B hml hv
  obtain ⟨rfl, hP, hK, hN⟩ := hv
  have hx := B.exec
  have hb := B.bytes
  have hr := B.returns
  have hts := atoms_spec (ws := w_Hr_edition) B.pre
  have hown : s.vm.findClass R_Hr = some m.cls := findClass_of_methodNamed B.named
  have hlocks := B.notSynchronized
  obtain ⟨H, hH⟩ : ∃ H, H = s.heap := ⟨_, rfl⟩
  rw [← hH] at hP
  rw [← hH]
  have hi_2 : ∀ w ∈ u_ws R_Ed T_Ed 5, w ∈ w_Hr_edition := fun w h => List.mem_cons_of_mem _ (iu_Ed w h)
  have hk_1 := hts (.fieldLink R_Hr 74 "HandlingRules$Edition" "state" "I") (List.mem_cons_of_mem _ kw_125)
  have hk_3 := hts (.fieldLink R_Hr 77 "HandlingRules$Edition" "count" "I") (List.mem_cons_of_mem _ kw_127)
  have hk_4 := hts (.fieldLink R_Hr 140 "HandlingRules$Edition" "from" "I") (List.mem_cons_of_mem _ kw_129)
  have hl := lv_entry ([.ref a0, .int k, .int what]) (n := 4) (Nat.le_of_ble_eq_true rfl)
  rw [lg_entry_eq]
  generalize (lg_sl ([.ref a0, .int k, .int what]) ++ List.replicate (4 - (lg_sl ([.ref a0, .int k, .int what])).length) Slot.unset).toArray = ls at hl ⊢
  replace hl : lv_has ls 4 [(0, .ref a0), (1, .int k), (2, .int what)] := hl
  generalize hT : f_editionS ystate ycount yfrom what = T
  refine lv_aload_n hx hb d_Hr_edition_0 rfl (lv_at hl 0 rfl) ?_
  refine lv_iload_n hx hb d_Hr_edition_1 rfl (lv_at hl 1 rfl) ?_
  refine va_csq (W.runV (As := [.int k]) (rest := []) ⟨hx, hb, hml, hown, hts⟩ (c_editionAt l G cI cL cZ cR cE a0 a1 a2 a3 a4 a5 a6 a7 a8 a9 a10 a11 a12 a13 a14 a15 steps editions rules ruleCount daysTold runner_facts runner_stack runner_handleFacts runner_given_values runner_given_givers runner_handleCount runner_height runner_position runner_fault runner_cell answers_values answers_givers failures_ruleNumbers failures_hows failures_count k) (cwV 1 hts (gV kw_173 kw_175 kw_0 kw_15 kw_176) rfl rfl rfl (by decide +kernel) ⟨Nat.le_of_ble_eq_true rfl, Nat.le_of_ble_eq_true rfl⟩) (preRV_of (ci := 5) hN hK hP [0, 1, 2, 3, 4, 5, 6, 7, 8, 9, 10, 11, 12, 13, 14, 15] rfl rfl rfl) rfl rfl hl.1 rfl (lv_room (Nat.le_of_ble_eq_true rfl)) d_Hr_edition_2 ⟨Nat.zero_le _, Nat.zero_le _⟩) (fun r_1 hw => ?_)
  rw [hq] at hw
  subst hw
  refine W.eq (g2 := F0 m 5 ls (.ref ya0 :: [])) rfl ?_
  refine lv_astore_n (lv' := [(3, .ref ya0), (0, .ref a0), (1, .int k), (2, .int what)]) hx hb d_Hr_edition_5 rfl hl (by decide) rfl (fun ls hl => ?_)
  refine lv_aload_n hx hb d_Hr_edition_6 rfl (lv_at hl 0 rfl) ?_
  refine lv_ifnonnull (tgt := 13) hx hb d_Hr_edition_7 (by decide) ?_
  refine lv_iload_n hx hb d_Hr_edition_13 rfl (lv_at hl 3 rfl) ?_
  by_cases c_2 : what = 0
  · refine sw_t (x := what) (tgt := 40) hx hb d_Hr_edition_14 (by rw [c_2]; decide) ?_
    refine lv_aload_n hx hb d_Hr_edition_40 rfl (lv_at hl 0 rfl) ?_
    refine va_get (D := G) (ci := 1) (v := .int ystate) (C := R_Ed) (T := T_Ed) (N := 5) hx hb hts hi_2 hown hK hP 16 rfl rfl 0 (by decide) hk_1 (fun _ h9 => h9) rfl d_Hr_edition_41 ?_
    exact W.iret (v := ystate) hx hb hr (fun t ht hW => ⟨ystate, rfl, (by rw [← hT]; simp only [f_editionS, if_pos c_2]), by rw [ht, hH]⟩) (fun _ h => by cases h) d_Hr_edition_44
  ·
    by_cases c_3 : what = 1
    · refine sw_t (x := what) (tgt := 45) hx hb d_Hr_edition_14 (by rw [c_3]; decide) ?_
      refine lv_aload_n hx hb d_Hr_edition_45 rfl (lv_at hl 0 rfl) ?_
      refine va_get (D := G) (ci := 1) (v := .int ycount) (C := R_Ed) (T := T_Ed) (N := 5) hx hb hts hi_2 hown hK hP 16 rfl rfl 1 (by decide) hk_3 (fun _ h9 => h9) rfl d_Hr_edition_46 ?_
      exact W.iret (v := ycount) hx hb hr (fun t ht hW => ⟨ycount, rfl, (by rw [← hT]; simp only [f_editionS, if_neg c_2, if_pos c_3]), by rw [ht, hH]⟩) (fun _ h => by cases h) d_Hr_edition_49
    ·
      by_cases c_4 : what = 2
      · refine sw_t (x := what) (tgt := 50) hx hb d_Hr_edition_14 (by rw [c_4]; decide) ?_
        refine lv_aload_n hx hb d_Hr_edition_50 rfl (lv_at hl 0 rfl) ?_
        refine va_get (D := G) (ci := 1) (v := .int yfrom) (C := R_Ed) (T := T_Ed) (N := 5) hx hb hts hi_2 hown hK hP 16 rfl rfl 2 (by decide) hk_4 (fun _ h9 => h9) rfl d_Hr_edition_51 ?_
        exact W.iret (v := yfrom) hx hb hr (fun t ht hW => ⟨yfrom, rfl, (by rw [← hT]; simp only [f_editionS, if_neg c_2, if_neg c_3, if_pos c_4]), by rw [ht, hH]⟩) (fun _ h => by cases h) d_Hr_edition_54
      ·
        refine sw_t (x := what) (tgt := 55) hx hb d_Hr_edition_14 (sw_d (by decide) [0, 1, 2] (by decide) (List.forall_mem_cons.mpr ⟨sw_ne c_2 rfl, (List.forall_mem_cons.mpr ⟨sw_ne c_3 rfl, (List.forall_mem_cons.mpr ⟨sw_ne c_4 rfl, (fun _ h => nomatch h)⟩)⟩)⟩)) ?_
        refine lv_bipush (v := (-102)) hx hb d_Hr_edition_55 (by decide) ?_
        exact W.iret (v := (-102)) hx hb hr (fun t ht hW => ⟨(-102), rfl, (by rw [← hT]; simp only [f_editionS, if_neg c_2, if_neg c_3, if_neg c_4]), by rw [ht, hH]⟩) (fun _ h => by cases h) d_Hr_edition_57
def f_dayN  : Int32 := (-102)
set_option maxHeartbeats 4000000 in
set_option maxRecDepth 100000 in
theorem c_dayN (l : Launch) (G : va_G) (cI cL cZ cR cE : ClassId) (a0 a1 a2 a3 a4 a5 a6 a7 a8 a9 a10 a11 a12 a13 a14 a15 : Nat) (steps : Int32) (editions : Nat → Option Nat) (rules : Nat → Option Nat) (ruleCount : Int32) (daysTold : Int32) (runner_facts : Nat → Int64) (runner_stack : Nat → Int64) (runner_handleFacts : Nat → Int32) (runner_given_values : Nat → Int64) (runner_given_givers : Nat → Int32) (runner_handleCount : Int32) (runner_height : Int32) (runner_position : Int32) (runner_fault : Int32) (runner_cell : Int64) (answers_values : Nat → Int64) (answers_givers : Nat → Int32) (failures_ruleNumbers : Nat → Int32) (failures_hows : Nat → Int32) (failures_count : Int32) (k : Int32) (fr : Int32) (hq : f_editionAt editions k = none) : Met l y_Hr_day w_Hr_day ({ frames := 1, cells := 0, slots := 0, locals := 21 }) (preR G (TYS cI cL cZ cR cE) [.ref a0, .int k, .int fr] (W_Hr cI cL cZ cR cE a0 a1 a2 a3 a4 a5 a6 a7 a8 a9 a10 a11 a12 a13 a14 a15 steps editions rules ruleCount daysTold runner_facts runner_stack runner_handleFacts runner_given_values runner_given_givers runner_handleCount runner_height runner_position runner_fault runner_cell answers_values answers_givers failures_ruleNumbers failures_hows failures_count)) (vp_Si (fun ans_ => ans_ = f_dayN )) 0 0 (fun _ => False) := by
  refine Met.ofW (cc := b_Hr_day) (maxL := 4) (ret := (some .int)) (by decide) rfl ?_
  intro p e s m args below meth c s₁ B hml hv
  obtain ⟨rfl, hP, hK, hN⟩ := hv
  have hx := B.exec
  have hb := B.bytes
  have hr := B.returns
  have hts := atoms_spec (ws := w_Hr_day) B.pre
  have hown : s.vm.findClass R_Hr = some m.cls := findClass_of_methodNamed B.named
  have hlocks := B.notSynchronized
  obtain ⟨H, hH⟩ : ∃ H, H = s.heap := ⟨_, rfl⟩
  rw [← hH] at hP
  rw [← hH]
  have hl := lv_entry ([.ref a0, .int k, .int fr]) (n := 4) (Nat.le_of_ble_eq_true rfl)
  rw [lg_entry_eq]
  generalize (lg_sl ([.ref a0, .int k, .int fr]) ++ List.replicate (4 - (lg_sl ([.ref a0, .int k, .int fr])).length) Slot.unset).toArray = ls at hl ⊢
  replace hl : lv_has ls 4 [(0, .ref a0), (1, .int k), (2, .int fr)] := hl
  generalize hT : f_dayN  = T
  refine lv_aload_n hx hb d_Hr_day_0 rfl (lv_at hl 0 rfl) ?_
  refine lv_iload_n hx hb d_Hr_day_1 rfl (lv_at hl 1 rfl) ?_
  refine va_csq (W.runV (As := [.int k]) (rest := []) ⟨hx, hb, hml, hown, hts⟩ (c_editionAt l G cI cL cZ cR cE a0 a1 a2 a3 a4 a5 a6 a7 a8 a9 a10 a11 a12 a13 a14 a15 steps editions rules ruleCount daysTold runner_facts runner_stack runner_handleFacts runner_given_values runner_given_givers runner_handleCount runner_height runner_position runner_fault runner_cell answers_values answers_givers failures_ruleNumbers failures_hows failures_count k) (cwV 1 hts (gV kw_173 kw_175 kw_0 kw_15 kw_176) rfl rfl rfl (by decide +kernel) ⟨Nat.le_of_ble_eq_true rfl, Nat.le_of_ble_eq_true rfl⟩) (preRV_of (ci := 5) hN hK hP [0, 1, 2, 3, 4, 5, 6, 7, 8, 9, 10, 11, 12, 13, 14, 15] rfl rfl rfl) rfl rfl hl.1 rfl (lv_room (Nat.le_of_ble_eq_true rfl)) d_Hr_day_2 ⟨Nat.zero_le _, Nat.zero_le _⟩) (fun r_1 hw => ?_)
  rw [hq] at hw
  subst hw
  refine W.eq (g2 := F0 m 5 ls (.null :: [])) rfl ?_
  refine lv_astore_nN (lv' := [(3, .null), (0, .ref a0), (1, .int k), (2, .int fr)]) hx hb d_Hr_day_5 rfl hl (by decide) rfl (fun ls hl => ?_)
  refine lv_aload_nN hx hb d_Hr_day_6 rfl (lv_at hl 0 rfl) ?_
  refine lv_ifnullN (tgt := 22) hx hb d_Hr_day_7 (by decide) ?_
  refine lv_bipush (v := (-102)) hx hb d_Hr_day_22 (by decide) ?_
  exact W.iret (v := (-102)) hx hb hr (fun t ht hW => ⟨(-102), rfl, (by rw [← hT]; simp only [f_dayN]), by rw [ht, hH]⟩) (fun _ h => by cases h) d_Hr_day_24
def f_dayS (daysTold : Int32) (ystate : Int32) (yfrom : Int32) (ytoldAs : Int32) (fr : Int32) : Int32 × Int32 × Int32 × Int32 := if (f_isWithin fr.toInt64 0 100000) = 0 then ((-102), (daysTold, yfrom, ytoldAs)) else (if ystate = 2 then (1, (daysTold + 1, fr, daysTold + 1)) else ((-103), (daysTold, yfrom, ytoldAs)))
set_option maxHeartbeats 4000000 in
set_option maxRecDepth 100000 in
theorem c_dayS (l : Launch) (G : va_G) (cI cL cZ cR cE : ClassId) (sz : Nat) (a0 a1 a2 a3 a4 a5 a6 a7 a8 a9 a10 a11 a12 a13 a14 a15 : Nat) (ya0 ya1 : Nat) (steps : Int32) (editions : Nat → Option Nat) (rules : Nat → Option Nat) (ruleCount : Int32) (daysTold : Int32) (runner_facts : Nat → Int64) (runner_stack : Nat → Int64) (runner_handleFacts : Nat → Int32) (runner_given_values : Nat → Int64) (runner_given_givers : Nat → Int32) (runner_handleCount : Int32) (runner_height : Int32) (runner_position : Int32) (runner_fault : Int32) (runner_cell : Int64) (answers_values : Nat → Int64) (answers_givers : Nat → Int32) (failures_ruleNumbers : Nat → Int32) (failures_hows : Nat → Int32) (failures_count : Int32) (ystate : Int32) (ycount : Int32) (yfrom : Int32) (ytoldAs : Int32) (yorder : Nat → Option Nat) (k : Int32) (fr : Int32) (hq : f_editionAt editions k = some ya0) : Met l y_Hr_day w_Hr_day ({ frames := 1, cells := 0, slots := 0, locals := 25 }) (preW G (TYS cI cL cZ cR cE) [.ref a0, .int k, .int fr] sz (W_Hr cI cL cZ cR cE a0 a1 a2 a3 a4 a5 a6 a7 a8 a9 a10 a11 a12 a13 a14 a15 steps editions rules ruleCount daysTold runner_facts runner_stack runner_handleFacts runner_given_values runner_given_givers runner_handleCount runner_height runner_position runner_fault runner_cell answers_values answers_givers failures_ruleNumbers failures_hows failures_count ++ W_Edi cI cL cZ cR cE ya0 ya1 ystate ycount yfrom ytoldAs yorder)) (va_Qi (fun (ans_ : Int32) (u : Int32 × Int32 × Int32) => (ans_, u) = f_dayS daysTold ystate yfrom ytoldAs fr) (fun u t => va_P G vwCl (W_Hr cI cL cZ cR cE a0 a1 a2 a3 a4 a5 a6 a7 a8 a9 a10 a11 a12 a13 a14 a15 steps editions rules ruleCount u.1 runner_facts runner_stack runner_handleFacts runner_given_values runner_given_givers runner_handleCount runner_height runner_position runner_fault runner_cell answers_values answers_givers failures_ruleNumbers failures_hows failures_count ++ W_Edi cI cL cZ cR cE ya0 ya1 ystate ycount u.2.1 u.2.2 yorder) t.heap ∧ va_K G vwCl (TYS cI cL cZ cR cE) t ∧ va_D (va_A (W_Hr cI cL cZ cR cE a0 a1 a2 a3 a4 a5 a6 a7 a8 a9 a10 a11 a12 a13 a14 a15 steps editions rules ruleCount daysTold runner_facts runner_stack runner_handleFacts runner_given_values runner_given_givers runner_handleCount runner_height runner_position runner_fault runner_cell answers_values answers_givers failures_ruleNumbers failures_hows failures_count ++ W_Edi cI cL cZ cR cE ya0 ya1 ystate ycount yfrom ytoldAs yorder) sz) (W_Hr cI cL cZ cR cE a0 a1 a2 a3 a4 a5 a6 a7 a8 a9 a10 a11 a12 a13 a14 a15 steps editions rules ruleCount u.1 runner_facts runner_stack runner_handleFacts runner_given_values runner_given_givers runner_handleCount runner_height runner_position runner_fault runner_cell answers_values answers_givers failures_ruleNumbers failures_hows failures_count ++ W_Edi cI cL cZ cR cE ya0 ya1 ystate ycount u.2.1 u.2.2 yorder)) (va_A (W_Hr cI cL cZ cR cE a0 a1 a2 a3 a4 a5 a6 a7 a8 a9 a10 a11 a12 a13 a14 a15 steps editions rules ruleCount daysTold runner_facts runner_stack runner_handleFacts runner_given_values runner_given_givers runner_handleCount runner_height runner_position runner_fault runner_cell answers_values answers_givers failures_ruleNumbers failures_hows failures_count ++ W_Edi cI cL cZ cR cE ya0 ya1 ystate ycount yfrom ytoldAs yorder) sz)) 0 0 (va_A (W_Hr cI cL cZ cR cE a0 a1 a2 a3 a4 a5 a6 a7 a8 a9 a10 a11 a12 a13 a14 a15 steps editions rules ruleCount daysTold runner_facts runner_stack runner_handleFacts runner_given_values runner_given_givers runner_handleCount runner_height runner_position runner_fault runner_cell answers_values answers_givers failures_ruleNumbers failures_hows failures_count ++ W_Edi cI cL cZ cR cE ya0 ya1 ystate ycount yfrom ytoldAs yorder) sz) := by
  refine Met.ofW (cc := b_Hr_day) (maxL := 4) (ret := (some .int)) (by decide) rfl ?_
  intro p e s m args below meth c s₁ B hml hv
  obtain ⟨rfl, hsz, hP, hK, hD0, hN⟩ := hv
  have hx := B.exec
  have hb := B.bytes
  have hr := B.returns
  have hts := atoms_spec (ws := w_Hr_day) B.pre
  have hown : s.vm.findClass R_Hr = some m.cls := findClass_of_methodNamed B.named
  have hlocks := B.notSynchronized
  subst hsz
  have hD := hD0.self (sz := s.heap.size)
  clear hD0
  generalize hAe : va_A (W_Hr cI cL cZ cR cE a0 a1 a2 a3 a4 a5 a6 a7 a8 a9 a10 a11 a12 a13 a14 a15 steps editions rules ruleCount daysTold runner_facts runner_stack runner_handleFacts runner_given_values runner_given_givers runner_handleCount runner_height runner_position runner_fault runner_cell answers_values answers_givers failures_ruleNumbers failures_hows failures_count ++ W_Edi cI cL cZ cR cE ya0 ya1 ystate ycount yfrom ytoldAs yorder) s.heap.size = A at hD ⊢
  have hA : ∀ q : Nat, s.heap.size ≤ q → A q := fun q h => by rw [← hAe]; exact Or.inr h
  clear hAe
  have hS : va_S A s.heap s.heap [] := va_S.rf
  obtain ⟨H, hH⟩ : ∃ H, H = s.heap := ⟨_, rfl⟩
  rw [← hH] at hP
  replace hS : va_S A s.heap H [] := by rw [hH]; exact hS
  rw [← hH]
  clear hH
  have hi_3 : ∀ w ∈ u_ws R_Ed T_Ed 5, w ∈ w_Hr_day := fun w h => List.mem_cons_of_mem _ (iu_Ed w h)
  have hi_5 : ∀ w ∈ u_ws R_Hr T_Hr 8, w ∈ w_Hr_day := fun w h => List.mem_cons_of_mem _ (iu_Hr w h)
  have hk_1 := hts (.constantLong R_Hr 138 100000) (List.mem_cons_of_mem _ kw_372)
  have hk_2 := hts (.fieldLink R_Hr 74 "HandlingRules$Edition" "state" "I") (List.mem_cons_of_mem _ kw_125)
  have hk_4 := hts (.fieldLink R_Hr 25 "HandlingRules" "daysTold" "I") (List.mem_cons_of_mem _ kw_148)
  have hk_6 := hts (.fieldLink R_Hr 140 "HandlingRules$Edition" "from" "I") (List.mem_cons_of_mem _ kw_129)
  have hk_7 := hts (.fieldLink R_Hr 143 "HandlingRules$Edition" "toldAs" "I") (List.mem_cons_of_mem _ kw_131)
  have hl := lv_entry ([.ref a0, .int k, .int fr]) (n := 4) (Nat.le_of_ble_eq_true rfl)
  rw [lg_entry_eq]
  generalize (lg_sl ([.ref a0, .int k, .int fr]) ++ List.replicate (4 - (lg_sl ([.ref a0, .int k, .int fr])).length) Slot.unset).toArray = ls at hl ⊢
  replace hl : lv_has ls 4 [(0, .ref a0), (1, .int k), (2, .int fr)] := hl
  generalize hT : f_dayS daysTold ystate yfrom ytoldAs fr = T
  refine lv_aload_n hx hb d_Hr_day_0 rfl (lv_at hl 0 rfl) ?_
  refine lv_iload_n hx hb d_Hr_day_1 rfl (lv_at hl 1 rfl) ?_
  refine va_csq (W.runV (As := [.int k]) (rest := []) ⟨hx, hb, hml, hown, hts⟩ (c_editionAt l G cI cL cZ cR cE a0 a1 a2 a3 a4 a5 a6 a7 a8 a9 a10 a11 a12 a13 a14 a15 steps editions rules ruleCount daysTold runner_facts runner_stack runner_handleFacts runner_given_values runner_given_givers runner_handleCount runner_height runner_position runner_fault runner_cell answers_values answers_givers failures_ruleNumbers failures_hows failures_count k) (cwV 1 hts (gV kw_173 kw_175 kw_0 kw_15 kw_176) rfl rfl rfl (by decide +kernel) ⟨Nat.le_of_ble_eq_true rfl, Nat.le_of_ble_eq_true rfl⟩) (preRV_of (ci := 5) hN hK hP [0, 1, 2, 3, 4, 5, 6, 7, 8, 9, 10, 11, 12, 13, 14, 15] rfl rfl rfl) rfl rfl hl.1 rfl (lv_room (Nat.le_of_ble_eq_true rfl)) d_Hr_day_2 ⟨Nat.zero_le _, Nat.zero_le _⟩) (fun r_1 hw => ?_)
  rw [hq] at hw
  subst hw
  refine W.eq (g2 := F0 m 5 ls (.ref ya0 :: [])) rfl ?_
  refine lv_astore_n (lv' := [(3, .ref ya0), (0, .ref a0), (1, .int k), (2, .int fr)]) hx hb d_Hr_day_5 rfl hl (by decide) rfl (fun ls hl => ?_)
  refine lv_aload_n hx hb d_Hr_day_6 rfl (lv_at hl 0 rfl) ?_
  refine lv_ifnull hx hb d_Hr_day_7 ?_
  refine lv_iload_n hx hb d_Hr_day_10 rfl (lv_at hl 3 rfl) ?_
  refine lv_i2l (v := fr.toInt64) hx hb d_Hr_day_11 rfl ?_
  refine lv_lconst (v := 0) hx hb d_Hr_day_12 (by decide) ?_
  refine lv_ldc2 (v := 100000) hx hb hown hk_1 d_Hr_day_13 ?_
  refine vp_callSi (W.runS (As := [.long fr.toInt64, .long 0, .long 100000]) (rest := []) ⟨hx, hb, hml, hown, hts⟩ (c_isWithin l G cI cL cZ cR cE  fr.toInt64 0 100000) (va_cwS 3 hts (gS kw_178 kw_179 kw_15 kw_180) rfl rfl rfl (by decide +kernel) ⟨Nat.le_of_ble_eq_true rfl, Nat.le_of_ble_eq_true rfl⟩) (preRS_of hN hK hP [] rfl) rfl rfl hl.1 rfl (lv_room (Nat.le_of_ble_eq_true rfl)) d_Hr_day_16 ⟨Nat.zero_le _, Nat.zero_le _⟩) (fun r_2 hw => ?_)
  subst hw
  refine lv_if_ne (tgt := 25) hx hb d_Hr_day_19 (by decide) (fun c_3 => ?_) (fun c_3 => ?_)
  · refine lv_aload_n hx hb d_Hr_day_25 rfl (lv_at hl 0 rfl) ?_
    refine va_get (D := G) (ci := 1) (v := .int ystate) (C := R_Ed) (T := T_Ed) (N := 5) hx hb hts hi_3 hown hK hP 16 rfl rfl 0 (by decide) hk_2 (fun _ h9 => h9) rfl d_Hr_day_26 ?_
    refine lv_iconst (v := 2) hx hb d_Hr_day_29 (by decide) ?_
    refine lv_icmp_eq (tgt := 36) hx hb d_Hr_day_30 (by decide) (fun c_4 => ?_) (fun c_4 => ?_)
    · refine lv_aload_n hx hb d_Hr_day_36 rfl (lv_at hl 1 rfl) ?_
      refine lv_dup hx hb d_Hr_day_37 rfl ?_
      refine va_get (D := G) (ci := 5) (v := .int daysTold) (C := R_Hr) (T := T_Hr) (N := 8) hx hb hts hi_5 hown hK hP 0 rfl rfl 4 (by decide) hk_4 (fun _ h9 => h9) rfl d_Hr_day_38 ?_
      refine lv_iconst (v := 1) hx hb d_Hr_day_41 (by decide) ?_
      refine lv_iadd hx hb d_Hr_day_42 ?_
      refine va_put (D := G) (ci := 5) (v := .int (daysTold + 1)) (ty := (.int)) (C := R_Hr) (T := T_Hr) (N := 8) hx hb hts hi_5 ty_Hr tyk_Hr nm_Hr hown hK hP hD hS 0 rfl rfl 4 (by decide) hk_4 (fun _ h9 => h9) rfl (by decide +kernel) rfl rfl (Nat.le_of_ble_eq_true rfl) d_Hr_day_43 (fun H locs hP hD hS => ?_)
      replace hP : va_P G vwCl (W_Hr cI cL cZ cR cE a0 a1 a2 a3 a4 a5 a6 a7 a8 a9 a10 a11 a12 a13 a14 a15 steps editions rules ruleCount (daysTold + 1) runner_facts runner_stack runner_handleFacts runner_given_values runner_given_givers runner_handleCount runner_height runner_position runner_fault runner_cell answers_values answers_givers failures_ruleNumbers failures_hows failures_count ++ W_Edi cI cL cZ cR cE ya0 ya1 ystate ycount yfrom ytoldAs yorder) H := hP
      replace hD : va_D A (W_Hr cI cL cZ cR cE a0 a1 a2 a3 a4 a5 a6 a7 a8 a9 a10 a11 a12 a13 a14 a15 steps editions rules ruleCount (daysTold + 1) runner_facts runner_stack runner_handleFacts runner_given_values runner_given_givers runner_handleCount runner_height runner_position runner_fault runner_cell answers_values answers_givers failures_ruleNumbers failures_hows failures_count ++ W_Edi cI cL cZ cR cE ya0 ya1 ystate ycount yfrom ytoldAs yorder) := hD
      refine lv_aload_n hx hb d_Hr_day_46 rfl (lv_at hl 0 rfl) ?_
      refine lv_iload_n hx hb d_Hr_day_47 rfl (lv_at hl 3 rfl) ?_
      refine va_put (D := G) (ci := 1) (v := .int fr) (ty := (.int)) (C := R_Ed) (T := T_Ed) (N := 5) hx hb hts hi_3 ty_Ed tyk_Ed nm_Ed hown hK hP hD hS 16 rfl rfl 2 (by decide) hk_6 (fun _ h9 => h9) rfl (by decide +kernel) rfl rfl (Nat.le_of_ble_eq_true rfl) d_Hr_day_48 (fun H locs hP hD hS => ?_)
      replace hP : va_P G vwCl (W_Hr cI cL cZ cR cE a0 a1 a2 a3 a4 a5 a6 a7 a8 a9 a10 a11 a12 a13 a14 a15 steps editions rules ruleCount (daysTold + 1) runner_facts runner_stack runner_handleFacts runner_given_values runner_given_givers runner_handleCount runner_height runner_position runner_fault runner_cell answers_values answers_givers failures_ruleNumbers failures_hows failures_count ++ W_Edi cI cL cZ cR cE ya0 ya1 ystate ycount fr ytoldAs yorder) H := hP
      replace hD : va_D A (W_Hr cI cL cZ cR cE a0 a1 a2 a3 a4 a5 a6 a7 a8 a9 a10 a11 a12 a13 a14 a15 steps editions rules ruleCount (daysTold + 1) runner_facts runner_stack runner_handleFacts runner_given_values runner_given_givers runner_handleCount runner_height runner_position runner_fault runner_cell answers_values answers_givers failures_ruleNumbers failures_hows failures_count ++ W_Edi cI cL cZ cR cE ya0 ya1 ystate ycount fr ytoldAs yorder) := hD
      refine lv_aload_n hx hb d_Hr_day_51 rfl (lv_at hl 0 rfl) ?_
      refine lv_aload_n hx hb d_Hr_day_52 rfl (lv_at hl 1 rfl) ?_
      refine va_get (D := G) (ci := 5) (v := .int (daysTold + 1)) (C := R_Hr) (T := T_Hr) (N := 8) hx hb hts hi_5 hown hK hP 0 rfl rfl 4 (by decide) hk_4 (fun _ h9 => h9) rfl d_Hr_day_53 ?_
      refine va_put (D := G) (ci := 1) (v := .int (daysTold + 1)) (ty := (.int)) (C := R_Ed) (T := T_Ed) (N := 5) hx hb hts hi_3 ty_Ed tyk_Ed nm_Ed hown hK hP hD hS 16 rfl rfl 3 (by decide) hk_7 (fun _ h9 => h9) rfl (by decide +kernel) rfl rfl (Nat.le_of_ble_eq_true rfl) d_Hr_day_56 (fun H locs hP hD hS => ?_)
      replace hP : va_P G vwCl (W_Hr cI cL cZ cR cE a0 a1 a2 a3 a4 a5 a6 a7 a8 a9 a10 a11 a12 a13 a14 a15 steps editions rules ruleCount (daysTold + 1) runner_facts runner_stack runner_handleFacts runner_given_values runner_given_givers runner_handleCount runner_height runner_position runner_fault runner_cell answers_values answers_givers failures_ruleNumbers failures_hows failures_count ++ W_Edi cI cL cZ cR cE ya0 ya1 ystate ycount fr (daysTold + 1) yorder) H := hP
      replace hD : va_D A (W_Hr cI cL cZ cR cE a0 a1 a2 a3 a4 a5 a6 a7 a8 a9 a10 a11 a12 a13 a14 a15 steps editions rules ruleCount (daysTold + 1) runner_facts runner_stack runner_handleFacts runner_given_values runner_given_givers runner_handleCount runner_height runner_position runner_fault runner_cell answers_values answers_givers failures_ruleNumbers failures_hows failures_count ++ W_Edi cI cL cZ cR cE ya0 ya1 ystate ycount fr (daysTold + 1) yorder) := hD
      refine lv_iconst (v := 1) hx hb d_Hr_day_59 (by decide) ?_
      exact W.iret (v := 1) hx hb hr (fun t ht hW => ⟨⟨1, (daysTold + 1, fr, daysTold + 1), rfl, (by rw [← hT]; simp only [f_dayS, if_neg c_3, if_pos c_4]), by rw [ht]; exact hP, va_K.moved hW.alike hK, hD⟩, hS.F ht⟩) hS.2.2 d_Hr_day_60
    · refine lv_bipush (v := (-103)) hx hb d_Hr_day_33 (by decide) ?_
      exact W.iret (v := (-103)) hx hb hr (fun t ht hW => ⟨⟨(-103), (daysTold, yfrom, ytoldAs), rfl, (by rw [← hT]; simp only [f_dayS, if_neg c_3, if_neg c_4]), by rw [ht]; exact hP, va_K.moved hW.alike hK, hD⟩, hS.F ht⟩) hS.2.2 d_Hr_day_35
  · refine lv_bipush (v := (-102)) hx hb d_Hr_day_22 (by decide) ?_
    exact W.iret (v := (-102)) hx hb hr (fun t ht hW => ⟨⟨(-102), (daysTold, yfrom, ytoldAs), rfl, (by rw [← hT]; simp only [f_dayS, if_pos c_3]), by rw [ht]; exact hP, va_K.moved hW.alike hK, hD⟩, hS.F ht⟩) hS.2.2 d_Hr_day_24
def f_sameN (rules : Nat → Option Nat) (ruleCount : Int32) (k2 : Int32) : Int32 := match f_ruleAt rules ruleCount k2 with | none => 0 | some q_4 => 0
set_option maxHeartbeats 4000000 in
set_option maxRecDepth 100000 in
theorem c_sameN (l : Launch) (G : va_G) (cI cL cZ cR cE : ClassId) (a0 a1 a2 a3 a4 a5 a6 a7 a8 a9 a10 a11 a12 a13 a14 a15 : Nat) (steps : Int32) (editions : Nat → Option Nat) (rules : Nat → Option Nat) (ruleCount : Int32) (daysTold : Int32) (runner_facts : Nat → Int64) (runner_stack : Nat → Int64) (runner_handleFacts : Nat → Int32) (runner_given_values : Nat → Int64) (runner_given_givers : Nat → Int32) (runner_handleCount : Int32) (runner_height : Int32) (runner_position : Int32) (runner_fault : Int32) (runner_cell : Int64) (answers_values : Nat → Int64) (answers_givers : Nat → Int32) (failures_ruleNumbers : Nat → Int32) (failures_hows : Nat → Int32) (failures_count : Int32) (k : Int32) (k2 : Int32) (hq : f_ruleAt rules ruleCount k = none) : Met l y_Hr_same w_Hr_same ({ frames := 1, cells := 0, slots := 0, locals := 21 }) (preR G (TYS cI cL cZ cR cE) [.ref a0, .int k, .int k2] (W_Hr cI cL cZ cR cE a0 a1 a2 a3 a4 a5 a6 a7 a8 a9 a10 a11 a12 a13 a14 a15 steps editions rules ruleCount daysTold runner_facts runner_stack runner_handleFacts runner_given_values runner_given_givers runner_handleCount runner_height runner_position runner_fault runner_cell answers_values answers_givers failures_ruleNumbers failures_hows failures_count)) (vp_Si (fun ans_ => ans_ = f_sameN rules ruleCount k2)) 0 0 (fun _ => False) := by
  refine Met.ofW (cc := b_Hr_same) (maxL := 5) (ret := (some .boolean)) (by decide) rfl ?_
  intro p e s m args below meth c s₁ B hml hv
  obtain ⟨rfl, hP, hK, hN⟩ := hv
  have hx := B.exec
  have hb := B.bytes
  have hr := B.returns
  have hts := atoms_spec (ws := w_Hr_same) B.pre
  have hown : s.vm.findClass R_Hr = some m.cls := findClass_of_methodNamed B.named
  have hlocks := B.notSynchronized
  obtain ⟨H, hH⟩ : ∃ H, H = s.heap := ⟨_, rfl⟩
  rw [← hH] at hP
  rw [← hH]
  have hl := lv_entry ([.ref a0, .int k, .int k2]) (n := 5) (Nat.le_of_ble_eq_true rfl)
  rw [lg_entry_eq]
  generalize (lg_sl ([.ref a0, .int k, .int k2]) ++ List.replicate (5 - (lg_sl ([.ref a0, .int k, .int k2])).length) Slot.unset).toArray = ls at hl ⊢
  replace hl : lv_has ls 5 [(0, .ref a0), (1, .int k), (2, .int k2)] := hl
  generalize hT : f_sameN rules ruleCount k2 = T
  refine lv_aload_n hx hb d_Hr_same_0 rfl (lv_at hl 0 rfl) ?_
  refine lv_iload_n hx hb d_Hr_same_1 rfl (lv_at hl 1 rfl) ?_
  refine va_csq (W.runV (As := [.int k]) (rest := []) ⟨hx, hb, hml, hown, hts⟩ (c_ruleAt l G cI cL cZ cR cE a0 a1 a2 a3 a4 a5 a6 a7 a8 a9 a10 a11 a12 a13 a14 a15 steps editions rules ruleCount daysTold runner_facts runner_stack runner_handleFacts runner_given_values runner_given_givers runner_handleCount runner_height runner_position runner_fault runner_cell answers_values answers_givers failures_ruleNumbers failures_hows failures_count k) (cwV 1 hts (gV kw_241 kw_243 kw_1 kw_15 kw_244) rfl rfl rfl (by decide +kernel) ⟨Nat.le_of_ble_eq_true rfl, Nat.le_of_ble_eq_true rfl⟩) (preRV_of (ci := 5) hN hK hP [0, 1, 2, 3, 4, 5, 6, 7, 8, 9, 10, 11, 12, 13, 14, 15] rfl rfl rfl) rfl rfl hl.1 rfl (lv_room (Nat.le_of_ble_eq_true rfl)) d_Hr_same_2 ⟨Nat.zero_le _, Nat.zero_le _⟩) (fun r_1 hw => ?_)
  rw [hq] at hw
  subst hw
  refine W.eq (g2 := F0 m 5 ls (.null :: [])) rfl ?_
  refine lv_astore_nN (lv' := [(3, .null), (0, .ref a0), (1, .int k), (2, .int k2)]) hx hb d_Hr_same_5 rfl hl (by decide) rfl (fun ls hl => ?_)
  refine lv_aload_n hx hb d_Hr_same_6 rfl (lv_at hl 1 rfl) ?_
  refine lv_iload_n hx hb d_Hr_same_7 rfl (lv_at hl 3 rfl) ?_
  refine va_csq (W.runV (As := [.int k2]) (rest := []) ⟨hx, hb, hml, hown, hts⟩ (c_ruleAt l G cI cL cZ cR cE a0 a1 a2 a3 a4 a5 a6 a7 a8 a9 a10 a11 a12 a13 a14 a15 steps editions rules ruleCount daysTold runner_facts runner_stack runner_handleFacts runner_given_values runner_given_givers runner_handleCount runner_height runner_position runner_fault runner_cell answers_values answers_givers failures_ruleNumbers failures_hows failures_count k2) (cwV 1 hts (gV kw_241 kw_243 kw_1 kw_15 kw_244) rfl rfl rfl (by decide +kernel) ⟨Nat.le_of_ble_eq_true rfl, Nat.le_of_ble_eq_true rfl⟩) (preRV_of (ci := 5) hN hK hP [0, 1, 2, 3, 4, 5, 6, 7, 8, 9, 10, 11, 12, 13, 14, 15] rfl rfl rfl) rfl rfl hl.1 rfl (lv_room (Nat.le_of_ble_eq_true rfl)) d_Hr_same_8 ⟨Nat.zero_le _, Nat.zero_le _⟩) (fun r_2 hw => ?_)
  subst hw
  rcases ho_3 : (f_ruleAt rules ruleCount k2) with _ | q_4
  · refine lv_astoreN (lv' := [(4, .null), (3, .null), (0, .ref a0), (1, .int k), (2, .int k2)]) hx hb d_Hr_same_11 hl (by decide) rfl (fun ls hl => ?_)
    refine lv_aload_nN hx hb d_Hr_same_13 rfl (lv_at hl 1 rfl) ?_
    refine lv_ifnullN (tgt := 35) hx hb d_Hr_same_14 (by decide) ?_
    refine lv_iconst (v := 0) hx hb d_Hr_same_35 (by decide) ?_
    exact W.zret (v := 0) hx hb hr rfl (fun t ht hW => ⟨0, rfl, (by rw [← hT]; simp only [f_sameN, ho_3]), by rw [ht, hH]⟩) (fun _ h => by cases h) d_Hr_same_36
  · refine lv_astore (lv' := [(4, .ref q_4), (3, .null), (0, .ref a0), (1, .int k), (2, .int k2)]) hx hb d_Hr_same_11 hl (by decide) rfl (fun ls hl => ?_)
    refine lv_aload_nN hx hb d_Hr_same_13 rfl (lv_at hl 1 rfl) ?_
    refine lv_ifnullN (tgt := 35) hx hb d_Hr_same_14 (by decide) ?_
    refine lv_iconst (v := 0) hx hb d_Hr_same_35 (by decide) ?_
    exact W.zret (v := 0) hx hb hr rfl (fun t ht hW => ⟨0, rfl, (by rw [← hT]; simp only [f_sameN, ho_3]), by rw [ht, hH]⟩) (fun _ h => by cases h) d_Hr_same_36
def f_sameSN  : Int32 := 0
set_option maxHeartbeats 4000000 in
set_option maxRecDepth 100000 in
theorem c_sameSN (l : Launch) (G : va_G) (cI cL cZ cR cE : ClassId) (a0 a1 a2 a3 a4 a5 a6 a7 a8 a9 a10 a11 a12 a13 a14 a15 : Nat) (za0 za1 za2 : Nat) (steps : Int32) (editions : Nat → Option Nat) (rules : Nat → Option Nat) (ruleCount : Int32) (daysTold : Int32) (runner_facts : Nat → Int64) (runner_stack : Nat → Int64) (runner_handleFacts : Nat → Int32) (runner_given_values : Nat → Int64) (runner_given_givers : Nat → Int32) (runner_handleCount : Int32) (runner_height : Int32) (runner_position : Int32) (runner_fault : Int32) (runner_cell : Int64) (answers_values : Nat → Int64) (answers_givers : Nat → Int32) (failures_ruleNumbers : Nat → Int32) (failures_hows : Nat → Int32) (failures_count : Int32) (znumber : Int32) (zhome : Nat) (zrank : Int32) (zname : Int32) (zops : Nat → Int32) (znumbers : Nat → Int64) (zlength : Int32) (zcell : Int64) (zfallbackKind : Int32) (zfallbackValue : Int64) (k : Int32) (k2 : Int32) (hq : f_ruleAt rules ruleCount k = some za0) (hq2 : f_ruleAt rules ruleCount k2 = none) : Met l y_Hr_same w_Hr_same ({ frames := 1, cells := 0, slots := 0, locals := 21 }) (preR G (TYS cI cL cZ cR cE) [.ref a0, .int k, .int k2] (W_Hr cI cL cZ cR cE a0 a1 a2 a3 a4 a5 a6 a7 a8 a9 a10 a11 a12 a13 a14 a15 steps editions rules ruleCount daysTold runner_facts runner_stack runner_handleFacts runner_given_values runner_given_givers runner_handleCount runner_height runner_position runner_fault runner_cell answers_values answers_givers failures_ruleNumbers failures_hows failures_count ++ W_Rul cI cL cZ cR cE za0 za1 za2 znumber zhome zrank zname zops znumbers zlength zcell zfallbackKind zfallbackValue)) (vp_Si (fun ans_ => ans_ = f_sameSN )) 0 0 (fun _ => False) := by
  refine Met.ofW (cc := b_Hr_same) (maxL := 5) (ret := (some .boolean)) (by decide) rfl ?_
  intro p e s m args below meth c s₁ B hml hv
  obtain ⟨rfl, hP, hK, hN⟩ := hv
  have hx := B.exec
  have hb := B.bytes
  have hr := B.returns
  have hts := atoms_spec (ws := w_Hr_same) B.pre
  have hown : s.vm.findClass R_Hr = some m.cls := findClass_of_methodNamed B.named
  have hlocks := B.notSynchronized
  obtain ⟨H, hH⟩ : ∃ H, H = s.heap := ⟨_, rfl⟩
  rw [← hH] at hP
  rw [← hH]
  have hl := lv_entry ([.ref a0, .int k, .int k2]) (n := 5) (Nat.le_of_ble_eq_true rfl)
  rw [lg_entry_eq]
  generalize (lg_sl ([.ref a0, .int k, .int k2]) ++ List.replicate (5 - (lg_sl ([.ref a0, .int k, .int k2])).length) Slot.unset).toArray = ls at hl ⊢
  replace hl : lv_has ls 5 [(0, .ref a0), (1, .int k), (2, .int k2)] := hl
  generalize hT : f_sameSN  = T
  refine lv_aload_n hx hb d_Hr_same_0 rfl (lv_at hl 0 rfl) ?_
  refine lv_iload_n hx hb d_Hr_same_1 rfl (lv_at hl 1 rfl) ?_
  refine va_csq (W.runV (As := [.int k]) (rest := []) ⟨hx, hb, hml, hown, hts⟩ (c_ruleAt l G cI cL cZ cR cE a0 a1 a2 a3 a4 a5 a6 a7 a8 a9 a10 a11 a12 a13 a14 a15 steps editions rules ruleCount daysTold runner_facts runner_stack runner_handleFacts runner_given_values runner_given_givers runner_handleCount runner_height runner_position runner_fault runner_cell answers_values answers_givers failures_ruleNumbers failures_hows failures_count k) (cwV 1 hts (gV kw_241 kw_243 kw_1 kw_15 kw_244) rfl rfl rfl (by decide +kernel) ⟨Nat.le_of_ble_eq_true rfl, Nat.le_of_ble_eq_true rfl⟩) (preRV_of (ci := 5) hN hK hP [0, 1, 2, 3, 4, 5, 6, 7, 8, 9, 10, 11, 12, 13, 14, 15] rfl rfl rfl) rfl rfl hl.1 rfl (lv_room (Nat.le_of_ble_eq_true rfl)) d_Hr_same_2 ⟨Nat.zero_le _, Nat.zero_le _⟩) (fun r_1 hw => ?_)
  rw [hq] at hw
  subst hw
  refine W.eq (g2 := F0 m 5 ls (.ref za0 :: [])) rfl ?_
  refine lv_astore_n (lv' := [(3, .ref za0), (0, .ref a0), (1, .int k), (2, .int k2)]) hx hb d_Hr_same_5 rfl hl (by decide) rfl (fun ls hl => ?_)
  refine lv_aload_n hx hb d_Hr_same_6 rfl (lv_at hl 1 rfl) ?_
  refine lv_iload_n hx hb d_Hr_same_7 rfl (lv_at hl 3 rfl) ?_
  refine va_csq (W.runV (As := [.int k2]) (rest := []) ⟨hx, hb, hml, hown, hts⟩ (c_ruleAt l G cI cL cZ cR cE a0 a1 a2 a3 a4 a5 a6 a7 a8 a9 a10 a11 a12 a13 a14 a15 steps editions rules ruleCount daysTold runner_facts runner_stack runner_handleFacts runner_given_values runner_given_givers runner_handleCount runner_height runner_position runner_fault runner_cell answers_values answers_givers failures_ruleNumbers failures_hows failures_count k2) (cwV 1 hts (gV kw_241 kw_243 kw_1 kw_15 kw_244) rfl rfl rfl (by decide +kernel) ⟨Nat.le_of_ble_eq_true rfl, Nat.le_of_ble_eq_true rfl⟩) (preRV_of (ci := 5) hN hK hP [0, 1, 2, 3, 4, 5, 6, 7, 8, 9, 10, 11, 12, 13, 14, 15] rfl rfl rfl) rfl rfl hl.1 rfl (lv_room (Nat.le_of_ble_eq_true rfl)) d_Hr_same_8 ⟨Nat.zero_le _, Nat.zero_le _⟩) (fun r_2 hw => ?_)
  rw [hq2] at hw
  subst hw
  refine W.eq (g2 := F0 m 11 ls (.null :: [])) rfl ?_
  refine lv_astoreN (lv' := [(4, .null), (3, .ref za0), (0, .ref a0), (1, .int k), (2, .int k2)]) hx hb d_Hr_same_11 hl (by decide) rfl (fun ls hl => ?_)
  refine lv_aload_n hx hb d_Hr_same_13 rfl (lv_at hl 1 rfl) ?_
  refine lv_ifnull hx hb d_Hr_same_14 ?_
  refine lv_aloadN hx hb d_Hr_same_17 (lv_at hl 0 rfl) ?_
  refine lv_ifnullN (tgt := 35) hx hb d_Hr_same_19 (by decide) ?_
  refine lv_iconst (v := 0) hx hb d_Hr_same_35 (by decide) ?_
  exact W.zret (v := 0) hx hb hr rfl (fun t ht hW => ⟨0, rfl, (by rw [← hT]; simp only [f_sameSN]), by rw [ht, hH]⟩) (fun _ h => by cases h) d_Hr_same_36
def f_sameSS (zops : Nat → Int32) (znumbers : Nat → Int64) (zlength : Int32) (wops : Nat → Int32) (wnumbers : Nat → Int64) (wlength : Int32) : Int32 := if (f_hasProgramOf zops znumbers zlength wops wnumbers wlength) = 0 then 0 else 1
set_option maxHeartbeats 4000000 in
set_option maxRecDepth 100000 in
theorem c_sameSS (l : Launch) (G : va_G) (cI cL cZ cR cE : ClassId) (a0 a1 a2 a3 a4 a5 a6 a7 a8 a9 a10 a11 a12 a13 a14 a15 : Nat) (za0 za1 za2 : Nat) (wa0 wa1 wa2 : Nat) (steps : Int32) (editions : Nat → Option Nat) (rules : Nat → Option Nat) (ruleCount : Int32) (daysTold : Int32) (runner_facts : Nat → Int64) (runner_stack : Nat → Int64) (runner_handleFacts : Nat → Int32) (runner_given_values : Nat → Int64) (runner_given_givers : Nat → Int32) (runner_handleCount : Int32) (runner_height : Int32) (runner_position : Int32) (runner_fault : Int32) (runner_cell : Int64) (answers_values : Nat → Int64) (answers_givers : Nat → Int32) (failures_ruleNumbers : Nat → Int32) (failures_hows : Nat → Int32) (failures_count : Int32) (znumber : Int32) (zhome : Nat) (zrank : Int32) (zname : Int32) (zops : Nat → Int32) (znumbers : Nat → Int64) (zlength : Int32) (zcell : Int64) (zfallbackKind : Int32) (zfallbackValue : Int64) (wnumber : Int32) (whome : Nat) (wrank : Int32) (wname : Int32) (wops : Nat → Int32) (wnumbers : Nat → Int64) (wlength : Int32) (wcell : Int64) (wfallbackKind : Int32) (wfallbackValue : Int64) (k : Int32) (k2 : Int32) (hq : f_ruleAt rules ruleCount k = some za0) (hq2 : f_ruleAt rules ruleCount k2 = some wa0) : Met l y_Hr_same w_Hr_same ({ frames := 1, cells := 0, slots := 0, locals := 22 }) (preR G (TYS cI cL cZ cR cE) [.ref a0, .int k, .int k2] (W_Hr cI cL cZ cR cE a0 a1 a2 a3 a4 a5 a6 a7 a8 a9 a10 a11 a12 a13 a14 a15 steps editions rules ruleCount daysTold runner_facts runner_stack runner_handleFacts runner_given_values runner_given_givers runner_handleCount runner_height runner_position runner_fault runner_cell answers_values answers_givers failures_ruleNumbers failures_hows failures_count ++ W_Rul cI cL cZ cR cE za0 za1 za2 znumber zhome zrank zname zops znumbers zlength zcell zfallbackKind zfallbackValue ++ W_Rul cI cL cZ cR cE wa0 wa1 wa2 wnumber whome wrank wname wops wnumbers wlength wcell wfallbackKind wfallbackValue)) (vp_Si (fun ans_ => ans_ = f_sameSS zops znumbers zlength wops wnumbers wlength)) 0 0 (fun _ => False) := by
  refine Met.ofW (cc := b_Hr_same) (maxL := 5) (ret := (some .boolean)) (by decide) rfl ?_
  intro p e s m args below meth c s₁ B hml hv
  obtain ⟨rfl, hP, hK, hN⟩ := hv
  have hx := B.exec
  have hb := B.bytes
  have hr := B.returns
  have hts := atoms_spec (ws := w_Hr_same) B.pre
  have hown : s.vm.findClass R_Hr = some m.cls := findClass_of_methodNamed B.named
  have hlocks := B.notSynchronized
  obtain ⟨H, hH⟩ : ∃ H, H = s.heap := ⟨_, rfl⟩
  rw [← hH] at hP
  rw [← hH]
  have hl := lv_entry ([.ref a0, .int k, .int k2]) (n := 5) (Nat.le_of_ble_eq_true rfl)
  rw [lg_entry_eq]
  generalize (lg_sl ([.ref a0, .int k, .int k2]) ++ List.replicate (5 - (lg_sl ([.ref a0, .int k, .int k2])).length) Slot.unset).toArray = ls at hl ⊢
  replace hl : lv_has ls 5 [(0, .ref a0), (1, .int k), (2, .int k2)] := hl
  generalize hT : f_sameSS zops znumbers zlength wops wnumbers wlength = T
  refine lv_aload_n hx hb d_Hr_same_0 rfl (lv_at hl 0 rfl) ?_
  refine lv_iload_n hx hb d_Hr_same_1 rfl (lv_at hl 1 rfl) ?_
  refine va_csq (W.runV (As := [.int k]) (rest := []) ⟨hx, hb, hml, hown, hts⟩ (c_ruleAt l G cI cL cZ cR cE a0 a1 a2 a3 a4 a5 a6 a7 a8 a9 a10 a11 a12 a13 a14 a15 steps editions rules ruleCount daysTold runner_facts runner_stack runner_handleFacts runner_given_values runner_given_givers runner_handleCount runner_height runner_position runner_fault runner_cell answers_values answers_givers failures_ruleNumbers failures_hows failures_count k) (cwV 1 hts (gV kw_241 kw_243 kw_1 kw_15 kw_244) rfl rfl rfl (by decide +kernel) ⟨Nat.le_of_ble_eq_true rfl, Nat.le_of_ble_eq_true rfl⟩) (preRV_of (ci := 5) hN hK hP [0, 1, 2, 3, 4, 5, 6, 7, 8, 9, 10, 11, 12, 13, 14, 15] rfl rfl rfl) rfl rfl hl.1 rfl (lv_room (Nat.le_of_ble_eq_true rfl)) d_Hr_same_2 ⟨Nat.zero_le _, Nat.zero_le _⟩) (fun r_1 hw => ?_)
  rw [hq] at hw
  subst hw
  refine W.eq (g2 := F0 m 5 ls (.ref za0 :: [])) rfl ?_
  refine lv_astore_n (lv' := [(3, .ref za0), (0, .ref a0), (1, .int k), (2, .int k2)]) hx hb d_Hr_same_5 rfl hl (by decide) rfl (fun ls hl => ?_)
  refine lv_aload_n hx hb d_Hr_same_6 rfl (lv_at hl 1 rfl) ?_
  refine lv_iload_n hx hb d_Hr_same_7 rfl (lv_at hl 3 rfl) ?_
  refine va_csq (W.runV (As := [.int k2]) (rest := []) ⟨hx, hb, hml, hown, hts⟩ (c_ruleAt l G cI cL cZ cR cE a0 a1 a2 a3 a4 a5 a6 a7 a8 a9 a10 a11 a12 a13 a14 a15 steps editions rules ruleCount daysTold runner_facts runner_stack runner_handleFacts runner_given_values runner_given_givers runner_handleCount runner_height runner_position runner_fault runner_cell answers_values answers_givers failures_ruleNumbers failures_hows failures_count k2) (cwV 1 hts (gV kw_241 kw_243 kw_1 kw_15 kw_244) rfl rfl rfl (by decide +kernel) ⟨Nat.le_of_ble_eq_true rfl, Nat.le_of_ble_eq_true rfl⟩) (preRV_of (ci := 5) hN hK hP [0, 1, 2, 3, 4, 5, 6, 7, 8, 9, 10, 11, 12, 13, 14, 15] rfl rfl rfl) rfl rfl hl.1 rfl (lv_room (Nat.le_of_ble_eq_true rfl)) d_Hr_same_8 ⟨Nat.zero_le _, Nat.zero_le _⟩) (fun r_2 hw => ?_)
  rw [hq2] at hw
  subst hw
  refine W.eq (g2 := F0 m 11 ls (.ref wa0 :: [])) rfl ?_
  refine lv_astore (lv' := [(4, .ref wa0), (3, .ref za0), (0, .ref a0), (1, .int k), (2, .int k2)]) hx hb d_Hr_same_11 hl (by decide) rfl (fun ls hl => ?_)
  refine lv_aload_n hx hb d_Hr_same_13 rfl (lv_at hl 1 rfl) ?_
  refine lv_ifnull hx hb d_Hr_same_14 ?_
  refine lv_aload hx hb d_Hr_same_17 (lv_at hl 0 rfl) ?_
  refine lv_ifnull hx hb d_Hr_same_19 ?_
  refine lv_aload_n hx hb d_Hr_same_22 rfl (lv_at hl 1 rfl) ?_
  refine lv_aload hx hb d_Hr_same_23 (lv_at hl 0 rfl) ?_
  refine vp_callSi (W.runV (As := [.ref wa0]) (rest := []) ⟨hx, hb, hml, hown, hts⟩ (c_hasProgramOf l G cI cL cZ cR cE za0 za1 za2 wa0 wa1 wa2 znumber zhome zrank zname zops znumbers zlength zcell zfallbackKind zfallbackValue wnumber whome wrank wname wops wnumbers wlength wcell wfallbackKind wfallbackValue) (cwV 1 hts (gV kw_451 kw_452 kw_453 kw_22 kw_454) rfl rfl rfl (by decide +kernel) ⟨Nat.le_of_ble_eq_true rfl, Nat.le_of_ble_eq_true rfl⟩) (preRV_of (ci := 3) hN hK hP [16, 17, 18, 19, 20, 21] rfl rfl rfl) rfl rfl hl.1 rfl (lv_room (Nat.le_of_ble_eq_true rfl)) d_Hr_same_25 ⟨Nat.zero_le _, Nat.zero_le _⟩) (fun r_3 hw => ?_)
  subst hw
  refine lv_if_eq (tgt := 35) hx hb d_Hr_same_28 (by decide) (fun c_4 => ?_) (fun c_4 => ?_)
  · refine lv_iconst (v := 0) hx hb d_Hr_same_35 (by decide) ?_
    exact W.zret (v := 0) hx hb hr rfl (fun t ht hW => ⟨0, rfl, (by rw [← hT]; simp only [f_sameSS, if_pos c_4]), by rw [ht, hH]⟩) (fun _ h => by cases h) d_Hr_same_36
  · refine lv_iconst (v := 1) hx hb d_Hr_same_31 (by decide) ?_
    refine lv_goto (tgt := 36) hx hb d_Hr_same_32 (by decide) ?_
    exact W.zret (v := 1) hx hb hr rfl (fun t ht hW => ⟨1, rfl, (by rw [← hT]; simp only [f_sameSS, if_neg c_4]), by rw [ht, hH]⟩) (fun _ h => by cases h) d_Hr_same_36
