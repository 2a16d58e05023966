def L_run (facts : Nat → Int64) (znumber : Int32) (zops : Nat → Int32) (znumbers : Nat → Int64) (zlength : Int32) (limit : Int32) : Nat → Int32 → (Nat → Int64) → (Nat → Int32) → (Nat → Int64) → (Nat → Int32) → Int32 → Int32 → Int32 → Int32 → Int64 → Int32 × (Nat → Int64) × (Nat → Int32) × (Nat → Int64) × (Nat → Int32) × Int32 × Int32 × Int32 × Int32 × Int64
  | 0, _, y_stack, y_handleFacts, y_given_values, y_given_givers, y_handleCount, y_height, y_position, y_fault, y_cell => (0, (y_stack, y_handleFacts, y_given_values, y_given_givers, y_handleCount, y_height, y_position, y_fault, y_cell))
  | n + 1, made, y_stack, y_handleFacts, y_given_values, y_given_givers, y_handleCount, y_height, y_position, y_fault, y_cell => if limit ≤ made then (if y_fault = 0 then (if (f_isInside y_position zlength) = 0 then (made, (y_stack, y_handleFacts, y_given_values, y_given_givers, y_handleCount, y_height, y_position, y_fault, y_cell)) else (made, (y_stack, y_handleFacts, y_given_values, y_given_givers, y_handleCount, y_height, y_position, 1, y_cell))) else (made, (y_stack, y_handleFacts, y_given_values, y_given_givers, y_handleCount, y_height, y_position, y_fault, y_cell))) else (if y_fault = 0 then (if (f_isInside y_position zlength) = 0 then (made, (y_stack, y_handleFacts, y_given_values, y_given_givers, y_handleCount, y_height, y_position, y_fault, y_cell)) else (match f_perform facts y_stack y_handleFacts y_given_values y_given_givers y_handleCount y_height y_position y_cell znumber zlength (zops y_position.toNatClampNeg) (znumbers y_position.toNatClampNeg) with | (x_stack_24, x_handleFacts_25, x_given_values_26, x_given_givers_27, x_handleCount_28, x_height_29, x_position_30, x_fault_31, x_cell_32) => (L_run facts znumber zops znumbers zlength limit n (made + 1) x_stack_24 x_handleFacts_25 x_given_values_26 x_given_givers_27 x_handleCount_28 x_height_29 x_position_30 x_fault_31 x_cell_32))) else (made, (y_stack, y_handleFacts, y_given_values, y_given_givers, y_handleCount, y_height, y_position, y_fault, y_cell)))
def f_run (facts : Nat → Int64) (stack : Nat → Int64) (handleFacts : Nat → Int32) (given_values : Nat → Int64) (given_givers : Nat → Int32) (handleCount : Int32) (znumber : Int32) (zops : Nat → Int32) (znumbers : Nat → Int64) (zlength : Int32) (zcell : Int64) (limit : Int32) : Int32 × (Nat → Int64) × (Nat → Int32) × (Nat → Int64) × (Nat → Int32) × Int32 × Int32 × Int32 × Int32 × Int64 := match f_begin given_values given_givers zcell with | (x_given_values_4, x_given_givers_5, x_height_6, x_position_7, x_fault_8, x_cell_9) => (L_run facts znumber zops znumbers zlength limit 101 0 stack handleFacts x_given_values_4 x_given_givers_5 handleCount x_height_6 x_position_7 x_fault_8 x_cell_9)
set_option maxHeartbeats 4000000 in
set_option maxRecDepth 100000 in
theorem c_run (l : Launch) (G : va_G) (cI cL cZ cR cE : ClassId) (sz : Nat) (a0 a1 a2 a3 a4 a5 a6 : Nat) (za0 za1 za2 : Nat) (facts : Nat → Int64) (stack : Nat → Int64) (handleFacts : Nat → Int32) (given_values : Nat → Int64) (given_givers : Nat → Int32) (handleCount : Int32) (height : Int32) (position : Int32) (fault : Int32) (cell : Int64) (znumber : Int32) (zhome : Nat) (zrank : Int32) (zname : Int32) (zops : Nat → Int32) (znumbers : Nat → Int64) (zlength : Int32) (zcell : Int64) (zfallbackKind : Int32) (zfallbackValue : Int64) (limit : Int32) (hlim : limit.toInt ≤ 100) : Met l y_Rn_run w_Rn_run ({ frames := 4, cells := 0, slots := 0, locals := 99 }) (preW G (TYS cI cL cZ cR cE) [.ref a0, .ref za0, .int limit] sz (W_Run cI cL cZ cR cE a0 a1 a2 a3 a4 a5 a6 facts stack handleFacts given_values given_givers handleCount height position fault cell ++ W_Rul cI cL cZ cR cE za0 za1 za2 znumber zhome zrank zname zops znumbers zlength zcell zfallbackKind zfallbackValue)) (va_Qi (fun (ans_ : Int32) (u : (Nat → Int64) × (Nat → Int32) × (Nat → Int64) × (Nat → Int32) × Int32 × Int32 × Int32 × Int32 × Int64) => (ans_, u) = f_run facts stack handleFacts given_values given_givers handleCount znumber zops znumbers zlength zcell limit) (fun u t => va_P G vwCl (W_Run cI cL cZ cR cE a0 a1 a2 a3 a4 a5 a6 facts u.1 u.2.1 u.2.2.1 u.2.2.2.1 u.2.2.2.2.1 u.2.2.2.2.2.1 u.2.2.2.2.2.2.1 u.2.2.2.2.2.2.2.1 u.2.2.2.2.2.2.2.2 ++ W_Rul cI cL cZ cR cE za0 za1 za2 znumber zhome zrank zname zops znumbers zlength zcell zfallbackKind zfallbackValue) t.heap ∧ va_K G vwCl (TYS cI cL cZ cR cE) t ∧ va_D (va_A (W_Run cI cL cZ cR cE a0 a1 a2 a3 a4 a5 a6 facts stack handleFacts given_values given_givers handleCount height position fault cell ++ W_Rul cI cL cZ cR cE za0 za1 za2 znumber zhome zrank zname zops znumbers zlength zcell zfallbackKind zfallbackValue) sz) (W_Run cI cL cZ cR cE a0 a1 a2 a3 a4 a5 a6 facts u.1 u.2.1 u.2.2.1 u.2.2.2.1 u.2.2.2.2.1 u.2.2.2.2.2.1 u.2.2.2.2.2.2.1 u.2.2.2.2.2.2.2.1 u.2.2.2.2.2.2.2.2 ++ W_Rul cI cL cZ cR cE za0 za1 za2 znumber zhome zrank zname zops znumbers zlength zcell zfallbackKind zfallbackValue)) (va_A (W_Run cI cL cZ cR cE a0 a1 a2 a3 a4 a5 a6 facts stack handleFacts given_values given_givers handleCount height position fault cell ++ W_Rul cI cL cZ cR cE za0 za1 za2 znumber zhome zrank zname zops znumbers zlength zcell zfallbackKind zfallbackValue) sz)) 0 0 (va_A (W_Run cI cL cZ cR cE a0 a1 a2 a3 a4 a5 a6 facts stack handleFacts given_values given_givers handleCount height position fault cell ++ W_Rul cI cL cZ cR cE za0 za1 za2 znumber zhome zrank zname zops znumbers zlength zcell zfallbackKind zfallbackValue) sz) := by
  refine Met.ofW (cc := b_Rn_run) (maxL := 4) (ret := (some .int)) (by decide) rfl ?_
  intro p e s m args below meth c s₁ B hml hv
  obtain ⟨rfl, hsz, hP, hK, hD0, hN⟩ := hv
  have hx := B.exec
  have hb := B.bytes
  have hr := B.returns
  have hts := atoms_spec (ws := w_Rn_run) B.pre
  have hown : s.vm.findClass R_Rn = some m.cls := findClass_of_methodNamed B.named
  have hlocks := B.notSynchronized
  subst hsz
  have hD := hD0.self (sz := s.heap.size)
  clear hD0
  generalize hAe : va_A (W_Run cI cL cZ cR cE a0 a1 a2 a3 a4 a5 a6 facts stack handleFacts given_values given_givers handleCount height position fault cell ++ W_Rul cI cL cZ cR cE za0 za1 za2 znumber zhome zrank zname zops znumbers zlength zcell zfallbackKind zfallbackValue) s.heap.size = A at hD ⊢
  have hA : ∀ q : Nat, s.heap.size ≤ q → A q := fun q h => by rw [← hAe]; exact Or.inr h
  clear hAe
  have hS : va_S A s.heap s.heap [] := va_S.rf
  obtain ⟨H, hH⟩ : ∃ H, H = s.heap := ⟨_, rfl⟩
  rw [← hH] at hP
  replace hS : va_S A s.heap H [] := by rw [hH]; exact hS
  rw [← hH]
  clear hH
  have hi_2 : ∀ w ∈ u_ws R_Rn T_Rn 9, w ∈ w_Rn_run := fun w h => List.mem_cons_of_mem _ (iu_Rn w h)
  have hi_4 : ∀ w ∈ u_ws R_Ru T_Ru 10, w ∈ w_Rn_run := fun w h => List.mem_cons_of_mem _ (iu_Ru w h)
  have hk_1 := hts (.fieldLink R_Rn 39 "HandlingRules$Runner" "fault" "I") (List.mem_cons_of_mem _ kw_70)
  have hk_3 := hts (.fieldLink R_Rn 54 "HandlingRules$Rule" "ops" "[I") (List.mem_cons_of_mem _ kw_195)
  have hk_5 := hts (.fieldLink R_Rn 36 "HandlingRules$Runner" "position" "I") (List.mem_cons_of_mem _ kw_69)
  have hk_6 := hts (.fieldLink R_Rn 59 "HandlingRules$Rule" "numbers" "[J") (List.mem_cons_of_mem _ kw_197)
  have hl := lv_entry ([.ref a0, .ref za0, .int limit]) (n := 4) (Nat.le_of_ble_eq_true rfl)
  rw [lg_entry_eq]
  generalize (lg_sl ([.ref a0, .ref za0, .int limit]) ++ List.replicate (4 - (lg_sl ([.ref a0, .ref za0, .int limit])).length) Slot.unset).toArray = ls at hl ⊢
  replace hl : lv_has ls 4 [(0, .ref a0), (1, .ref za0), (2, .int limit)] := hl
  generalize hT : f_run facts stack handleFacts given_values given_givers handleCount znumber zops znumbers zlength zcell limit = T
  refine lv_aload_n hx hb d_Rn_run_0 rfl (lv_at hl 0 rfl) ?_
  refine lv_aload_n hx hb d_Rn_run_1 rfl (lv_at hl 1 rfl) ?_
  refine cl_v hK hP hD hS hA (va_runV (As := [.ref za0]) (rest := []) ⟨hx, hb, hml, hown, hts⟩ (c_begin l G cI cL cZ cR cE H.size a0 a1 a2 a3 a4 a5 a6 za0 za1 za2 facts stack handleFacts given_values given_givers handleCount height position fault cell znumber zhome zrank zname zops znumbers zlength zcell zfallbackKind zfallbackValue) (cwV 1 hts (gV kw_292 kw_293 kw_294 kw_16 kw_295) rfl rfl rfl (by decide +kernel) ⟨Nat.le_of_ble_eq_true rfl, Nat.le_of_ble_eq_true rfl⟩) (preWV_of (ci := 4) hN hK hP hD [0, 1, 2, 3, 4, 5, 6, 7, 8, 9] (by decide) rfl rfl rfl) rfl rfl hl.1 rfl (lv_room (Nat.le_of_ble_eq_true rfl)) d_Rn_run_2 ⟨Nat.le_of_ble_eq_true rfl, Nat.le_of_ble_eq_true rfl⟩) [0, 1, 2, 3, 4, 5, 6, 7, 8, 9] [] rfl rfl (by decide) (by decide) (fun u H locs hw_3 hP hD hS => ?_)
  obtain ⟨x_given_values_4, x_given_givers_5, x_height_6, x_position_7, x_fault_8, x_cell_9⟩ := u
  replace hP : va_P G vwCl (W_Run cI cL cZ cR cE a0 a1 a2 a3 a4 a5 a6 facts stack handleFacts x_given_values_4 x_given_givers_5 handleCount x_height_6 x_position_7 x_fault_8 x_cell_9 ++ W_Rul cI cL cZ cR cE za0 za1 za2 znumber zhome zrank zname zops znumbers zlength zcell zfallbackKind zfallbackValue) H := hP.sub [0, 1, 2, 3, 4, 5, 6, 7, 8, 9] rfl
  replace hD : va_D A (W_Run cI cL cZ cR cE a0 a1 a2 a3 a4 a5 a6 facts stack handleFacts x_given_values_4 x_given_givers_5 handleCount x_height_6 x_position_7 x_fault_8 x_cell_9 ++ W_Rul cI cL cZ cR cE za0 za1 za2 znumber zhome zrank zname zops znumbers zlength zcell zfallbackKind zfallbackValue) := hD.sub [0, 1, 2, 3, 4, 5, 6, 7, 8, 9] (by decide) rfl
  refine lv_iconst (v := 0) hx hb d_Rn_run_5 (by decide) ?_
  refine lv_istore_n (lv' := [(3, .int 0), (0, .ref a0), (1, .ref za0), (2, .int limit)]) hx hb d_Rn_run_6 rfl hl (by decide) rfl (fun ls hl => ?_)
  obtain ⟨n, hn⟩ : ∃ n : Nat, n = 101 := ⟨_, rfl⟩
  obtain ⟨made, h_made⟩ : ∃ z : Int32, z = 0 := ⟨_, rfl⟩
  obtain ⟨y_stack, h_y_stack⟩ : ∃ z : Nat → Int64, z = stack := ⟨_, rfl⟩
  obtain ⟨y_handleFacts, h_y_handleFacts⟩ : ∃ z : Nat → Int32, z = handleFacts := ⟨_, rfl⟩
  obtain ⟨y_given_values, h_y_given_values⟩ : ∃ z : Nat → Int64, z = x_given_values_4 := ⟨_, rfl⟩
  obtain ⟨y_given_givers, h_y_given_givers⟩ : ∃ z : Nat → Int32, z = x_given_givers_5 := ⟨_, rfl⟩
  obtain ⟨y_handleCount, h_y_handleCount⟩ : ∃ z : Int32, z = handleCount := ⟨_, rfl⟩
  obtain ⟨y_height, h_y_height⟩ : ∃ z : Int32, z = x_height_6 := ⟨_, rfl⟩
  obtain ⟨y_position, h_y_position⟩ : ∃ z : Int32, z = x_position_7 := ⟨_, rfl⟩
  obtain ⟨y_fault, h_y_fault⟩ : ∃ z : Int32, z = x_fault_8 := ⟨_, rfl⟩
  obtain ⟨y_cell, h_y_cell⟩ : ∃ z : Int64, z = x_cell_9 := ⟨_, rfl⟩
  replace hl : lv_has ls 4 [(3, .int made), (0, .ref a0), (1, .ref za0), (2, .int limit)] := by rw [h_made]; exact hl
  replace hP : va_P G vwCl (W_Run cI cL cZ cR cE a0 a1 a2 a3 a4 a5 a6 facts y_stack y_handleFacts y_given_values y_given_givers y_handleCount y_height y_position y_fault y_cell ++ W_Rul cI cL cZ cR cE za0 za1 za2 znumber zhome zrank zname zops znumbers zlength zcell zfallbackKind zfallbackValue) H := by rw [h_y_stack, h_y_handleFacts, h_y_given_values, h_y_given_givers, h_y_handleCount, h_y_height, h_y_position, h_y_fault, h_y_cell]; exact hP
  replace hD : va_D A (W_Run cI cL cZ cR cE a0 a1 a2 a3 a4 a5 a6 facts y_stack y_handleFacts y_given_values y_given_givers y_handleCount y_height y_position y_fault y_cell ++ W_Rul cI cL cZ cR cE za0 za1 za2 znumber zhome zrank zname zops znumbers zlength zcell zfallbackKind zfallbackValue) := by rw [h_y_stack, h_y_handleFacts, h_y_given_values, h_y_given_givers, h_y_handleCount, h_y_height, h_y_position, h_y_fault, h_y_cell]; exact hD
  have hI : 0 ≤ made.toInt ∧ made.toInt ≤ 100 ∧ 101 ≤ made.toInt + (n : Int) := by rw [hn, h_made]; decide
  replace hT : L_run facts znumber zops znumbers zlength limit n made y_stack y_handleFacts y_given_values y_given_givers y_handleCount y_height y_position y_fault y_cell = T := by rw [← hT, hn, h_made, h_y_stack, h_y_handleFacts, h_y_given_values, h_y_given_givers, h_y_handleCount, h_y_height, h_y_position, h_y_fault, h_y_cell]; simp only [f_run, ← hw_3]
  clear hn h_made h_y_stack h_y_handleFacts h_y_given_values h_y_given_givers h_y_handleCount h_y_height h_y_position h_y_fault h_y_cell
  revert hT
  revert hI
  revert hl
  revert hS
  revert hD
  revert hP
  revert y_cell
  revert y_fault
  revert y_position
  revert y_height
  revert y_handleCount
  revert y_given_givers
  revert y_given_values
  revert y_handleFacts
  revert y_stack
  revert made
  revert ls
  skip
  revert locs
  revert H
  induction n with
  | zero =>
    intro H locs ls made y_stack y_handleFacts y_given_values y_given_givers y_handleCount y_height y_position y_fault y_cell hP hD hS hl hI hT
    exact absurd hI (by omega)
  | succ n ih =>
    intro H locs ls made y_stack y_handleFacts y_given_values y_given_givers y_handleCount y_height y_position y_fault y_cell hP hD hS hl hI hT
    refine lv_iload_n hx hb d_Rn_run_7 rfl (lv_at hl 0 rfl) ?_
    refine lv_iload_n hx hb d_Rn_run_8 rfl (lv_at hl 3 rfl) ?_
    refine lv_icmp_ge (tgt := 56) hx hb d_Rn_run_9 (by decide) (fun c_10 => ?_) (fun c_10 => ?_)
    · refine lv_aload_n hx hb d_Rn_run_56 rfl (lv_at hl 1 rfl) ?_
      refine va_get (D := G) (ci := 4) (v := .int y_fault) (C := R_Rn) (T := T_Rn) (N := 9) hx hb hts hi_2 hown hK hP 0 rfl rfl 7 (by decide) hk_1 (fun _ h9 => h9) rfl d_Rn_run_57 ?_
      refine lv_if_ne (tgt := 76) hx hb d_Rn_run_60 (by decide) (fun c_11 => ?_) (fun c_11 => ?_)
      · refine lv_iload_n hx hb d_Rn_run_76 rfl (lv_at hl 0 rfl) ?_
        exact W.iret (v := made) hx hb hr (fun t ht hW => ⟨⟨made, (y_stack, y_handleFacts, y_given_values, y_given_givers, y_handleCount, y_height, y_position, y_fault, y_cell), rfl, (by rw [← hT]; simp only [L_run, if_pos c_10, if_neg c_11]), by rw [ht]; exact hP, va_K.moved hW.alike hK, hD⟩, hS.F ht⟩) hS.2.2 d_Rn_run_77
      · refine lv_aload_n hx hb d_Rn_run_63 rfl (lv_at hl 1 rfl) ?_
        refine lv_aload_n hx hb d_Rn_run_64 rfl (lv_at hl 2 rfl) ?_
        refine vp_callSi (W.runV (As := [.ref za0]) (rest := []) ⟨hx, hb, hml, hown, hts⟩ (c_isInside l G cI cL cZ cR cE a0 a1 a2 a3 a4 a5 a6 za0 za1 za2 facts y_stack y_handleFacts y_given_values y_given_givers y_handleCount y_height y_position y_fault y_cell znumber zhome zrank zname zops znumbers zlength zcell zfallbackKind zfallbackValue) (cwV 1 hts (gV kw_300 kw_301 kw_302 kw_16 kw_303) rfl rfl rfl (by decide +kernel) ⟨Nat.le_of_ble_eq_true rfl, Nat.le_of_ble_eq_true rfl⟩) (preRV_of (ci := 4) hN hK hP [0, 1, 2, 3, 4, 5, 6, 7, 8, 9] rfl rfl rfl) rfl rfl hl.1 rfl (lv_room (Nat.le_of_ble_eq_true rfl)) d_Rn_run_65 ⟨Nat.zero_le _, Nat.zero_le _⟩) (fun r_12 hw => ?_)
        subst hw
        refine lv_if_eq (tgt := 76) hx hb d_Rn_run_68 (by decide) (fun c_13 => ?_) (fun c_13 => ?_)
        · refine lv_iload_n hx hb d_Rn_run_76 rfl (lv_at hl 0 rfl) ?_
          exact W.iret (v := made) hx hb hr (fun t ht hW => ⟨⟨made, (y_stack, y_handleFacts, y_given_values, y_given_givers, y_handleCount, y_height, y_position, y_fault, y_cell), rfl, (by rw [← hT]; simp only [L_run, if_pos c_10, if_pos c_11, if_pos c_13]), by rw [ht]; exact hP, va_K.moved hW.alike hK, hD⟩, hS.F ht⟩) hS.2.2 d_Rn_run_77
        · refine lv_aload_n hx hb d_Rn_run_71 rfl (lv_at hl 1 rfl) ?_
          refine lv_iconst (v := 1) hx hb d_Rn_run_72 (by decide) ?_
          refine va_put (D := G) (ci := 4) (v := .int 1) (ty := (.int)) (C := R_Rn) (T := T_Rn) (N := 9) hx hb hts hi_2 ty_Rn tyk_Rn nm_Rn hown hK hP hD hS 0 rfl rfl 7 (by decide) hk_1 (fun _ h9 => h9) rfl (by decide +kernel) rfl rfl (Nat.le_of_ble_eq_true rfl) d_Rn_run_73 (fun H locs hP hD hS => ?_)
          replace hP : va_P G vwCl (W_Run cI cL cZ cR cE a0 a1 a2 a3 a4 a5 a6 facts y_stack y_handleFacts y_given_values y_given_givers y_handleCount y_height y_position 1 y_cell ++ W_Rul cI cL cZ cR cE za0 za1 za2 znumber zhome zrank zname zops znumbers zlength zcell zfallbackKind zfallbackValue) H := hP
          replace hD : va_D A (W_Run cI cL cZ cR cE a0 a1 a2 a3 a4 a5 a6 facts y_stack y_handleFacts y_given_values y_given_givers y_handleCount y_height y_position 1 y_cell ++ W_Rul cI cL cZ cR cE za0 za1 za2 znumber zhome zrank zname zops znumbers zlength zcell zfallbackKind zfallbackValue) := hD
          refine lv_iload_n hx hb d_Rn_run_76 rfl (lv_at hl 0 rfl) ?_
          exact W.iret (v := made) hx hb hr (fun t ht hW => ⟨⟨made, (y_stack, y_handleFacts, y_given_values, y_given_givers, y_handleCount, y_height, y_position, 1, y_cell), rfl, (by rw [← hT]; simp only [L_run, if_pos c_10, if_pos c_11, if_neg c_13]), by rw [ht]; exact hP, va_K.moved hW.alike hK, hD⟩, hS.F ht⟩) hS.2.2 d_Rn_run_77
    · refine lv_aload_n hx hb d_Rn_run_12 rfl (lv_at hl 1 rfl) ?_
      refine va_get (D := G) (ci := 4) (v := .int y_fault) (C := R_Rn) (T := T_Rn) (N := 9) hx hb hts hi_2 hown hK hP 0 rfl rfl 7 (by decide) hk_1 (fun _ h9 => h9) rfl d_Rn_run_13 ?_
      refine lv_if_ne (tgt := 56) hx hb d_Rn_run_16 (by decide) (fun c_14 => ?_) (fun c_14 => ?_)
      · refine lv_aload_n hx hb d_Rn_run_56 rfl (lv_at hl 1 rfl) ?_
        refine va_get (D := G) (ci := 4) (v := .int y_fault) (C := R_Rn) (T := T_Rn) (N := 9) hx hb hts hi_2 hown hK hP 0 rfl rfl 7 (by decide) hk_1 (fun _ h9 => h9) rfl d_Rn_run_57 ?_
        refine lv_if_ne (tgt := 76) hx hb d_Rn_run_60 (by decide) (fun _ => ?_) (fun k_15 => absurd k_15 c_14)
        refine lv_iload_n hx hb d_Rn_run_76 rfl (lv_at hl 0 rfl) ?_
        exact W.iret (v := made) hx hb hr (fun t ht hW => ⟨⟨made, (y_stack, y_handleFacts, y_given_values, y_given_givers, y_handleCount, y_height, y_position, y_fault, y_cell), rfl, (by rw [← hT]; simp only [L_run, if_neg c_10, if_neg c_14]), by rw [ht]; exact hP, va_K.moved hW.alike hK, hD⟩, hS.F ht⟩) hS.2.2 d_Rn_run_77
      · refine lv_aload_n hx hb d_Rn_run_19 rfl (lv_at hl 1 rfl) ?_
        refine lv_aload_n hx hb d_Rn_run_20 rfl (lv_at hl 2 rfl) ?_
        refine vp_callSi (W.runV (As := [.ref za0]) (rest := []) ⟨hx, hb, hml, hown, hts⟩ (c_isInside l G cI cL cZ cR cE a0 a1 a2 a3 a4 a5 a6 za0 za1 za2 facts y_stack y_handleFacts y_given_values y_given_givers y_handleCount y_height y_position y_fault y_cell znumber zhome zrank zname zops znumbers zlength zcell zfallbackKind zfallbackValue) (cwV 1 hts (gV kw_300 kw_301 kw_302 kw_16 kw_303) rfl rfl rfl (by decide +kernel) ⟨Nat.le_of_ble_eq_true rfl, Nat.le_of_ble_eq_true rfl⟩) (preRV_of (ci := 4) hN hK hP [0, 1, 2, 3, 4, 5, 6, 7, 8, 9] rfl rfl rfl) rfl rfl hl.1 rfl (lv_room (Nat.le_of_ble_eq_true rfl)) d_Rn_run_21 ⟨Nat.zero_le _, Nat.zero_le _⟩) (fun r_16 hw => ?_)
        subst hw
        refine lv_if_eq (tgt := 56) hx hb d_Rn_run_24 (by decide) (fun c_17 => ?_) (fun c_17 => ?_)
        · refine lv_aload_n hx hb d_Rn_run_56 rfl (lv_at hl 1 rfl) ?_
          refine va_get (D := G) (ci := 4) (v := .int y_fault) (C := R_Rn) (T := T_Rn) (N := 9) hx hb hts hi_2 hown hK hP 0 rfl rfl 7 (by decide) hk_1 (fun _ h9 => h9) rfl d_Rn_run_57 ?_
          refine lv_if_ne (tgt := 76) hx hb d_Rn_run_60 (by decide) (fun k_18 => absurd c_14 k_18) (fun _ => ?_)
          refine lv_aload_n hx hb d_Rn_run_63 rfl (lv_at hl 1 rfl) ?_
          refine lv_aload_n hx hb d_Rn_run_64 rfl (lv_at hl 2 rfl) ?_
          refine vp_callSi (W.runV (As := [.ref za0]) (rest := []) ⟨hx, hb, hml, hown, hts⟩ (c_isInside l G cI cL cZ cR cE a0 a1 a2 a3 a4 a5 a6 za0 za1 za2 facts y_stack y_handleFacts y_given_values y_given_givers y_handleCount y_height y_position y_fault y_cell znumber zhome zrank zname zops znumbers zlength zcell zfallbackKind zfallbackValue) (cwV 1 hts (gV kw_300 kw_301 kw_302 kw_16 kw_303) rfl rfl rfl (by decide +kernel) ⟨Nat.le_of_ble_eq_true rfl, Nat.le_of_ble_eq_true rfl⟩) (preRV_of (ci := 4) hN hK hP [0, 1, 2, 3, 4, 5, 6, 7, 8, 9] rfl rfl rfl) rfl rfl hl.1 rfl (lv_room (Nat.le_of_ble_eq_true rfl)) d_Rn_run_65 ⟨Nat.zero_le _, Nat.zero_le _⟩) (fun r_19 hw => ?_)
          subst hw
          refine lv_if_eq (tgt := 76) hx hb d_Rn_run_68 (by decide) (fun _ => ?_) (fun k_20 => absurd c_17 k_20)
          refine lv_iload_n hx hb d_Rn_run_76 rfl (lv_at hl 0 rfl) ?_
          exact W.iret (v := made) hx hb hr (fun t ht hW => ⟨⟨made, (y_stack, y_handleFacts, y_given_values, y_given_givers, y_handleCount, y_height, y_position, y_fault, y_cell), rfl, (by rw [← hT]; simp only [L_run, if_neg c_10, if_pos c_14, if_pos c_17]), by rw [ht]; exact hP, va_K.moved hW.alike hK, hD⟩, hS.F ht⟩) hS.2.2 d_Rn_run_77
        · refine lv_aload_n hx hb d_Rn_run_27 rfl (lv_at hl 1 rfl) ?_
          refine lv_aload_n hx hb d_Rn_run_28 rfl (lv_at hl 2 rfl) ?_
          refine lv_aload_n hx hb d_Rn_run_29 rfl (lv_at hl 2 rfl) ?_
          refine va_get (D := G) (ci := 3) (v := .ref za1) (C := R_Ru) (T := T_Ru) (N := 10) hx hb hts hi_4 hown hK hP 7 rfl rfl 4 (by decide) hk_3 (fun _ h9 => h9) rfl d_Rn_run_30 ?_
          refine lv_aload_n hx hb d_Rn_run_33 rfl (lv_at hl 1 rfl) ?_
          refine va_get (D := G) (ci := 4) (v := .int y_position) (C := R_Rn) (T := T_Rn) (N := 9) hx hb hts hi_2 hown hK hP 0 rfl rfl 6 (by decide) hk_5 (fun _ h9 => h9) rfl d_Rn_run_34 ?_
          refine va_iald hx hb hK hP 8 0 rfl rfl (ix_inside c_17) d_Rn_run_37 ?_
          refine lv_aload_n hx hb d_Rn_run_38 rfl (lv_at hl 2 rfl) ?_
          refine va_get (D := G) (ci := 3) (v := .ref za2) (C := R_Ru) (T := T_Ru) (N := 10) hx hb hts hi_4 hown hK hP 7 rfl rfl 5 (by decide) hk_6 (fun _ h9 => h9) rfl d_Rn_run_39 ?_
          refine lv_aload_n hx hb d_Rn_run_42 rfl (lv_at hl 1 rfl) ?_
          refine va_get (D := G) (ci := 4) (v := .int y_position) (C := R_Rn) (T := T_Rn) (N := 9) hx hb hts hi_2 hown hK hP 0 rfl rfl 6 (by decide) hk_5 (fun _ h9 => h9) rfl d_Rn_run_43 ?_
          refine va_lald hx hb hK hP 9 1 rfl rfl (ix_inside c_17) d_Rn_run_46 ?_
          refine cl_v hK hP hD hS hA (va_runV (As := [.ref za0, .int (zops y_position.toNatClampNeg), .long (znumbers y_position.toNatClampNeg)]) (rest := []) ⟨hx, hb, hml, hown, hts⟩ (c_perform l G cI cL cZ cR cE H.size a0 a1 a2 a3 a4 a5 a6 za0 za1 za2 facts y_stack y_handleFacts y_given_values y_given_givers y_handleCount y_height y_position y_fault y_cell znumber zhome zrank zname zops znumbers zlength zcell zfallbackKind zfallbackValue (zops y_position.toNatClampNeg) (znumbers y_position.toNatClampNeg)) (cwV 3 hts (gV kw_304 kw_305 kw_306 kw_16 kw_307) rfl rfl rfl (by decide +kernel) ⟨Nat.le_of_ble_eq_true rfl, Nat.le_of_ble_eq_true rfl⟩) (preWV_of (ci := 4) hN hK hP hD [0, 1, 2, 3, 4, 5, 6, 7, 8, 9] (by decide) rfl rfl rfl) rfl rfl hl.1 rfl (lv_room (Nat.le_of_ble_eq_true rfl)) d_Rn_run_47 ⟨Nat.le_of_ble_eq_true rfl, Nat.le_of_ble_eq_true rfl⟩) [0, 1, 2, 3, 4, 5, 6, 7, 8, 9] [] rfl rfl (by decide) (by decide) (fun u H locs hw_23 hP hD hS => ?_)
          obtain ⟨x_stack_24, x_handleFacts_25, x_given_values_26, x_given_givers_27, x_handleCount_28, x_height_29, x_position_30, x_fault_31, x_cell_32⟩ := u
          replace hP : va_P G vwCl (W_Run cI cL cZ cR cE a0 a1 a2 a3 a4 a5 a6 facts x_stack_24 x_handleFacts_25 x_given_values_26 x_given_givers_27 x_handleCount_28 x_height_29 x_position_30 x_fault_31 x_cell_32 ++ W_Rul cI cL cZ cR cE za0 za1 za2 znumber zhome zrank zname zops znumbers zlength zcell zfallbackKind zfallbackValue) H := hP.sub [0, 1, 2, 3, 4, 5, 6, 7, 8, 9] rfl
          replace hD : va_D A (W_Run cI cL cZ cR cE a0 a1 a2 a3 a4 a5 a6 facts x_stack_24 x_handleFacts_25 x_given_values_26 x_given_givers_27 x_handleCount_28 x_height_29 x_position_30 x_fault_31 x_cell_32 ++ W_Rul cI cL cZ cR cE za0 za1 za2 znumber zhome zrank zname zops znumbers zlength zcell zfallbackKind zfallbackValue) := hD.sub [0, 1, 2, 3, 4, 5, 6, 7, 8, 9] (by decide) rfl
          refine lv_iinc (v := made + 1) (lv' := [(3, .int (made + 1)), (0, .ref a0), (1, .ref za0), (2, .int limit)]) hx hb d_Rn_run_50 hl (k := 0) rfl rfl (by decide) rfl (fun ls hl => ?_)
          refine lv_goto (tgt := 7) hx hb d_Rn_run_53 (by decide) ?_
          exact ih H _ ls (made + 1) x_stack_24 x_handleFacts_25 x_given_values_26 x_given_givers_27 x_handleCount_28 x_height_29 x_position_30 x_fault_31 x_cell_32 hP hD hS (lv_sub hl [0, 1, 2, 3] rfl) (by exact i_step_le hlim hI (by assumption)) (by rw [← hT]; simp only [L_run, if_neg c_10, if_pos c_14, if_neg c_17, ← hw_23])
