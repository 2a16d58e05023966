def L_addMissing (zvalues : Nat → Int64) (zgivers : Nat → Int32) : Nat → Int32 → (Nat → Int64) → (Nat → Int32) → Int32 × (Nat → Int64) × (Nat → Int32)
  | 0, i, y_values, y_givers => (i, y_values, y_givers)
  | n + 1, i, y_values, y_givers => if 4 ≤ i then (i, y_values, y_givers) else (if (f_isGiven y_givers i) = 0 then (if (f_isGiven zgivers i) = 0 then (L_addMissing zvalues zgivers n (i + 1) y_values y_givers) else (match f_give y_values y_givers i.toInt64 (f_valueOf zvalues i) (f_giverOf zgivers i) with | (x_values_11, x_givers_12) => (L_addMissing zvalues zgivers n (i + 1) x_values_11 x_givers_12))) else (L_addMissing zvalues zgivers n (i + 1) y_values y_givers))
def f_addMissing (values : Nat → Int64) (givers : Nat → Int32) (zvalues : Nat → Int64) (zgivers : Nat → Int32) : (Nat → Int64) × (Nat → Int32) := match L_addMissing zvalues zgivers 5 0 values givers with | (z_i_13, z_y_values_14, z_y_givers_15) => (z_y_values_14, z_y_givers_15)
set_option maxHeartbeats 4000000 in
set_option maxRecDepth 100000 in
theorem c_addMissing (l : Launch) (G : va_G) (cI cL cZ cR cE : ClassId) (sz : Nat) (a0 a1 a2 : Nat) (za0 za1 za2 : Nat) (values : Nat → Int64) (givers : Nat → Int32) (zvalues : Nat → Int64) (zgivers : Nat → Int32) : Met l y_An_addMissing w_An_addMissing ({ frames := 2, cells := 0, slots := 0, locals := 50 }) (preW G (TYS cI cL cZ cR cE) [.ref a0, .ref za0] sz (W_Ans cI cL cZ cR cE a0 a1 a2 values givers ++ W_Ans cI cL cZ cR cE za0 za1 za2 zvalues zgivers)) (va_Qv (fun u : (Nat → Int64) × (Nat → Int32) => u = f_addMissing values givers zvalues zgivers) (fun u t => va_P G vwCl (W_Ans cI cL cZ cR cE a0 a1 a2 u.1 u.2 ++ W_Ans cI cL cZ cR cE za0 za1 za2 zvalues zgivers) t.heap ∧ va_K G vwCl (TYS cI cL cZ cR cE) t ∧ va_D (va_A (W_Ans cI cL cZ cR cE a0 a1 a2 values givers ++ W_Ans cI cL cZ cR cE za0 za1 za2 zvalues zgivers) sz) (W_Ans cI cL cZ cR cE a0 a1 a2 u.1 u.2 ++ W_Ans cI cL cZ cR cE za0 za1 za2 zvalues zgivers)) (va_A (W_Ans cI cL cZ cR cE a0 a1 a2 values givers ++ W_Ans cI cL cZ cR cE za0 za1 za2 zvalues zgivers) sz)) 0 0 (va_A (W_Ans cI cL cZ cR cE a0 a1 a2 values givers ++ W_Ans cI cL cZ cR cE za0 za1 za2 zvalues zgivers) sz) := by
  refine Met.ofW (cc := b_An_addMissing) (maxL := 3) (ret := none) (by decide) rfl ?_
  intro p e s m args below meth c s₁ B hml hv
  obtain ⟨rfl, hsz, hP, hK, hD0, hN⟩ := hv
  have hx := B.exec
  have hb := B.bytes
  have hr := B.returns
  have hts := atoms_spec (ws := w_An_addMissing) B.pre
  have hown : s.vm.findClass R_An = some m.cls := findClass_of_methodNamed B.named
  have hlocks := B.notSynchronized
  subst hsz
  have hD := hD0.self (sz := s.heap.size)
  clear hD0
  generalize hAe : va_A (W_Ans cI cL cZ cR cE a0 a1 a2 values givers ++ W_Ans cI cL cZ cR cE za0 za1 za2 zvalues zgivers) s.heap.size = A at hD ⊢
  have hA : ∀ q : Nat, s.heap.size ≤ q → A q := fun q h => by rw [← hAe]; exact Or.inr h
  clear hAe
  have hS : va_S A s.heap s.heap [] := va_S.rf
  obtain ⟨H, hH⟩ : ∃ H, H = s.heap := ⟨_, rfl⟩
  rw [← hH] at hP
  replace hS : va_S A s.heap H [] := by rw [hH]; exact hS
  rw [← hH]
  clear hH
  have hl := lv_entry ([.ref a0, .ref za0]) (n := 3) (Nat.le_of_ble_eq_true rfl)
  rw [lg_entry_eq]
  generalize (lg_sl ([.ref a0, .ref za0]) ++ List.replicate (3 - (lg_sl ([.ref a0, .ref za0])).length) Slot.unset).toArray = ls at hl ⊢
  replace hl : lv_has ls 3 [(0, .ref a0), (1, .ref za0)] := hl
  generalize hT : f_addMissing values givers zvalues zgivers = T
  refine lv_iconst (v := 0) hx hb d_An_addMissing_0 (by decide) ?_
  refine lv_istore_n (lv' := [(2, .int 0), (0, .ref a0), (1, .ref za0)]) hx hb d_An_addMissing_1 rfl hl (by decide) rfl (fun ls hl => ?_)
  refine W_seq (α := Int32 × (Nat → Int64) × (Nat → Int32)) (pcE := 45) (Post := (fun x H locs ls => x = L_addMissing zvalues zgivers 5 0 values givers ∧ va_P G vwCl (W_Ans cI cL cZ cR cE a0 a1 a2 x.2.1 x.2.2 ++ W_Ans cI cL cZ cR cE za0 za1 za2 zvalues zgivers) H ∧ va_D A (W_Ans cI cL cZ cR cE a0 a1 a2 x.2.1 x.2.2 ++ W_Ans cI cL cZ cR cE za0 za1 za2 zvalues zgivers) ∧ va_S A s.heap H locs ∧ lv_has ls 3 [(2, .int x.1), (0, .ref a0), (1, .ref za0)])) (fun hKK => ?_) (fun x H locs ls hq => ?_)
  · generalize hT : L_addMissing zvalues zgivers 5 0 values givers = T at hKK
    obtain ⟨n, hn⟩ : ∃ n : Nat, n = 5 := ⟨_, rfl⟩
    obtain ⟨i, h_i⟩ : ∃ z : Int32, z = 0 := ⟨_, rfl⟩
    obtain ⟨y_values, h_y_values⟩ : ∃ z : Nat → Int64, z = values := ⟨_, rfl⟩
    obtain ⟨y_givers, h_y_givers⟩ : ∃ z : Nat → Int32, z = givers := ⟨_, rfl⟩
    replace hl : lv_has ls 3 [(2, .int i), (0, .ref a0), (1, .ref za0)] := by rw [h_i]; exact hl
    replace hP : va_P G vwCl (W_Ans cI cL cZ cR cE a0 a1 a2 y_values y_givers ++ W_Ans cI cL cZ cR cE za0 za1 za2 zvalues zgivers) H := by rw [h_y_values, h_y_givers]; exact hP
    replace hD : va_D A (W_Ans cI cL cZ cR cE a0 a1 a2 y_values y_givers ++ W_Ans cI cL cZ cR cE za0 za1 za2 zvalues zgivers) := by rw [h_y_values, h_y_givers]; exact hD
    have hI_addMissing : 0 ≤ i.toInt ∧ i.toInt ≤ 4 ∧ 5 ≤ i.toInt + (n : Int) := by rw [hn, h_i]; decide
    replace hT : L_addMissing zvalues zgivers n i y_values y_givers = T := by rw [← hT, hn, h_i, h_y_values, h_y_givers]
    clear hn h_i h_y_values h_y_givers
    revert hT
    revert hI_addMissing
    revert hl
    revert hS
    revert hD
    revert hP
    revert y_givers
    revert y_values
    revert i
    revert ls
    obtain ⟨locs, hlocs⟩ : ∃ z : List Loc, z = [] := ⟨_, rfl⟩
    rw [← hlocs]
    clear hlocs
    revert locs
    revert H
    induction n with
    | zero =>
      intro H locs ls i y_values y_givers hP hD hS hl hI_addMissing hT
      exact absurd hI_addMissing (by omega)
    | succ n ih =>
      intro H locs ls i y_values y_givers hP hD hS hl hI_addMissing hT
      refine lv_iload_n hx hb d_An_addMissing_2 rfl (lv_at hl 0 rfl) ?_
      refine lv_iconst (v := 4) hx hb d_An_addMissing_3 (by decide) ?_
      refine lv_icmp_ge (tgt := 45) hx hb d_An_addMissing_4 (by decide) (fun c_1 => ?_) (fun c_1 => ?_)
      · exact hKK (i, y_values, y_givers) H _ ls ⟨(by rw [← hT]; simp only [L_addMissing, if_pos c_1]), hP, hD, hS, lv_sub hl [0, 1, 2] rfl⟩
      · refine lv_aload_n hx hb d_An_addMissing_7 rfl (lv_at hl 1 rfl) ?_
        refine lv_iload_n hx hb d_An_addMissing_8 rfl (lv_at hl 0 rfl) ?_
        refine vp_callSi (W.runV (As := [.int i]) (rest := []) ⟨hx, hb, hml, hown, hts⟩ (c_isGiven l G cI cL cZ cR cE a0 a1 a2 y_values y_givers i) (cwV 1 hts (gV kw_398 kw_399 kw_400 kw_17 kw_401) rfl rfl rfl (by decide +kernel) ⟨Nat.le_of_ble_eq_true rfl, Nat.le_of_ble_eq_true rfl⟩) (preRV_of (ci := 0) hN hK hP [0, 1, 2] rfl rfl rfl) rfl rfl hl.1 rfl (lv_room (Nat.le_of_ble_eq_true rfl)) d_An_addMissing_9 ⟨Nat.zero_le _, Nat.zero_le _⟩) (fun r_2 hw => ?_)
        subst hw
        refine lv_if_ne (tgt := 39) hx hb d_An_addMissing_12 (by decide) (fun c_3 => ?_) (fun c_3 => ?_)
        · refine lv_iinc (v := i + 1) (lv' := [(2, .int (i + 1)), (0, .ref a0), (1, .ref za0)]) hx hb d_An_addMissing_39 hl (k := 0) rfl rfl (by decide) rfl (fun ls hl => ?_)
          refine lv_goto (tgt := 2) hx hb d_An_addMissing_42 (by decide) ?_
          exact ih H _ ls (i + 1) y_values y_givers hP hD hS (lv_sub hl [0, 1, 2] rfl) (by exact i_step hI_addMissing (by assumption) rfl (by decide)) (by rw [← hT]; simp only [L_addMissing, if_neg c_1, if_neg c_3])
        · refine lv_aload_n hx hb d_An_addMissing_15 rfl (lv_at hl 2 rfl) ?_
          refine lv_iload_n hx hb d_An_addMissing_16 rfl (lv_at hl 0 rfl) ?_
          refine vp_callSi (W.runV (As := [.int i]) (rest := []) ⟨hx, hb, hml, hown, hts⟩ (c_isGiven l G cI cL cZ cR cE za0 za1 za2 zvalues zgivers i) (cwV 1 hts (gV kw_398 kw_399 kw_400 kw_17 kw_401) rfl rfl rfl (by decide +kernel) ⟨Nat.le_of_ble_eq_true rfl, Nat.le_of_ble_eq_true rfl⟩) (preRV_of (ci := 0) hN hK hP [3, 4, 5] rfl rfl rfl) rfl rfl hl.1 rfl (lv_room (Nat.le_of_ble_eq_true rfl)) d_An_addMissing_17 ⟨Nat.zero_le _, Nat.zero_le _⟩) (fun r_4 hw => ?_)
          subst hw
          refine lv_if_eq (tgt := 39) hx hb d_An_addMissing_20 (by decide) (fun c_5 => ?_) (fun c_5 => ?_)
          · refine lv_iinc (v := i + 1) (lv' := [(2, .int (i + 1)), (0, .ref a0), (1, .ref za0)]) hx hb d_An_addMissing_39 hl (k := 0) rfl rfl (by decide) rfl (fun ls hl => ?_)
            refine lv_goto (tgt := 2) hx hb d_An_addMissing_42 (by decide) ?_
            exact ih H _ ls (i + 1) y_values y_givers hP hD hS (lv_sub hl [0, 1, 2] rfl) (by exact i_step hI_addMissing (by assumption) rfl (by decide)) (by rw [← hT]; simp only [L_addMissing, if_neg c_1, if_pos c_3, if_pos c_5])
          · refine lv_aload_n hx hb d_An_addMissing_23 rfl (lv_at hl 1 rfl) ?_
            refine lv_iload_n hx hb d_An_addMissing_24 rfl (lv_at hl 0 rfl) ?_
            refine lv_i2l (v := i.toInt64) hx hb d_An_addMissing_25 rfl ?_
            refine lv_aload_n hx hb d_An_addMissing_26 rfl (lv_at hl 2 rfl) ?_
            refine lv_iload_n hx hb d_An_addMissing_27 rfl (lv_at hl 0 rfl) ?_
            refine vp_callSl (W.runV (As := [.int i]) (rest := [.long i.toInt64, .ref a0]) ⟨hx, hb, hml, hown, hts⟩ (c_valueOf l G cI cL cZ cR cE za0 za1 za2 zvalues zgivers i) (cwV 1 hts (gV kw_406 kw_407 kw_408 kw_17 kw_409) rfl rfl rfl (by decide +kernel) ⟨Nat.le_of_ble_eq_true rfl, Nat.le_of_ble_eq_true rfl⟩) (preRV_of (ci := 0) hN hK hP [3, 4, 5] rfl rfl rfl) rfl rfl hl.1 rfl (lv_room (Nat.le_of_ble_eq_true rfl)) d_An_addMissing_28 ⟨Nat.zero_le _, Nat.zero_le _⟩) (fun r_6 hw => ?_)
            subst hw
            refine lv_aload_n hx hb d_An_addMissing_31 rfl (lv_at hl 2 rfl) ?_
            refine lv_iload_n hx hb d_An_addMissing_32 rfl (lv_at hl 0 rfl) ?_
            refine vp_callSi (W.runV (As := [.int i]) (rest := [.long (f_valueOf zvalues i), .long i.toInt64, .ref a0]) ⟨hx, hb, hml, hown, hts⟩ (c_giverOf l G cI cL cZ cR cE za0 za1 za2 zvalues zgivers i) (cwV 1 hts (gV kw_402 kw_403 kw_404 kw_17 kw_405) rfl rfl rfl (by decide +kernel) ⟨Nat.le_of_ble_eq_true rfl, Nat.le_of_ble_eq_true rfl⟩) (preRV_of (ci := 0) hN hK hP [3, 4, 5] rfl rfl rfl) rfl rfl hl.1 rfl (lv_room (Nat.le_of_ble_eq_true rfl)) d_An_addMissing_33 ⟨Nat.zero_le _, Nat.zero_le _⟩) (fun r_7 hw => ?_)
            subst hw
            refine cl_v hK hP hD hS hA (va_runV (As := [.long i.toInt64, .long (f_valueOf zvalues i), .int (f_giverOf zgivers i)]) (rest := []) ⟨hx, hb, hml, hown, hts⟩ (c_give l G cI cL cZ cR cE H.size a0 a1 a2 y_values y_givers i.toInt64 (f_valueOf zvalues i) (f_giverOf zgivers i)) (cwV 3 hts (gV kw_410 kw_350 kw_351 kw_17 kw_352) rfl rfl rfl (by decide +kernel) ⟨Nat.le_of_ble_eq_true rfl, Nat.le_of_ble_eq_true rfl⟩) (preWV_of (ci := 0) hN hK hP hD [0, 1, 2] (by decide) rfl rfl rfl) rfl rfl hl.1 rfl (lv_room (Nat.le_of_ble_eq_true rfl)) d_An_addMissing_36 ⟨Nat.le_of_ble_eq_true rfl, Nat.le_of_ble_eq_true rfl⟩) [0, 1, 2] [3, 4, 5] rfl rfl (by decide) (by decide) (fun u H locs hw_10 hP hD hS => ?_)
            obtain ⟨x_values_11, x_givers_12⟩ := u
            replace hP : va_P G vwCl (W_Ans cI cL cZ cR cE a0 a1 a2 x_values_11 x_givers_12 ++ W_Ans cI cL cZ cR cE za0 za1 za2 zvalues zgivers) H := hP.sub [3, 4, 5, 0, 1, 2] rfl
            replace hD : va_D A (W_Ans cI cL cZ cR cE a0 a1 a2 x_values_11 x_givers_12 ++ W_Ans cI cL cZ cR cE za0 za1 za2 zvalues zgivers) := hD.sub [3, 4, 5, 0, 1, 2] (by decide) rfl
            refine lv_iinc (v := i + 1) (lv' := [(2, .int (i + 1)), (0, .ref a0), (1, .ref za0)]) hx hb d_An_addMissing_39 hl (k := 0) rfl rfl (by decide) rfl (fun ls hl => ?_)
            refine lv_goto (tgt := 2) hx hb d_An_addMissing_42 (by decide) ?_
            exact ih H _ ls (i + 1) x_values_11 x_givers_12 hP hD hS (lv_sub hl [0, 1, 2] rfl) (by exact i_step hI_addMissing (by assumption) rfl (by decide)) (by rw [← hT]; simp only [L_addMissing, if_neg c_1, if_pos c_3, if_neg c_5, ← hw_10])
  · obtain ⟨z_i_13, z_y_values_14, z_y_givers_15⟩ := x
    obtain ⟨hw_16, hP, hD, hS, hl⟩ := hq
    replace hP : va_P G vwCl (W_Ans cI cL cZ cR cE a0 a1 a2 z_y_values_14 z_y_givers_15 ++ W_Ans cI cL cZ cR cE za0 za1 za2 zvalues zgivers) H := hP
    replace hD : va_D A (W_Ans cI cL cZ cR cE a0 a1 a2 z_y_values_14 z_y_givers_15 ++ W_Ans cI cL cZ cR cE za0 za1 za2 zvalues zgivers) := hD
    replace hl : lv_has ls 3 [(2, .int z_i_13), (0, .ref a0), (1, .ref za0)] := hl
    exact W.vret hx hb hr (fun t ht hW => ⟨⟨(z_y_values_14, z_y_givers_15), rfl, (by rw [← hT]; simp only [f_addMissing, ← hw_16]), by rw [ht]; exact hP, va_K.moved hW.alike hK, hD⟩, hS.F ht⟩) hS.2.2 d_An_addMissing_45
def L_hasProgramOf (ops : Nat → Int32) (numbers : Nat → Int64) (length : Int32) (zops : Nat → Int32) (znumbers : Nat → Int64) : Nat → Int32 → Int32
  | 0, _ => 0
  | n + 1, i => if length ≤ i then 1 else (if 12 ≤ i then 1 else (if (ops i.toNatClampNeg) = (zops i.toNatClampNeg) then (if (numbers i.toNatClampNeg) = (znumbers i.toNatClampNeg) then (L_hasProgramOf ops numbers length zops znumbers n (i + 1)) else 0) else 0))
def f_hasProgramOf (ops : Nat → Int32) (numbers : Nat → Int64) (length : Int32) (zops : Nat → Int32) (znumbers : Nat → Int64) (zlength : Int32) : Int32 := if length = zlength then (L_hasProgramOf ops numbers length zops znumbers 13 0) else 0
set_option maxHeartbeats 4000000 in
set_option maxRecDepth 100000 in
theorem c_hasProgramOf (l : Launch) (G : va_G) (cI cL cZ cR cE : ClassId) (a0 a1 a2 : Nat) (za0 za1 za2 : Nat) (number : Int32) (home : Nat) (rank : Int32) (name : Int32) (ops : Nat → Int32) (numbers : Nat → Int64) (length : Int32) (cell : Int64) (fallbackKind : Int32) (fallbackValue : Int64) (znumber : Int32) (zhome : Nat) (zrank : Int32) (zname : Int32) (zops : Nat → Int32) (znumbers : Nat → Int64) (zlength : Int32) (zcell : Int64) (zfallbackKind : Int32) (zfallbackValue : Int64) : Met l y_Ru_hasProgramOf w_Ru_hasProgramOf ({ frames := 0, cells := 0, slots := 0, locals := 0 }) (preR G (TYS cI cL cZ cR cE) [.ref a0, .ref za0] (W_Rul cI cL cZ cR cE a0 a1 a2 number home rank name ops numbers length cell fallbackKind fallbackValue ++ W_Rul cI cL cZ cR cE za0 za1 za2 znumber zhome zrank zname zops znumbers zlength zcell zfallbackKind zfallbackValue)) (vp_Si (fun ans_ => ans_ = f_hasProgramOf ops numbers length zops znumbers zlength)) 0 0 (fun _ => False) := by
  refine Met.ofW (cc := b_Ru_hasProgramOf) (maxL := 3) (ret := (some .boolean)) (by decide) rfl ?_
  intro p e s m args below meth c s₁ B hml hv
  obtain ⟨rfl, hP, hK, hN⟩ := hv
  have hx := B.exec
  have hb := B.bytes
  have hr := B.returns
  have hts := atoms_spec (ws := w_Ru_hasProgramOf) B.pre
  have hown : s.vm.findClass R_Ru = some m.cls := findClass_of_methodNamed B.named
  have hlocks := B.notSynchronized
  obtain ⟨H, hH⟩ : ∃ H, H = s.heap := ⟨_, rfl⟩
  rw [← hH] at hP
  rw [← hH]
  have hi_2 : ∀ w ∈ u_ws R_Ru T_Ru 10, w ∈ w_Ru_hasProgramOf := fun w h => List.mem_cons_of_mem _ (iu_Ru w h)
  have hk_1 := hts (.fieldLink R_Ru 19 "HandlingRules$Rule" "length" "I") (List.mem_cons_of_mem _ kw_198)
  have hk_3 := hts (.fieldLink R_Ru 9 "HandlingRules$Rule" "ops" "[I") (List.mem_cons_of_mem _ kw_194)
  have hk_4 := hts (.fieldLink R_Ru 15 "HandlingRules$Rule" "numbers" "[J") (List.mem_cons_of_mem _ kw_196)
  have hl := lv_entry ([.ref a0, .ref za0]) (n := 3) (Nat.le_of_ble_eq_true rfl)
  rw [lg_entry_eq]
  generalize (lg_sl ([.ref a0, .ref za0]) ++ List.replicate (3 - (lg_sl ([.ref a0, .ref za0])).length) Slot.unset).toArray = ls at hl ⊢
  replace hl : lv_has ls 3 [(0, .ref a0), (1, .ref za0)] := hl
  generalize hT : f_hasProgramOf ops numbers length zops znumbers zlength = T
  refine lv_aload_n hx hb d_Ru_hasProgramOf_0 rfl (lv_at hl 0 rfl) ?_
  refine va_get (D := G) (ci := 3) (v := .int length) (C := R_Ru) (T := T_Ru) (N := 10) hx hb hts hi_2 hown hK hP 0 rfl rfl 6 (by decide) hk_1 (fun _ h9 => h9) rfl d_Ru_hasProgramOf_1 ?_
  refine lv_aload_n hx hb d_Ru_hasProgramOf_4 rfl (lv_at hl 1 rfl) ?_
  refine va_get (D := G) (ci := 3) (v := .int zlength) (C := R_Ru) (T := T_Ru) (N := 10) hx hb hts hi_2 hown hK hP 3 rfl rfl 6 (by decide) hk_1 (fun _ h9 => h9) rfl d_Ru_hasProgramOf_5 ?_
  refine lv_icmp_eq (tgt := 13) hx hb d_Ru_hasProgramOf_8 (by decide) (fun c_1 => ?_) (fun c_1 => ?_)
  · refine lv_iconst (v := 0) hx hb d_Ru_hasProgramOf_13 (by decide) ?_
    refine lv_istore_n (lv' := [(2, .int 0), (0, .ref a0), (1, .ref za0)]) hx hb d_Ru_hasProgramOf_14 rfl hl (by decide) rfl (fun ls hl => ?_)
    obtain ⟨n, hn⟩ : ∃ n : Nat, n = 13 := ⟨_, rfl⟩
    obtain ⟨i, h_i⟩ : ∃ z : Int32, z = 0 := ⟨_, rfl⟩
    replace hl : lv_has ls 3 [(2, .int i), (0, .ref a0), (1, .ref za0)] := by rw [h_i]; exact hl
    have hI : 0 ≤ i.toInt ∧ i.toInt ≤ 12 ∧ 13 ≤ i.toInt + (n : Int) := by rw [hn, h_i]; decide
    replace hT : L_hasProgramOf ops numbers length zops znumbers n i = T := by rw [← hT, hn, h_i]; simp only [f_hasProgramOf, if_pos c_1]
    clear hn h_i
    revert hT
    revert hI
    revert hl
    revert i
    revert ls
    induction n with
    | zero =>
      intro ls i hl hI hT
      exact absurd hI (by omega)
    | succ n ih =>
      intro ls i hl hI hT
      refine lv_iload_n hx hb d_Ru_hasProgramOf_15 rfl (lv_at hl 0 rfl) ?_
      refine lv_aload_n hx hb d_Ru_hasProgramOf_16 rfl (lv_at hl 1 rfl) ?_
      refine va_get (D := G) (ci := 3) (v := .int length) (C := R_Ru) (T := T_Ru) (N := 10) hx hb hts hi_2 hown hK hP 0 rfl rfl 6 (by decide) hk_1 (fun _ h9 => h9) rfl d_Ru_hasProgramOf_17 ?_
      refine lv_icmp_ge (tgt := 68) hx hb d_Ru_hasProgramOf_20 (by decide) (fun c_2 => ?_) (fun c_2 => ?_)
      · refine lv_iconst (v := 1) hx hb d_Ru_hasProgramOf_68 (by decide) ?_
        exact W.zret (v := 1) hx hb hr rfl (fun t ht hW => ⟨1, rfl, (by rw [← hT]; simp only [L_hasProgramOf, if_pos c_2]), by rw [ht, hH]⟩) (fun _ h => by cases h) d_Ru_hasProgramOf_69
      · refine lv_iload_n hx hb d_Ru_hasProgramOf_23 rfl (lv_at hl 0 rfl) ?_
        refine lv_bipush (v := 12) hx hb d_Ru_hasProgramOf_24 (by decide) ?_
        refine lv_icmp_ge (tgt := 68) hx hb d_Ru_hasProgramOf_26 (by decide) (fun c_3 => ?_) (fun c_3 => ?_)
        · refine lv_iconst (v := 1) hx hb d_Ru_hasProgramOf_68 (by decide) ?_
          exact W.zret (v := 1) hx hb hr rfl (fun t ht hW => ⟨1, rfl, (by rw [← hT]; simp only [L_hasProgramOf, if_neg c_2, if_pos c_3]), by rw [ht, hH]⟩) (fun _ h => by cases h) d_Ru_hasProgramOf_69
        · refine lv_aload_n hx hb d_Ru_hasProgramOf_29 rfl (lv_at hl 1 rfl) ?_
          refine va_get (D := G) (ci := 3) (v := .ref a1) (C := R_Ru) (T := T_Ru) (N := 10) hx hb hts hi_2 hown hK hP 0 rfl rfl 4 (by decide) hk_3 (fun _ h9 => h9) rfl d_Ru_hasProgramOf_30 ?_
          refine lv_iload_n hx hb d_Ru_hasProgramOf_33 rfl (lv_at hl 0 rfl) ?_
          refine va_iald hx hb hK hP 1 0 rfl rfl (ix_of (i32_ge0 hI.1) c_3 rfl) d_Ru_hasProgramOf_34 ?_
          refine lv_aload_n hx hb d_Ru_hasProgramOf_35 rfl (lv_at hl 2 rfl) ?_
          refine va_get (D := G) (ci := 3) (v := .ref za1) (C := R_Ru) (T := T_Ru) (N := 10) hx hb hts hi_2 hown hK hP 3 rfl rfl 4 (by decide) hk_3 (fun _ h9 => h9) rfl d_Ru_hasProgramOf_36 ?_
          refine lv_iload_n hx hb d_Ru_hasProgramOf_39 rfl (lv_at hl 0 rfl) ?_
          refine va_iald hx hb hK hP 4 0 rfl rfl (ix_of (i32_ge0 hI.1) c_3 rfl) d_Ru_hasProgramOf_40 ?_
          refine lv_icmp_ne (tgt := 60) hx hb d_Ru_hasProgramOf_41 (by decide) (fun c_4 => ?_) (fun c_4 => ?_)
          · refine lv_iconst (v := 0) hx hb d_Ru_hasProgramOf_60 (by decide) ?_
            exact W.zret (v := 0) hx hb hr rfl (fun t ht hW => ⟨0, rfl, (by rw [← hT]; simp only [L_hasProgramOf, if_neg c_2, if_neg c_3, if_neg c_4]), by rw [ht, hH]⟩) (fun _ h => by cases h) d_Ru_hasProgramOf_61
          · refine lv_aload_n hx hb d_Ru_hasProgramOf_44 rfl (lv_at hl 1 rfl) ?_
            refine va_get (D := G) (ci := 3) (v := .ref a2) (C := R_Ru) (T := T_Ru) (N := 10) hx hb hts hi_2 hown hK hP 0 rfl rfl 5 (by decide) hk_4 (fun _ h9 => h9) rfl d_Ru_hasProgramOf_45 ?_
            refine lv_iload_n hx hb d_Ru_hasProgramOf_48 rfl (lv_at hl 0 rfl) ?_
            refine va_lald hx hb hK hP 2 1 rfl rfl (ix_of (i32_ge0 hI.1) c_3 rfl) d_Ru_hasProgramOf_49 ?_
            refine lv_aload_n hx hb d_Ru_hasProgramOf_50 rfl (lv_at hl 2 rfl) ?_
            refine va_get (D := G) (ci := 3) (v := .ref za2) (C := R_Ru) (T := T_Ru) (N := 10) hx hb hts hi_2 hown hK hP 3 rfl rfl 5 (by decide) hk_4 (fun _ h9 => h9) rfl d_Ru_hasProgramOf_51 ?_
            refine lv_iload_n hx hb d_Ru_hasProgramOf_54 rfl (lv_at hl 0 rfl) ?_
            refine va_lald hx hb hK hP 5 1 rfl rfl (ix_of (i32_ge0 hI.1) c_3 rfl) d_Ru_hasProgramOf_55 ?_
            refine lc_eq (x := numbers i.toNatClampNeg) (y := znumbers i.toNatClampNeg) (tgt := 62) hx hb d_Ru_hasProgramOf_56 d_Ru_hasProgramOf_57 (by decide) (fun c_5 => ?_) (fun c_5 => ?_)
            · refine lv_iinc (v := i + 1) (lv' := [(2, .int (i + 1)), (0, .ref a0), (1, .ref za0)]) hx hb d_Ru_hasProgramOf_62 hl (k := 0) rfl rfl (by decide) rfl (fun ls hl => ?_)
              refine lv_goto (tgt := 15) hx hb d_Ru_hasProgramOf_65 (by decide) ?_
              exact ih ls (i + 1) (lv_sub hl [0, 1, 2] rfl) (by exact i_step hI c_3 rfl (by decide)) (by rw [← hT]; simp only [L_hasProgramOf, if_neg c_2, if_neg c_3, if_pos c_4, if_pos c_5])
            · refine lv_iconst (v := 0) hx hb d_Ru_hasProgramOf_60 (by decide) ?_
              exact W.zret (v := 0) hx hb hr rfl (fun t ht hW => ⟨0, rfl, (by rw [← hT]; simp only [L_hasProgramOf, if_neg c_2, if_neg c_3, if_pos c_4, if_neg c_5]), by rw [ht, hH]⟩) (fun _ h => by cases h) d_Ru_hasProgramOf_61
  · refine lv_iconst (v := 0) hx hb d_Ru_hasProgramOf_11 (by decide) ?_
    exact W.zret (v := 0) hx hb hr rfl (fun t ht hW => ⟨0, rfl, (by rw [← hT]; simp only [f_hasProgramOf, if_neg c_1]), by rw [ht, hH]⟩) (fun _ h => by cases h) d_Ru_hasProgramOf_12
def f_inOrder (ecount : Int32) (eorder : Nat → Option Nat) (k : Int32) : Option Nat := if k < 0 then none else (if ecount ≤ k then none else (if 8 ≤ k then none else (eorder k.toNatClampNeg)))
set_option maxHeartbeats 4000000 in
set_option maxRecDepth 100000 in
theorem c_inOrder (l : Launch) (G : va_G) (cI cL cZ cR cE : ClassId) (ea0 ea1 : Nat) (estate : Int32) (ecount : Int32) (efrom : Int32) (etoldAs : Int32) (eorder : Nat → Option Nat) (k : Int32) : Met l y_Ed_inOrder w_Ed_inOrder ({ frames := 0, cells := 0, slots := 0, locals := 0 }) (preR G (TYS cI cL cZ cR cE) [.ref ea0, .int k] (W_Edi cI cL cZ cR cE ea0 ea1 estate ecount efrom etoldAs eorder)) (va_Sq (fun ans_ => ans_ = f_inOrder ecount eorder k)) 0 0 (fun _ => False) := by
  refine Met.ofW (cc := b_Ed_inOrder) (maxL := 2) (ret := (some (.object "HandlingRules$Rule"))) (by decide) rfl ?_
  intro p e s m args below meth c s₁ B hml hv
  obtain ⟨rfl, hP, hK, hN⟩ := hv
  have hx := B.exec
  have hb := B.bytes
  have hr := B.returns
  have hts := atoms_spec (ws := w_Ed_inOrder) B.pre
  have hown : s.vm.findClass R_Ed = some m.cls := findClass_of_methodNamed B.named
  have hlocks := B.notSynchronized
  obtain ⟨H, hH⟩ : ∃ H, H = s.heap := ⟨_, rfl⟩
  rw [← hH] at hP
  rw [← hH]
  have hi_2 : ∀ w ∈ u_ws R_Ed T_Ed 5, w ∈ w_Ed_inOrder := fun w h => List.mem_cons_of_mem _ (iu_Ed w h)
  have hk_1 := hts (.fieldLink R_Ed 15 "HandlingRules$Edition" "count" "I") (List.mem_cons_of_mem _ kw_126)
  have hk_3 := hts (.fieldLink R_Ed 26 "HandlingRules$Edition" "order" "[LHandlingRules$Rule;") (List.mem_cons_of_mem _ kw_132)
  have hl := lv_entry ([.ref ea0, .int k]) (n := 2) (Nat.le_of_ble_eq_true rfl)
  rw [lg_entry_eq]
  generalize (lg_sl ([.ref ea0, .int k]) ++ List.replicate (2 - (lg_sl ([.ref ea0, .int k])).length) Slot.unset).toArray = ls at hl ⊢
  replace hl : lv_has ls 2 [(0, .ref ea0), (1, .int k)] := hl
  generalize hT : f_inOrder ecount eorder k = T
  refine lv_iload_n hx hb d_Ed_inOrder_0 rfl (lv_at hl 1 rfl) ?_
  refine lv_if_lt (tgt := 27) hx hb d_Ed_inOrder_1 (by decide) (fun c_1 => ?_) (fun c_1 => ?_)
  · refine lv_null hx hb d_Ed_inOrder_27 ?_
    exact W.aret (v := va_rf none) hx hb hr (Or.inl ⟨_, rfl⟩) (va_rf_or _) (fun t ht hW => ⟨none, rfl, (by rw [← hT]; simp only [f_inOrder, if_pos c_1]), by rw [ht, hH]⟩) (fun _ h => by cases h) d_Ed_inOrder_28
  · refine lv_iload_n hx hb d_Ed_inOrder_4 rfl (lv_at hl 1 rfl) ?_
    refine lv_aload_n hx hb d_Ed_inOrder_5 rfl (lv_at hl 0 rfl) ?_
    refine va_get (D := G) (ci := 1) (v := .int ecount) (C := R_Ed) (T := T_Ed) (N := 5) hx hb hts hi_2 hown hK hP 0 rfl rfl 1 (by decide) hk_1 (fun _ h9 => h9) rfl d_Ed_inOrder_6 ?_
    refine lv_icmp_ge (tgt := 27) hx hb d_Ed_inOrder_9 (by decide) (fun c_2 => ?_) (fun c_2 => ?_)
    · refine lv_null hx hb d_Ed_inOrder_27 ?_
      exact W.aret (v := va_rf none) hx hb hr (Or.inl ⟨_, rfl⟩) (va_rf_or _) (fun t ht hW => ⟨none, rfl, (by rw [← hT]; simp only [f_inOrder, if_neg c_1, if_pos c_2]), by rw [ht, hH]⟩) (fun _ h => by cases h) d_Ed_inOrder_28
    · refine lv_iload_n hx hb d_Ed_inOrder_12 rfl (lv_at hl 1 rfl) ?_
      refine lv_bipush (v := 8) hx hb d_Ed_inOrder_13 (by decide) ?_
      refine lv_icmp_ge (tgt := 27) hx hb d_Ed_inOrder_15 (by decide) (fun c_3 => ?_) (fun c_3 => ?_)
      · refine lv_null hx hb d_Ed_inOrder_27 ?_
        exact W.aret (v := va_rf none) hx hb hr (Or.inl ⟨_, rfl⟩) (va_rf_or _) (fun t ht hW => ⟨none, rfl, (by rw [← hT]; simp only [f_inOrder, if_neg c_1, if_neg c_2, if_pos c_3]), by rw [ht, hH]⟩) (fun _ h => by cases h) d_Ed_inOrder_28
      · refine lv_aload_n hx hb d_Ed_inOrder_18 rfl (lv_at hl 0 rfl) ?_
        refine va_get (D := G) (ci := 1) (v := .ref ea1) (C := R_Ed) (T := T_Ed) (N := 5) hx hb hts hi_2 hown hK hP 0 rfl rfl 4 (by decide) hk_3 (fun _ h9 => h9) rfl d_Ed_inOrder_19 ?_
        refine lv_iload_n hx hb d_Ed_inOrder_22 rfl (lv_at hl 1 rfl) ?_
        refine va_aldq hx hb hK hP 1 3 rfl rfl (ix_of c_1 c_3 rfl) d_Ed_inOrder_23 ?_
        refine lv_goto (tgt := 28) hx hb d_Ed_inOrder_24 (by decide) ?_
        exact W.aret (v := va_rf (eorder k.toNatClampNeg)) hx hb hr (Or.inl ⟨_, rfl⟩) (va_rf_or _) (fun t ht hW => ⟨eorder k.toNatClampNeg, rfl, (by rw [← hT]; simp only [f_inOrder, if_neg c_1, if_neg c_2, if_neg c_3]), by rw [ht, hH]⟩) (fun _ h => by cases h) d_Ed_inOrder_28
def f_isInForceOn (efrom : Int32) (begun : Int32) : Int32 := if efrom = (-1) then 0 else (if begun < efrom then 0 else 1)
set_option maxHeartbeats 4000000 in
set_option maxRecDepth 100000 in
theorem c_isInForceOn (l : Launch) (G : va_G) (cI cL cZ cR cE : ClassId) (ea0 ea1 : Nat) (estate : Int32) (ecount : Int32) (efrom : Int32) (etoldAs : Int32) (eorder : Nat → Option Nat) (begun : Int32) : Met l y_Ed_isInForceOn w_Ed_isInForceOn ({ frames := 0, cells := 0, slots := 0, locals := 0 }) (preR G (TYS cI cL cZ cR cE) [.ref ea0, .int begun] (W_Edi cI cL cZ cR cE ea0 ea1 estate ecount efrom etoldAs eorder)) (vp_Si (fun ans_ => ans_ = f_isInForceOn efrom begun)) 0 0 (fun _ => False) := by
  refine Met.ofW (cc := b_Ed_isInForceOn) (maxL := 2) (ret := (some .boolean)) (by decide) rfl ?_
  intro p e s m args below meth c s₁ B hml hv
  obtain ⟨rfl, hP, hK, hN⟩ := hv
  have hx := B.exec
  have hb := B.bytes
  have hr := B.returns
  have hts := atoms_spec (ws := w_Ed_isInForceOn) B.pre
  have hown : s.vm.findClass R_Ed = some m.cls := findClass_of_methodNamed B.named
  have hlocks := B.notSynchronized
  obtain ⟨H, hH⟩ : ∃ H, H = s.heap := ⟨_, rfl⟩
  rw [← hH] at hP
  rw [← hH]
  have hi_2 : ∀ w ∈ u_ws R_Ed T_Ed 5, w ∈ w_Ed_isInForceOn := fun w h => List.mem_cons_of_mem _ (iu_Ed w h)
  have hk_1 := hts (.fieldLink R_Ed 18 "HandlingRules$Edition" "from" "I") (List.mem_cons_of_mem _ kw_128)
  have hl := lv_entry ([.ref ea0, .int begun]) (n := 2) (Nat.le_of_ble_eq_true rfl)
  rw [lg_entry_eq]
  generalize (lg_sl ([.ref ea0, .int begun]) ++ List.replicate (2 - (lg_sl ([.ref ea0, .int begun])).length) Slot.unset).toArray = ls at hl ⊢
  replace hl : lv_has ls 2 [(0, .ref ea0), (1, .int begun)] := hl
  generalize hT : f_isInForceOn efrom begun = T
  refine lv_aload_n hx hb d_Ed_isInForceOn_0 rfl (lv_at hl 0 rfl) ?_
  refine va_get (D := G) (ci := 1) (v := .int efrom) (C := R_Ed) (T := T_Ed) (N := 5) hx hb hts hi_2 hown hK hP 0 rfl rfl 2 (by decide) hk_1 (fun _ h9 => h9) rfl d_Ed_isInForceOn_1 ?_
  refine lv_iconst (v := (-1)) hx hb d_Ed_isInForceOn_4 (by decide) ?_
  refine lv_icmp_eq (tgt := 20) hx hb d_Ed_isInForceOn_5 (by decide) (fun c_1 => ?_) (fun c_1 => ?_)
  · refine lv_iconst (v := 0) hx hb d_Ed_isInForceOn_20 (by decide) ?_
    exact W.zret (v := 0) hx hb hr rfl (fun t ht hW => ⟨0, rfl, (by rw [← hT]; simp only [f_isInForceOn, if_pos c_1]), by rw [ht, hH]⟩) (fun _ h => by cases h) d_Ed_isInForceOn_21
  · refine lv_aload_n hx hb d_Ed_isInForceOn_8 rfl (lv_at hl 0 rfl) ?_
    refine va_get (D := G) (ci := 1) (v := .int efrom) (C := R_Ed) (T := T_Ed) (N := 5) hx hb hts hi_2 hown hK hP 0 rfl rfl 2 (by decide) hk_1 (fun _ h9 => h9) rfl d_Ed_isInForceOn_9 ?_
    refine lv_iload_n hx hb d_Ed_isInForceOn_12 rfl (lv_at hl 1 rfl) ?_
    refine lv_icmp_gt (tgt := 20) hx hb d_Ed_isInForceOn_13 (by decide) (fun c_2 => ?_) (fun c_2 => ?_)
    · refine lv_iconst (v := 0) hx hb d_Ed_isInForceOn_20 (by decide) ?_
      exact W.zret (v := 0) hx hb hr rfl (fun t ht hW => ⟨0, rfl, (by rw [← hT]; simp only [f_isInForceOn, if_neg c_1, if_pos c_2]), by rw [ht, hH]⟩) (fun _ h => by cases h) d_Ed_isInForceOn_21
    · refine lv_iconst (v := 1) hx hb d_Ed_isInForceOn_16 (by decide) ?_
      refine lv_goto (tgt := 21) hx hb d_Ed_isInForceOn_17 (by decide) ?_
      exact W.zret (v := 1) hx hb hr rfl (fun t ht hW => ⟨1, rfl, (by rw [← hT]; simp only [f_isInForceOn, if_neg c_1, if_neg c_2]), by rw [ht, hH]⟩) (fun _ h => by cases h) d_Ed_isInForceOn_21
def f_goesAhead (efrom : Int32) (etoldAs : Int32) (zfrom : Int32) (ztoldAs : Int32) : Int32 := if efrom = zfrom then (if etoldAs ≤ ztoldAs then 0 else 1) else (if efrom ≤ zfrom then 0 else 1)
set_option maxHeartbeats 4000000 in
set_option maxRecDepth 100000 in
theorem c_goesAhead (l : Launch) (G : va_G) (cI cL cZ cR cE : ClassId) (ea0 ea1 : Nat) (za0 za1 : Nat) (estate : Int32) (ecount : Int32) (efrom : Int32) (etoldAs : Int32) (eorder : Nat → Option Nat) (zstate : Int32) (zcount : Int32) (zfrom : Int32) (ztoldAs : Int32) (zorder : Nat → Option Nat) : Met l y_Ed_goesAhead w_Ed_goesAhead ({ frames := 0, cells := 0, slots := 0, locals := 0 }) (preR G (TYS cI cL cZ cR cE) [.ref ea0, .ref za0] (W_Edi cI cL cZ cR cE ea0 ea1 estate ecount efrom etoldAs eorder ++ W_Edi cI cL cZ cR cE za0 za1 zstate zcount zfrom ztoldAs zorder)) (vp_Si (fun ans_ => ans_ = f_goesAhead efrom etoldAs zfrom ztoldAs)) 0 0 (fun _ => False) := by
  refine Met.ofW (cc := b_Ed_goesAhead) (maxL := 2) (ret := (some .boolean)) (by decide) rfl ?_
  intro p e s m args below meth c s₁ B hml hv
  obtain ⟨rfl, hP, hK, hN⟩ := hv
  have hx := B.exec
  have hb := B.bytes
  have hr := B.returns
  have hts := atoms_spec (ws := w_Ed_goesAhead) B.pre
  have hown : s.vm.findClass R_Ed = some m.cls := findClass_of_methodNamed B.named
  have hlocks := B.notSynchronized
  obtain ⟨H, hH⟩ : ∃ H, H = s.heap := ⟨_, rfl⟩
  rw [← hH] at hP
  rw [← hH]
  have hi_2 : ∀ w ∈ u_ws R_Ed T_Ed 5, w ∈ w_Ed_goesAhead := fun w h => List.mem_cons_of_mem _ (iu_Ed w h)
  have hk_1 := hts (.fieldLink R_Ed 18 "HandlingRules$Edition" "from" "I") (List.mem_cons_of_mem _ kw_128)
  have hk_3 := hts (.fieldLink R_Ed 21 "HandlingRules$Edition" "toldAs" "I") (List.mem_cons_of_mem _ kw_130)
  have hl := lv_entry ([.ref ea0, .ref za0]) (n := 2) (Nat.le_of_ble_eq_true rfl)
  rw [lg_entry_eq]
  generalize (lg_sl ([.ref ea0, .ref za0]) ++ List.replicate (2 - (lg_sl ([.ref ea0, .ref za0])).length) Slot.unset).toArray = ls at hl ⊢
  replace hl : lv_has ls 2 [(0, .ref ea0), (1, .ref za0)] := hl
  generalize hT : f_goesAhead efrom etoldAs zfrom ztoldAs = T
  refine lv_aload_n hx hb d_Ed_goesAhead_0 rfl (lv_at hl 1 rfl) ?_
  refine lv_ifnonnull (tgt := 6) hx hb d_Ed_goesAhead_1 (by decide) ?_
  refine lv_aload_n hx hb d_Ed_goesAhead_6 rfl (lv_at hl 0 rfl) ?_
  refine va_get (D := G) (ci := 1) (v := .int efrom) (C := R_Ed) (T := T_Ed) (N := 5) hx hb hts hi_2 hown hK hP 0 rfl rfl 2 (by decide) hk_1 (fun _ h9 => h9) rfl d_Ed_goesAhead_7 ?_
  refine lv_aload_n hx hb d_Ed_goesAhead_10 rfl (lv_at hl 1 rfl) ?_
  refine va_get (D := G) (ci := 1) (v := .int zfrom) (C := R_Ed) (T := T_Ed) (N := 5) hx hb hts hi_2 hown hK hP 2 rfl rfl 2 (by decide) hk_1 (fun _ h9 => h9) rfl d_Ed_goesAhead_11 ?_
  refine lv_icmp_eq (tgt := 36) hx hb d_Ed_goesAhead_14 (by decide) (fun c_1 => ?_) (fun c_1 => ?_)
  · refine lv_aload_n hx hb d_Ed_goesAhead_36 rfl (lv_at hl 0 rfl) ?_
    refine va_get (D := G) (ci := 1) (v := .int etoldAs) (C := R_Ed) (T := T_Ed) (N := 5) hx hb hts hi_2 hown hK hP 0 rfl rfl 3 (by decide) hk_3 (fun _ h9 => h9) rfl d_Ed_goesAhead_37 ?_
    refine lv_aload_n hx hb d_Ed_goesAhead_40 rfl (lv_at hl 1 rfl) ?_
    refine va_get (D := G) (ci := 1) (v := .int ztoldAs) (C := R_Ed) (T := T_Ed) (N := 5) hx hb hts hi_2 hown hK hP 2 rfl rfl 3 (by decide) hk_3 (fun _ h9 => h9) rfl d_Ed_goesAhead_41 ?_
    refine lv_icmp_le (tgt := 51) hx hb d_Ed_goesAhead_44 (by decide) (fun c_2 => ?_) (fun c_2 => ?_)
    · refine lv_iconst (v := 0) hx hb d_Ed_goesAhead_51 (by decide) ?_
      exact W.zret (v := 0) hx hb hr rfl (fun t ht hW => ⟨0, rfl, (by rw [← hT]; simp only [f_goesAhead, if_pos c_1, if_pos c_2]), by rw [ht, hH]⟩) (fun _ h => by cases h) d_Ed_goesAhead_52
    · refine lv_iconst (v := 1) hx hb d_Ed_goesAhead_47 (by decide) ?_
      refine lv_goto (tgt := 52) hx hb d_Ed_goesAhead_48 (by decide) ?_
      exact W.zret (v := 1) hx hb hr rfl (fun t ht hW => ⟨1, rfl, (by rw [← hT]; simp only [f_goesAhead, if_pos c_1, if_neg c_2]), by rw [ht, hH]⟩) (fun _ h => by cases h) d_Ed_goesAhead_52
  · refine lv_aload_n hx hb d_Ed_goesAhead_17 rfl (lv_at hl 0 rfl) ?_
    refine va_get (D := G) (ci := 1) (v := .int efrom) (C := R_Ed) (T := T_Ed) (N := 5) hx hb hts hi_2 hown hK hP 0 rfl rfl 2 (by decide) hk_1 (fun _ h9 => h9) rfl d_Ed_goesAhead_18 ?_
    refine lv_aload_n hx hb d_Ed_goesAhead_21 rfl (lv_at hl 1 rfl) ?_
    refine va_get (D := G) (ci := 1) (v := .int zfrom) (C := R_Ed) (T := T_Ed) (N := 5) hx hb hts hi_2 hown hK hP 2 rfl rfl 2 (by decide) hk_1 (fun _ h9 => h9) rfl d_Ed_goesAhead_22 ?_
    refine lv_icmp_le (tgt := 32) hx hb d_Ed_goesAhead_25 (by decide) (fun c_3 => ?_) (fun c_3 => ?_)
    · refine lv_iconst (v := 0) hx hb d_Ed_goesAhead_32 (by decide) ?_
      refine lv_goto (tgt := 52) hx hb d_Ed_goesAhead_33 (by decide) ?_
      exact W.zret (v := 0) hx hb hr rfl (fun t ht hW => ⟨0, rfl, (by rw [← hT]; simp only [f_goesAhead, if_neg c_1, if_pos c_3]), by rw [ht, hH]⟩) (fun _ h => by cases h) d_Ed_goesAhead_52
    · refine lv_iconst (v := 1) hx hb d_Ed_goesAhead_28 (by decide) ?_
      refine lv_goto (tgt := 52) hx hb d_Ed_goesAhead_29 (by decide) ?_
      exact W.zret (v := 1) hx hb hr rfl (fun t ht hW => ⟨1, rfl, (by rw [← hT]; simp only [f_goesAhead, if_neg c_1, if_neg c_3]), by rw [ht, hH]⟩) (fun _ h => by cases h) d_Ed_goesAhead_52
def f_goesAheadN  : Int32 := 1
set_option maxHeartbeats 4000000 in
set_option maxRecDepth 100000 in
theorem c_goesAheadN (l : Launch) (G : va_G) (cI cL cZ cR cE : ClassId) (ea0 ea1 : Nat) (estate : Int32) (ecount : Int32) (efrom : Int32) (etoldAs : Int32) (eorder : Nat → Option Nat) : Met l y_Ed_goesAhead w_Ed_goesAhead ({ frames := 0, cells := 0, slots := 0, locals := 0 }) (preR G (TYS cI cL cZ cR cE) [.ref ea0, .null] (W_Edi cI cL cZ cR cE ea0 ea1 estate ecount efrom etoldAs eorder)) (vp_Si (fun ans_ => ans_ = f_goesAheadN )) 0 0 (fun _ => False) := by
  refine Met.ofW (cc := b_Ed_goesAhead) (maxL := 2) (ret := (some .boolean)) (by decide) rfl ?_
  intro p e s m args below meth c s₁ B hml hv
  obtain ⟨rfl, hP, hK, hN⟩ := hv
  have hx := B.exec
  have hb := B.bytes
  have hr := B.returns
  have hts := atoms_spec (ws := w_Ed_goesAhead) B.pre
  have hown : s.vm.findClass R_Ed = some m.cls := findClass_of_methodNamed B.named
  have hlocks := B.notSynchronized
  obtain ⟨H, hH⟩ : ∃ H, H = s.heap := ⟨_, rfl⟩
  rw [← hH] at hP
  rw [← hH]
  have hl := lv_entry ([.ref ea0, .null]) (n := 2) (Nat.le_of_ble_eq_true rfl)
  rw [lg_entry_eq]
  generalize (lg_sl ([.ref ea0, .null]) ++ List.replicate (2 - (lg_sl ([.ref ea0, .null])).length) Slot.unset).toArray = ls at hl ⊢
  replace hl : lv_has ls 2 [(0, .ref ea0), (1, .null)] := hl
  generalize hT : f_goesAheadN  = T
  refine lv_aload_nN hx hb d_Ed_goesAhead_0 rfl (lv_at hl 1 rfl) ?_
  refine lv_ifnonnullN hx hb d_Ed_goesAhead_1 ?_
  refine lv_iconst (v := 1) hx hb d_Ed_goesAhead_4 (by decide) ?_
  exact W.zret (v := 1) hx hb hr rfl (fun t ht hW => ⟨1, rfl, (by rw [← hT]; simp only [f_goesAheadN]), by rw [ht, hH]⟩) (fun _ h => by cases h) d_Ed_goesAhead_5
