def f_giverOf (givers : Nat → Int32) (k : Int32) : Int32 := if k < 0 then (-1) else (if 4 ≤ k then (-1) else (givers k.toNatClampNeg))
set_option maxHeartbeats 4000000 in
set_option maxRecDepth 100000 in
theorem c_giverOf (l : Launch) (G : va_G) (cI cL cZ cR cE : ClassId) (a0 a1 a2 : Nat) (values : Nat → Int64) (givers : Nat → Int32) (k : Int32) : Met l y_An_giverOf w_An_giverOf ({ frames := 0, cells := 0, slots := 0, locals := 0 }) (preR G (TYS cI cL cZ cR cE) [.ref a0, .int k] (W_Ans cI cL cZ cR cE a0 a1 a2 values givers)) (vp_Si (fun ans_ => ans_ = f_giverOf givers k)) 0 0 (fun _ => False) := by
  refine Met.ofW (cc := b_An_giverOf) (maxL := 2) (ret := (some .int)) (by decide) rfl ?_
  intro p e s m args below meth c s₁ B hml hv
  obtain ⟨rfl, hP, hK, hN⟩ := hv
  have hx := B.exec
  have hb := B.bytes
  have hr := B.returns
  have hts := atoms_spec (ws := w_An_giverOf) B.pre
  have hown : s.vm.findClass R_An = some m.cls := findClass_of_methodNamed B.named
  have hlocks := B.notSynchronized
  obtain ⟨H, hH⟩ : ∃ H, H = s.heap := ⟨_, rfl⟩
  rw [← hH] at hP
  rw [← hH]
  have hi_2 : ∀ w ∈ u_ws R_An T_An 2, w ∈ w_An_giverOf := fun w h => List.mem_cons_of_mem _ (iu_An w h)
  have hk_1 := hts (.fieldLink R_An 15 "HandlingRules$Answers" "givers" "[I") (List.mem_cons_of_mem _ kw_53)
  have hl := lv_entry ([.ref a0, .int k]) (n := 2) (Nat.le_of_ble_eq_true rfl)
  rw [lg_entry_eq]
  generalize (lg_sl ([.ref a0, .int k]) ++ List.replicate (2 - (lg_sl ([.ref a0, .int k])).length) Slot.unset).toArray = ls at hl ⊢
  replace hl : lv_has ls 2 [(0, .ref a0), (1, .int k)] := hl
  generalize hT : f_giverOf givers k = T
  refine lv_iload_n hx hb d_An_giverOf_0 rfl (lv_at hl 1 rfl) ?_
  refine lv_if_lt (tgt := 18) hx hb d_An_giverOf_1 (by decide) (fun c_1 => ?_) (fun c_1 => ?_)
  · refine lv_iconst (v := (-1)) hx hb d_An_giverOf_18 (by decide) ?_
    exact W.iret (v := (-1)) hx hb hr (fun t ht hW => ⟨(-1), rfl, (by rw [← hT]; simp only [f_giverOf, if_pos c_1]), by rw [ht, hH]⟩) (fun _ h => by cases h) d_An_giverOf_19
  · refine lv_iload_n hx hb d_An_giverOf_4 rfl (lv_at hl 1 rfl) ?_
    refine lv_iconst (v := 4) hx hb d_An_giverOf_5 (by decide) ?_
    refine lv_icmp_ge (tgt := 18) hx hb d_An_giverOf_6 (by decide) (fun c_2 => ?_) (fun c_2 => ?_)
    · refine lv_iconst (v := (-1)) hx hb d_An_giverOf_18 (by decide) ?_
      exact W.iret (v := (-1)) hx hb hr (fun t ht hW => ⟨(-1), rfl, (by rw [← hT]; simp only [f_giverOf, if_neg c_1, if_pos c_2]), by rw [ht, hH]⟩) (fun _ h => by cases h) d_An_giverOf_19
    · refine lv_aload_n hx hb d_An_giverOf_9 rfl (lv_at hl 0 rfl) ?_
      refine va_get (D := G) (ci := 0) (v := .ref a2) (C := R_An) (T := T_An) (N := 2) hx hb hts hi_2 hown hK hP 0 rfl rfl 1 (by decide) hk_1 (fun _ h9 => h9) rfl d_An_giverOf_10 ?_
      refine lv_iload_n hx hb d_An_giverOf_13 rfl (lv_at hl 1 rfl) ?_
      refine va_iald hx hb hK hP 2 0 rfl rfl (ix_of c_1 c_2 rfl) d_An_giverOf_14 ?_
      refine lv_goto (tgt := 19) hx hb d_An_giverOf_15 (by decide) ?_
      exact W.iret (v := givers k.toNatClampNeg) hx hb hr (fun t ht hW => ⟨givers k.toNatClampNeg, rfl, (by rw [← hT]; simp only [f_giverOf, if_neg c_1, if_neg c_2]), by rw [ht, hH]⟩) (fun _ h => by cases h) d_An_giverOf_19
def f_valueOf (values : Nat → Int64) (k : Int32) : Int64 := if k < 0 then 0 else (if 4 ≤ k then 0 else (values k.toNatClampNeg))
set_option maxHeartbeats 4000000 in
set_option maxRecDepth 100000 in
theorem c_valueOf (l : Launch) (G : va_G) (cI cL cZ cR cE : ClassId) (a0 a1 a2 : Nat) (values : Nat → Int64) (givers : Nat → Int32) (k : Int32) : Met l y_An_valueOf w_An_valueOf ({ frames := 0, cells := 0, slots := 0, locals := 0 }) (preR G (TYS cI cL cZ cR cE) [.ref a0, .int k] (W_Ans cI cL cZ cR cE a0 a1 a2 values givers)) (vp_Sl (fun ans_ => ans_ = f_valueOf values k)) 0 0 (fun _ => False) := by
  refine Met.ofW (cc := b_An_valueOf) (maxL := 2) (ret := (some .long)) (by decide) rfl ?_
  intro p e s m args below meth c s₁ B hml hv
  obtain ⟨rfl, hP, hK, hN⟩ := hv
  have hx := B.exec
  have hb := B.bytes
  have hr := B.returns
  have hts := atoms_spec (ws := w_An_valueOf) B.pre
  have hown : s.vm.findClass R_An = some m.cls := findClass_of_methodNamed B.named
  have hlocks := B.notSynchronized
  obtain ⟨H, hH⟩ : ∃ H, H = s.heap := ⟨_, rfl⟩
  rw [← hH] at hP
  rw [← hH]
  have hi_2 : ∀ w ∈ u_ws R_An T_An 2, w ∈ w_An_valueOf := fun w h => List.mem_cons_of_mem _ (iu_An w h)
  have hk_1 := hts (.fieldLink R_An 9 "HandlingRules$Answers" "values" "[J") (List.mem_cons_of_mem _ kw_52)
  have hl := lv_entry ([.ref a0, .int k]) (n := 2) (Nat.le_of_ble_eq_true rfl)
  rw [lg_entry_eq]
  generalize (lg_sl ([.ref a0, .int k]) ++ List.replicate (2 - (lg_sl ([.ref a0, .int k])).length) Slot.unset).toArray = ls at hl ⊢
  replace hl : lv_has ls 2 [(0, .ref a0), (1, .int k)] := hl
  generalize hT : f_valueOf values k = T
  refine lv_iload_n hx hb d_An_valueOf_0 rfl (lv_at hl 1 rfl) ?_
  refine lv_if_lt (tgt := 18) hx hb d_An_valueOf_1 (by decide) (fun c_1 => ?_) (fun c_1 => ?_)
  · refine lv_lconst (v := 0) hx hb d_An_valueOf_18 (by decide) ?_
    exact W.lret (v := 0) hx hb hr (fun t ht hW => ⟨0, rfl, (by rw [← hT]; simp only [f_valueOf, if_pos c_1]), by rw [ht, hH]⟩) (fun _ h => by cases h) d_An_valueOf_19
  · refine lv_iload_n hx hb d_An_valueOf_4 rfl (lv_at hl 1 rfl) ?_
    refine lv_iconst (v := 4) hx hb d_An_valueOf_5 (by decide) ?_
    refine lv_icmp_ge (tgt := 18) hx hb d_An_valueOf_6 (by decide) (fun c_2 => ?_) (fun c_2 => ?_)
    · refine lv_lconst (v := 0) hx hb d_An_valueOf_18 (by decide) ?_
      exact W.lret (v := 0) hx hb hr (fun t ht hW => ⟨0, rfl, (by rw [← hT]; simp only [f_valueOf, if_neg c_1, if_pos c_2]), by rw [ht, hH]⟩) (fun _ h => by cases h) d_An_valueOf_19
    · refine lv_aload_n hx hb d_An_valueOf_9 rfl (lv_at hl 0 rfl) ?_
      refine va_get (D := G) (ci := 0) (v := .ref a1) (C := R_An) (T := T_An) (N := 2) hx hb hts hi_2 hown hK hP 0 rfl rfl 0 (by decide) hk_1 (fun _ h9 => h9) rfl d_An_valueOf_10 ?_
      refine lv_iload_n hx hb d_An_valueOf_13 rfl (lv_at hl 1 rfl) ?_
      refine va_lald hx hb hK hP 1 1 rfl rfl (ix_of c_1 c_2 rfl) d_An_valueOf_14 ?_
      refine lv_goto (tgt := 19) hx hb d_An_valueOf_15 (by decide) ?_
      exact W.lret (v := values k.toNatClampNeg) hx hb hr (fun t ht hW => ⟨values k.toNatClampNeg, rfl, (by rw [← hT]; simp only [f_valueOf, if_neg c_1, if_neg c_2]), by rw [ht, hH]⟩) (fun _ h => by cases h) d_An_valueOf_19
def f_isGiven (givers : Nat → Int32) (k : Int32) : Int32 := if (f_giverOf givers k) = (-1) then 0 else 1
set_option maxHeartbeats 4000000 in
set_option maxRecDepth 100000 in
theorem c_isGiven (l : Launch) (G : va_G) (cI cL cZ cR cE : ClassId) (a0 a1 a2 : Nat) (values : Nat → Int64) (givers : Nat → Int32) (k : Int32) : Met l y_An_isGiven w_An_isGiven ({ frames := 1, cells := 0, slots := 0, locals := 21 }) (preR G (TYS cI cL cZ cR cE) [.ref a0, .int k] (W_Ans cI cL cZ cR cE a0 a1 a2 values givers)) (vp_Si (fun ans_ => ans_ = f_isGiven givers k)) 0 0 (fun _ => False) := by
  refine Met.ofW (cc := b_An_isGiven) (maxL := 2) (ret := (some .boolean)) (by decide) rfl ?_
  intro p e s m args below meth c s₁ B hml hv
  obtain ⟨rfl, hP, hK, hN⟩ := hv
  have hx := B.exec
  have hb := B.bytes
  have hr := B.returns
  have hts := atoms_spec (ws := w_An_isGiven) B.pre
  have hown : s.vm.findClass R_An = some m.cls := findClass_of_methodNamed B.named
  have hlocks := B.notSynchronized
  obtain ⟨H, hH⟩ : ∃ H, H = s.heap := ⟨_, rfl⟩
  rw [← hH] at hP
  rw [← hH]
  have hl := lv_entry ([.ref a0, .int k]) (n := 2) (Nat.le_of_ble_eq_true rfl)
  rw [lg_entry_eq]
  generalize (lg_sl ([.ref a0, .int k]) ++ List.replicate (2 - (lg_sl ([.ref a0, .int k])).length) Slot.unset).toArray = ls at hl ⊢
  replace hl : lv_has ls 2 [(0, .ref a0), (1, .int k)] := hl
  generalize hT : f_isGiven givers k = T
  refine lv_aload_n hx hb d_An_isGiven_0 rfl (lv_at hl 0 rfl) ?_
  refine lv_iload_n hx hb d_An_isGiven_1 rfl (lv_at hl 1 rfl) ?_
  refine vp_callSi (W.runV (As := [.int k]) (rest := []) ⟨hx, hb, hml, hown, hts⟩ (c_giverOf l G cI cL cZ cR cE a0 a1 a2 values givers k) (cwV 1 hts (gV kw_402 kw_403 kw_404 kw_17 kw_405) rfl rfl rfl (by decide +kernel) ⟨Nat.le_of_ble_eq_true rfl, Nat.le_of_ble_eq_true rfl⟩) (preRV_of (ci := 0) hN hK hP [0, 1, 2] rfl rfl rfl) rfl rfl hl.1 rfl (lv_room (Nat.le_of_ble_eq_true rfl)) d_An_isGiven_2 ⟨Nat.zero_le _, Nat.zero_le _⟩) (fun r_1 hw => ?_)
  subst hw
  refine lv_iconst (v := (-1)) hx hb d_An_isGiven_5 (by decide) ?_
  refine lv_icmp_eq (tgt := 13) hx hb d_An_isGiven_6 (by decide) (fun c_2 => ?_) (fun c_2 => ?_)
  · refine lv_iconst (v := 0) hx hb d_An_isGiven_13 (by decide) ?_
    exact W.zret (v := 0) hx hb hr rfl (fun t ht hW => ⟨0, rfl, (by rw [← hT]; simp only [f_isGiven, if_pos c_2]), by rw [ht, hH]⟩) (fun _ h => by cases h) d_An_isGiven_14
  · refine lv_iconst (v := 1) hx hb d_An_isGiven_9 (by decide) ?_
    refine lv_goto (tgt := 14) hx hb d_An_isGiven_10 (by decide) ?_
    exact W.zret (v := 1) hx hb hr rfl (fun t ht hW => ⟨1, rfl, (by rw [← hT]; simp only [f_isGiven, if_neg c_2]), by rw [ht, hH]⟩) (fun _ h => by cases h) d_An_isGiven_14
def L_countGiven (givers : Nat → Int32) : Nat → Int32 → Int32 → Int32
  | 0, _, _ => 0
  | n + 1, g, i => if 4 ≤ i then g else (if (f_isGiven givers i) = 0 then (L_countGiven givers n g (i + 1)) else (L_countGiven givers n (g + 1) (i + 1)))
def f_countGiven (givers : Nat → Int32) : Int32 := L_countGiven givers 5 0 0
set_option maxHeartbeats 4000000 in
set_option maxRecDepth 100000 in
theorem c_countGiven (l : Launch) (G : va_G) (cI cL cZ cR cE : ClassId) (a0 a1 a2 : Nat) (values : Nat → Int64) (givers : Nat → Int32) : Met l y_An_countGiven w_An_countGiven ({ frames := 2, cells := 0, slots := 0, locals := 42 }) (preR G (TYS cI cL cZ cR cE) [.ref a0] (W_Ans cI cL cZ cR cE a0 a1 a2 values givers)) (vp_Si (fun ans_ => ans_ = f_countGiven givers)) 0 0 (fun _ => False) := by
  refine Met.ofW (cc := b_An_countGiven) (maxL := 3) (ret := (some .int)) (by decide) rfl ?_
  intro p e s m args below meth c s₁ B hml hv
  obtain ⟨rfl, hP, hK, hN⟩ := hv
  have hx := B.exec
  have hb := B.bytes
  have hr := B.returns
  have hts := atoms_spec (ws := w_An_countGiven) B.pre
  have hown : s.vm.findClass R_An = some m.cls := findClass_of_methodNamed B.named
  have hlocks := B.notSynchronized
  obtain ⟨H, hH⟩ : ∃ H, H = s.heap := ⟨_, rfl⟩
  rw [← hH] at hP
  rw [← hH]
  have hl := lv_entry ([.ref a0]) (n := 3) (Nat.le_of_ble_eq_true rfl)
  rw [lg_entry_eq]
  generalize (lg_sl ([.ref a0]) ++ List.replicate (3 - (lg_sl ([.ref a0])).length) Slot.unset).toArray = ls at hl ⊢
  replace hl : lv_has ls 3 [(0, .ref a0)] := hl
  generalize hT : f_countGiven givers = T
  refine lv_iconst (v := 0) hx hb d_An_countGiven_0 (by decide) ?_
  refine lv_istore_n (lv' := [(1, .int 0), (0, .ref a0)]) hx hb d_An_countGiven_1 rfl hl (by decide) rfl (fun ls hl => ?_)
  refine lv_iconst (v := 0) hx hb d_An_countGiven_2 (by decide) ?_
  refine lv_istore_n (lv' := [(2, .int 0), (1, .int 0), (0, .ref a0)]) hx hb d_An_countGiven_3 rfl hl (by decide) rfl (fun ls hl => ?_)
  obtain ⟨n, hn⟩ : ∃ n : Nat, n = 5 := ⟨_, rfl⟩
  obtain ⟨g, h_g⟩ : ∃ z : Int32, z = 0 := ⟨_, rfl⟩
  obtain ⟨i, h_i⟩ : ∃ z : Int32, z = 0 := ⟨_, rfl⟩
  replace hl : lv_has ls 3 [(2, .int i), (1, .int g), (0, .ref a0)] := by rw [h_g, h_i]; exact hl
  have hI : 0 ≤ i.toInt ∧ i.toInt ≤ 4 ∧ 5 ≤ i.toInt + (n : Int) := by rw [hn, h_i]; decide
  replace hT : L_countGiven givers n g i = T := by rw [← hT, hn, h_g, h_i]; simp only [f_countGiven]
  clear hn h_g h_i
  revert hT
  revert hI
  revert hl
  revert i
  revert g
  revert ls
  induction n with
  | zero =>
    intro ls g i hl hI hT
    exact absurd hI (by omega)
  | succ n ih =>
    intro ls g i hl hI hT
    refine lv_iload_n hx hb d_An_countGiven_4 rfl (lv_at hl 0 rfl) ?_
    refine lv_iconst (v := 4) hx hb d_An_countGiven_5 (by decide) ?_
    refine lv_icmp_ge (tgt := 26) hx hb d_An_countGiven_6 (by decide) (fun c_1 => ?_) (fun c_1 => ?_)
    · refine lv_iload_n hx hb d_An_countGiven_26 rfl (lv_at hl 1 rfl) ?_
      exact W.iret (v := g) hx hb hr (fun t ht hW => ⟨g, rfl, (by rw [← hT]; simp only [L_countGiven, if_pos c_1]), by rw [ht, hH]⟩) (fun _ h => by cases h) d_An_countGiven_27
    · refine lv_aload_n hx hb d_An_countGiven_9 rfl (lv_at hl 2 rfl) ?_
      refine lv_iload_n hx hb d_An_countGiven_10 rfl (lv_at hl 0 rfl) ?_
      refine vp_callSi (W.runV (As := [.int i]) (rest := []) ⟨hx, hb, hml, hown, hts⟩ (c_isGiven l G cI cL cZ cR cE a0 a1 a2 values givers i) (cwV 1 hts (gV kw_398 kw_399 kw_400 kw_17 kw_401) rfl rfl rfl (by decide +kernel) ⟨Nat.le_of_ble_eq_true rfl, Nat.le_of_ble_eq_true rfl⟩) (preRV_of (ci := 0) hN hK hP [0, 1, 2] rfl rfl rfl) rfl rfl hl.1 rfl (lv_room (Nat.le_of_ble_eq_true rfl)) d_An_countGiven_11 ⟨Nat.zero_le _, Nat.zero_le _⟩) (fun r_2 hw => ?_)
      subst hw
      refine lv_if_eq (tgt := 20) hx hb d_An_countGiven_14 (by decide) (fun c_3 => ?_) (fun c_3 => ?_)
      · refine lv_iinc (v := i + 1) (lv' := [(2, .int (i + 1)), (1, .int g), (0, .ref a0)]) hx hb d_An_countGiven_20 hl (k := 0) rfl rfl (by decide) rfl (fun ls hl => ?_)
        refine lv_goto (tgt := 4) hx hb d_An_countGiven_23 (by decide) ?_
        exact ih ls g (i + 1) (lv_sub hl [0, 1, 2] rfl) (by exact i_step hI (by assumption) rfl (by decide)) (by rw [← hT]; simp only [L_countGiven, if_neg c_1, if_pos c_3])
      · refine lv_iinc (v := g + 1) (lv' := [(1, .int (g + 1)), (2, .int i), (0, .ref a0)]) hx hb d_An_countGiven_17 hl (k := 1) rfl rfl (by decide) rfl (fun ls hl => ?_)
        refine lv_iinc (v := i + 1) (lv' := [(2, .int (i + 1)), (1, .int (g + 1)), (0, .ref a0)]) hx hb d_An_countGiven_20 hl (k := 1) rfl rfl (by decide) rfl (fun ls hl => ?_)
        refine lv_goto (tgt := 4) hx hb d_An_countGiven_23 (by decide) ?_
        exact ih ls (g + 1) (i + 1) (lv_sub hl [0, 1, 2] rfl) (by exact i_step hI (by assumption) rfl (by decide)) (by rw [← hT]; simp only [L_countGiven, if_neg c_1, if_neg c_3])
def f_clear (values : Nat → Int64) (givers : Nat → Int32) : (Nat → Int64) × (Nat → Int32) := (vp_updL (vp_updL (vp_updL (vp_updL values (0 : Int32).toNatClampNeg 0) (1 : Int32).toNatClampNeg 0) (2 : Int32).toNatClampNeg 0) (3 : Int32).toNatClampNeg 0, upd (upd (upd (upd givers (0 : Int32).toNatClampNeg (-1)) (1 : Int32).toNatClampNeg (-1)) (2 : Int32).toNatClampNeg (-1)) (3 : Int32).toNatClampNeg (-1))
set_option maxHeartbeats 4000000 in
set_option maxRecDepth 100000 in
theorem c_clear (l : Launch) (G : va_G) (cI cL cZ cR cE : ClassId) (sz : Nat) (a0 a1 a2 : Nat) (values : Nat → Int64) (givers : Nat → Int32) : Met l y_An_clear w_An_clear ({ frames := 0, cells := 0, slots := 0, locals := 0 }) (preW G (TYS cI cL cZ cR cE) [.ref a0] sz (W_Ans cI cL cZ cR cE a0 a1 a2 values givers)) (va_Qv (fun u : (Nat → Int64) × (Nat → Int32) => u = f_clear values givers) (fun u t => va_P G vwCl (W_Ans cI cL cZ cR cE a0 a1 a2 u.1 u.2) t.heap ∧ va_K G vwCl (TYS cI cL cZ cR cE) t ∧ va_D (va_A (W_Ans cI cL cZ cR cE a0 a1 a2 values givers) sz) (W_Ans cI cL cZ cR cE a0 a1 a2 u.1 u.2)) (va_A (W_Ans cI cL cZ cR cE a0 a1 a2 values givers) sz)) 0 0 (va_A (W_Ans cI cL cZ cR cE a0 a1 a2 values givers) sz) := by
  refine Met.ofW (cc := b_An_clear) (maxL := 2) (ret := none) (by decide) rfl ?_
  intro p e s m args below meth c s₁ B hml hv
  obtain ⟨rfl, hsz, hP, hK, hD0, hN⟩ := hv
  have hx := B.exec
  have hb := B.bytes
  have hr := B.returns
  have hts := atoms_spec (ws := w_An_clear) B.pre
  have hown : s.vm.findClass R_An = some m.cls := findClass_of_methodNamed B.named
  have hlocks := B.notSynchronized
  subst hsz
  have hD := hD0.self (sz := s.heap.size)
  clear hD0
  generalize hAe : va_A (W_Ans cI cL cZ cR cE a0 a1 a2 values givers) s.heap.size = A at hD ⊢
  have hA : ∀ q : Nat, s.heap.size ≤ q → A q := fun q h => by rw [← hAe]; exact Or.inr h
  clear hAe
  have hS : va_S A s.heap s.heap [] := va_S.rf
  obtain ⟨H, hH⟩ : ∃ H, H = s.heap := ⟨_, rfl⟩
  rw [← hH] at hP
  replace hS : va_S A s.heap H [] := by rw [hH]; exact hS
  rw [← hH]
  clear hH
  have hi_2 : ∀ w ∈ u_ws R_An T_An 2, w ∈ w_An_clear := fun w h => List.mem_cons_of_mem _ (iu_An w h)
  have hk_1 := hts (.fieldLink R_An 9 "HandlingRules$Answers" "values" "[J") (List.mem_cons_of_mem _ kw_52)
  have hk_3 := hts (.fieldLink R_An 15 "HandlingRules$Answers" "givers" "[I") (List.mem_cons_of_mem _ kw_53)
  have hl := lv_entry ([.ref a0]) (n := 2) (Nat.le_of_ble_eq_true rfl)
  rw [lg_entry_eq]
  generalize (lg_sl ([.ref a0]) ++ List.replicate (2 - (lg_sl ([.ref a0])).length) Slot.unset).toArray = ls at hl ⊢
  replace hl : lv_has ls 2 [(0, .ref a0)] := hl
  generalize hT : f_clear values givers = T
  refine lv_iconst (v := 0) hx hb d_An_clear_0 (by decide) ?_
  refine lv_istore_n (lv' := [(1, .int 0), (0, .ref a0)]) hx hb d_An_clear_1 rfl hl (by decide) rfl (fun ls hl => ?_)
  refine lv_iload_n hx hb d_An_clear_2 rfl (lv_at hl 0 rfl) ?_
  refine lv_iconst (v := 4) hx hb d_An_clear_3 (by decide) ?_
  refine lv_icmp_ge (tgt := 27) hx hb d_An_clear_4 (by decide) (fun k_1 => absurd k_1 (by decide)) (fun _ => ?_)
  refine lv_aload_n hx hb d_An_clear_7 rfl (lv_at hl 1 rfl) ?_
  refine va_get (D := G) (ci := 0) (v := .ref a1) (C := R_An) (T := T_An) (N := 2) hx hb hts hi_2 hown hK hP 0 rfl rfl 0 (by decide) hk_1 (fun _ h9 => h9) rfl d_An_clear_8 ?_
  refine lv_iload_n hx hb d_An_clear_11 rfl (lv_at hl 0 rfl) ?_
  refine lv_lconst (v := 0) hx hb d_An_clear_12 (by decide) ?_
  refine va_last hx hb hK hP hD hS 1 1 rfl rfl (by unfold vp_in; decide) d_An_clear_13 (fun H locs hP hD hS => ?_)
  replace hP : va_P G vwCl (W_Ans cI cL cZ cR cE a0 a1 a2 (vp_updL values (0 : Int32).toNatClampNeg 0) givers) H := hP
  replace hD : va_D A (W_Ans cI cL cZ cR cE a0 a1 a2 (vp_updL values (0 : Int32).toNatClampNeg 0) givers) := hD
  refine lv_aload_n hx hb d_An_clear_14 rfl (lv_at hl 1 rfl) ?_
  refine va_get (D := G) (ci := 0) (v := .ref a2) (C := R_An) (T := T_An) (N := 2) hx hb hts hi_2 hown hK hP 0 rfl rfl 1 (by decide) hk_3 (fun _ h9 => h9) rfl d_An_clear_15 ?_
  refine lv_iload_n hx hb d_An_clear_18 rfl (lv_at hl 0 rfl) ?_
  refine lv_iconst (v := (-1)) hx hb d_An_clear_19 (by decide) ?_
  refine va_iast hx hb hK hP hD hS 2 0 rfl rfl (by unfold vp_in; decide) d_An_clear_20 (fun H locs hP hD hS => ?_)
  replace hP : va_P G vwCl (W_Ans cI cL cZ cR cE a0 a1 a2 (vp_updL values (0 : Int32).toNatClampNeg 0) (upd givers (0 : Int32).toNatClampNeg (-1))) H := hP
  replace hD : va_D A (W_Ans cI cL cZ cR cE a0 a1 a2 (vp_updL values (0 : Int32).toNatClampNeg 0) (upd givers (0 : Int32).toNatClampNeg (-1))) := hD
  refine lv_iinc (v := 1) (lv' := [(1, .int 1), (0, .ref a0)]) hx hb d_An_clear_21 hl (k := 0) rfl (by decide) (by decide) rfl (fun ls hl => ?_)
  refine lv_goto (tgt := 2) hx hb d_An_clear_24 (by decide) ?_
  refine lv_iload_n hx hb d_An_clear_2 rfl (lv_at hl 0 rfl) ?_
  refine lv_iconst (v := 4) hx hb d_An_clear_3 (by decide) ?_
  refine lv_icmp_ge (tgt := 27) hx hb d_An_clear_4 (by decide) (fun k_2 => absurd k_2 (by decide)) (fun _ => ?_)
  refine lv_aload_n hx hb d_An_clear_7 rfl (lv_at hl 1 rfl) ?_
  refine va_get (D := G) (ci := 0) (v := .ref a1) (C := R_An) (T := T_An) (N := 2) hx hb hts hi_2 hown hK hP 0 rfl rfl 0 (by decide) hk_1 (fun _ h9 => h9) rfl d_An_clear_8 ?_
  refine lv_iload_n hx hb d_An_clear_11 rfl (lv_at hl 0 rfl) ?_
  refine lv_lconst (v := 0) hx hb d_An_clear_12 (by decide) ?_
  refine va_last hx hb hK hP hD hS 1 1 rfl rfl (by unfold vp_in; decide) d_An_clear_13 (fun H locs hP hD hS => ?_)
  replace hP : va_P G vwCl (W_Ans cI cL cZ cR cE a0 a1 a2 (vp_updL (vp_updL values (0 : Int32).toNatClampNeg 0) (1 : Int32).toNatClampNeg 0) (upd givers (0 : Int32).toNatClampNeg (-1))) H := hP
  replace hD : va_D A (W_Ans cI cL cZ cR cE a0 a1 a2 (vp_updL (vp_updL values (0 : Int32).toNatClampNeg 0) (1 : Int32).toNatClampNeg 0) (upd givers (0 : Int32).toNatClampNeg (-1))) := hD
  refine lv_aload_n hx hb d_An_clear_14 rfl (lv_at hl 1 rfl) ?_
  refine va_get (D := G) (ci := 0) (v := .ref a2) (C := R_An) (T := T_An) (N := 2) hx hb hts hi_2 hown hK hP 0 rfl rfl 1 (by decide) hk_3 (fun _ h9 => h9) rfl d_An_clear_15 ?_
  refine lv_iload_n hx hb d_An_clear_18 rfl (lv_at hl 0 rfl) ?_
  refine lv_iconst (v := (-1)) hx hb d_An_clear_19 (by decide) ?_
  refine va_iast hx hb hK hP hD hS 2 0 rfl rfl (by unfold vp_in; decide) d_An_clear_20 (fun H locs hP hD hS => ?_)
  replace hP : va_P G vwCl (W_Ans cI cL cZ cR cE a0 a1 a2 (vp_updL (vp_updL values (0 : Int32).toNatClampNeg 0) (1 : Int32).toNatClampNeg 0) (upd (upd givers (0 : Int32).toNatClampNeg (-1)) (1 : Int32).toNatClampNeg (-1))) H := hP
  replace hD : va_D A (W_Ans cI cL cZ cR cE a0 a1 a2 (vp_updL (vp_updL values (0 : Int32).toNatClampNeg 0) (1 : Int32).toNatClampNeg 0) (upd (upd givers (0 : Int32).toNatClampNeg (-1)) (1 : Int32).toNatClampNeg (-1))) := hD
  refine lv_iinc (v := 2) (lv' := [(1, .int 2), (0, .ref a0)]) hx hb d_An_clear_21 hl (k := 0) rfl (by decide) (by decide) rfl (fun ls hl => ?_)
  refine lv_goto (tgt := 2) hx hb d_An_clear_24 (by decide) ?_
  refine lv_iload_n hx hb d_An_clear_2 rfl (lv_at hl 0 rfl) ?_
  refine lv_iconst (v := 4) hx hb d_An_clear_3 (by decide) ?_
  refine lv_icmp_ge (tgt := 27) hx hb d_An_clear_4 (by decide) (fun k_3 => absurd k_3 (by decide)) (fun _ => ?_)
  refine lv_aload_n hx hb d_An_clear_7 rfl (lv_at hl 1 rfl) ?_
  refine va_get (D := G) (ci := 0) (v := .ref a1) (C := R_An) (T := T_An) (N := 2) hx hb hts hi_2 hown hK hP 0 rfl rfl 0 (by decide) hk_1 (fun _ h9 => h9) rfl d_An_clear_8 ?_
  refine lv_iload_n hx hb d_An_clear_11 rfl (lv_at hl 0 rfl) ?_
  refine lv_lconst (v := 0) hx hb d_An_clear_12 (by decide) ?_
  refine va_last hx hb hK hP hD hS 1 1 rfl rfl (by unfold vp_in; decide) d_An_clear_13 (fun H locs hP hD hS => ?_)
  replace hP : va_P G vwCl (W_Ans cI cL cZ cR cE a0 a1 a2 (vp_updL (vp_updL (vp_updL values (0 : Int32).toNatClampNeg 0) (1 : Int32).toNatClampNeg 0) (2 : Int32).toNatClampNeg 0) (upd (upd givers (0 : Int32).toNatClampNeg (-1)) (1 : Int32).toNatClampNeg (-1))) H := hP
  replace hD : va_D A (W_Ans cI cL cZ cR cE a0 a1 a2 (vp_updL (vp_updL (vp_updL values (0 : Int32).toNatClampNeg 0) (1 : Int32).toNatClampNeg 0) (2 : Int32).toNatClampNeg 0) (upd (upd givers (0 : Int32).toNatClampNeg (-1)) (1 : Int32).toNatClampNeg (-1))) := hD
  refine lv_aload_n hx hb d_An_clear_14 rfl (lv_at hl 1 rfl) ?_
  refine va_get (D := G) (ci := 0) (v := .ref a2) (C := R_An) (T := T_An) (N := 2) hx hb hts hi_2 hown hK hP 0 rfl rfl 1 (by decide) hk_3 (fun _ h9 => h9) rfl d_An_clear_15 ?_
  refine lv_iload_n hx hb d_An_clear_18 rfl (lv_at hl 0 rfl) ?_
  refine lv_iconst (v := (-1)) hx hb d_An_clear_19 (by decide) ?_
  refine va_iast hx hb hK hP hD hS 2 0 rfl rfl (by unfold vp_in; decide) d_An_clear_20 (fun H locs hP hD hS => ?_)
  replace hP : va_P G vwCl (W_Ans cI cL cZ cR cE a0 a1 a2 (vp_updL (vp_updL (vp_updL values (0 : Int32).toNatClampNeg 0) (1 : Int32).toNatClampNeg 0) (2 : Int32).toNatClampNeg 0) (upd (upd (upd givers (0 : Int32).toNatClampNeg (-1)) (1 : Int32).toNatClampNeg (-1)) (2 : Int32).toNatClampNeg (-1))) H := hP
  replace hD : va_D A (W_Ans cI cL cZ cR cE a0 a1 a2 (vp_updL (vp_updL (vp_updL values (0 : Int32).toNatClampNeg 0) (1 : Int32).toNatClampNeg 0) (2 : Int32).toNatClampNeg 0) (upd (upd (upd givers (0 : Int32).toNatClampNeg (-1)) (1 : Int32).toNatClampNeg (-1)) (2 : Int32).toNatClampNeg (-1))) := hD
  refine lv_iinc (v := 3) (lv' := [(1, .int 3), (0, .ref a0)]) hx hb d_An_clear_21 hl (k := 0) rfl (by decide) (by decide) rfl (fun ls hl => ?_)
  refine lv_goto (tgt := 2) hx hb d_An_clear_24 (by decide) ?_
  refine lv_iload_n hx hb d_An_clear_2 rfl (lv_at hl 0 rfl) ?_
  refine lv_iconst (v := 4) hx hb d_An_clear_3 (by decide) ?_
  refine lv_icmp_ge (tgt := 27) hx hb d_An_clear_4 (by decide) (fun k_4 => absurd k_4 (by decide)) (fun _ => ?_)
  refine lv_aload_n hx hb d_An_clear_7 rfl (lv_at hl 1 rfl) ?_
  refine va_get (D := G) (ci := 0) (v := .ref a1) (C := R_An) (T := T_An) (N := 2) hx hb hts hi_2 hown hK hP 0 rfl rfl 0 (by decide) hk_1 (fun _ h9 => h9) rfl d_An_clear_8 ?_
  refine lv_iload_n hx hb d_An_clear_11 rfl (lv_at hl 0 rfl) ?_
  refine lv_lconst (v := 0) hx hb d_An_clear_12 (by decide) ?_
  refine va_last hx hb hK hP hD hS 1 1 rfl rfl (by unfold vp_in; decide) d_An_clear_13 (fun H locs hP hD hS => ?_)
  replace hP : va_P G vwCl (W_Ans cI cL cZ cR cE a0 a1 a2 (vp_updL (vp_updL (vp_updL (vp_updL values (0 : Int32).toNatClampNeg 0) (1 : Int32).toNatClampNeg 0) (2 : Int32).toNatClampNeg 0) (3 : Int32).toNatClampNeg 0) (upd (upd (upd givers (0 : Int32).toNatClampNeg (-1)) (1 : Int32).toNatClampNeg (-1)) (2 : Int32).toNatClampNeg (-1))) H := hP
  replace hD : va_D A (W_Ans cI cL cZ cR cE a0 a1 a2 (vp_updL (vp_updL (vp_updL (vp_updL values (0 : Int32).toNatClampNeg 0) (1 : Int32).toNatClampNeg 0) (2 : Int32).toNatClampNeg 0) (3 : Int32).toNatClampNeg 0) (upd (upd (upd givers (0 : Int32).toNatClampNeg (-1)) (1 : Int32).toNatClampNeg (-1)) (2 : Int32).toNatClampNeg (-1))) := hD
  refine lv_aload_n hx hb d_An_clear_14 rfl (lv_at hl 1 rfl) ?_
  refine va_get (D := G) (ci := 0) (v := .ref a2) (C := R_An) (T := T_An) (N := 2) hx hb hts hi_2 hown hK hP 0 rfl rfl 1 (by decide) hk_3 (fun _ h9 => h9) rfl d_An_clear_15 ?_
  refine lv_iload_n hx hb d_An_clear_18 rfl (lv_at hl 0 rfl) ?_
  refine lv_iconst (v := (-1)) hx hb d_An_clear_19 (by decide) ?_
  refine va_iast hx hb hK hP hD hS 2 0 rfl rfl (by unfold vp_in; decide) d_An_clear_20 (fun H locs hP hD hS => ?_)
  replace hP : va_P G vwCl (W_Ans cI cL cZ cR cE a0 a1 a2 (vp_updL (vp_updL (vp_updL (vp_updL values (0 : Int32).toNatClampNeg 0) (1 : Int32).toNatClampNeg 0) (2 : Int32).toNatClampNeg 0) (3 : Int32).toNatClampNeg 0) (upd (upd (upd (upd givers (0 : Int32).toNatClampNeg (-1)) (1 : Int32).toNatClampNeg (-1)) (2 : Int32).toNatClampNeg (-1)) (3 : Int32).toNatClampNeg (-1))) H := hP
  replace hD : va_D A (W_Ans cI cL cZ cR cE a0 a1 a2 (vp_updL (vp_updL (vp_updL (vp_updL values (0 : Int32).toNatClampNeg 0) (1 : Int32).toNatClampNeg 0) (2 : Int32).toNatClampNeg 0) (3 : Int32).toNatClampNeg 0) (upd (upd (upd (upd givers (0 : Int32).toNatClampNeg (-1)) (1 : Int32).toNatClampNeg (-1)) (2 : Int32).toNatClampNeg (-1)) (3 : Int32).toNatClampNeg (-1))) := hD
  refine lv_iinc (v := 4) (lv' := [(1, .int 4), (0, .ref a0)]) hx hb d_An_clear_21 hl (k := 0) rfl (by decide) (by decide) rfl (fun ls hl => ?_)
  refine lv_goto (tgt := 2) hx hb d_An_clear_24 (by decide) ?_
  refine lv_iload_n hx hb d_An_clear_2 rfl (lv_at hl 0 rfl) ?_
  refine lv_iconst (v := 4) hx hb d_An_clear_3 (by decide) ?_
  refine lv_icmp_ge (tgt := 27) hx hb d_An_clear_4 (by decide) (fun _ => ?_) (fun k_5 => absurd (by decide) k_5)
  exact W.vret hx hb hr (fun t ht hW => ⟨⟨(vp_updL (vp_updL (vp_updL (vp_updL values (0 : Int32).toNatClampNeg 0) (1 : Int32).toNatClampNeg 0) (2 : Int32).toNatClampNeg 0) (3 : Int32).toNatClampNeg 0, upd (upd (upd (upd givers (0 : Int32).toNatClampNeg (-1)) (1 : Int32).toNatClampNeg (-1)) (2 : Int32).toNatClampNeg (-1)) (3 : Int32).toNatClampNeg (-1)), rfl, (by rw [← hT]; simp only [f_clear]), by rw [ht]; exact hP, va_K.moved hW.alike hK, hD⟩, hS.F ht⟩) hS.2.2 d_An_clear_27
def f_give (values : Nat → Int64) (givers : Nat → Int32) (k : Int64) (w : Int64) (by_ : Int32) : (Nat → Int64) × (Nat → Int32) := if (f_isWithin k 0 3) = 0 then (values, givers) else (vp_updL values k.toInt32.toNatClampNeg w, upd givers k.toInt32.toNatClampNeg by_)
set_option maxHeartbeats 4000000 in
set_option maxRecDepth 100000 in
theorem c_give (l : Launch) (G : va_G) (cI cL cZ cR cE : ClassId) (sz : Nat) (a0 a1 a2 : Nat) (values : Nat → Int64) (givers : Nat → Int32) (k : Int64) (w : Int64) (by_ : Int32) : Met l y_An_give w_An_give ({ frames := 1, cells := 0, slots := 0, locals := 25 }) (preW G (TYS cI cL cZ cR cE) [.ref a0, .long k, .long w, .int by_] sz (W_Ans cI cL cZ cR cE a0 a1 a2 values givers)) (va_Qv (fun u : (Nat → Int64) × (Nat → Int32) => u = f_give values givers k w by_) (fun u t => va_P G vwCl (W_Ans cI cL cZ cR cE a0 a1 a2 u.1 u.2) t.heap ∧ va_K G vwCl (TYS cI cL cZ cR cE) t ∧ va_D (va_A (W_Ans cI cL cZ cR cE a0 a1 a2 values givers) sz) (W_Ans cI cL cZ cR cE a0 a1 a2 u.1 u.2)) (va_A (W_Ans cI cL cZ cR cE a0 a1 a2 values givers) sz)) 0 0 (va_A (W_Ans cI cL cZ cR cE a0 a1 a2 values givers) sz) := by
  refine Met.ofW (cc := b_An_give) (maxL := 6) (ret := none) (by decide) rfl ?_
  intro p e s m args below meth c s₁ B hml hv
  obtain ⟨rfl, hsz, hP, hK, hD0, hN⟩ := hv
  have hx := B.exec
  have hb := B.bytes
  have hr := B.returns
  have hts := atoms_spec (ws := w_An_give) B.pre
  have hown : s.vm.findClass R_An = some m.cls := findClass_of_methodNamed B.named
  have hlocks := B.notSynchronized
  subst hsz
  have hD := hD0.self (sz := s.heap.size)
  clear hD0
  generalize hAe : va_A (W_Ans cI cL cZ cR cE a0 a1 a2 values givers) s.heap.size = A at hD ⊢
  have hA : ∀ q : Nat, s.heap.size ≤ q → A q := fun q h => by rw [← hAe]; exact Or.inr h
  clear hAe
  have hS : va_S A s.heap s.heap [] := va_S.rf
  obtain ⟨H, hH⟩ : ∃ H, H = s.heap := ⟨_, rfl⟩
  rw [← hH] at hP
  replace hS : va_S A s.heap H [] := by rw [hH]; exact hS
  rw [← hH]
  clear hH
  have hi_3 : ∀ w ∈ u_ws R_An T_An 2, w ∈ w_An_give := fun w h => List.mem_cons_of_mem _ (iu_An w h)
  have hk_1 := hts (.constantLong R_An 19 3) (List.mem_cons_of_mem _ kw_353)
  have hk_2 := hts (.fieldLink R_An 9 "HandlingRules$Answers" "values" "[J") (List.mem_cons_of_mem _ kw_52)
  have hk_4 := hts (.fieldLink R_An 15 "HandlingRules$Answers" "givers" "[I") (List.mem_cons_of_mem _ kw_53)
  have hl := lv_entry ([.ref a0, .long k, .long w, .int by_]) (n := 6) (Nat.le_of_ble_eq_true rfl)
  rw [lg_entry_eq]
  generalize (lg_sl ([.ref a0, .long k, .long w, .int by_]) ++ List.replicate (6 - (lg_sl ([.ref a0, .long k, .long w, .int by_])).length) Slot.unset).toArray = ls at hl ⊢
  replace hl : lv_has ls 6 [(0, .ref a0), (1, .long k), (3, .long w), (5, .int by_)] := hl
  generalize hT : f_give values givers k w by_ = T
  refine lv_lload_n hx hb d_An_give_0 rfl (lv_at hl 1 rfl) ?_
  refine lv_lconst (v := 0) hx hb d_An_give_1 (by decide) ?_
  refine lv_ldc2 (v := 3) hx hb hown hk_1 d_An_give_2 ?_
  refine vp_callSi (run_of (va_runSN (As := [.long k, .long 0, .long 3]) (rest := []) ⟨hx, hb, hml, hown, hts⟩ (c_isWithin l G cI cL cZ cR cE  k 0 3) ⟨va_cnB 3 hts (gC kw_180) rfl rfl rfl (nwN_0 hN) (hts _ (List.mem_cons_of_mem _ kw_15)) (by decide +kernel) ⟨Nat.le_of_ble_eq_true rfl, Nat.le_of_ble_eq_true rfl⟩, hts _ (List.mem_cons_of_mem _ kw_179), trivial⟩ (preRS_of hN hK hP [] rfl) rfl rfl hl.1 rfl (lv_room (Nat.le_of_ble_eq_true rfl)) d_An_give_5 ⟨Nat.zero_le _, Nat.zero_le _⟩)) (fun r_1 hw => ?_)
  subst hw
  refine lv_if_eq (tgt := 28) hx hb d_An_give_8 (by decide) (fun c_2 => ?_) (fun c_2 => ?_)
  · exact W.vret hx hb hr (fun t ht hW => ⟨⟨(values, givers), rfl, (by rw [← hT]; simp only [f_give, if_pos c_2]), by rw [ht]; exact hP, va_K.moved hW.alike hK, hD⟩, hS.F ht⟩) hS.2.2 d_An_give_28
  · refine lv_aload_n hx hb d_An_give_11 rfl (lv_at hl 0 rfl) ?_
    refine va_get (D := G) (ci := 0) (v := .ref a1) (C := R_An) (T := T_An) (N := 2) hx hb hts hi_3 hown hK hP 0 rfl rfl 0 (by decide) hk_2 (fun _ h9 => h9) rfl d_An_give_12 ?_
    refine lv_lload_n hx hb d_An_give_15 rfl (lv_at hl 1 rfl) ?_
    refine lv_l2i (v := k.toInt32) hx hb d_An_give_16 rfl ?_
    refine lv_lload_n hx hb d_An_give_17 rfl (lv_at hl 2 rfl) ?_
    refine va_last hx hb hK hP hD hS 1 1 rfl rfl (ix_w c_2 rfl (by decide)) d_An_give_18 (fun H locs hP hD hS => ?_)
    replace hP : va_P G vwCl (W_Ans cI cL cZ cR cE a0 a1 a2 (vp_updL values k.toInt32.toNatClampNeg w) givers) H := hP
    replace hD : va_D A (W_Ans cI cL cZ cR cE a0 a1 a2 (vp_updL values k.toInt32.toNatClampNeg w) givers) := hD
    refine lv_aload_n hx hb d_An_give_19 rfl (lv_at hl 0 rfl) ?_
    refine va_get (D := G) (ci := 0) (v := .ref a2) (C := R_An) (T := T_An) (N := 2) hx hb hts hi_3 hown hK hP 0 rfl rfl 1 (by decide) hk_4 (fun _ h9 => h9) rfl d_An_give_20 ?_
    refine lv_lload_n hx hb d_An_give_23 rfl (lv_at hl 1 rfl) ?_
    refine lv_l2i (v := k.toInt32) hx hb d_An_give_24 rfl ?_
    refine lv_iload hx hb d_An_give_25 (lv_at hl 3 rfl) ?_
    refine va_iast hx hb hK hP hD hS 2 0 rfl rfl (ix_w c_2 rfl (by decide)) d_An_give_27 (fun H locs hP hD hS => ?_)
    replace hP : va_P G vwCl (W_Ans cI cL cZ cR cE a0 a1 a2 (vp_updL values k.toInt32.toNatClampNeg w) (upd givers k.toInt32.toNatClampNeg by_)) H := hP
    replace hD : va_D A (W_Ans cI cL cZ cR cE a0 a1 a2 (vp_updL values k.toInt32.toNatClampNeg w) (upd givers k.toInt32.toNatClampNeg by_)) := hD
    exact W.vret hx hb hr (fun t ht hW => ⟨⟨(vp_updL values k.toInt32.toNatClampNeg w, upd givers k.toInt32.toNatClampNeg by_), rfl, (by rw [← hT]; simp only [f_give, if_neg c_2]), by rw [ht]; exact hP, va_K.moved hW.alike hK, hD⟩, hS.F ht⟩) hS.2.2 d_An_give_28
