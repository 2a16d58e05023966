def f_mwithin (v : Int64) (lo : Int64) (hi : Int64) : Int32 := if v < lo then 0 else (if hi < v then 0 else 1)
set_option maxHeartbeats 4000000 in
set_option maxRecDepth 100000 in
theorem c_mwithin (l : Launch) (G : va_G) (cI cL cZ cR cE : ClassId)  (v : Int64) (lo : Int64) (hi : Int64) : Met l y_Mo_within w_Mo_within ({ frames := 0, cells := 0, slots := 0, locals := 0 }) (preR G (TYS cI cL cZ cR cE) [.long v, .long lo, .long hi] (([] : va_W))) (vp_Si (fun ans_ => ans_ = f_mwithin v lo hi)) 0 0 (fun _ => False) := by
  refine Met.ofW (cc := b_Mo_within) (maxL := 6) (ret := (some .boolean)) (by decide) rfl ?_
  intro p e s m args below meth c s₁ B hml hv
  obtain ⟨rfl, hP, hK, hN⟩ := hv
  have hx := B.exec
  have hb := B.bytes
  have hr := B.returns
  have hts := atoms_spec (ws := w_Mo_within) B.pre
  have hown : s.vm.findClass R_Mo = some m.cls := findClass_of_methodNamed B.named
  have hlocks := B.notSynchronized
  obtain ⟨H, hH⟩ : ∃ H, H = s.heap := ⟨_, rfl⟩
  rw [← hH] at hP
  rw [← hH]
  have hl := lv_entry ([.long v, .long lo, .long hi]) (n := 6) (Nat.le_of_ble_eq_true rfl)
  rw [lg_entry_eq]
  generalize (lg_sl ([.long v, .long lo, .long hi]) ++ List.replicate (6 - (lg_sl ([.long v, .long lo, .long hi])).length) Slot.unset).toArray = ls at hl ⊢
  replace hl : lv_has ls 6 [(0, .long v), (2, .long lo), (4, .long hi)] := hl
  generalize hT : f_mwithin v lo hi = T
  refine lv_lload_n hx hb d_Mo_within_0 rfl (lv_at hl 0 rfl) ?_
  refine lv_lload_n hx hb d_Mo_within_1 rfl (lv_at hl 1 rfl) ?_
  refine lc_lt (x := v) (y := lo) (tgt := 17) hx hb d_Mo_within_2 d_Mo_within_3 (by decide) (fun c_1 => ?_) (fun c_1 => ?_)
  · refine lv_iconst (v := 0) hx hb d_Mo_within_17 (by decide) ?_
    exact W.zret (v := 0) hx hb hr rfl (fun t ht hW => ⟨0, rfl, (by rw [← hT]; simp only [f_mwithin, if_pos c_1]), by rw [ht, hH]⟩) (fun _ h => by cases h) d_Mo_within_18
  · refine lv_lload_n hx hb d_Mo_within_6 rfl (lv_at hl 0 rfl) ?_
    refine lv_lload hx hb d_Mo_within_7 (lv_at hl 2 rfl) ?_
    refine lc_gt (x := v) (y := hi) (tgt := 17) hx hb d_Mo_within_9 d_Mo_within_10 (by decide) (fun c_2 => ?_) (fun c_2 => ?_)
    · refine lv_iconst (v := 0) hx hb d_Mo_within_17 (by decide) ?_
      exact W.zret (v := 0) hx hb hr rfl (fun t ht hW => ⟨0, rfl, (by rw [← hT]; simp only [f_mwithin, if_neg c_1, if_pos c_2]), by rw [ht, hH]⟩) (fun _ h => by cases h) d_Mo_within_18
    · refine lv_iconst (v := 1) hx hb d_Mo_within_13 (by decide) ?_
      refine lv_goto (tgt := 18) hx hb d_Mo_within_14 (by decide) ?_
      exact W.zret (v := 1) hx hb hr rfl (fun t ht hW => ⟨1, rfl, (by rw [← hT]; simp only [f_mwithin, if_neg c_1, if_neg c_2]), by rw [ht, hH]⟩) (fun _ h => by cases h) d_Mo_within_18
theorem f_mwithin_01 (v lo hi : Int64) : f_mwithin v lo hi = 0 ∨ f_mwithin v lo hi = 1 := by
  unfold f_mwithin
  split
  · exact Or.inl rfl
  · split
    · exact Or.inl rfl
    · exact Or.inr rfl
theorem mwithin_eq (v lo hi : Int64) : f_mwithin v lo hi = f_isWithin v lo hi := rfl
theorem f_mwithin_iff (v lo hi : Int64) : ¬ f_mwithin v lo hi = 0 ↔ lo.toInt ≤ v.toInt ∧ v.toInt ≤ hi.toInt := f_isWithin_iff v lo hi
theorem ix_mw {k : Int32} {b : Int64} {n : Nat} (h : ¬ f_mwithin k.toInt64 0 b = 0) (hb : b.toInt + 1 = (n : Int)) (hn : n ≤ 2147483648) : vp_in k n := by
  obtain ⟨h1, h2⟩ := (f_mwithin_iff _ _ _).mp h
  have h0 : (0 : Int64).toInt = 0 := rfl
  rw [Int32.toInt_toInt64] at h1 h2
  rw [vp_in_iff]
  omega
theorem ix_le {x b : Int32} {n : Nat} (h : 0 ≤ x.toInt ∧ x.toInt ≤ (n : Int)) (h2 : ¬ x = b) (hb : b.toInt = (n : Int)) : vp_in x n := by
  rw [vp_in_iff]
  have h3 : x.toInt ≠ b.toInt := fun q => h2 (Int32.toInt_inj.mp q)
  omega
def f_misEdition (ed : Int32) : Int32 := f_mwithin ed.toInt64 0 5
set_option maxHeartbeats 4000000 in
set_option maxRecDepth 100000 in
theorem c_misEdition (l : Launch) (G : va_G) (cI cL cZ cR cE : ClassId)  (ed : Int32) : Met l y_Mo_isEdition w_Mo_isEdition ({ frames := 1, cells := 0, slots := 0, locals := 25 }) (preR G (TYS cI cL cZ cR cE) [.int ed] (([] : va_W))) (vp_Si (fun ans_ => ans_ = f_misEdition ed)) 0 0 (fun _ => False) := by
  refine Met.ofW (cc := b_Mo_isEdition) (maxL := 1) (ret := (some .boolean)) (by decide) rfl ?_
  intro p e s m args below meth c s₁ B hml hv
  obtain ⟨rfl, hP, hK, hN⟩ := hv
  have hx := B.exec
  have hb := B.bytes
  have hr := B.returns
  have hts := atoms_spec (ws := w_Mo_isEdition) B.pre
  have hown : s.vm.findClass R_Mo = some m.cls := findClass_of_methodNamed B.named
  have hlocks := B.notSynchronized
  obtain ⟨H, hH⟩ : ∃ H, H = s.heap := ⟨_, rfl⟩
  rw [← hH] at hP
  rw [← hH]
  have hk_1 := hts (.constantLong R_Mo 92 5) (List.mem_cons_of_mem _ kw_674)
  have hl := lv_entry ([.int ed]) (n := 1) (Nat.le_of_ble_eq_true rfl)
  rw [lg_entry_eq]
  generalize (lg_sl ([.int ed]) ++ List.replicate (1 - (lg_sl ([.int ed])).length) Slot.unset).toArray = ls at hl ⊢
  replace hl : lv_has ls 1 [(0, .int ed)] := hl
  generalize hT : f_misEdition ed = T
  refine lv_iload_n hx hb d_Mo_isEdition_0 rfl (lv_at hl 0 rfl) ?_
  refine lv_i2l (v := ed.toInt64) hx hb d_Mo_isEdition_1 rfl ?_
  refine lv_lconst (v := 0) hx hb d_Mo_isEdition_2 (by decide) ?_
  refine lv_ldc2 (v := 5) hx hb hown hk_1 d_Mo_isEdition_3 ?_
  refine vp_callSi (W.runS (As := [.long ed.toInt64, .long 0, .long 5]) (rest := []) ⟨hx, hb, hml, hown, hts⟩ (c_mwithin l G cI cL cZ cR cE  ed.toInt64 0 5) (va_cwS 3 hts (gS kw_675 kw_676 kw_21 kw_677) rfl rfl rfl (by decide +kernel) ⟨Nat.le_of_ble_eq_true rfl, Nat.le_of_ble_eq_true rfl⟩) (preRS_of hN hK hP [] rfl) rfl rfl hl.1 rfl (lv_room (Nat.le_of_ble_eq_true rfl)) d_Mo_isEdition_6 ⟨Nat.zero_le _, Nat.zero_le _⟩) (fun r_1 hw => ?_)
  subst hw
  exact W.zret (v := f_mwithin ed.toInt64 0 5) hx hb hr (nar01 (f_mwithin_01 _ _ _)) (fun t ht hW => ⟨f_mwithin ed.toInt64 0 5, rfl, (by rw [← hT]; simp only [f_misEdition]), by rw [ht, hH]⟩) (fun _ h => by cases h) d_Mo_isEdition_9
def f_misNumber (op : Int32) (n : Int64) : Int32 := if op = 1 then (f_mwithin n 0 7) else (if op = 9 then (if (f_mwithin n (-12) 12) = 0 then 0 else (if n = 0 then 0 else 1)) else (if op = 10 then (f_mwithin n 0 3) else (if op = 13 then (f_mwithin n 0 7) else 1)))
set_option maxHeartbeats 4000000 in
set_option maxRecDepth 100000 in
theorem c_misNumber (l : Launch) (G : va_G) (cI cL cZ cR cE : ClassId)  (op : Int32) (n : Int64) : Met l y_Mo_isNumber w_Mo_isNumber ({ frames := 1, cells := 0, slots := 0, locals := 25 }) (preR G (TYS cI cL cZ cR cE) [.int op, .long n] (([] : va_W))) (vp_Si (fun ans_ => ans_ = f_misNumber op n)) 0 0 (fun _ => False) := by
  refine Met.ofW (cc := b_Mo_isNumber) (maxL := 3) (ret := (some .boolean)) (by decide) rfl ?_
  intro p e s m args below meth c s₁ B hml hv
  obtain ⟨rfl, hP, hK, hN⟩ := hv
  have hx := B.exec
  have hb := B.bytes
  have hr := B.returns
  have hts := atoms_spec (ws := w_Mo_isNumber) B.pre
  have hown : s.vm.findClass R_Mo = some m.cls := findClass_of_methodNamed B.named
  have hlocks := B.notSynchronized
  obtain ⟨H, hH⟩ : ∃ H, H = s.heap := ⟨_, rfl⟩
  rw [← hH] at hP
  rw [← hH]
  have hk_1 := hts (.constantLong R_Mo 102 7) (List.mem_cons_of_mem _ kw_692)
  have hk_2 := hts (.constantLong R_Mo 104 (-12)) (List.mem_cons_of_mem _ kw_693)
  have hk_3 := hts (.constantLong R_Mo 106 12) (List.mem_cons_of_mem _ kw_694)
  have hk_4 := hts (.constantLong R_Mo 108 3) (List.mem_cons_of_mem _ kw_695)
  have hl := lv_entry ([.int op, .long n]) (n := 3) (Nat.le_of_ble_eq_true rfl)
  rw [lg_entry_eq]
  generalize (lg_sl ([.int op, .long n]) ++ List.replicate (3 - (lg_sl ([.int op, .long n])).length) Slot.unset).toArray = ls at hl ⊢
  replace hl : lv_has ls 3 [(0, .int op), (1, .long n)] := hl
  generalize hT : f_misNumber op n = T
  refine lv_iload_n hx hb d_Mo_isNumber_0 rfl (lv_at hl 0 rfl) ?_
  by_cases c_1 : op = 1
  · refine sw_l (x := op) (tgt := 44) hx hb d_Mo_isNumber_1 (by decide) (by rw [c_1]; decide) ?_
    refine lv_lload_n hx hb d_Mo_isNumber_44 rfl (lv_at hl 1 rfl) ?_
    refine lv_lconst (v := 0) hx hb d_Mo_isNumber_45 (by decide) ?_
    refine lv_ldc2 (v := 7) hx hb hown hk_1 d_Mo_isNumber_46 ?_
    refine vp_callSi (W.runS (As := [.long n, .long 0, .long 7]) (rest := []) ⟨hx, hb, hml, hown, hts⟩ (c_mwithin l G cI cL cZ cR cE  n 0 7) (va_cwS 3 hts (gS kw_675 kw_676 kw_21 kw_677) rfl rfl rfl (by decide +kernel) ⟨Nat.le_of_ble_eq_true rfl, Nat.le_of_ble_eq_true rfl⟩) (preRS_of hN hK hP [] rfl) rfl rfl hl.1 rfl (lv_room (Nat.le_of_ble_eq_true rfl)) d_Mo_isNumber_49 ⟨Nat.zero_le _, Nat.zero_le _⟩) (fun r_2 hw => ?_)
    subst hw
    exact W.zret (v := f_mwithin n 0 7) hx hb hr (nar01 (f_mwithin_01 _ _ _)) (fun t ht hW => ⟨f_mwithin n 0 7, rfl, (by rw [← hT]; simp only [f_misNumber, if_pos c_1]), by rw [ht, hH]⟩) (fun _ h => by cases h) d_Mo_isNumber_52
  ·
    by_cases c_3 : op = 9
    · refine sw_l (x := op) (tgt := 53) hx hb d_Mo_isNumber_1 (by decide) (by rw [c_3]; decide) ?_
      refine lv_lload_n hx hb d_Mo_isNumber_53 rfl (lv_at hl 1 rfl) ?_
      refine lv_ldc2 (v := (-12)) hx hb hown hk_2 d_Mo_isNumber_54 ?_
      refine lv_ldc2 (v := 12) hx hb hown hk_3 d_Mo_isNumber_57 ?_
      refine vp_callSi (W.runS (As := [.long n, .long (-12), .long 12]) (rest := []) ⟨hx, hb, hml, hown, hts⟩ (c_mwithin l G cI cL cZ cR cE  n (-12) 12) (va_cwS 3 hts (gS kw_675 kw_676 kw_21 kw_677) rfl rfl rfl (by decide +kernel) ⟨Nat.le_of_ble_eq_true rfl, Nat.le_of_ble_eq_true rfl⟩) (preRS_of hN hK hP [] rfl) rfl rfl hl.1 rfl (lv_room (Nat.le_of_ble_eq_true rfl)) d_Mo_isNumber_60 ⟨Nat.zero_le _, Nat.zero_le _⟩) (fun r_4 hw => ?_)
      subst hw
      refine lv_if_eq (tgt := 76) hx hb d_Mo_isNumber_63 (by decide) (fun c_5 => ?_) (fun c_5 => ?_)
      · refine lv_iconst (v := 0) hx hb d_Mo_isNumber_76 (by decide) ?_
        exact W.zret (v := 0) hx hb hr rfl (fun t ht hW => ⟨0, rfl, (by rw [← hT]; simp only [f_misNumber, if_neg c_1, if_pos c_3, if_pos c_5]), by rw [ht, hH]⟩) (fun _ h => by cases h) d_Mo_isNumber_77
      · refine lv_lload_n hx hb d_Mo_isNumber_66 rfl (lv_at hl 1 rfl) ?_
        refine lv_lconst (v := 0) hx hb d_Mo_isNumber_67 (by decide) ?_
        refine lc_eq (x := n) (y := 0) (tgt := 76) hx hb d_Mo_isNumber_68 d_Mo_isNumber_69 (by decide) (fun c_6 => ?_) (fun c_6 => ?_)
        · refine lv_iconst (v := 0) hx hb d_Mo_isNumber_76 (by decide) ?_
          exact W.zret (v := 0) hx hb hr rfl (fun t ht hW => ⟨0, rfl, (by rw [← hT]; simp only [f_misNumber, if_neg c_1, if_pos c_3, if_neg c_5, if_pos c_6]), by rw [ht, hH]⟩) (fun _ h => by cases h) d_Mo_isNumber_77
        · refine lv_iconst (v := 1) hx hb d_Mo_isNumber_72 (by decide) ?_
          refine lv_goto (tgt := 77) hx hb d_Mo_isNumber_73 (by decide) ?_
          exact W.zret (v := 1) hx hb hr rfl (fun t ht hW => ⟨1, rfl, (by rw [← hT]; simp only [f_misNumber, if_neg c_1, if_pos c_3, if_neg c_5, if_neg c_6]), by rw [ht, hH]⟩) (fun _ h => by cases h) d_Mo_isNumber_77
    ·
      by_cases c_7 : op = 10
      · refine sw_l (x := op) (tgt := 78) hx hb d_Mo_isNumber_1 (by decide) (by rw [c_7]; decide) ?_
        refine lv_lload_n hx hb d_Mo_isNumber_78 rfl (lv_at hl 1 rfl) ?_
        refine lv_lconst (v := 0) hx hb d_Mo_isNumber_79 (by decide) ?_
        refine lv_ldc2 (v := 3) hx hb hown hk_4 d_Mo_isNumber_80 ?_
        refine vp_callSi (W.runS (As := [.long n, .long 0, .long 3]) (rest := []) ⟨hx, hb, hml, hown, hts⟩ (c_mwithin l G cI cL cZ cR cE  n 0 3) (va_cwS 3 hts (gS kw_675 kw_676 kw_21 kw_677) rfl rfl rfl (by decide +kernel) ⟨Nat.le_of_ble_eq_true rfl, Nat.le_of_ble_eq_true rfl⟩) (preRS_of hN hK hP [] rfl) rfl rfl hl.1 rfl (lv_room (Nat.le_of_ble_eq_true rfl)) d_Mo_isNumber_83 ⟨Nat.zero_le _, Nat.zero_le _⟩) (fun r_8 hw => ?_)
        subst hw
        exact W.zret (v := f_mwithin n 0 3) hx hb hr (nar01 (f_mwithin_01 _ _ _)) (fun t ht hW => ⟨f_mwithin n 0 3, rfl, (by rw [← hT]; simp only [f_misNumber, if_neg c_1, if_neg c_3, if_pos c_7]), by rw [ht, hH]⟩) (fun _ h => by cases h) d_Mo_isNumber_86
      ·
        by_cases c_9 : op = 13
        · refine sw_l (x := op) (tgt := 44) hx hb d_Mo_isNumber_1 (by decide) (by rw [c_9]; decide) ?_
          refine lv_lload_n hx hb d_Mo_isNumber_44 rfl (lv_at hl 1 rfl) ?_
          refine lv_lconst (v := 0) hx hb d_Mo_isNumber_45 (by decide) ?_
          refine lv_ldc2 (v := 7) hx hb hown hk_1 d_Mo_isNumber_46 ?_
          refine vp_callSi (W.runS (As := [.long n, .long 0, .long 7]) (rest := []) ⟨hx, hb, hml, hown, hts⟩ (c_mwithin l G cI cL cZ cR cE  n 0 7) (va_cwS 3 hts (gS kw_675 kw_676 kw_21 kw_677) rfl rfl rfl (by decide +kernel) ⟨Nat.le_of_ble_eq_true rfl, Nat.le_of_ble_eq_true rfl⟩) (preRS_of hN hK hP [] rfl) rfl rfl hl.1 rfl (lv_room (Nat.le_of_ble_eq_true rfl)) d_Mo_isNumber_49 ⟨Nat.zero_le _, Nat.zero_le _⟩) (fun r_10 hw => ?_)
          subst hw
          exact W.zret (v := f_mwithin n 0 7) hx hb hr (nar01 (f_mwithin_01 _ _ _)) (fun t ht hW => ⟨f_mwithin n 0 7, rfl, (by rw [← hT]; simp only [f_misNumber, if_neg c_1, if_neg c_3, if_neg c_7, if_pos c_9]), by rw [ht, hH]⟩) (fun _ h => by cases h) d_Mo_isNumber_52
        ·
          refine sw_l (x := op) (tgt := 87) hx hb d_Mo_isNumber_1 (by decide) (sw_ld [1, 9, 10, 13] (by decide) (by decide) (List.forall_mem_cons.mpr ⟨sw_ne c_1 rfl, (List.forall_mem_cons.mpr ⟨sw_ne c_3 rfl, (List.forall_mem_cons.mpr ⟨sw_ne c_7 rfl, (List.forall_mem_cons.mpr ⟨sw_ne c_9 rfl, (fun _ h => nomatch h)⟩)⟩)⟩)⟩)) ?_
          refine lv_iconst (v := 1) hx hb d_Mo_isNumber_87 (by decide) ?_
          exact W.zret (v := 1) hx hb hr rfl (fun t ht hW => ⟨1, rfl, (by rw [← hT]; simp only [f_misNumber, if_neg c_1, if_neg c_3, if_neg c_7, if_neg c_9]), by rw [ht, hH]⟩) (fun _ h => by cases h) d_Mo_isNumber_88
def f_mtwo (op : Int32) (x : Int64) (y : Int64) : Int64 := if op = 2 then (x + y) else (if op = 3 then (x - y) else (if op = 4 then (x * y) else (if op = 5 then (x / y) else (if op = 6 then (if y ≤ x then 0 else 1) else (if x = y then 1 else 0)))))
set_option maxHeartbeats 4000000 in
set_option maxRecDepth 100000 in
theorem c_mtwo (l : Launch) (G : va_G) (cI cL cZ cR cE : ClassId)  (op : Int32) (x : Int64) (y : Int64) (hy0 : op = 5 → ¬ y = 0) : Met l y_Mo_two w_Mo_two ({ frames := 0, cells := 0, slots := 0, locals := 0 }) (preR G (TYS cI cL cZ cR cE) [.int op, .long x, .long y] (([] : va_W))) (vp_Sl (fun ans_ => ans_ = f_mtwo op x y)) 0 0 (fun _ => False) := by
  refine Met.ofW (cc := b_Mo_two) (maxL := 5) (ret := (some .long)) (by decide) rfl ?_
  intro p e s m args below meth c s₁ B hml hv
  obtain ⟨rfl, hP, hK, hN⟩ := hv
  have hx := B.exec
  have hb := B.bytes
  have hr := B.returns
  have hts := atoms_spec (ws := w_Mo_two) B.pre
  have hown : s.vm.findClass R_Mo = some m.cls := findClass_of_methodNamed B.named
  have hlocks := B.notSynchronized
  obtain ⟨H, hH⟩ : ∃ H, H = s.heap := ⟨_, rfl⟩
  rw [← hH] at hP
  rw [← hH]
  have hl := lv_entry ([.int op, .long x, .long y]) (n := 5) (Nat.le_of_ble_eq_true rfl)
  rw [lg_entry_eq]
  generalize (lg_sl ([.int op, .long x, .long y]) ++ List.replicate (5 - (lg_sl ([.int op, .long x, .long y])).length) Slot.unset).toArray = ls at hl ⊢
  replace hl : lv_has ls 5 [(0, .int op), (1, .long x), (3, .long y)] := hl
  generalize hT : f_mtwo op x y = T
  refine lv_iload_n hx hb d_Mo_two_0 rfl (lv_at hl 0 rfl) ?_
  by_cases c_1 : op = 2
  · refine sw_t (x := op) (tgt := 36) hx hb d_Mo_two_1 (by rw [c_1]; decide) ?_
    refine lv_lload_n hx hb d_Mo_two_36 rfl (lv_at hl 1 rfl) ?_
    refine lv_lload_n hx hb d_Mo_two_37 rfl (lv_at hl 2 rfl) ?_
    refine lv_ladd hx hb d_Mo_two_38 ?_
    exact W.lret (v := x + y) hx hb hr (fun t ht hW => ⟨x + y, rfl, (by rw [← hT]; simp only [f_mtwo, if_pos c_1]), by rw [ht, hH]⟩) (fun _ h => by cases h) d_Mo_two_39
  ·
    by_cases c_2 : op = 3
    · refine sw_t (x := op) (tgt := 40) hx hb d_Mo_two_1 (by rw [c_2]; decide) ?_
      refine lv_lload_n hx hb d_Mo_two_40 rfl (lv_at hl 1 rfl) ?_
      refine lv_lload_n hx hb d_Mo_two_41 rfl (lv_at hl 2 rfl) ?_
      refine lv_lsub hx hb d_Mo_two_42 ?_
      exact W.lret (v := x - y) hx hb hr (fun t ht hW => ⟨x - y, rfl, (by rw [← hT]; simp only [f_mtwo, if_neg c_1, if_pos c_2]), by rw [ht, hH]⟩) (fun _ h => by cases h) d_Mo_two_43
    ·
      by_cases c_3 : op = 4
      · refine sw_t (x := op) (tgt := 44) hx hb d_Mo_two_1 (by rw [c_3]; decide) ?_
        refine lv_lload_n hx hb d_Mo_two_44 rfl (lv_at hl 1 rfl) ?_
        refine lv_lload_n hx hb d_Mo_two_45 rfl (lv_at hl 2 rfl) ?_
        refine lv_lmul hx hb d_Mo_two_46 ?_
        exact W.lret (v := x * y) hx hb hr (fun t ht hW => ⟨x * y, rfl, (by rw [← hT]; simp only [f_mtwo, if_neg c_1, if_neg c_2, if_pos c_3]), by rw [ht, hH]⟩) (fun _ h => by cases h) d_Mo_two_47
      ·
        by_cases c_4 : op = 5
        · refine sw_t (x := op) (tgt := 48) hx hb d_Mo_two_1 (by rw [c_4]; decide) ?_
          refine lv_lload_n hx hb d_Mo_two_48 rfl (lv_at hl 1 rfl) ?_
          refine lv_lload_n hx hb d_Mo_two_49 rfl (lv_at hl 2 rfl) ?_
          refine lv_ldiv hx hb d_Mo_two_50 (hy0 c_4) ?_
          exact W.lret (v := x / y) hx hb hr (fun t ht hW => ⟨x / y, rfl, (by rw [← hT]; simp only [f_mtwo, if_neg c_1, if_neg c_2, if_neg c_3, if_pos c_4]), by rw [ht, hH]⟩) (fun _ h => by cases h) d_Mo_two_51
        ·
          by_cases c_5 : op = 6
          · refine sw_t (x := op) (tgt := 52) hx hb d_Mo_two_1 (by rw [c_5]; decide) ?_
            refine lv_lload_n hx hb d_Mo_two_52 rfl (lv_at hl 1 rfl) ?_
            refine lv_lload_n hx hb d_Mo_two_53 rfl (lv_at hl 2 rfl) ?_
            refine lc_ge (x := x) (y := y) (tgt := 62) hx hb d_Mo_two_54 d_Mo_two_55 (by decide) (fun c_6 => ?_) (fun c_6 => ?_)
            · refine lv_lconst (v := 0) hx hb d_Mo_two_62 (by decide) ?_
              exact W.lret (v := 0) hx hb hr (fun t ht hW => ⟨0, rfl, (by rw [← hT]; simp only [f_mtwo, if_neg c_1, if_neg c_2, if_neg c_3, if_neg c_4, if_pos c_5, if_pos c_6]), by rw [ht, hH]⟩) (fun _ h => by cases h) d_Mo_two_63
            · refine lv_lconst (v := 1) hx hb d_Mo_two_58 (by decide) ?_
              refine lv_goto (tgt := 63) hx hb d_Mo_two_59 (by decide) ?_
              exact W.lret (v := 1) hx hb hr (fun t ht hW => ⟨1, rfl, (by rw [← hT]; simp only [f_mtwo, if_neg c_1, if_neg c_2, if_neg c_3, if_neg c_4, if_pos c_5, if_neg c_6]), by rw [ht, hH]⟩) (fun _ h => by cases h) d_Mo_two_63
          ·
            refine sw_t (x := op) (tgt := 64) hx hb d_Mo_two_1 (sw_d (by decide) [2, 3, 4, 5, 6] (by decide) (List.forall_mem_cons.mpr ⟨sw_ne c_1 rfl, (List.forall_mem_cons.mpr ⟨sw_ne c_2 rfl, (List.forall_mem_cons.mpr ⟨sw_ne c_3 rfl, (List.forall_mem_cons.mpr ⟨sw_ne c_4 rfl, (List.forall_mem_cons.mpr ⟨sw_ne c_5 rfl, (fun _ h => nomatch h)⟩)⟩)⟩)⟩)⟩)) ?_
            refine lv_lload_n hx hb d_Mo_two_64 rfl (lv_at hl 1 rfl) ?_
            refine lv_lload_n hx hb d_Mo_two_65 rfl (lv_at hl 2 rfl) ?_
            refine lc_ne (x := x) (y := y) (tgt := 74) hx hb d_Mo_two_66 d_Mo_two_67 (by decide) (fun c_7 => ?_) (fun c_7 => ?_)
            · refine lv_lconst (v := 0) hx hb d_Mo_two_74 (by decide) ?_
              exact W.lret (v := 0) hx hb hr (fun t ht hW => ⟨0, rfl, (by rw [← hT]; simp only [f_mtwo, if_neg c_1, if_neg c_2, if_neg c_3, if_neg c_4, if_neg c_5, if_neg c_7]), by rw [ht, hH]⟩) (fun _ h => by cases h) d_Mo_two_75
            · refine lv_lconst (v := 1) hx hb d_Mo_two_70 (by decide) ?_
              refine lv_goto (tgt := 75) hx hb d_Mo_two_71 (by decide) ?_
              exact W.lret (v := 1) hx hb hr (fun t ht hW => ⟨1, rfl, (by rw [← hT]; simp only [f_mtwo, if_neg c_1, if_neg c_2, if_neg c_3, if_neg c_4, if_neg c_5, if_pos c_7]), by rw [ht, hH]⟩) (fun _ h => by cases h) d_Mo_two_75
def f_mneeds (op : Int32) : Int32 := if op ≤ 1 then (if op ≤ 7 then (if op = 14 then 1 else 0) else (if op < 12 then 1 else (if op = 14 then 1 else 0))) else (if 8 ≤ op then (if op ≤ 7 then (if op = 14 then 1 else 0) else (if op < 12 then 1 else (if op = 14 then 1 else 0))) else 2)
set_option maxHeartbeats 4000000 in
set_option maxRecDepth 100000 in
theorem c_mneeds (l : Launch) (G : va_G) (cI cL cZ cR cE : ClassId)  (op : Int32) : Met l y_Mo_needs w_Mo_needs ({ frames := 0, cells := 0, slots := 0, locals := 0 }) (preR G (TYS cI cL cZ cR cE) [.int op] (([] : va_W))) (vp_Si (fun ans_ => ans_ = f_mneeds op)) 0 0 (fun _ => False) := by
  refine Met.ofW (cc := b_Mo_needs) (maxL := 1) (ret := (some .int)) (by decide) rfl ?_
  intro p e s m args below meth c s₁ B hml hv
  obtain ⟨rfl, hP, hK, hN⟩ := hv
  have hx := B.exec
  have hb := B.bytes
  have hr := B.returns
  have hts := atoms_spec (ws := w_Mo_needs) B.pre
  have hown : s.vm.findClass R_Mo = some m.cls := findClass_of_methodNamed B.named
  have hlocks := B.notSynchronized
  obtain ⟨H, hH⟩ : ∃ H, H = s.heap := ⟨_, rfl⟩
  rw [← hH] at hP
  rw [← hH]
  have hl := lv_entry ([.int op]) (n := 1) (Nat.le_of_ble_eq_true rfl)
  rw [lg_entry_eq]
  generalize (lg_sl ([.int op]) ++ List.replicate (1 - (lg_sl ([.int op])).length) Slot.unset).toArray = ls at hl ⊢
  replace hl : lv_has ls 1 [(0, .int op)] := hl
  generalize hT : f_mneeds op = T
  refine lv_iload_n hx hb d_Mo_needs_0 rfl (lv_at hl 0 rfl) ?_
  refine lv_iconst (v := 1) hx hb d_Mo_needs_1 (by decide) ?_
  refine lv_icmp_le (tgt := 15) hx hb d_Mo_needs_2 (by decide) (fun c_1 => ?_) (fun c_1 => ?_)
  · refine lv_iload_n hx hb d_Mo_needs_15 rfl (lv_at hl 0 rfl) ?_
    refine lv_bipush (v := 7) hx hb d_Mo_needs_16 (by decide) ?_
    refine lv_icmp_le (tgt := 27) hx hb d_Mo_needs_18 (by decide) (fun c_2 => ?_) (fun c_2 => ?_)
    · refine lv_iload_n hx hb d_Mo_needs_27 rfl (lv_at hl 0 rfl) ?_
      refine lv_bipush (v := 14) hx hb d_Mo_needs_28 (by decide) ?_
      refine lv_icmp_ne (tgt := 37) hx hb d_Mo_needs_30 (by decide) (fun c_3 => ?_) (fun c_3 => ?_)
      · refine lv_iconst (v := 0) hx hb d_Mo_needs_37 (by decide) ?_
        exact W.iret (v := 0) hx hb hr (fun t ht hW => ⟨0, rfl, (by rw [← hT]; simp only [f_mneeds, if_pos c_1, if_pos c_2, if_neg c_3]), by rw [ht, hH]⟩) (fun _ h => by cases h) d_Mo_needs_38
      · refine lv_iconst (v := 1) hx hb d_Mo_needs_33 (by decide) ?_
        refine lv_goto (tgt := 38) hx hb d_Mo_needs_34 (by decide) ?_
        exact W.iret (v := 1) hx hb hr (fun t ht hW => ⟨1, rfl, (by rw [← hT]; simp only [f_mneeds, if_pos c_1, if_pos c_2, if_pos c_3]), by rw [ht, hH]⟩) (fun _ h => by cases h) d_Mo_needs_38
    · refine lv_iload_n hx hb d_Mo_needs_21 rfl (lv_at hl 0 rfl) ?_
      refine lv_bipush (v := 12) hx hb d_Mo_needs_22 (by decide) ?_
      refine lv_icmp_lt (tgt := 33) hx hb d_Mo_needs_24 (by decide) (fun c_4 => ?_) (fun c_4 => ?_)
      · refine lv_iconst (v := 1) hx hb d_Mo_needs_33 (by decide) ?_
        refine lv_goto (tgt := 38) hx hb d_Mo_needs_34 (by decide) ?_
        exact W.iret (v := 1) hx hb hr (fun t ht hW => ⟨1, rfl, (by rw [← hT]; simp only [f_mneeds, if_pos c_1, if_neg c_2, if_pos c_4]), by rw [ht, hH]⟩) (fun _ h => by cases h) d_Mo_needs_38
      · refine lv_iload_n hx hb d_Mo_needs_27 rfl (lv_at hl 0 rfl) ?_
        refine lv_bipush (v := 14) hx hb d_Mo_needs_28 (by decide) ?_
        refine lv_icmp_ne (tgt := 37) hx hb d_Mo_needs_30 (by decide) (fun c_5 => ?_) (fun c_5 => ?_)
        · refine lv_iconst (v := 0) hx hb d_Mo_needs_37 (by decide) ?_
          exact W.iret (v := 0) hx hb hr (fun t ht hW => ⟨0, rfl, (by rw [← hT]; simp only [f_mneeds, if_pos c_1, if_neg c_2, if_neg c_4, if_neg c_5]), by rw [ht, hH]⟩) (fun _ h => by cases h) d_Mo_needs_38
        · refine lv_iconst (v := 1) hx hb d_Mo_needs_33 (by decide) ?_
          refine lv_goto (tgt := 38) hx hb d_Mo_needs_34 (by decide) ?_
          exact W.iret (v := 1) hx hb hr (fun t ht hW => ⟨1, rfl, (by rw [← hT]; simp only [f_mneeds, if_pos c_1, if_neg c_2, if_neg c_4, if_pos c_5]), by rw [ht, hH]⟩) (fun _ h => by cases h) d_Mo_needs_38
  · refine lv_iload_n hx hb d_Mo_needs_5 rfl (lv_at hl 0 rfl) ?_
    refine lv_bipush (v := 8) hx hb d_Mo_needs_6 (by decide) ?_
    refine lv_icmp_ge (tgt := 15) hx hb d_Mo_needs_8 (by decide) (fun c_6 => ?_) (fun c_6 => ?_)
    · refine lv_iload_n hx hb d_Mo_needs_15 rfl (lv_at hl 0 rfl) ?_
      refine lv_bipush (v := 7) hx hb d_Mo_needs_16 (by decide) ?_
      refine lv_icmp_le (tgt := 27) hx hb d_Mo_needs_18 (by decide) (fun c_7 => ?_) (fun c_7 => ?_)
      · refine lv_iload_n hx hb d_Mo_needs_27 rfl (lv_at hl 0 rfl) ?_
        refine lv_bipush (v := 14) hx hb d_Mo_needs_28 (by decide) ?_
        refine lv_icmp_ne (tgt := 37) hx hb d_Mo_needs_30 (by decide) (fun c_8 => ?_) (fun c_8 => ?_)
        · refine lv_iconst (v := 0) hx hb d_Mo_needs_37 (by decide) ?_
          exact W.iret (v := 0) hx hb hr (fun t ht hW => ⟨0, rfl, (by rw [← hT]; simp only [f_mneeds, if_neg c_1, if_pos c_6, if_pos c_7, if_neg c_8]), by rw [ht, hH]⟩) (fun _ h => by cases h) d_Mo_needs_38
        · refine lv_iconst (v := 1) hx hb d_Mo_needs_33 (by decide) ?_
          refine lv_goto (tgt := 38) hx hb d_Mo_needs_34 (by decide) ?_
          exact W.iret (v := 1) hx hb hr (fun t ht hW => ⟨1, rfl, (by rw [← hT]; simp only [f_mneeds, if_neg c_1, if_pos c_6, if_pos c_7, if_pos c_8]), by rw [ht, hH]⟩) (fun _ h => by cases h) d_Mo_needs_38
      · refine lv_iload_n hx hb d_Mo_needs_21 rfl (lv_at hl 0 rfl) ?_
        refine lv_bipush (v := 12) hx hb d_Mo_needs_22 (by decide) ?_
        refine lv_icmp_lt (tgt := 33) hx hb d_Mo_needs_24 (by decide) (fun c_9 => ?_) (fun c_9 => ?_)
        · refine lv_iconst (v := 1) hx hb d_Mo_needs_33 (by decide) ?_
          refine lv_goto (tgt := 38) hx hb d_Mo_needs_34 (by decide) ?_
          exact W.iret (v := 1) hx hb hr (fun t ht hW => ⟨1, rfl, (by rw [← hT]; simp only [f_mneeds, if_neg c_1, if_pos c_6, if_neg c_7, if_pos c_9]), by rw [ht, hH]⟩) (fun _ h => by cases h) d_Mo_needs_38
        · refine lv_iload_n hx hb d_Mo_needs_27 rfl (lv_at hl 0 rfl) ?_
          refine lv_bipush (v := 14) hx hb d_Mo_needs_28 (by decide) ?_
          refine lv_icmp_ne (tgt := 37) hx hb d_Mo_needs_30 (by decide) (fun c_10 => ?_) (fun c_10 => ?_)
          · refine lv_iconst (v := 0) hx hb d_Mo_needs_37 (by decide) ?_
            exact W.iret (v := 0) hx hb hr (fun t ht hW => ⟨0, rfl, (by rw [← hT]; simp only [f_mneeds, if_neg c_1, if_pos c_6, if_neg c_7, if_neg c_9, if_neg c_10]), by rw [ht, hH]⟩) (fun _ h => by cases h) d_Mo_needs_38
          · refine lv_iconst (v := 1) hx hb d_Mo_needs_33 (by decide) ?_
            refine lv_goto (tgt := 38) hx hb d_Mo_needs_34 (by decide) ?_
            exact W.iret (v := 1) hx hb hr (fun t ht hW => ⟨1, rfl, (by rw [← hT]; simp only [f_mneeds, if_neg c_1, if_pos c_6, if_neg c_7, if_neg c_9, if_pos c_10]), by rw [ht, hH]⟩) (fun _ h => by cases h) d_Mo_needs_38
    · refine lv_iconst (v := 2) hx hb d_Mo_needs_11 (by decide) ?_
      refine lv_goto (tgt := 38) hx hb d_Mo_needs_12 (by decide) ?_
      exact W.iret (v := 2) hx hb hr (fun t ht hW => ⟨2, rfl, (by rw [← hT]; simp only [f_mneeds, if_neg c_1, if_neg c_6]), by rw [ht, hH]⟩) (fun _ h => by cases h) d_Mo_needs_38
def f_mhasNumber (op : Int32) : Int32 := if op < 2 then 1 else (if op = 9 then 1 else (if op = 10 then 1 else (if op = 13 then 1 else 0)))
set_option maxHeartbeats 4000000 in
set_option maxRecDepth 100000 in
theorem c_mhasNumber (l : Launch) (G : va_G) (cI cL cZ cR cE : ClassId)  (op : Int32) : Met l y_Mo_hasNumber w_Mo_hasNumber ({ frames := 0, cells := 0, slots := 0, locals := 0 }) (preR G (TYS cI cL cZ cR cE) [.int op] (([] : va_W))) (vp_Si (fun ans_ => ans_ = f_mhasNumber op)) 0 0 (fun _ => False) := by
  refine Met.ofW (cc := b_Mo_hasNumber) (maxL := 1) (ret := (some .boolean)) (by decide) rfl ?_
  intro p e s m args below meth c s₁ B hml hv
  obtain ⟨rfl, hP, hK, hN⟩ := hv
  have hx := B.exec
  have hb := B.bytes
  have hr := B.returns
  have hts := atoms_spec (ws := w_Mo_hasNumber) B.pre
  have hown : s.vm.findClass R_Mo = some m.cls := findClass_of_methodNamed B.named
  have hlocks := B.notSynchronized
  obtain ⟨H, hH⟩ : ∃ H, H = s.heap := ⟨_, rfl⟩
  rw [← hH] at hP
  rw [← hH]
  have hl := lv_entry ([.int op]) (n := 1) (Nat.le_of_ble_eq_true rfl)
  rw [lg_entry_eq]
  generalize (lg_sl ([.int op]) ++ List.replicate (1 - (lg_sl ([.int op])).length) Slot.unset).toArray = ls at hl ⊢
  replace hl : lv_has ls 1 [(0, .int op)] := hl
  generalize hT : f_mhasNumber op = T
  refine lv_iload_n hx hb d_Mo_hasNumber_0 rfl (lv_at hl 0 rfl) ?_
  refine lv_iconst (v := 2) hx hb d_Mo_hasNumber_1 (by decide) ?_
  refine lv_icmp_lt (tgt := 23) hx hb d_Mo_hasNumber_2 (by decide) (fun c_1 => ?_) (fun c_1 => ?_)
  · refine lv_iconst (v := 1) hx hb d_Mo_hasNumber_23 (by decide) ?_
    refine lv_goto (tgt := 28) hx hb d_Mo_hasNumber_24 (by decide) ?_
    exact W.zret (v := 1) hx hb hr rfl (fun t ht hW => ⟨1, rfl, (by rw [← hT]; simp only [f_mhasNumber, if_pos c_1]), by rw [ht, hH]⟩) (fun _ h => by cases h) d_Mo_hasNumber_28
  · refine lv_iload_n hx hb d_Mo_hasNumber_5 rfl (lv_at hl 0 rfl) ?_
    refine lv_bipush (v := 9) hx hb d_Mo_hasNumber_6 (by decide) ?_
    refine lv_icmp_eq (tgt := 23) hx hb d_Mo_hasNumber_8 (by decide) (fun c_2 => ?_) (fun c_2 => ?_)
    · refine lv_iconst (v := 1) hx hb d_Mo_hasNumber_23 (by decide) ?_
      refine lv_goto (tgt := 28) hx hb d_Mo_hasNumber_24 (by decide) ?_
      exact W.zret (v := 1) hx hb hr rfl (fun t ht hW => ⟨1, rfl, (by rw [← hT]; simp only [f_mhasNumber, if_neg c_1, if_pos c_2]), by rw [ht, hH]⟩) (fun _ h => by cases h) d_Mo_hasNumber_28
    · refine lv_iload_n hx hb d_Mo_hasNumber_11 rfl (lv_at hl 0 rfl) ?_
      refine lv_bipush (v := 10) hx hb d_Mo_hasNumber_12 (by decide) ?_
      refine lv_icmp_eq (tgt := 23) hx hb d_Mo_hasNumber_14 (by decide) (fun c_3 => ?_) (fun c_3 => ?_)
      · refine lv_iconst (v := 1) hx hb d_Mo_hasNumber_23 (by decide) ?_
        refine lv_goto (tgt := 28) hx hb d_Mo_hasNumber_24 (by decide) ?_
        exact W.zret (v := 1) hx hb hr rfl (fun t ht hW => ⟨1, rfl, (by rw [← hT]; simp only [f_mhasNumber, if_neg c_1, if_neg c_2, if_pos c_3]), by rw [ht, hH]⟩) (fun _ h => by cases h) d_Mo_hasNumber_28
      · refine lv_iload_n hx hb d_Mo_hasNumber_17 rfl (lv_at hl 0 rfl) ?_
        refine lv_bipush (v := 13) hx hb d_Mo_hasNumber_18 (by decide) ?_
        refine lv_icmp_ne (tgt := 27) hx hb d_Mo_hasNumber_20 (by decide) (fun c_4 => ?_) (fun c_4 => ?_)
        · refine lv_iconst (v := 0) hx hb d_Mo_hasNumber_27 (by decide) ?_
          exact W.zret (v := 0) hx hb hr rfl (fun t ht hW => ⟨0, rfl, (by rw [← hT]; simp only [f_mhasNumber, if_neg c_1, if_neg c_2, if_neg c_3, if_neg c_4]), by rw [ht, hH]⟩) (fun _ h => by cases h) d_Mo_hasNumber_28
        · refine lv_iconst (v := 1) hx hb d_Mo_hasNumber_23 (by decide) ?_
          refine lv_goto (tgt := 28) hx hb d_Mo_hasNumber_24 (by decide) ?_
          exact W.zret (v := 1) hx hb hr rfl (fun t ht hW => ⟨1, rfl, (by rw [← hT]; simp only [f_mhasNumber, if_neg c_1, if_neg c_2, if_neg c_3, if_pos c_4]), by rw [ht, hH]⟩) (fun _ h => by cases h) d_Mo_hasNumber_28
