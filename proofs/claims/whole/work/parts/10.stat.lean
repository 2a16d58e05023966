def f_isWithin (v : Int64) (lo : Int64) (hi : Int64) : Int32 := if v < lo then 0 else (if hi < v then 0 else 1)
set_option maxHeartbeats 4000000 in
set_option maxRecDepth 100000 in
theorem c_isWithin (l : Launch) (G : va_G) (cI cL cZ cR cE : ClassId)  (v : Int64) (lo : Int64) (hi : Int64) : Met l y_Hr_isWithin w_Hr_isWithin ({ frames := 0, cells := 0, slots := 0, locals := 0 }) (preR G (TYS cI cL cZ cR cE) [.long v, .long lo, .long hi] (([] : va_W))) (vp_Si (fun ans_ => ans_ = f_isWithin v lo hi)) 0 0 (fun _ => False) := by
  refine Met.ofW (cc := b_Hr_isWithin) (maxL := 6) (ret := (some .boolean)) (by decide) rfl ?_
  intro p e s m args below meth c s₁ B hml hv
  obtain ⟨rfl, hP, hK, hN⟩ := hv
  have hx := B.exec
  have hb := B.bytes
  have hr := B.returns
  have hts := atoms_spec (ws := w_Hr_isWithin) B.pre
  have hown : s.vm.findClass R_Hr = some m.cls := findClass_of_methodNamed B.named
  have hlocks := B.notSynchronized
  obtain ⟨H, hH⟩ : ∃ H, H = s.heap := ⟨_, rfl⟩
  rw [← hH] at hP
  rw [← hH]
  have hl := lv_entry ([.long v, .long lo, .long hi]) (n := 6) (Nat.le_of_ble_eq_true rfl)
  rw [lg_entry_eq]
  generalize (lg_sl ([.long v, .long lo, .long hi]) ++ List.replicate (6 - (lg_sl ([.long v, .long lo, .long hi])).length) Slot.unset).toArray = ls at hl ⊢
  replace hl : lv_has ls 6 [(0, .long v), (2, .long lo), (4, .long hi)] := hl
  generalize hT : f_isWithin v lo hi = T
  refine lv_lload_n hx hb d_Hr_isWithin_0 rfl (lv_at hl 0 rfl) ?_
  refine lv_lload_n hx hb d_Hr_isWithin_1 rfl (lv_at hl 1 rfl) ?_
  refine lc_lt (x := v) (y := lo) (tgt := 17) hx hb d_Hr_isWithin_2 d_Hr_isWithin_3 (by decide) (fun c_1 => ?_) (fun c_1 => ?_)
  · refine lv_iconst (v := 0) hx hb d_Hr_isWithin_17 (by decide) ?_
    exact W.zret (v := 0) hx hb hr rfl (fun t ht hW => ⟨0, rfl, (by rw [← hT]; simp only [f_isWithin, if_pos c_1]), by rw [ht, hH]⟩) (fun _ h => by cases h) d_Hr_isWithin_18
  · refine lv_lload_n hx hb d_Hr_isWithin_6 rfl (lv_at hl 0 rfl) ?_
    refine lv_lload hx hb d_Hr_isWithin_7 (lv_at hl 2 rfl) ?_
    refine lc_gt (x := v) (y := hi) (tgt := 17) hx hb d_Hr_isWithin_9 d_Hr_isWithin_10 (by decide) (fun c_2 => ?_) (fun c_2 => ?_)
    · refine lv_iconst (v := 0) hx hb d_Hr_isWithin_17 (by decide) ?_
      exact W.zret (v := 0) hx hb hr rfl (fun t ht hW => ⟨0, rfl, (by rw [← hT]; simp only [f_isWithin, if_neg c_1, if_pos c_2]), by rw [ht, hH]⟩) (fun _ h => by cases h) d_Hr_isWithin_18
    · refine lv_iconst (v := 1) hx hb d_Hr_isWithin_13 (by decide) ?_
      refine lv_goto (tgt := 18) hx hb d_Hr_isWithin_14 (by decide) ?_
      exact W.zret (v := 1) hx hb hr rfl (fun t ht hW => ⟨1, rfl, (by rw [← hT]; simp only [f_isWithin, if_neg c_1, if_neg c_2]), by rw [ht, hH]⟩) (fun _ h => by cases h) d_Hr_isWithin_18
theorem f_isWithin_01 (v lo hi : Int64) : f_isWithin v lo hi = 0 ∨ f_isWithin v lo hi = 1 := by
  unfold f_isWithin
  split
  · exact Or.inl rfl
  · split
    · exact Or.inl rfl
    · exact Or.inr rfl
theorem f_isWithin_iff (v lo hi : Int64) : ¬ f_isWithin v lo hi = 0 ↔ lo.toInt ≤ v.toInt ∧ v.toInt ≤ hi.toInt := by
  unfold f_isWithin
  by_cases c1 : v < lo
  · rw [if_pos c1]
    rw [Int64.lt_iff_toInt_lt] at c1
    constructor
    · intro h; exact absurd rfl h
    · intro h; omega
  · rw [if_neg c1]
    rw [Int64.lt_iff_toInt_lt] at c1
    by_cases c2 : hi < v
    · rw [if_pos c2]
      rw [Int64.lt_iff_toInt_lt] at c2
      constructor
      · intro h; exact absurd rfl h
      · intro h; omega
    · rw [if_neg c2]
      rw [Int64.lt_iff_toInt_lt] at c2
      exact ⟨fun _ => by omega, fun _ => by decide⟩
theorem ix_w {k b : Int64} {n : Nat} (h : ¬ f_isWithin k 0 b = 0) (hb : b.toInt + 1 = (n : Int)) (hn : n ≤ 2147483648) : vp_in k.toInt32 n := by
  obtain ⟨h1, h2⟩ := (f_isWithin_iff k 0 b).mp h
  have h0 : (0 : Int64).toInt = 0 := rfl
  rw [vp_in_iff, l2i_small (by omega) (by omega)]
  omega
theorem ix_lw {k b B : Int64} {n : Nat} (h : ¬ f_isWithin k 0 b = 0) (h3 : ¬ B ≤ k) (hb : B.toInt = (n : Int)) (hn : n ≤ 2147483648) : vp_in k.toInt32 n := by
  obtain ⟨h1, h2⟩ := (f_isWithin_iff k 0 b).mp h
  have h0 : (0 : Int64).toInt = 0 := rfl
  rw [Int64.le_iff_toInt_le] at h3
  rw [vp_in_iff, l2i_small (by omega) (by omega)]
  omega
def f_isInstruction (op : Int32) (n : Int64) : Int32 := if op = 1 then (f_isWithin n 0 7) else (if op = 9 then (if n = 0 then 0 else (if (f_isWithin n (-12) 12) = 0 then 0 else 1)) else (if op = 10 then (f_isWithin n 0 3) else (if op = 13 then (f_isWithin n 0 7) else (f_isWithin op.toInt64 0 15))))
set_option maxHeartbeats 4000000 in
set_option maxRecDepth 100000 in
theorem c_isInstruction (l : Launch) (G : va_G) (cI cL cZ cR cE : ClassId)  (op : Int32) (n : Int64) : Met l y_Hr_isInstruction w_Hr_isInstruction ({ frames := 1, cells := 0, slots := 0, locals := 25 }) (preR G (TYS cI cL cZ cR cE) [.int op, .long n] (([] : va_W))) (vp_Si (fun ans_ => ans_ = f_isInstruction op n)) 0 0 (fun _ => False) := by
  refine Met.ofW (cc := b_Hr_isInstruction) (maxL := 3) (ret := (some .boolean)) (by decide) rfl ?_
  intro p e s m args below meth c s₁ B hml hv
  obtain ⟨rfl, hP, hK, hN⟩ := hv
  have hx := B.exec
  have hb := B.bytes
  have hr := B.returns
  have hts := atoms_spec (ws := w_Hr_isInstruction) B.pre
  have hown : s.vm.findClass R_Hr = some m.cls := findClass_of_methodNamed B.named
  have hlocks := B.notSynchronized
  obtain ⟨H, hH⟩ : ∃ H, H = s.heap := ⟨_, rfl⟩
  rw [← hH] at hP
  rw [← hH]
  have hk_1 := hts (.constantLong R_Hr 122 7) (List.mem_cons_of_mem _ kw_248)
  have hk_2 := hts (.constantLong R_Hr 234 (-12)) (List.mem_cons_of_mem _ kw_249)
  have hk_3 := hts (.constantLong R_Hr 236 12) (List.mem_cons_of_mem _ kw_250)
  have hk_4 := hts (.constantLong R_Hr 113 3) (List.mem_cons_of_mem _ kw_251)
  have hk_5 := hts (.constantLong R_Hr 238 15) (List.mem_cons_of_mem _ kw_252)
  have hl := lv_entry ([.int op, .long n]) (n := 3) (Nat.le_of_ble_eq_true rfl)
  rw [lg_entry_eq]
  generalize (lg_sl ([.int op, .long n]) ++ List.replicate (3 - (lg_sl ([.int op, .long n])).length) Slot.unset).toArray = ls at hl ⊢
  replace hl : lv_has ls 3 [(0, .int op), (1, .long n)] := hl
  generalize hT : f_isInstruction op n = T
  refine lv_iload_n hx hb d_Hr_isInstruction_0 rfl (lv_at hl 0 rfl) ?_
  by_cases c_1 : op = 1
  · refine sw_l (x := op) (tgt := 44) hx hb d_Hr_isInstruction_1 (by decide) (by rw [c_1]; decide) ?_
    refine lv_lload_n hx hb d_Hr_isInstruction_44 rfl (lv_at hl 1 rfl) ?_
    refine lv_lconst (v := 0) hx hb d_Hr_isInstruction_45 (by decide) ?_
    refine lv_ldc2 (v := 7) hx hb hown hk_1 d_Hr_isInstruction_46 ?_
    refine vp_callSi (W.runS (As := [.long n, .long 0, .long 7]) (rest := []) ⟨hx, hb, hml, hown, hts⟩ (c_isWithin l G cI cL cZ cR cE  n 0 7) (va_cwS 3 hts (gS kw_178 kw_179 kw_15 kw_180) rfl rfl rfl (by decide +kernel) ⟨Nat.le_of_ble_eq_true rfl, Nat.le_of_ble_eq_true rfl⟩) (preRS_of hN hK hP [] rfl) rfl rfl hl.1 rfl (lv_room (Nat.le_of_ble_eq_true rfl)) d_Hr_isInstruction_49 ⟨Nat.zero_le _, Nat.zero_le _⟩) (fun r_2 hw => ?_)
    subst hw
    exact W.zret (v := f_isWithin n 0 7) hx hb hr (nar01 (f_isWithin_01 _ _ _)) (fun t ht hW => ⟨f_isWithin n 0 7, rfl, (by rw [← hT]; simp only [f_isInstruction, if_pos c_1]), by rw [ht, hH]⟩) (fun _ h => by cases h) d_Hr_isInstruction_52
  ·
    by_cases c_3 : op = 9
    · refine sw_l (x := op) (tgt := 53) hx hb d_Hr_isInstruction_1 (by decide) (by rw [c_3]; decide) ?_
      refine lv_lload_n hx hb d_Hr_isInstruction_53 rfl (lv_at hl 1 rfl) ?_
      refine lv_lconst (v := 0) hx hb d_Hr_isInstruction_54 (by decide) ?_
      refine lc_eq (x := n) (y := 0) (tgt := 76) hx hb d_Hr_isInstruction_55 d_Hr_isInstruction_56 (by decide) (fun c_4 => ?_) (fun c_4 => ?_)
      · refine lv_iconst (v := 0) hx hb d_Hr_isInstruction_76 (by decide) ?_
        exact W.zret (v := 0) hx hb hr rfl (fun t ht hW => ⟨0, rfl, (by rw [← hT]; simp only [f_isInstruction, if_neg c_1, if_pos c_3, if_pos c_4]), by rw [ht, hH]⟩) (fun _ h => by cases h) d_Hr_isInstruction_77
      · refine lv_lload_n hx hb d_Hr_isInstruction_59 rfl (lv_at hl 1 rfl) ?_
        refine lv_ldc2 (v := (-12)) hx hb hown hk_2 d_Hr_isInstruction_60 ?_
        refine lv_ldc2 (v := 12) hx hb hown hk_3 d_Hr_isInstruction_63 ?_
        refine vp_callSi (W.runS (As := [.long n, .long (-12), .long 12]) (rest := []) ⟨hx, hb, hml, hown, hts⟩ (c_isWithin l G cI cL cZ cR cE  n (-12) 12) (va_cwS 3 hts (gS kw_178 kw_179 kw_15 kw_180) rfl rfl rfl (by decide +kernel) ⟨Nat.le_of_ble_eq_true rfl, Nat.le_of_ble_eq_true rfl⟩) (preRS_of hN hK hP [] rfl) rfl rfl hl.1 rfl (lv_room (Nat.le_of_ble_eq_true rfl)) d_Hr_isInstruction_66 ⟨Nat.zero_le _, Nat.zero_le _⟩) (fun r_5 hw => ?_)
        subst hw
        refine lv_if_eq (tgt := 76) hx hb d_Hr_isInstruction_69 (by decide) (fun c_6 => ?_) (fun c_6 => ?_)
        · refine lv_iconst (v := 0) hx hb d_Hr_isInstruction_76 (by decide) ?_
          exact W.zret (v := 0) hx hb hr rfl (fun t ht hW => ⟨0, rfl, (by rw [← hT]; simp only [f_isInstruction, if_neg c_1, if_pos c_3, if_neg c_4, if_pos c_6]), by rw [ht, hH]⟩) (fun _ h => by cases h) d_Hr_isInstruction_77
        · refine lv_iconst (v := 1) hx hb d_Hr_isInstruction_72 (by decide) ?_
          refine lv_goto (tgt := 77) hx hb d_Hr_isInstruction_73 (by decide) ?_
          exact W.zret (v := 1) hx hb hr rfl (fun t ht hW => ⟨1, rfl, (by rw [← hT]; simp only [f_isInstruction, if_neg c_1, if_pos c_3, if_neg c_4, if_neg c_6]), by rw [ht, hH]⟩) (fun _ h => by cases h) d_Hr_isInstruction_77
    ·
      by_cases c_7 : op = 10
      · refine sw_l (x := op) (tgt := 78) hx hb d_Hr_isInstruction_1 (by decide) (by rw [c_7]; decide) ?_
        refine lv_lload_n hx hb d_Hr_isInstruction_78 rfl (lv_at hl 1 rfl) ?_
        refine lv_lconst (v := 0) hx hb d_Hr_isInstruction_79 (by decide) ?_
        refine lv_ldc2 (v := 3) hx hb hown hk_4 d_Hr_isInstruction_80 ?_
        refine vp_callSi (W.runS (As := [.long n, .long 0, .long 3]) (rest := []) ⟨hx, hb, hml, hown, hts⟩ (c_isWithin l G cI cL cZ cR cE  n 0 3) (va_cwS 3 hts (gS kw_178 kw_179 kw_15 kw_180) rfl rfl rfl (by decide +kernel) ⟨Nat.le_of_ble_eq_true rfl, Nat.le_of_ble_eq_true rfl⟩) (preRS_of hN hK hP [] rfl) rfl rfl hl.1 rfl (lv_room (Nat.le_of_ble_eq_true rfl)) d_Hr_isInstruction_83 ⟨Nat.zero_le _, Nat.zero_le _⟩) (fun r_8 hw => ?_)
        subst hw
        exact W.zret (v := f_isWithin n 0 3) hx hb hr (nar01 (f_isWithin_01 _ _ _)) (fun t ht hW => ⟨f_isWithin n 0 3, rfl, (by rw [← hT]; simp only [f_isInstruction, if_neg c_1, if_neg c_3, if_pos c_7]), by rw [ht, hH]⟩) (fun _ h => by cases h) d_Hr_isInstruction_86
      ·
        by_cases c_9 : op = 13
        · refine sw_l (x := op) (tgt := 44) hx hb d_Hr_isInstruction_1 (by decide) (by rw [c_9]; decide) ?_
          refine lv_lload_n hx hb d_Hr_isInstruction_44 rfl (lv_at hl 1 rfl) ?_
          refine lv_lconst (v := 0) hx hb d_Hr_isInstruction_45 (by decide) ?_
          refine lv_ldc2 (v := 7) hx hb hown hk_1 d_Hr_isInstruction_46 ?_
          refine vp_callSi (W.runS (As := [.long n, .long 0, .long 7]) (rest := []) ⟨hx, hb, hml, hown, hts⟩ (c_isWithin l G cI cL cZ cR cE  n 0 7) (va_cwS 3 hts (gS kw_178 kw_179 kw_15 kw_180) rfl rfl rfl (by decide +kernel) ⟨Nat.le_of_ble_eq_true rfl, Nat.le_of_ble_eq_true rfl⟩) (preRS_of hN hK hP [] rfl) rfl rfl hl.1 rfl (lv_room (Nat.le_of_ble_eq_true rfl)) d_Hr_isInstruction_49 ⟨Nat.zero_le _, Nat.zero_le _⟩) (fun r_10 hw => ?_)
          subst hw
          exact W.zret (v := f_isWithin n 0 7) hx hb hr (nar01 (f_isWithin_01 _ _ _)) (fun t ht hW => ⟨f_isWithin n 0 7, rfl, (by rw [← hT]; simp only [f_isInstruction, if_neg c_1, if_neg c_3, if_neg c_7, if_pos c_9]), by rw [ht, hH]⟩) (fun _ h => by cases h) d_Hr_isInstruction_52
        ·
          refine sw_l (x := op) (tgt := 87) hx hb d_Hr_isInstruction_1 (by decide) (sw_ld [1, 9, 10, 13] (by decide) (by decide) (List.forall_mem_cons.mpr ⟨sw_ne c_1 rfl, (List.forall_mem_cons.mpr ⟨sw_ne c_3 rfl, (List.forall_mem_cons.mpr ⟨sw_ne c_7 rfl, (List.forall_mem_cons.mpr ⟨sw_ne c_9 rfl, (fun _ h => nomatch h)⟩)⟩)⟩)⟩)) ?_
          refine lv_iload_n hx hb d_Hr_isInstruction_87 rfl (lv_at hl 0 rfl) ?_
          refine lv_i2l (v := op.toInt64) hx hb d_Hr_isInstruction_88 rfl ?_
          refine lv_lconst (v := 0) hx hb d_Hr_isInstruction_89 (by decide) ?_
          refine lv_ldc2 (v := 15) hx hb hown hk_5 d_Hr_isInstruction_90 ?_
          refine vp_callSi (W.runS (As := [.long op.toInt64, .long 0, .long 15]) (rest := []) ⟨hx, hb, hml, hown, hts⟩ (c_isWithin l G cI cL cZ cR cE  op.toInt64 0 15) (va_cwS 3 hts (gS kw_178 kw_179 kw_15 kw_180) rfl rfl rfl (by decide +kernel) ⟨Nat.le_of_ble_eq_true rfl, Nat.le_of_ble_eq_true rfl⟩) (preRS_of hN hK hP [] rfl) rfl rfl hl.1 rfl (lv_room (Nat.le_of_ble_eq_true rfl)) d_Hr_isInstruction_93 ⟨Nat.zero_le _, Nat.zero_le _⟩) (fun r_11 hw => ?_)
          subst hw
          exact W.zret (v := f_isWithin op.toInt64 0 15) hx hb hr (nar01 (f_isWithin_01 _ _ _)) (fun t ht hW => ⟨f_isWithin op.toInt64 0 15, rfl, (by rw [← hT]; simp only [f_isInstruction, if_neg c_1, if_neg c_3, if_neg c_7, if_neg c_9]), by rw [ht, hH]⟩) (fun _ h => by cases h) d_Hr_isInstruction_96
def f_hasNumber (op : Int32) : Int32 := if op = 0 then 1 else (if op = 1 then 1 else (if op = 9 then 1 else (if op = 10 then 1 else (if op = 13 then 1 else 0))))
set_option maxHeartbeats 4000000 in
set_option maxRecDepth 100000 in
theorem c_hasNumber (l : Launch) (G : va_G) (cI cL cZ cR cE : ClassId)  (op : Int32) : Met l y_Hr_hasNumber w_Hr_hasNumber ({ frames := 0, cells := 0, slots := 0, locals := 0 }) (preR G (TYS cI cL cZ cR cE) [.int op] (([] : va_W))) (vp_Si (fun ans_ => ans_ = f_hasNumber op)) 0 0 (fun _ => False) := by
  refine Met.ofW (cc := b_Hr_hasNumber) (maxL := 1) (ret := (some .boolean)) (by decide) rfl ?_
  intro p e s m args below meth c s₁ B hml hv
  obtain ⟨rfl, hP, hK, hN⟩ := hv
  have hx := B.exec
  have hb := B.bytes
  have hr := B.returns
  have hts := atoms_spec (ws := w_Hr_hasNumber) B.pre
  have hown : s.vm.findClass R_Hr = some m.cls := findClass_of_methodNamed B.named
  have hlocks := B.notSynchronized
  obtain ⟨H, hH⟩ : ∃ H, H = s.heap := ⟨_, rfl⟩
  rw [← hH] at hP
  rw [← hH]
  have hl := lv_entry ([.int op]) (n := 1) (Nat.le_of_ble_eq_true rfl)
  rw [lg_entry_eq]
  generalize (lg_sl ([.int op]) ++ List.replicate (1 - (lg_sl ([.int op])).length) Slot.unset).toArray = ls at hl ⊢
  replace hl : lv_has ls 1 [(0, .int op)] := hl
  generalize hT : f_hasNumber op = T
  refine lv_iload_n hx hb d_Hr_hasNumber_0 rfl (lv_at hl 0 rfl) ?_
  refine lv_if_eq (tgt := 27) hx hb d_Hr_hasNumber_1 (by decide) (fun c_1 => ?_) (fun c_1 => ?_)
  · refine lv_iconst (v := 1) hx hb d_Hr_hasNumber_27 (by decide) ?_
    refine lv_goto (tgt := 32) hx hb d_Hr_hasNumber_28 (by decide) ?_
    exact W.zret (v := 1) hx hb hr rfl (fun t ht hW => ⟨1, rfl, (by rw [← hT]; simp only [f_hasNumber, if_pos c_1]), by rw [ht, hH]⟩) (fun _ h => by cases h) d_Hr_hasNumber_32
  · refine lv_iload_n hx hb d_Hr_hasNumber_4 rfl (lv_at hl 0 rfl) ?_
    refine lv_iconst (v := 1) hx hb d_Hr_hasNumber_5 (by decide) ?_
    refine lv_icmp_eq (tgt := 27) hx hb d_Hr_hasNumber_6 (by decide) (fun c_2 => ?_) (fun c_2 => ?_)
    · refine lv_iconst (v := 1) hx hb d_Hr_hasNumber_27 (by decide) ?_
      refine lv_goto (tgt := 32) hx hb d_Hr_hasNumber_28 (by decide) ?_
      exact W.zret (v := 1) hx hb hr rfl (fun t ht hW => ⟨1, rfl, (by rw [← hT]; simp only [f_hasNumber, if_neg c_1, if_pos c_2]), by rw [ht, hH]⟩) (fun _ h => by cases h) d_Hr_hasNumber_32
    · refine lv_iload_n hx hb d_Hr_hasNumber_9 rfl (lv_at hl 0 rfl) ?_
      refine lv_bipush (v := 9) hx hb d_Hr_hasNumber_10 (by decide) ?_
      refine lv_icmp_eq (tgt := 27) hx hb d_Hr_hasNumber_12 (by decide) (fun c_3 => ?_) (fun c_3 => ?_)
      · refine lv_iconst (v := 1) hx hb d_Hr_hasNumber_27 (by decide) ?_
        refine lv_goto (tgt := 32) hx hb d_Hr_hasNumber_28 (by decide) ?_
        exact W.zret (v := 1) hx hb hr rfl (fun t ht hW => ⟨1, rfl, (by rw [← hT]; simp only [f_hasNumber, if_neg c_1, if_neg c_2, if_pos c_3]), by rw [ht, hH]⟩) (fun _ h => by cases h) d_Hr_hasNumber_32
      · refine lv_iload_n hx hb d_Hr_hasNumber_15 rfl (lv_at hl 0 rfl) ?_
        refine lv_bipush (v := 10) hx hb d_Hr_hasNumber_16 (by decide) ?_
        refine lv_icmp_eq (tgt := 27) hx hb d_Hr_hasNumber_18 (by decide) (fun c_4 => ?_) (fun c_4 => ?_)
        · refine lv_iconst (v := 1) hx hb d_Hr_hasNumber_27 (by decide) ?_
          refine lv_goto (tgt := 32) hx hb d_Hr_hasNumber_28 (by decide) ?_
          exact W.zret (v := 1) hx hb hr rfl (fun t ht hW => ⟨1, rfl, (by rw [← hT]; simp only [f_hasNumber, if_neg c_1, if_neg c_2, if_neg c_3, if_pos c_4]), by rw [ht, hH]⟩) (fun _ h => by cases h) d_Hr_hasNumber_32
        · refine lv_iload_n hx hb d_Hr_hasNumber_21 rfl (lv_at hl 0 rfl) ?_
          refine lv_bipush (v := 13) hx hb d_Hr_hasNumber_22 (by decide) ?_
          refine lv_icmp_ne (tgt := 31) hx hb d_Hr_hasNumber_24 (by decide) (fun c_5 => ?_) (fun c_5 => ?_)
          · refine lv_iconst (v := 0) hx hb d_Hr_hasNumber_31 (by decide) ?_
            exact W.zret (v := 0) hx hb hr rfl (fun t ht hW => ⟨0, rfl, (by rw [← hT]; simp only [f_hasNumber, if_neg c_1, if_neg c_2, if_neg c_3, if_neg c_4, if_neg c_5]), by rw [ht, hH]⟩) (fun _ h => by cases h) d_Hr_hasNumber_32
          · refine lv_iconst (v := 1) hx hb d_Hr_hasNumber_27 (by decide) ?_
            refine lv_goto (tgt := 32) hx hb d_Hr_hasNumber_28 (by decide) ?_
            exact W.zret (v := 1) hx hb hr rfl (fun t ht hW => ⟨1, rfl, (by rw [← hT]; simp only [f_hasNumber, if_neg c_1, if_neg c_2, if_neg c_3, if_neg c_4, if_pos c_5]), by rw [ht, hH]⟩) (fun _ h => by cases h) d_Hr_hasNumber_32
def f_takesTwo (op : Int32) : Int32 := if op < 2 then 0 else (if 7 < op then 0 else 1)
set_option maxHeartbeats 4000000 in
set_option maxRecDepth 100000 in
theorem c_takesTwo (l : Launch) (G : va_G) (cI cL cZ cR cE : ClassId)  (op : Int32) : Met l y_Hr_takesTwo w_Hr_takesTwo ({ frames := 0, cells := 0, slots := 0, locals := 0 }) (preR G (TYS cI cL cZ cR cE) [.int op] (([] : va_W))) (vp_Si (fun ans_ => ans_ = f_takesTwo op)) 0 0 (fun _ => False) := by
  refine Met.ofW (cc := b_Hr_takesTwo) (maxL := 1) (ret := (some .boolean)) (by decide) rfl ?_
  intro p e s m args below meth c s₁ B hml hv
  obtain ⟨rfl, hP, hK, hN⟩ := hv
  have hx := B.exec
  have hb := B.bytes
  have hr := B.returns
  have hts := atoms_spec (ws := w_Hr_takesTwo) B.pre
  have hown : s.vm.findClass R_Hr = some m.cls := findClass_of_methodNamed B.named
  have hlocks := B.notSynchronized
  obtain ⟨H, hH⟩ : ∃ H, H = s.heap := ⟨_, rfl⟩
  rw [← hH] at hP
  rw [← hH]
  have hl := lv_entry ([.int op]) (n := 1) (Nat.le_of_ble_eq_true rfl)
  rw [lg_entry_eq]
  generalize (lg_sl ([.int op]) ++ List.replicate (1 - (lg_sl ([.int op])).length) Slot.unset).toArray = ls at hl ⊢
  replace hl : lv_has ls 1 [(0, .int op)] := hl
  generalize hT : f_takesTwo op = T
  refine lv_iload_n hx hb d_Hr_takesTwo_0 rfl (lv_at hl 0 rfl) ?_
  refine lv_iconst (v := 2) hx hb d_Hr_takesTwo_1 (by decide) ?_
  refine lv_icmp_lt (tgt := 15) hx hb d_Hr_takesTwo_2 (by decide) (fun c_1 => ?_) (fun c_1 => ?_)
  · refine lv_iconst (v := 0) hx hb d_Hr_takesTwo_15 (by decide) ?_
    exact W.zret (v := 0) hx hb hr rfl (fun t ht hW => ⟨0, rfl, (by rw [← hT]; simp only [f_takesTwo, if_pos c_1]), by rw [ht, hH]⟩) (fun _ h => by cases h) d_Hr_takesTwo_16
  · refine lv_iload_n hx hb d_Hr_takesTwo_5 rfl (lv_at hl 0 rfl) ?_
    refine lv_bipush (v := 7) hx hb d_Hr_takesTwo_6 (by decide) ?_
    refine lv_icmp_gt (tgt := 15) hx hb d_Hr_takesTwo_8 (by decide) (fun c_2 => ?_) (fun c_2 => ?_)
    · refine lv_iconst (v := 0) hx hb d_Hr_takesTwo_15 (by decide) ?_
      exact W.zret (v := 0) hx hb hr rfl (fun t ht hW => ⟨0, rfl, (by rw [← hT]; simp only [f_takesTwo, if_neg c_1, if_pos c_2]), by rw [ht, hH]⟩) (fun _ h => by cases h) d_Hr_takesTwo_16
    · refine lv_iconst (v := 1) hx hb d_Hr_takesTwo_11 (by decide) ?_
      refine lv_goto (tgt := 16) hx hb d_Hr_takesTwo_12 (by decide) ?_
      exact W.zret (v := 1) hx hb hr rfl (fun t ht hW => ⟨1, rfl, (by rw [← hT]; simp only [f_takesTwo, if_neg c_1, if_neg c_2]), by rw [ht, hH]⟩) (fun _ h => by cases h) d_Hr_takesTwo_16
def f_takes (op : Int32) : Int32 := if (f_takesTwo op) = 0 then (if op < 8 then (if op = 14 then 1 else 0) else (if op ≤ 11 then 1 else (if op = 14 then 1 else 0))) else 2
set_option maxHeartbeats 4000000 in
set_option maxRecDepth 100000 in
theorem c_takes (l : Launch) (G : va_G) (cI cL cZ cR cE : ClassId)  (op : Int32) : Met l y_Hr_takes w_Hr_takes ({ frames := 1, cells := 0, slots := 0, locals := 20 }) (preR G (TYS cI cL cZ cR cE) [.int op] (([] : va_W))) (vp_Si (fun ans_ => ans_ = f_takes op)) 0 0 (fun _ => False) := by
  refine Met.ofW (cc := b_Hr_takes) (maxL := 1) (ret := (some .int)) (by decide) rfl ?_
  intro p e s m args below meth c s₁ B hml hv
  obtain ⟨rfl, hP, hK, hN⟩ := hv
  have hx := B.exec
  have hb := B.bytes
  have hr := B.returns
  have hts := atoms_spec (ws := w_Hr_takes) B.pre
  have hown : s.vm.findClass R_Hr = some m.cls := findClass_of_methodNamed B.named
  have hlocks := B.notSynchronized
  obtain ⟨H, hH⟩ : ∃ H, H = s.heap := ⟨_, rfl⟩
  rw [← hH] at hP
  rw [← hH]
  have hl := lv_entry ([.int op]) (n := 1) (Nat.le_of_ble_eq_true rfl)
  rw [lg_entry_eq]
  generalize (lg_sl ([.int op]) ++ List.replicate (1 - (lg_sl ([.int op])).length) Slot.unset).toArray = ls at hl ⊢
  replace hl : lv_has ls 1 [(0, .int op)] := hl
  generalize hT : f_takes op = T
  refine lv_iload_n hx hb d_Hr_takes_0 rfl (lv_at hl 0 rfl) ?_
  refine vp_callSi (W.runS (As := [.int op]) (rest := []) ⟨hx, hb, hml, hown, hts⟩ (c_takesTwo l G cI cL cZ cR cE  op) (va_cwS 1 hts (gS kw_315 kw_316 kw_15 kw_317) rfl rfl rfl (by decide +kernel) ⟨Nat.le_of_ble_eq_true rfl, Nat.le_of_ble_eq_true rfl⟩) (preRS_of hN hK hP [] rfl) rfl rfl hl.1 rfl (lv_room (Nat.le_of_ble_eq_true rfl)) d_Hr_takes_1 ⟨Nat.zero_le _, Nat.zero_le _⟩) (fun r_1 hw => ?_)
  subst hw
  refine lv_if_eq (tgt := 9) hx hb d_Hr_takes_4 (by decide) (fun c_2 => ?_) (fun c_2 => ?_)
  · refine lv_iload_n hx hb d_Hr_takes_9 rfl (lv_at hl 0 rfl) ?_
    refine lv_bipush (v := 8) hx hb d_Hr_takes_10 (by decide) ?_
    refine lv_icmp_lt (tgt := 21) hx hb d_Hr_takes_12 (by decide) (fun c_3 => ?_) (fun c_3 => ?_)
    · refine lv_iload_n hx hb d_Hr_takes_21 rfl (lv_at hl 0 rfl) ?_
      refine lv_bipush (v := 14) hx hb d_Hr_takes_22 (by decide) ?_
      refine lv_icmp_ne (tgt := 31) hx hb d_Hr_takes_24 (by decide) (fun c_4 => ?_) (fun c_4 => ?_)
      · refine lv_iconst (v := 0) hx hb d_Hr_takes_31 (by decide) ?_
        exact W.iret (v := 0) hx hb hr (fun t ht hW => ⟨0, rfl, (by rw [← hT]; simp only [f_takes, if_pos c_2, if_pos c_3, if_neg c_4]), by rw [ht, hH]⟩) (fun _ h => by cases h) d_Hr_takes_32
      · refine lv_iconst (v := 1) hx hb d_Hr_takes_27 (by decide) ?_
        refine lv_goto (tgt := 32) hx hb d_Hr_takes_28 (by decide) ?_
        exact W.iret (v := 1) hx hb hr (fun t ht hW => ⟨1, rfl, (by rw [← hT]; simp only [f_takes, if_pos c_2, if_pos c_3, if_pos c_4]), by rw [ht, hH]⟩) (fun _ h => by cases h) d_Hr_takes_32
    · refine lv_iload_n hx hb d_Hr_takes_15 rfl (lv_at hl 0 rfl) ?_
      refine lv_bipush (v := 11) hx hb d_Hr_takes_16 (by decide) ?_
      refine lv_icmp_le (tgt := 27) hx hb d_Hr_takes_18 (by decide) (fun c_5 => ?_) (fun c_5 => ?_)
      · refine lv_iconst (v := 1) hx hb d_Hr_takes_27 (by decide) ?_
        refine lv_goto (tgt := 32) hx hb d_Hr_takes_28 (by decide) ?_
        exact W.iret (v := 1) hx hb hr (fun t ht hW => ⟨1, rfl, (by rw [← hT]; simp only [f_takes, if_pos c_2, if_neg c_3, if_pos c_5]), by rw [ht, hH]⟩) (fun _ h => by cases h) d_Hr_takes_32
      · refine lv_iload_n hx hb d_Hr_takes_21 rfl (lv_at hl 0 rfl) ?_
        refine lv_bipush (v := 14) hx hb d_Hr_takes_22 (by decide) ?_
        refine lv_icmp_ne (tgt := 31) hx hb d_Hr_takes_24 (by decide) (fun c_6 => ?_) (fun c_6 => ?_)
        · refine lv_iconst (v := 0) hx hb d_Hr_takes_31 (by decide) ?_
          exact W.iret (v := 0) hx hb hr (fun t ht hW => ⟨0, rfl, (by rw [← hT]; simp only [f_takes, if_pos c_2, if_neg c_3, if_neg c_5, if_neg c_6]), by rw [ht, hH]⟩) (fun _ h => by cases h) d_Hr_takes_32
        · refine lv_iconst (v := 1) hx hb d_Hr_takes_27 (by decide) ?_
          refine lv_goto (tgt := 32) hx hb d_Hr_takes_28 (by decide) ?_
          exact W.iret (v := 1) hx hb hr (fun t ht hW => ⟨1, rfl, (by rw [← hT]; simp only [f_takes, if_pos c_2, if_neg c_3, if_neg c_5, if_pos c_6]), by rw [ht, hH]⟩) (fun _ h => by cases h) d_Hr_takes_32
  · refine lv_iconst (v := 2) hx hb d_Hr_takes_7 (by decide) ?_
    exact W.iret (v := 2) hx hb hr (fun t ht hW => ⟨2, rfl, (by rw [← hT]; simp only [f_takes, if_neg c_2]), by rw [ht, hH]⟩) (fun _ h => by cases h) d_Hr_takes_8
def f_puts (op : Int32) : Int32 := if op < 9 then (if op = 15 then 0 else 1) else (if op ≤ 11 then 0 else (if op = 15 then 0 else 1))
set_option maxHeartbeats 4000000 in
set_option maxRecDepth 100000 in
theorem c_puts (l : Launch) (G : va_G) (cI cL cZ cR cE : ClassId)  (op : Int32) : Met l y_Hr_puts w_Hr_puts ({ frames := 0, cells := 0, slots := 0, locals := 0 }) (preR G (TYS cI cL cZ cR cE) [.int op] (([] : va_W))) (vp_Si (fun ans_ => ans_ = f_puts op)) 0 0 (fun _ => False) := by
  refine Met.ofW (cc := b_Hr_puts) (maxL := 1) (ret := (some .int)) (by decide) rfl ?_
  intro p e s m args below meth c s₁ B hml hv
  obtain ⟨rfl, hP, hK, hN⟩ := hv
  have hx := B.exec
  have hb := B.bytes
  have hr := B.returns
  have hts := atoms_spec (ws := w_Hr_puts) B.pre
  have hown : s.vm.findClass R_Hr = some m.cls := findClass_of_methodNamed B.named
  have hlocks := B.notSynchronized
  obtain ⟨H, hH⟩ : ∃ H, H = s.heap := ⟨_, rfl⟩
  rw [← hH] at hP
  rw [← hH]
  have hl := lv_entry ([.int op]) (n := 1) (Nat.le_of_ble_eq_true rfl)
  rw [lg_entry_eq]
  generalize (lg_sl ([.int op]) ++ List.replicate (1 - (lg_sl ([.int op])).length) Slot.unset).toArray = ls at hl ⊢
  replace hl : lv_has ls 1 [(0, .int op)] := hl
  generalize hT : f_puts op = T
  refine lv_iload_n hx hb d_Hr_puts_0 rfl (lv_at hl 0 rfl) ?_
  refine lv_bipush (v := 9) hx hb d_Hr_puts_1 (by decide) ?_
  refine lv_icmp_lt (tgt := 12) hx hb d_Hr_puts_3 (by decide) (fun c_1 => ?_) (fun c_1 => ?_)
  · refine lv_iload_n hx hb d_Hr_puts_12 rfl (lv_at hl 0 rfl) ?_
    refine lv_bipush (v := 15) hx hb d_Hr_puts_13 (by decide) ?_
    refine lv_icmp_ne (tgt := 22) hx hb d_Hr_puts_15 (by decide) (fun c_2 => ?_) (fun c_2 => ?_)
    · refine lv_iconst (v := 1) hx hb d_Hr_puts_22 (by decide) ?_
      exact W.iret (v := 1) hx hb hr (fun t ht hW => ⟨1, rfl, (by rw [← hT]; simp only [f_puts, if_pos c_1, if_neg c_2]), by rw [ht, hH]⟩) (fun _ h => by cases h) d_Hr_puts_23
    · refine lv_iconst (v := 0) hx hb d_Hr_puts_18 (by decide) ?_
      refine lv_goto (tgt := 23) hx hb d_Hr_puts_19 (by decide) ?_
      exact W.iret (v := 0) hx hb hr (fun t ht hW => ⟨0, rfl, (by rw [← hT]; simp only [f_puts, if_pos c_1, if_pos c_2]), by rw [ht, hH]⟩) (fun _ h => by cases h) d_Hr_puts_23
  · refine lv_iload_n hx hb d_Hr_puts_6 rfl (lv_at hl 0 rfl) ?_
    refine lv_bipush (v := 11) hx hb d_Hr_puts_7 (by decide) ?_
    refine lv_icmp_le (tgt := 18) hx hb d_Hr_puts_9 (by decide) (fun c_3 => ?_) (fun c_3 => ?_)
    · refine lv_iconst (v := 0) hx hb d_Hr_puts_18 (by decide) ?_
      refine lv_goto (tgt := 23) hx hb d_Hr_puts_19 (by decide) ?_
      exact W.iret (v := 0) hx hb hr (fun t ht hW => ⟨0, rfl, (by rw [← hT]; simp only [f_puts, if_neg c_1, if_pos c_3]), by rw [ht, hH]⟩) (fun _ h => by cases h) d_Hr_puts_23
    · refine lv_iload_n hx hb d_Hr_puts_12 rfl (lv_at hl 0 rfl) ?_
      refine lv_bipush (v := 15) hx hb d_Hr_puts_13 (by decide) ?_
      refine lv_icmp_ne (tgt := 22) hx hb d_Hr_puts_15 (by decide) (fun c_4 => ?_) (fun c_4 => ?_)
      · refine lv_iconst (v := 1) hx hb d_Hr_puts_22 (by decide) ?_
        exact W.iret (v := 1) hx hb hr (fun t ht hW => ⟨1, rfl, (by rw [← hT]; simp only [f_puts, if_neg c_1, if_neg c_3, if_neg c_4]), by rw [ht, hH]⟩) (fun _ h => by cases h) d_Hr_puts_23
      · refine lv_iconst (v := 0) hx hb d_Hr_puts_18 (by decide) ?_
        refine lv_goto (tgt := 23) hx hb d_Hr_puts_19 (by decide) ?_
        exact W.iret (v := 0) hx hb hr (fun t ht hW => ⟨0, rfl, (by rw [← hT]; simp only [f_puts, if_neg c_1, if_neg c_3, if_pos c_4]), by rw [ht, hH]⟩) (fun _ h => by cases h) d_Hr_puts_23
def f_combine (op : Int32) (x : Int64) (y : Int64) : Int64 := if op = 2 then (x + y) else (if op = 3 then (x - y) else (if op = 4 then (x * y) else (if op = 5 then (if y = 0 then 0 else (x / y)) else (if op = 6 then (if y ≤ x then 0 else 1) else (if x = y then 1 else 0)))))
set_option maxHeartbeats 4000000 in
set_option maxRecDepth 100000 in
theorem c_combine (l : Launch) (G : va_G) (cI cL cZ cR cE : ClassId)  (op : Int32) (x : Int64) (y : Int64) : Met l y_Hr_combine w_Hr_combine ({ frames := 0, cells := 0, slots := 0, locals := 0 }) (preR G (TYS cI cL cZ cR cE) [.int op, .long x, .long y] (([] : va_W))) (vp_Sl (fun ans_ => ans_ = f_combine op x y)) 0 0 (fun _ => False) := by
  refine Met.ofW (cc := b_Hr_combine) (maxL := 5) (ret := (some .long)) (by decide) rfl ?_
  intro p e s m args below meth c s₁ B hml hv
  obtain ⟨rfl, hP, hK, hN⟩ := hv
  have hx := B.exec
  have hb := B.bytes
  have hr := B.returns
  have hts := atoms_spec (ws := w_Hr_combine) B.pre
  have hown : s.vm.findClass R_Hr = some m.cls := findClass_of_methodNamed B.named
  have hlocks := B.notSynchronized
  obtain ⟨H, hH⟩ : ∃ H, H = s.heap := ⟨_, rfl⟩
  rw [← hH] at hP
  rw [← hH]
  have hl := lv_entry ([.int op, .long x, .long y]) (n := 5) (Nat.le_of_ble_eq_true rfl)
  rw [lg_entry_eq]
  generalize (lg_sl ([.int op, .long x, .long y]) ++ List.replicate (5 - (lg_sl ([.int op, .long x, .long y])).length) Slot.unset).toArray = ls at hl ⊢
  replace hl : lv_has ls 5 [(0, .int op), (1, .long x), (3, .long y)] := hl
  generalize hT : f_combine op x y = T
  refine lv_iload_n hx hb d_Hr_combine_0 rfl (lv_at hl 0 rfl) ?_
  by_cases c_1 : op = 2
  · refine sw_t (x := op) (tgt := 36) hx hb d_Hr_combine_1 (by rw [c_1]; decide) ?_
    refine lv_lload_n hx hb d_Hr_combine_36 rfl (lv_at hl 1 rfl) ?_
    refine lv_lload_n hx hb d_Hr_combine_37 rfl (lv_at hl 2 rfl) ?_
    refine lv_ladd hx hb d_Hr_combine_38 ?_
    exact W.lret (v := x + y) hx hb hr (fun t ht hW => ⟨x + y, rfl, (by rw [← hT]; simp only [f_combine, if_pos c_1]), by rw [ht, hH]⟩) (fun _ h => by cases h) d_Hr_combine_39
  ·
    by_cases c_2 : op = 3
    · refine sw_t (x := op) (tgt := 40) hx hb d_Hr_combine_1 (by rw [c_2]; decide) ?_
      refine lv_lload_n hx hb d_Hr_combine_40 rfl (lv_at hl 1 rfl) ?_
      refine lv_lload_n hx hb d_Hr_combine_41 rfl (lv_at hl 2 rfl) ?_
      refine lv_lsub hx hb d_Hr_combine_42 ?_
      exact W.lret (v := x - y) hx hb hr (fun t ht hW => ⟨x - y, rfl, (by rw [← hT]; simp only [f_combine, if_neg c_1, if_pos c_2]), by rw [ht, hH]⟩) (fun _ h => by cases h) d_Hr_combine_43
    ·
      by_cases c_3 : op = 4
      · refine sw_t (x := op) (tgt := 44) hx hb d_Hr_combine_1 (by rw [c_3]; decide) ?_
        refine lv_lload_n hx hb d_Hr_combine_44 rfl (lv_at hl 1 rfl) ?_
        refine lv_lload_n hx hb d_Hr_combine_45 rfl (lv_at hl 2 rfl) ?_
        refine lv_lmul hx hb d_Hr_combine_46 ?_
        exact W.lret (v := x * y) hx hb hr (fun t ht hW => ⟨x * y, rfl, (by rw [← hT]; simp only [f_combine, if_neg c_1, if_neg c_2, if_pos c_3]), by rw [ht, hH]⟩) (fun _ h => by cases h) d_Hr_combine_47
      ·
        by_cases c_4 : op = 5
        · refine sw_t (x := op) (tgt := 48) hx hb d_Hr_combine_1 (by rw [c_4]; decide) ?_
          refine lv_lload_n hx hb d_Hr_combine_48 rfl (lv_at hl 2 rfl) ?_
          refine lv_lconst (v := 0) hx hb d_Hr_combine_49 (by decide) ?_
          refine lc_ne (x := y) (y := 0) (tgt := 58) hx hb d_Hr_combine_50 d_Hr_combine_51 (by decide) (fun c_5 => ?_) (fun c_5 => ?_)
          · refine lv_lload_n hx hb d_Hr_combine_58 rfl (lv_at hl 1 rfl) ?_
            refine lv_lload_n hx hb d_Hr_combine_59 rfl (lv_at hl 2 rfl) ?_
            refine lv_ldiv hx hb d_Hr_combine_60 c_5 ?_
            exact W.lret (v := x / y) hx hb hr (fun t ht hW => ⟨x / y, rfl, (by rw [← hT]; simp only [f_combine, if_neg c_1, if_neg c_2, if_neg c_3, if_pos c_4, if_neg c_5]), by rw [ht, hH]⟩) (fun _ h => by cases h) d_Hr_combine_61
          · refine lv_lconst (v := 0) hx hb d_Hr_combine_54 (by decide) ?_
            refine lv_goto (tgt := 61) hx hb d_Hr_combine_55 (by decide) ?_
            exact W.lret (v := 0) hx hb hr (fun t ht hW => ⟨0, rfl, (by rw [← hT]; simp only [f_combine, if_neg c_1, if_neg c_2, if_neg c_3, if_pos c_4, if_pos c_5]), by rw [ht, hH]⟩) (fun _ h => by cases h) d_Hr_combine_61
        ·
          by_cases c_6 : op = 6
          · refine sw_t (x := op) (tgt := 62) hx hb d_Hr_combine_1 (by rw [c_6]; decide) ?_
            refine lv_lload_n hx hb d_Hr_combine_62 rfl (lv_at hl 1 rfl) ?_
            refine lv_lload_n hx hb d_Hr_combine_63 rfl (lv_at hl 2 rfl) ?_
            refine lc_ge (x := x) (y := y) (tgt := 72) hx hb d_Hr_combine_64 d_Hr_combine_65 (by decide) (fun c_7 => ?_) (fun c_7 => ?_)
            · refine lv_lconst (v := 0) hx hb d_Hr_combine_72 (by decide) ?_
              exact W.lret (v := 0) hx hb hr (fun t ht hW => ⟨0, rfl, (by rw [← hT]; simp only [f_combine, if_neg c_1, if_neg c_2, if_neg c_3, if_neg c_4, if_pos c_6, if_pos c_7]), by rw [ht, hH]⟩) (fun _ h => by cases h) d_Hr_combine_73
            · refine lv_lconst (v := 1) hx hb d_Hr_combine_68 (by decide) ?_
              refine lv_goto (tgt := 73) hx hb d_Hr_combine_69 (by decide) ?_
              exact W.lret (v := 1) hx hb hr (fun t ht hW => ⟨1, rfl, (by rw [← hT]; simp only [f_combine, if_neg c_1, if_neg c_2, if_neg c_3, if_neg c_4, if_pos c_6, if_neg c_7]), by rw [ht, hH]⟩) (fun _ h => by cases h) d_Hr_combine_73
          ·
            refine sw_t (x := op) (tgt := 74) hx hb d_Hr_combine_1 (sw_d (by decide) [2, 3, 4, 5, 6] (by decide) (List.forall_mem_cons.mpr ⟨sw_ne c_1 rfl, (List.forall_mem_cons.mpr ⟨sw_ne c_2 rfl, (List.forall_mem_cons.mpr ⟨sw_ne c_3 rfl, (List.forall_mem_cons.mpr ⟨sw_ne c_4 rfl, (List.forall_mem_cons.mpr ⟨sw_ne c_6 rfl, (fun _ h => nomatch h)⟩)⟩)⟩)⟩)⟩)) ?_
            refine lv_lload_n hx hb d_Hr_combine_74 rfl (lv_at hl 1 rfl) ?_
            refine lv_lload_n hx hb d_Hr_combine_75 rfl (lv_at hl 2 rfl) ?_
            refine lc_ne (x := x) (y := y) (tgt := 84) hx hb d_Hr_combine_76 d_Hr_combine_77 (by decide) (fun c_8 => ?_) (fun c_8 => ?_)
            · refine lv_lconst (v := 0) hx hb d_Hr_combine_84 (by decide) ?_
              exact W.lret (v := 0) hx hb hr (fun t ht hW => ⟨0, rfl, (by rw [← hT]; simp only [f_combine, if_neg c_1, if_neg c_2, if_neg c_3, if_neg c_4, if_neg c_6, if_neg c_8]), by rw [ht, hH]⟩) (fun _ h => by cases h) d_Hr_combine_85
            · refine lv_lconst (v := 1) hx hb d_Hr_combine_80 (by decide) ?_
              refine lv_goto (tgt := 85) hx hb d_Hr_combine_81 (by decide) ?_
              exact W.lret (v := 1) hx hb hr (fun t ht hW => ⟨1, rfl, (by rw [← hT]; simp only [f_combine, if_neg c_1, if_neg c_2, if_neg c_3, if_neg c_4, if_neg c_6, if_pos c_8]), by rw [ht, hH]⟩) (fun _ h => by cases h) d_Hr_combine_85
