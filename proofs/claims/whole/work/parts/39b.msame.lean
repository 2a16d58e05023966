def L_msame (sizes : Nat → Int32) (ops : Nat → Int32) (numbers : Nat → Int64) (r : Int32) (r2 : Int32) : Nat → Int32 → Int32 → Int32 × Int32
  | 0, same_, k => (same_, k)
  | n + 1, same_, k => if (sizes r.toNatClampNeg) ≤ k then (same_, k) else (L_msame sizes ops numbers r r2 n (if same_ = 0 then (0 : Int32) else (if (ops ((12 * r) + k).toNatClampNeg) = (ops ((12 * r2) + k).toNatClampNeg) then ((if (f_mhasNumber (ops ((12 * r) + k).toNatClampNeg)) = 0 then (1 : Int32) else (if (numbers ((12 * r) + k).toNatClampNeg) = (numbers ((12 * r2) + k).toNatClampNeg) then (1 : Int32) else 0)) : Int32) else 0)) (k + 1))
theorem L_msame_01 {sizes ops : Nat → Int32} {numbers : Nat → Int64} {r r2 : Int32} : ∀ (n : Nat) (same_ k : Int32), (same_ = 0 ∨ same_ = 1) → ((L_msame sizes ops numbers r r2 n same_ k).1 = 0 ∨ (L_msame sizes ops numbers r r2 n same_ k).1 = 1) := by
  intro n
  induction n with
  | zero => intro s k h; exact h
  | succ n ih =>
    intro s k h
    unfold L_msame
    by_cases c : sizes r.toNatClampNeg ≤ k
    · rw [if_pos c]; exact h
    · rw [if_neg c]
      apply ih
      repeat (first | exact Or.inl rfl | exact Or.inr rfl | split)
def f_msame (rules : Int32) (sizes : Nat → Int32) (ops : Nat → Int32) (numbers : Nat → Int64) (r : Int32) (r2 : Int32) : Int32 × Int32 := if (f_misRule rules r) = 0 then (0, 0) else (if (f_misRule rules r2) = 0 then (0, 0) else (if (sizes r.toNatClampNeg) = (sizes r2.toNatClampNeg) then (match L_msame sizes ops numbers r r2 13 1 0 with | (z_same__20, z_k_21) => (z_same__20, 0)) else (0, 0)))
set_option maxHeartbeats 4000000 in
set_option maxRecDepth 100000 in
theorem c_msame (l : Launch) (G : va_G) (cI cL cZ cR cE : ClassId) (sz : Nat) (a0 a1 a2 a3 a4 a5 a6 a7 a8 a9 a10 a11 a12 a13 a14 a15 a16 a17 a18 a19 a20 a21 a22 : Nat) (thrown : Int32) (most : Int32) (rules : Int32) (editions : Nat → Int32) (orders : Nat → Int32) (sizes : Nat → Int32) (ops : Nat → Int32) (numbers : Nat → Int64) (cells : Nat → Int64) (hasFallback : Nat → Int32) (fallbackKinds : Nat → Int32) (fallbacks : Nat → Int64) (facts : Nat → Int64) (states : Nat → Int32) (counts : Nat → Int32) (days : Nat → Int32) (toldAt : Nat → Int32) (tells : Int32) (handles : Int32) (handleFacts : Nat → Int32) (failures : Int32) (failedRule : Nat → Int32) (failedHow : Nat → Int32) (answers : Nat → Int64) (givers : Nat → Int32) (stack : Nat → Int64) (high : Int32) (steps : Int32) (how : Int32) (cellNow : Int64) (own : Nat → Int64) (has : Nat → Int32) (r : Int32) (r2 : Int32) (hR : 0 ≤ rules.toInt ∧ rules.toInt ≤ 40) (hZ : ∀ j, 0 ≤ (sizes j).toInt ∧ (sizes j).toInt ≤ 12) : Met l y_Mo_same w_Mo_same ({ frames := 2, cells := 0, slots := 0, locals := 46 }) (preW G (TYS cI cL cZ cR cE) [.ref a0, .int r, .int r2] sz (W_Mod cI cL cZ cR cE a0 a1 a2 a3 a4 a5 a6 a7 a8 a9 a10 a11 a12 a13 a14 a15 a16 a17 a18 a19 a20 a21 a22 thrown most rules editions orders sizes ops numbers cells hasFallback fallbackKinds fallbacks facts states counts days toldAt tells handles handleFacts failures failedRule failedHow answers givers stack high steps how cellNow own has)) (va_Qi (fun (ans_ : Int32) (u : Int32) => (ans_, u) = f_msame rules sizes ops numbers r r2) (fun u t => va_P G vwCl (W_Mod cI cL cZ cR cE a0 a1 a2 a3 a4 a5 a6 a7 a8 a9 a10 a11 a12 a13 a14 a15 a16 a17 a18 a19 a20 a21 a22 u most rules editions orders sizes ops numbers cells hasFallback fallbackKinds fallbacks facts states counts days toldAt tells handles handleFacts failures failedRule failedHow answers givers stack high steps how cellNow own has) t.heap ∧ va_K G vwCl (TYS cI cL cZ cR cE) t ∧ va_D (va_A (W_Mod cI cL cZ cR cE a0 a1 a2 a3 a4 a5 a6 a7 a8 a9 a10 a11 a12 a13 a14 a15 a16 a17 a18 a19 a20 a21 a22 thrown most rules editions orders sizes ops numbers cells hasFallback fallbackKinds fallbacks facts states counts days toldAt tells handles handleFacts failures failedRule failedHow answers givers stack high steps how cellNow own has) sz) (W_Mod cI cL cZ cR cE a0 a1 a2 a3 a4 a5 a6 a7 a8 a9 a10 a11 a12 a13 a14 a15 a16 a17 a18 a19 a20 a21 a22 u most rules editions orders sizes ops numbers cells hasFallback fallbackKinds fallbacks facts states counts days toldAt tells handles handleFacts failures failedRule failedHow answers givers stack high steps how cellNow own has)) (va_A (W_Mod cI cL cZ cR cE a0 a1 a2 a3 a4 a5 a6 a7 a8 a9 a10 a11 a12 a13 a14 a15 a16 a17 a18 a19 a20 a21 a22 thrown most rules editions orders sizes ops numbers cells hasFallback fallbackKinds fallbacks facts states counts days toldAt tells handles handleFacts failures failedRule failedHow answers givers stack high steps how cellNow own has) sz)) 0 0 (va_A (W_Mod cI cL cZ cR cE a0 a1 a2 a3 a4 a5 a6 a7 a8 a9 a10 a11 a12 a13 a14 a15 a16 a17 a18 a19 a20 a21 a22 thrown most rules editions orders sizes ops numbers cells hasFallback fallbackKinds fallbacks facts states counts days toldAt tells handles handleFacts failures failedRule failedHow answers givers stack high steps how cellNow own has) sz) := by
  refine Met.ofW (cc := b_Mo_same) (maxL := 6) (ret := (some .boolean)) (by decide) rfl ?_
  intro p e s m args below meth c s₁ B hml hv
  obtain ⟨rfl, hsz, hP, hK, hD0, hN⟩ := hv
  have hx := B.exec
  have hb := B.bytes
  have hr := B.returns
  have hts := atoms_spec (ws := w_Mo_same) B.pre
  have hown : s.vm.findClass R_Mo = some m.cls := findClass_of_methodNamed B.named
  have hlocks := B.notSynchronized
  subst hsz
  have hD := hD0.self (sz := s.heap.size)
  clear hD0
  generalize hAe : va_A (W_Mod cI cL cZ cR cE a0 a1 a2 a3 a4 a5 a6 a7 a8 a9 a10 a11 a12 a13 a14 a15 a16 a17 a18 a19 a20 a21 a22 thrown most rules editions orders sizes ops numbers cells hasFallback fallbackKinds fallbacks facts states counts days toldAt tells handles handleFacts failures failedRule failedHow answers givers stack high steps how cellNow own has) s.heap.size = A at hD ⊢
  have hA : ∀ q : Nat, s.heap.size ≤ q → A q := fun q h => by rw [← hAe]; exact Or.inr h
  clear hAe
  have hS : va_S A s.heap s.heap [] := va_S.rf
  obtain ⟨H, hH⟩ : ∃ H, H = s.heap := ⟨_, rfl⟩
  rw [← hH] at hP
  replace hS : va_S A s.heap H [] := by rw [hH]; exact hS
  rw [← hH]
  clear hH
  have hi_2 : ∀ w ∈ u_ws R_Mo T_Mo 32, w ∈ w_Mo_same := fun w h => List.mem_cons_of_mem _ (iu_Mo w h)
  have hk_1 := hts (.fieldLink R_Mo 82 "HandlingRulesModel" "thrown" "I") (List.mem_cons_of_mem _ kw_565)
  have hk_3 := hts (.fieldLink R_Mo 16 "HandlingRulesModel" "sizes" "[I") (List.mem_cons_of_mem _ kw_570)
  have hk_4 := hts (.fieldLink R_Mo 19 "HandlingRulesModel" "ops" "[I") (List.mem_cons_of_mem _ kw_571)
  have hk_5 := hts (.fieldLink R_Mo 22 "HandlingRulesModel" "numbers" "[J") (List.mem_cons_of_mem _ kw_572)
  have hl := lv_entry ([.ref a0, .int r, .int r2]) (n := 6) (Nat.le_of_ble_eq_true rfl)
  rw [lg_entry_eq]
  generalize (lg_sl ([.ref a0, .int r, .int r2]) ++ List.replicate (6 - (lg_sl ([.ref a0, .int r, .int r2])).length) Slot.unset).toArray = ls at hl ⊢
  replace hl : lv_has ls 6 [(0, .ref a0), (1, .int r), (2, .int r2)] := hl
  generalize hT : f_msame rules sizes ops numbers r r2 = T
  refine lv_aload_n hx hb d_Mo_same_0 rfl (lv_at hl 0 rfl) ?_
  refine lv_iconst (v := 0) hx hb d_Mo_same_1 (by decide) ?_
  refine va_put (D := G) (ci := 6) (v := .int 0) (ty := (.int)) (C := R_Mo) (T := T_Mo) (N := 32) hx hb hts hi_2 ty_Mo tyk_Mo nm_Mo hown hK hP hD hS 0 rfl rfl 0 (by decide) hk_1 (fun _ h9 => h9) rfl (by decide +kernel) rfl rfl (Nat.le_of_ble_eq_true rfl) d_Mo_same_2 (fun H locs hP hD hS => ?_)
  replace hP : va_P G vwCl (W_Mod cI cL cZ cR cE a0 a1 a2 a3 a4 a5 a6 a7 a8 a9 a10 a11 a12 a13 a14 a15 a16 a17 a18 a19 a20 a21 a22 0 most rules editions orders sizes ops numbers cells hasFallback fallbackKinds fallbacks facts states counts days toldAt tells handles handleFacts failures failedRule failedHow answers givers stack high steps how cellNow own has) H := hP
  replace hD : va_D A (W_Mod cI cL cZ cR cE a0 a1 a2 a3 a4 a5 a6 a7 a8 a9 a10 a11 a12 a13 a14 a15 a16 a17 a18 a19 a20 a21 a22 0 most rules editions orders sizes ops numbers cells hasFallback fallbackKinds fallbacks facts states counts days toldAt tells handles handleFacts failures failedRule failedHow answers givers stack high steps how cellNow own has) := hD
  refine lv_aload_n hx hb d_Mo_same_5 rfl (lv_at hl 0 rfl) ?_
  refine lv_iload_n hx hb d_Mo_same_6 rfl (lv_at hl 1 rfl) ?_
  refine vp_callSi (W.runV (As := [.int r]) (rest := []) ⟨hx, hb, hml, hown, hts⟩ (c_misRule l G cI cL cZ cR cE a0 a1 a2 a3 a4 a5 a6 a7 a8 a9 a10 a11 a12 a13 a14 a15 a16 a17 a18 a19 a20 a21 a22 0 most rules editions orders sizes ops numbers cells hasFallback fallbackKinds fallbacks facts states counts days toldAt tells handles handleFacts failures failedRule failedHow answers givers stack high steps how cellNow own has r) (cwV 1 hts (gV kw_684 kw_686 kw_7 kw_21 kw_687) rfl rfl rfl (by decide +kernel) ⟨Nat.le_of_ble_eq_true rfl, Nat.le_of_ble_eq_true rfl⟩) (preRV_of (ci := 6) hN hK hP [0, 1, 2, 3, 4, 5, 6, 7, 8, 9, 10, 11, 12, 13, 14, 15, 16, 17, 18, 19, 20, 21, 22] rfl rfl rfl) rfl rfl hl.1 rfl (lv_room (Nat.le_of_ble_eq_true rfl)) d_Mo_same_7 ⟨Nat.zero_le _, Nat.zero_le _⟩) (fun r_1 hw => ?_)
  subst hw
  refine lv_if_eq (tgt := 36) hx hb d_Mo_same_10 (by decide) (fun c_2 => ?_) (fun c_2 => ?_)
  · refine lv_iconst (v := 0) hx hb d_Mo_same_36 (by decide) ?_
    exact W.zret (v := 0) hx hb hr rfl (fun t ht hW => ⟨⟨0, 0, rfl, (by rw [← hT]; simp only [f_msame, if_pos c_2]), by rw [ht]; exact hP, va_K.moved hW.alike hK, hD⟩, hS.F ht⟩) hS.2.2 d_Mo_same_37
  · refine lv_aload_n hx hb d_Mo_same_13 rfl (lv_at hl 0 rfl) ?_
    refine lv_iload_n hx hb d_Mo_same_14 rfl (lv_at hl 2 rfl) ?_
    refine vp_callSi (W.runV (As := [.int r2]) (rest := []) ⟨hx, hb, hml, hown, hts⟩ (c_misRule l G cI cL cZ cR cE a0 a1 a2 a3 a4 a5 a6 a7 a8 a9 a10 a11 a12 a13 a14 a15 a16 a17 a18 a19 a20 a21 a22 0 most rules editions orders sizes ops numbers cells hasFallback fallbackKinds fallbacks facts states counts days toldAt tells handles handleFacts failures failedRule failedHow answers givers stack high steps how cellNow own has r2) (cwV 1 hts (gV kw_684 kw_686 kw_7 kw_21 kw_687) rfl rfl rfl (by decide +kernel) ⟨Nat.le_of_ble_eq_true rfl, Nat.le_of_ble_eq_true rfl⟩) (preRV_of (ci := 6) hN hK hP [0, 1, 2, 3, 4, 5, 6, 7, 8, 9, 10, 11, 12, 13, 14, 15, 16, 17, 18, 19, 20, 21, 22] rfl rfl rfl) rfl rfl hl.1 rfl (lv_room (Nat.le_of_ble_eq_true rfl)) d_Mo_same_15 ⟨Nat.zero_le _, Nat.zero_le _⟩) (fun r_3 hw => ?_)
    subst hw
    refine lv_if_eq (tgt := 36) hx hb d_Mo_same_18 (by decide) (fun c_4 => ?_) (fun c_4 => ?_)
    · refine lv_iconst (v := 0) hx hb d_Mo_same_36 (by decide) ?_
      exact W.zret (v := 0) hx hb hr rfl (fun t ht hW => ⟨⟨0, 0, rfl, (by rw [← hT]; simp only [f_msame, if_neg c_2, if_pos c_4]), by rw [ht]; exact hP, va_K.moved hW.alike hK, hD⟩, hS.F ht⟩) hS.2.2 d_Mo_same_37
    · refine lv_aload_n hx hb d_Mo_same_21 rfl (lv_at hl 0 rfl) ?_
      refine va_get (D := G) (ci := 6) (v := .ref a3) (C := R_Mo) (T := T_Mo) (N := 32) hx hb hts hi_2 hown hK hP 0 rfl rfl 5 (by decide) hk_3 (fun _ h9 => h9) rfl d_Mo_same_22 ?_
      refine lv_iload_n hx hb d_Mo_same_25 rfl (lv_at hl 1 rfl) ?_
      refine va_iald hx hb hK hP 3 0 rfl rfl (ix_misRule c_2 hR) d_Mo_same_26 ?_
      refine lv_aload_n hx hb d_Mo_same_27 rfl (lv_at hl 0 rfl) ?_
      refine va_get (D := G) (ci := 6) (v := .ref a3) (C := R_Mo) (T := T_Mo) (N := 32) hx hb hts hi_2 hown hK hP 0 rfl rfl 5 (by decide) hk_3 (fun _ h9 => h9) rfl d_Mo_same_28 ?_
      refine lv_iload_n hx hb d_Mo_same_31 rfl (lv_at hl 2 rfl) ?_
      refine va_iald hx hb hK hP 3 0 rfl rfl (ix_misRule c_4 hR) d_Mo_same_32 ?_
      refine lv_icmp_eq (tgt := 38) hx hb d_Mo_same_33 (by decide) (fun c_5 => ?_) (fun c_5 => ?_)
      · refine lv_iconst (v := 1) hx hb d_Mo_same_38 (by decide) ?_
        refine lv_istore_n (lv' := [(3, .int 1), (0, .ref a0), (1, .int r), (2, .int r2)]) hx hb d_Mo_same_39 rfl hl (by decide) rfl (fun ls hl => ?_)
        refine lv_iconst (v := 0) hx hb d_Mo_same_40 (by decide) ?_
        refine lv_istore (lv' := [(4, .int 0), (3, .int 1), (0, .ref a0), (1, .int r), (2, .int r2)]) hx hb d_Mo_same_41 hl (by decide) rfl (fun ls hl => ?_)
        refine W_seq (α := Int32 × Int32) (pcE := 137) (Post := (fun x H locs ls => x = L_msame sizes ops numbers r r2 13 1 0 ∧ va_P G vwCl (W_Mod cI cL cZ cR cE a0 a1 a2 a3 a4 a5 a6 a7 a8 a9 a10 a11 a12 a13 a14 a15 a16 a17 a18 a19 a20 a21 a22 0 most rules editions orders sizes ops numbers cells hasFallback fallbackKinds fallbacks facts states counts days toldAt tells handles handleFacts failures failedRule failedHow answers givers stack high steps how cellNow own has) H ∧ va_D A (W_Mod cI cL cZ cR cE a0 a1 a2 a3 a4 a5 a6 a7 a8 a9 a10 a11 a12 a13 a14 a15 a16 a17 a18 a19 a20 a21 a22 0 most rules editions orders sizes ops numbers cells hasFallback fallbackKinds fallbacks facts states counts days toldAt tells handles handleFacts failures failedRule failedHow answers givers stack high steps how cellNow own has) ∧ va_S A s.heap H locs ∧ lv_has ls 6 [(4, .int x.2), (3, .int x.1), (0, .ref a0), (1, .int r), (2, .int r2)])) (fun hKK => ?_) (fun x H locs ls hq => ?_)
        · generalize hT : L_msame sizes ops numbers r r2 13 1 0 = T at hKK
          obtain ⟨n, hn⟩ : ∃ n : Nat, n = 13 := ⟨_, rfl⟩
          obtain ⟨same_, h_same_⟩ : ∃ z : Int32, z = 1 := ⟨_, rfl⟩
          obtain ⟨k, h_k⟩ : ∃ z : Int32, z = 0 := ⟨_, rfl⟩
          replace hl : lv_has ls 6 [(4, .int k), (3, .int same_), (0, .ref a0), (1, .int r), (2, .int r2)] := by rw [h_same_, h_k]; exact hl
          have hI_msame : 0 ≤ k.toInt ∧ k.toInt ≤ 12 ∧ 13 ≤ k.toInt + (n : Int) := by rw [hn, h_k]; decide
          replace hT : L_msame sizes ops numbers r r2 n same_ k = T := by rw [← hT, hn, h_same_, h_k]
          clear hn h_same_ h_k
          revert hT
          revert hI_msame
          revert hl
          revert hS
          revert hD
          revert hP
          revert k
          revert same_
          revert ls
          revert locs
          revert H
          induction n with
          | zero =>
            intro H locs ls same_ k hP hD hS hl hI_msame hT
            exact absurd hI_msame (by omega)
          | succ n ih =>
            intro H locs ls same_ k hP hD hS hl hI_msame hT
            refine lv_iload hx hb d_Mo_same_43 (lv_at hl 0 rfl) ?_
            refine lv_aload_n hx hb d_Mo_same_45 rfl (lv_at hl 2 rfl) ?_
            refine va_get (D := G) (ci := 6) (v := .ref a3) (C := R_Mo) (T := T_Mo) (N := 32) hx hb hts hi_2 hown hK hP 0 rfl rfl 5 (by decide) hk_3 (fun _ h9 => h9) rfl d_Mo_same_46 ?_
            refine lv_iload_n hx hb d_Mo_same_49 rfl (lv_at hl 3 rfl) ?_
            refine va_iald hx hb hK hP 3 0 rfl rfl (ix_misRule c_2 hR) d_Mo_same_50 ?_
            refine lv_icmp_ge (tgt := 137) hx hb d_Mo_same_51 (by decide) (fun c_6 => ?_) (fun c_6 => ?_)
            · exact hKK (same_, k) H _ ls ⟨(by rw [← hT]; simp only [L_msame, if_pos c_6]), hP, hD, hS, lv_sub hl [0, 1, 2, 3, 4] rfl⟩
            · refine lv_aload_n hx hb d_Mo_same_54 rfl (lv_at hl 2 rfl) ?_
              refine va_get (D := G) (ci := 6) (v := .ref a4) (C := R_Mo) (T := T_Mo) (N := 32) hx hb hts hi_2 hown hK hP 0 rfl rfl 6 (by decide) hk_4 (fun _ h9 => h9) rfl d_Mo_same_55 ?_
              refine lv_bipush (v := 12) hx hb d_Mo_same_58 (by decide) ?_
              refine lv_iload_n hx hb d_Mo_same_60 rfl (lv_at hl 3 rfl) ?_
              refine lv_imul hx hb d_Mo_same_61 ?_
              refine lv_iload hx hb d_Mo_same_62 (lv_at hl 0 rfl) ?_
              refine lv_iadd hx hb d_Mo_same_64 ?_
              refine va_iald hx hb hK hP 4 0 rfl rfl (ix_12a (ix_misRule c_2 hR) (k_lt12 hI_msame (hZ _) c_6)) d_Mo_same_65 ?_
              refine lv_istore (lv' := [(5, .int (ops ((12 * r) + k).toNatClampNeg)), (4, .int k), (3, .int same_), (0, .ref a0), (1, .int r), (2, .int r2)]) hx hb d_Mo_same_66 hl (by decide) rfl (fun ls hl => ?_)
              refine lv_iload_n hx hb d_Mo_same_68 rfl (lv_at hl 2 rfl) ?_
              refine W_join (P := same_ = 0) (A := (0 : Int32)) (B := (if (ops ((12 * r) + k).toNatClampNeg) = (ops ((12 * r2) + k).toNatClampNeg) then ((if (f_mhasNumber (ops ((12 * r) + k).toNatClampNeg)) = 0 then (1 : Int32) else (if (numbers ((12 * r) + k).toNatClampNeg) = (numbers ((12 * r2) + k).toNatClampNeg) then (1 : Int32) else 0)) : Int32) else 0)) (fr := (fun v : Int32 => F0 m 130 ls (.int v :: []))) (fun hA_8 hB_9 => ?_) ?_
              · refine lv_if_eq (tgt := 129) hx hb d_Mo_same_69 (by decide) (fun c_7 => ?_) (fun c_7 => ?_)
                · refine lv_iconst (v := 0) hx hb d_Mo_same_129 (by decide) ?_
                  exact hA_8 c_7
                · refine lv_iload hx hb d_Mo_same_72 (lv_at hl 0 rfl) ?_
                  refine lv_aload_n hx hb d_Mo_same_74 rfl (lv_at hl 3 rfl) ?_
                  refine va_get (D := G) (ci := 6) (v := .ref a4) (C := R_Mo) (T := T_Mo) (N := 32) hx hb hts hi_2 hown hK hP 0 rfl rfl 6 (by decide) hk_4 (fun _ h9 => h9) rfl d_Mo_same_75 ?_
                  refine lv_bipush (v := 12) hx hb d_Mo_same_78 (by decide) ?_
                  refine lv_iload_n hx hb d_Mo_same_80 rfl (lv_at hl 5 rfl) ?_
                  refine lv_imul hx hb d_Mo_same_81 ?_
                  refine lv_iload hx hb d_Mo_same_82 (lv_at hl 1 rfl) ?_
                  refine lv_iadd hx hb d_Mo_same_84 ?_
                  refine va_iald hx hb hK hP 4 0 rfl rfl (ix_12a (ix_misRule c_4 hR) (k_lt12 hI_msame (hZ _) c_6)) d_Mo_same_85 ?_
                  refine W_join (P := (ops ((12 * r) + k).toNatClampNeg) = (ops ((12 * r2) + k).toNatClampNeg)) (A := ((if (f_mhasNumber (ops ((12 * r) + k).toNatClampNeg)) = 0 then (1 : Int32) else (if (numbers ((12 * r) + k).toNatClampNeg) = (numbers ((12 * r2) + k).toNatClampNeg) then (1 : Int32) else 0)) : Int32)) (B := 0) (fr := (fun v : Int32 => F0 m 130 ls (.int v :: []))) (fun hA_11 hB_12 => ?_) ?_
                  · refine lv_icmp_ne (tgt := 129) hx hb d_Mo_same_86 (by decide) (fun c_10 => ?_) (fun c_10 => ?_)
                    · refine lv_iconst (v := 0) hx hb d_Mo_same_129 (by decide) ?_
                      exact hB_12 c_10
                    · refine lv_iload hx hb d_Mo_same_89 (lv_at hl 0 rfl) ?_
                      refine vp_callSi (W.runS (As := [.int (ops ((12 * r) + k).toNatClampNeg)]) (rest := []) ⟨hx, hb, hml, hown, hts⟩ (c_mhasNumber l G cI cL cZ cR cE  (ops ((12 * r) + k).toNatClampNeg)) (va_cwS 1 hts (gS kw_772 kw_773 kw_21 kw_774) rfl rfl rfl (by decide +kernel) ⟨Nat.le_of_ble_eq_true rfl, Nat.le_of_ble_eq_true rfl⟩) (preRS_of hN hK hP [] rfl) rfl rfl hl.1 rfl (lv_room (Nat.le_of_ble_eq_true rfl)) d_Mo_same_91 ⟨Nat.zero_le _, Nat.zero_le _⟩) (fun r_13 hw => ?_)
                      subst hw
                      refine W_join (P := (f_mhasNumber (ops ((12 * r) + k).toNatClampNeg)) = 0) (A := (1 : Int32)) (B := (if (numbers ((12 * r) + k).toNatClampNeg) = (numbers ((12 * r2) + k).toNatClampNeg) then (1 : Int32) else 0)) (fr := (fun v : Int32 => F0 m 130 ls (.int v :: []))) (fun hA_15 hB_16 => ?_) ?_
                      · refine lv_if_eq (tgt := 125) hx hb d_Mo_same_94 (by decide) (fun c_14 => ?_) (fun c_14 => ?_)
                        · refine lv_iconst (v := 1) hx hb d_Mo_same_125 (by decide) ?_
                          refine lv_goto (tgt := 130) hx hb d_Mo_same_126 (by decide) ?_
                          exact hA_15 c_14
                        · refine lv_aload_n hx hb d_Mo_same_97 rfl (lv_at hl 3 rfl) ?_
                          refine va_get (D := G) (ci := 6) (v := .ref a5) (C := R_Mo) (T := T_Mo) (N := 32) hx hb hts hi_2 hown hK hP 0 rfl rfl 7 (by decide) hk_5 (fun _ h9 => h9) rfl d_Mo_same_98 ?_
                          refine lv_bipush (v := 12) hx hb d_Mo_same_101 (by decide) ?_
                          refine lv_iload_n hx hb d_Mo_same_103 rfl (lv_at hl 4 rfl) ?_
                          refine lv_imul hx hb d_Mo_same_104 ?_
                          refine lv_iload hx hb d_Mo_same_105 (lv_at hl 1 rfl) ?_
                          refine lv_iadd hx hb d_Mo_same_107 ?_
                          refine va_lald hx hb hK hP 5 1 rfl rfl (ix_12a (ix_misRule c_2 hR) (k_lt12 hI_msame (hZ _) c_6)) d_Mo_same_108 ?_
                          refine lv_aload_n hx hb d_Mo_same_109 rfl (lv_at hl 3 rfl) ?_
                          refine va_get (D := G) (ci := 6) (v := .ref a5) (C := R_Mo) (T := T_Mo) (N := 32) hx hb hts hi_2 hown hK hP 0 rfl rfl 7 (by decide) hk_5 (fun _ h9 => h9) rfl d_Mo_same_110 ?_
                          refine lv_bipush (v := 12) hx hb d_Mo_same_113 (by decide) ?_
                          refine lv_iload_n hx hb d_Mo_same_115 rfl (lv_at hl 5 rfl) ?_
                          refine lv_imul hx hb d_Mo_same_116 ?_
                          refine lv_iload hx hb d_Mo_same_117 (lv_at hl 1 rfl) ?_
                          refine lv_iadd hx hb d_Mo_same_119 ?_
                          refine va_lald hx hb hK hP 5 1 rfl rfl (ix_12a (ix_misRule c_4 hR) (k_lt12 hI_msame (hZ _) c_6)) d_Mo_same_120 ?_
                          refine W_join (P := (numbers ((12 * r) + k).toNatClampNeg) = (numbers ((12 * r2) + k).toNatClampNeg)) (A := (1 : Int32)) (B := 0) (fr := (fun v : Int32 => F0 m 130 ls (.int v :: []))) (fun hA_18 hB_19 => ?_) ?_
                          · refine lc_ne (x := numbers ((12 * r) + k).toNatClampNeg) (y := numbers ((12 * r2) + k).toNatClampNeg) (tgt := 129) hx hb d_Mo_same_121 d_Mo_same_122 (by decide) (fun c_17 => ?_) (fun c_17 => ?_)
                            · refine lv_iconst (v := 0) hx hb d_Mo_same_129 (by decide) ?_
                              exact hB_19 c_17
                            · refine lv_iconst (v := 1) hx hb d_Mo_same_125 (by decide) ?_
                              refine lv_goto (tgt := 130) hx hb d_Mo_same_126 (by decide) ?_
                              exact hA_18 c_17
                          exact hB_16 c_14
                      exact hA_11 c_10
                  exact hB_9 c_7
              refine lv_istore_n (lv' := [(3, .int (if same_ = 0 then (0 : Int32) else (if (ops ((12 * r) + k).toNatClampNeg) = (ops ((12 * r2) + k).toNatClampNeg) then ((if (f_mhasNumber (ops ((12 * r) + k).toNatClampNeg)) = 0 then (1 : Int32) else (if (numbers ((12 * r) + k).toNatClampNeg) = (numbers ((12 * r2) + k).toNatClampNeg) then (1 : Int32) else 0)) : Int32) else 0))), (5, .int (ops ((12 * r) + k).toNatClampNeg)), (4, .int k), (0, .ref a0), (1, .int r), (2, .int r2)]) hx hb d_Mo_same_130 rfl hl (by decide) rfl (fun ls hl => ?_)
              refine lv_iinc (v := k + 1) (lv' := [(4, .int (k + 1)), (3, .int (if same_ = 0 then (0 : Int32) else (if (ops ((12 * r) + k).toNatClampNeg) = (ops ((12 * r2) + k).toNatClampNeg) then ((if (f_mhasNumber (ops ((12 * r) + k).toNatClampNeg)) = 0 then (1 : Int32) else (if (numbers ((12 * r) + k).toNatClampNeg) = (numbers ((12 * r2) + k).toNatClampNeg) then (1 : Int32) else 0)) : Int32) else 0))), (5, .int (ops ((12 * r) + k).toNatClampNeg)), (0, .ref a0), (1, .int r), (2, .int r2)]) hx hb d_Mo_same_131 hl (k := 2) rfl rfl (by decide) rfl (fun ls hl => ?_)
              refine lv_goto (tgt := 43) hx hb d_Mo_same_134 (by decide) ?_
              exact ih H _ ls (if same_ = 0 then (0 : Int32) else (if (ops ((12 * r) + k).toNatClampNeg) = (ops ((12 * r2) + k).toNatClampNeg) then ((if (f_mhasNumber (ops ((12 * r) + k).toNatClampNeg)) = 0 then (1 : Int32) else (if (numbers ((12 * r) + k).toNatClampNeg) = (numbers ((12 * r2) + k).toNatClampNeg) then (1 : Int32) else 0)) : Int32) else 0)) (k + 1) hP hD hS (lv_sub hl [0, 1, 3, 4, 5] rfl) (by exact k_step12 hI_msame (hZ _) c_6) (by rw [← hT]; simp only [L_msame, if_neg c_6])
        · obtain ⟨z_same__20, z_k_21⟩ := x
          obtain ⟨hw_22, hP, hD, hS, hl⟩ := hq
          replace hP : va_P G vwCl (W_Mod cI cL cZ cR cE a0 a1 a2 a3 a4 a5 a6 a7 a8 a9 a10 a11 a12 a13 a14 a15 a16 a17 a18 a19 a20 a21 a22 0 most rules editions orders sizes ops numbers cells hasFallback fallbackKinds fallbacks facts states counts days toldAt tells handles handleFacts failures failedRule failedHow answers givers stack high steps how cellNow own has) H := hP
          replace hD : va_D A (W_Mod cI cL cZ cR cE a0 a1 a2 a3 a4 a5 a6 a7 a8 a9 a10 a11 a12 a13 a14 a15 a16 a17 a18 a19 a20 a21 a22 0 most rules editions orders sizes ops numbers cells hasFallback fallbackKinds fallbacks facts states counts days toldAt tells handles handleFacts failures failedRule failedHow answers givers stack high steps how cellNow own has) := hD
          replace hl : lv_has ls 6 [(4, .int z_k_21), (3, .int z_same__20), (0, .ref a0), (1, .int r), (2, .int r2)] := hl
          refine lv_iload_n hx hb d_Mo_same_137 rfl (lv_at hl 1 rfl) ?_
          exact W.zret (v := z_same__20) hx hb hr (nar01 (by have hx := L_msame_01 (sizes := sizes) (ops := ops) (numbers := numbers) (r := r) (r2 := r2) 13 1 0 (Or.inr rfl); rw [← hw_22] at hx; exact hx)) (fun t ht hW => ⟨⟨z_same__20, 0, rfl, (by rw [← hT]; simp only [f_msame, if_neg c_2, if_neg c_4, if_pos c_5, ← hw_22]), by rw [ht]; exact hP, va_K.moved hW.alike hK, hD⟩, hS.F ht⟩) hS.2.2 d_Mo_same_138
      · refine lv_iconst (v := 0) hx hb d_Mo_same_36 (by decide) ?_
        exact W.zret (v := 0) hx hb hr rfl (fun t ht hW => ⟨⟨0, 0, rfl, (by rw [← hT]; simp only [f_msame, if_neg c_2, if_neg c_4, if_neg c_5]), by rw [ht]; exact hP, va_K.moved hW.alike hK, hD⟩, hS.F ht⟩) hS.2.2 d_Mo_same_37
