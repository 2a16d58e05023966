def L_mbehind (rules : Int32) (editions : Nat → Int32) (orders : Nat → Int32) (ed : Int32) (r : Int32) : Nat → Int32 → Int32 → Int32 × Int32
  | 0, best, k => (best, k)
  | n + 1, best, k => if rules ≤ k then (best, k) else (if (editions k.toNatClampNeg) = ed then (if (if r = (-1) then (1 : Int32) else (if (orders r.toNatClampNeg) < (orders k.toNatClampNeg) then (1 : Int32) else (if (orders k.toNatClampNeg) = (orders r.toNatClampNeg) then ((if k ≤ r then (0 : Int32) else 1) : Int32) else 0))) = 0 then (L_mbehind rules editions orders ed r n best (k + 1)) else (if best = (-1) then (L_mbehind rules editions orders ed r n k (k + 1)) else (if (orders best.toNatClampNeg) ≤ (orders k.toNatClampNeg) then (L_mbehind rules editions orders ed r n best (k + 1)) else (L_mbehind rules editions orders ed r n k (k + 1))))) else (L_mbehind rules editions orders ed r n best (k + 1)))
def f_mbehind (rules : Int32) (editions : Nat → Int32) (orders : Nat → Int32) (ed : Int32) (r : Int32) : Int32 := match L_mbehind rules editions orders ed r 41 (-1) 0 with | (z_best_18, z_k_19) => z_best_18
set_option maxHeartbeats 4000000 in
set_option maxRecDepth 100000 in
theorem c_mbehind (l : Launch) (G : va_G) (cI cL cZ cR cE : ClassId) (a0 a1 a2 a3 a4 a5 a6 a7 a8 a9 a10 a11 a12 a13 a14 a15 a16 a17 a18 a19 a20 a21 a22 : Nat) (thrown : Int32) (most : Int32) (rules : Int32) (editions : Nat → Int32) (orders : Nat → Int32) (sizes : Nat → Int32) (ops : Nat → Int32) (numbers : Nat → Int64) (cells : Nat → Int64) (hasFallback : Nat → Int32) (fallbackKinds : Nat → Int32) (fallbacks : Nat → Int64) (facts : Nat → Int64) (states : Nat → Int32) (counts : Nat → Int32) (days : Nat → Int32) (toldAt : Nat → Int32) (tells : Int32) (handles : Int32) (handleFacts : Nat → Int32) (failures : Int32) (failedRule : Nat → Int32) (failedHow : Nat → Int32) (answers : Nat → Int64) (givers : Nat → Int32) (stack : Nat → Int64) (high : Int32) (steps : Int32) (how : Int32) (cellNow : Int64) (own : Nat → Int64) (has : Nat → Int32) (ed : Int32) (r : Int32) (hR : 0 ≤ rules.toInt ∧ rules.toInt ≤ 40) (hrr : r = (-1) ∨ vp_in r 40) : Met l y_Mo_behind w_Mo_behind ({ frames := 0, cells := 0, slots := 0, locals := 0 }) (preR G (TYS cI cL cZ cR cE) [.ref a0, .int ed, .int r] (W_Mod cI cL cZ cR cE a0 a1 a2 a3 a4 a5 a6 a7 a8 a9 a10 a11 a12 a13 a14 a15 a16 a17 a18 a19 a20 a21 a22 thrown most rules editions orders sizes ops numbers cells hasFallback fallbackKinds fallbacks facts states counts days toldAt tells handles handleFacts failures failedRule failedHow answers givers stack high steps how cellNow own has)) (vp_Si (fun ans_ => ans_ = f_mbehind rules editions orders ed r)) 0 0 (fun _ => False) := by
  refine Met.ofW (cc := b_Mo_behind) (maxL := 6) (ret := (some .int)) (by decide) rfl ?_
  intro p e s m args below meth c s₁ B hml hv
  obtain ⟨rfl, hP, hK, hN⟩ := hv
  have hx := B.exec
  have hb := B.bytes
  have hr := B.returns
  have hts := atoms_spec (ws := w_Mo_behind) B.pre
  have hown : s.vm.findClass R_Mo = some m.cls := findClass_of_methodNamed B.named
  have hlocks := B.notSynchronized
  obtain ⟨H, hH⟩ : ∃ H, H = s.heap := ⟨_, rfl⟩
  rw [← hH] at hP
  rw [← hH]
  have hi_2 : ∀ w ∈ u_ws R_Mo T_Mo 32, w ∈ w_Mo_behind := fun w h => List.mem_cons_of_mem _ (iu_Mo w h)
  have hk_1 := hts (.fieldLink R_Mo 85 "HandlingRulesModel" "rules" "I") (List.mem_cons_of_mem _ kw_567)
  have hk_3 := hts (.fieldLink R_Mo 13 "HandlingRulesModel" "orders" "[I") (List.mem_cons_of_mem _ kw_569)
  have hk_4 := hts (.fieldLink R_Mo 7 "HandlingRulesModel" "editions" "[I") (List.mem_cons_of_mem _ kw_568)
  have hl := lv_entry ([.ref a0, .int ed, .int r]) (n := 6) (Nat.le_of_ble_eq_true rfl)
  rw [lg_entry_eq]
  generalize (lg_sl ([.ref a0, .int ed, .int r]) ++ List.replicate (6 - (lg_sl ([.ref a0, .int ed, .int r])).length) Slot.unset).toArray = ls at hl ⊢
  replace hl : lv_has ls 6 [(0, .ref a0), (1, .int ed), (2, .int r)] := hl
  generalize hT : f_mbehind rules editions orders ed r = T
  refine lv_iconst (v := (-1)) hx hb d_Mo_behind_0 (by decide) ?_
  refine lv_istore_n (lv' := [(3, .int (-1)), (0, .ref a0), (1, .int ed), (2, .int r)]) hx hb d_Mo_behind_1 rfl hl (by decide) rfl (fun ls hl => ?_)
  refine lv_iconst (v := 0) hx hb d_Mo_behind_2 (by decide) ?_
  refine lv_istore (lv' := [(4, .int 0), (3, .int (-1)), (0, .ref a0), (1, .int ed), (2, .int r)]) hx hb d_Mo_behind_3 hl (by decide) rfl (fun ls hl => ?_)
  refine W_seqR (α := Int32 × Int32) (pcE := 110) (Post := (fun x ls => x = L_mbehind rules editions orders ed r 41 (-1) 0 ∧ lv_has ls 6 [(4, .int x.2), (3, .int x.1), (0, .ref a0), (1, .int ed), (2, .int r)])) (fun hKK => ?_) (fun x ls hq => ?_)
  · generalize hT : L_mbehind rules editions orders ed r 41 (-1) 0 = T at hKK
    obtain ⟨n, hn⟩ : ∃ n : Nat, n = 41 := ⟨_, rfl⟩
    obtain ⟨best, h_best⟩ : ∃ z : Int32, z = (-1) := ⟨_, rfl⟩
    obtain ⟨k, h_k⟩ : ∃ z : Int32, z = 0 := ⟨_, rfl⟩
    replace hl : lv_has ls 6 [(4, .int k), (3, .int best), (0, .ref a0), (1, .int ed), (2, .int r)] := by rw [h_best, h_k]; exact hl
    have hI_mbehind : 0 ≤ k.toInt ∧ k.toInt ≤ 40 ∧ 41 ≤ k.toInt + (n : Int) ∧ (best = (-1) ∨ vp_in best 40) := by rw [hn, h_k, h_best]; exact ⟨by decide, by decide, by decide, Or.inl rfl⟩
    replace hT : L_mbehind rules editions orders ed r n best k = T := by rw [← hT, hn, h_best, h_k]
    clear hn h_best h_k
    revert hT
    revert hI_mbehind
    revert hl
    revert k
    revert best
    revert ls
    induction n with
    | zero =>
      intro ls best k hl hI_mbehind hT
      exact absurd hI_mbehind (by omega)
    | succ n ih =>
      intro ls best k hl hI_mbehind hT
      refine lv_iload hx hb d_Mo_behind_5 (lv_at hl 0 rfl) ?_
      refine lv_aload_n hx hb d_Mo_behind_7 rfl (lv_at hl 2 rfl) ?_
      refine va_get (D := G) (ci := 6) (v := .int rules) (C := R_Mo) (T := T_Mo) (N := 32) hx hb hts hi_2 hown hK hP 0 rfl rfl 2 (by decide) hk_1 (fun _ h9 => h9) rfl d_Mo_behind_8 ?_
      refine lv_icmp_ge (tgt := 110) hx hb d_Mo_behind_11 (by decide) (fun c_1 => ?_) (fun c_1 => ?_)
      · exact hKK (best, k) ls ⟨(by rw [← hT]; simp only [L_mbehind, if_pos c_1]), lv_sub hl [0, 1, 2, 3, 4] rfl⟩
      · refine lv_iload_n hx hb d_Mo_behind_14 rfl (lv_at hl 4 rfl) ?_
        refine lv_iconst (v := (-1)) hx hb d_Mo_behind_15 (by decide) ?_
        refine W_join (P := r = (-1)) (A := (1 : Int32)) (B := (if (orders r.toNatClampNeg) < (orders k.toNatClampNeg) then (1 : Int32) else (if (orders k.toNatClampNeg) = (orders r.toNatClampNeg) then ((if k ≤ r then (0 : Int32) else 1) : Int32) else 0))) (fr := (fun v : Int32 => F0 m 62 ls (.int v :: []))) (fun hA_3 hB_4 => ?_) ?_
        · refine lv_icmp_eq (tgt := 57) hx hb d_Mo_behind_16 (by decide) (fun c_2 => ?_) (fun c_2 => ?_)
          · refine lv_iconst (v := 1) hx hb d_Mo_behind_57 (by decide) ?_
            refine lv_goto (tgt := 62) hx hb d_Mo_behind_58 (by decide) ?_
            exact hA_3 c_2
          · refine lv_aload_n hx hb d_Mo_behind_19 rfl (lv_at hl 2 rfl) ?_
            refine va_get (D := G) (ci := 6) (v := .ref a2) (C := R_Mo) (T := T_Mo) (N := 32) hx hb hts hi_2 hown hK hP 0 rfl rfl 4 (by decide) hk_3 (fun _ h9 => h9) rfl d_Mo_behind_20 ?_
            refine lv_iload hx hb d_Mo_behind_23 (lv_at hl 0 rfl) ?_
            refine va_iald hx hb hK hP 2 0 rfl rfl (ix_k hI_mbehind hR c_1) d_Mo_behind_25 ?_
            refine lv_aload_n hx hb d_Mo_behind_26 rfl (lv_at hl 2 rfl) ?_
            refine va_get (D := G) (ci := 6) (v := .ref a2) (C := R_Mo) (T := T_Mo) (N := 32) hx hb hts hi_2 hown hK hP 0 rfl rfl 4 (by decide) hk_3 (fun _ h9 => h9) rfl d_Mo_behind_27 ?_
            refine lv_iload_n hx hb d_Mo_behind_30 rfl (lv_at hl 4 rfl) ?_
            refine va_iald hx hb hK hP 2 0 rfl rfl (ix_or hrr c_2) d_Mo_behind_31 ?_
            refine W_join (P := (orders r.toNatClampNeg) < (orders k.toNatClampNeg)) (A := (1 : Int32)) (B := (if (orders k.toNatClampNeg) = (orders r.toNatClampNeg) then ((if k ≤ r then (0 : Int32) else 1) : Int32) else 0)) (fr := (fun v : Int32 => F0 m 62 ls (.int v :: []))) (fun hA_6 hB_7 => ?_) ?_
            · refine lv_icmp_gt (tgt := 57) hx hb d_Mo_behind_32 (by decide) (fun c_5 => ?_) (fun c_5 => ?_)
              · refine lv_iconst (v := 1) hx hb d_Mo_behind_57 (by decide) ?_
                refine lv_goto (tgt := 62) hx hb d_Mo_behind_58 (by decide) ?_
                exact hA_6 c_5
              · refine lv_aload_n hx hb d_Mo_behind_35 rfl (lv_at hl 2 rfl) ?_
                refine va_get (D := G) (ci := 6) (v := .ref a2) (C := R_Mo) (T := T_Mo) (N := 32) hx hb hts hi_2 hown hK hP 0 rfl rfl 4 (by decide) hk_3 (fun _ h9 => h9) rfl d_Mo_behind_36 ?_
                refine lv_iload hx hb d_Mo_behind_39 (lv_at hl 0 rfl) ?_
                refine va_iald hx hb hK hP 2 0 rfl rfl (ix_k hI_mbehind hR c_1) d_Mo_behind_41 ?_
                refine lv_aload_n hx hb d_Mo_behind_42 rfl (lv_at hl 2 rfl) ?_
                refine va_get (D := G) (ci := 6) (v := .ref a2) (C := R_Mo) (T := T_Mo) (N := 32) hx hb hts hi_2 hown hK hP 0 rfl rfl 4 (by decide) hk_3 (fun _ h9 => h9) rfl d_Mo_behind_43 ?_
                refine lv_iload_n hx hb d_Mo_behind_46 rfl (lv_at hl 4 rfl) ?_
                refine va_iald hx hb hK hP 2 0 rfl rfl (ix_or hrr c_2) d_Mo_behind_47 ?_
                refine W_join (P := (orders k.toNatClampNeg) = (orders r.toNatClampNeg)) (A := ((if k ≤ r then (0 : Int32) else 1) : Int32)) (B := 0) (fr := (fun v : Int32 => F0 m 62 ls (.int v :: []))) (fun hA_9 hB_10 => ?_) ?_
                · refine lv_icmp_ne (tgt := 61) hx hb d_Mo_behind_48 (by decide) (fun c_8 => ?_) (fun c_8 => ?_)
                  · refine lv_iconst (v := 0) hx hb d_Mo_behind_61 (by decide) ?_
                    exact hB_10 c_8
                  · refine lv_iload hx hb d_Mo_behind_51 (lv_at hl 0 rfl) ?_
                    refine lv_iload_n hx hb d_Mo_behind_53 rfl (lv_at hl 4 rfl) ?_
                    refine W_join (P := k ≤ r) (A := (0 : Int32)) (B := 1) (fr := (fun v : Int32 => F0 m 62 ls (.int v :: []))) (fun hA_12 hB_13 => ?_) ?_
                    · refine lv_icmp_le (tgt := 61) hx hb d_Mo_behind_54 (by decide) (fun c_11 => ?_) (fun c_11 => ?_)
                      · refine lv_iconst (v := 0) hx hb d_Mo_behind_61 (by decide) ?_
                        exact hA_12 c_11
                      · refine lv_iconst (v := 1) hx hb d_Mo_behind_57 (by decide) ?_
                        refine lv_goto (tgt := 62) hx hb d_Mo_behind_58 (by decide) ?_
                        exact hB_13 c_11
                    exact hA_9 c_8
                exact hB_7 c_5
            exact hB_4 c_2
        refine lv_istore (lv' := [(5, .int (if r = (-1) then (1 : Int32) else (if (orders r.toNatClampNeg) < (orders k.toNatClampNeg) then (1 : Int32) else (if (orders k.toNatClampNeg) = (orders r.toNatClampNeg) then ((if k ≤ r then (0 : Int32) else 1) : Int32) else 0)))), (4, .int k), (3, .int best), (0, .ref a0), (1, .int ed), (2, .int r)]) hx hb d_Mo_behind_62 hl (by decide) rfl (fun ls hl => ?_)
        refine lv_aload_n hx hb d_Mo_behind_64 rfl (lv_at hl 3 rfl) ?_
        refine va_get (D := G) (ci := 6) (v := .ref a1) (C := R_Mo) (T := T_Mo) (N := 32) hx hb hts hi_2 hown hK hP 0 rfl rfl 3 (by decide) hk_4 (fun _ h9 => h9) rfl d_Mo_behind_65 ?_
        refine lv_iload hx hb d_Mo_behind_68 (lv_at hl 1 rfl) ?_
        refine va_iald hx hb hK hP 1 0 rfl rfl (ix_k hI_mbehind hR c_1) d_Mo_behind_70 ?_
        refine lv_iload_n hx hb d_Mo_behind_71 rfl (lv_at hl 4 rfl) ?_
        refine lv_icmp_ne (tgt := 104) hx hb d_Mo_behind_72 (by decide) (fun c_14 => ?_) (fun c_14 => ?_)
        · refine lv_iinc (v := k + 1) (lv' := [(4, .int (k + 1)), (5, .int (if r = (-1) then (1 : Int32) else (if (orders r.toNatClampNeg) < (orders k.toNatClampNeg) then (1 : Int32) else (if (orders k.toNatClampNeg) = (orders r.toNatClampNeg) then ((if k ≤ r then (0 : Int32) else 1) : Int32) else 0)))), (3, .int best), (0, .ref a0), (1, .int ed), (2, .int r)]) hx hb d_Mo_behind_104 hl (k := 1) rfl rfl (by decide) rfl (fun ls hl => ?_)
          refine lv_goto (tgt := 5) hx hb d_Mo_behind_107 (by decide) ?_
          exact ih ls best (k + 1) (lv_sub hl [0, 2, 3, 4, 5] rfl) (by exact beh_step hI_mbehind hR c_1 hI_mbehind.2.2.2) (by rw [← hT]; simp only [L_mbehind, if_neg c_1, if_neg c_14])
        · refine lv_iload hx hb d_Mo_behind_75 (lv_at hl 0 rfl) ?_
          refine lv_if_eq (tgt := 104) hx hb d_Mo_behind_77 (by decide) (fun c_15 => ?_) (fun c_15 => ?_)
          · refine lv_iinc (v := k + 1) (lv' := [(4, .int (k + 1)), (5, .int (if r = (-1) then (1 : Int32) else (if (orders r.toNatClampNeg) < (orders k.toNatClampNeg) then (1 : Int32) else (if (orders k.toNatClampNeg) = (orders r.toNatClampNeg) then ((if k ≤ r then (0 : Int32) else 1) : Int32) else 0)))), (3, .int best), (0, .ref a0), (1, .int ed), (2, .int r)]) hx hb d_Mo_behind_104 hl (k := 1) rfl rfl (by decide) rfl (fun ls hl => ?_)
            refine lv_goto (tgt := 5) hx hb d_Mo_behind_107 (by decide) ?_
            exact ih ls best (k + 1) (lv_sub hl [0, 2, 3, 4, 5] rfl) (by exact beh_step hI_mbehind hR c_1 hI_mbehind.2.2.2) (by rw [← hT]; simp only [L_mbehind, if_neg c_1, if_pos c_14, if_pos c_15])
          · refine lv_iload_n hx hb d_Mo_behind_80 rfl (lv_at hl 2 rfl) ?_
            refine lv_iconst (v := (-1)) hx hb d_Mo_behind_81 (by decide) ?_
            refine lv_icmp_eq (tgt := 101) hx hb d_Mo_behind_82 (by decide) (fun c_16 => ?_) (fun c_16 => ?_)
            · refine lv_iload hx hb d_Mo_behind_101 (lv_at hl 1 rfl) ?_
              refine lv_istore_n (lv' := [(3, .int k), (5, .int (if r = (-1) then (1 : Int32) else (if (orders r.toNatClampNeg) < (orders k.toNatClampNeg) then (1 : Int32) else (if (orders k.toNatClampNeg) = (orders r.toNatClampNeg) then ((if k ≤ r then (0 : Int32) else 1) : Int32) else 0)))), (4, .int k), (0, .ref a0), (1, .int ed), (2, .int r)]) hx hb d_Mo_behind_103 rfl hl (by decide) rfl (fun ls hl => ?_)
              refine lv_iinc (v := k + 1) (lv' := [(4, .int (k + 1)), (3, .int k), (5, .int (if r = (-1) then (1 : Int32) else (if (orders r.toNatClampNeg) < (orders k.toNatClampNeg) then (1 : Int32) else (if (orders k.toNatClampNeg) = (orders r.toNatClampNeg) then ((if k ≤ r then (0 : Int32) else 1) : Int32) else 0)))), (0, .ref a0), (1, .int ed), (2, .int r)]) hx hb d_Mo_behind_104 hl (k := 2) rfl rfl (by decide) rfl (fun ls hl => ?_)
              refine lv_goto (tgt := 5) hx hb d_Mo_behind_107 (by decide) ?_
              exact ih ls k (k + 1) (lv_sub hl [0, 1, 3, 4, 5] rfl) (by exact beh_step hI_mbehind hR c_1 (Or.inr (ix_k hI_mbehind hR c_1))) (by rw [← hT]; simp only [L_mbehind, if_neg c_1, if_pos c_14, if_neg c_15, if_pos c_16])
            · refine lv_aload_n hx hb d_Mo_behind_85 rfl (lv_at hl 3 rfl) ?_
              refine va_get (D := G) (ci := 6) (v := .ref a2) (C := R_Mo) (T := T_Mo) (N := 32) hx hb hts hi_2 hown hK hP 0 rfl rfl 4 (by decide) hk_3 (fun _ h9 => h9) rfl d_Mo_behind_86 ?_
              refine lv_iload hx hb d_Mo_behind_89 (lv_at hl 1 rfl) ?_
              refine va_iald hx hb hK hP 2 0 rfl rfl (ix_k hI_mbehind hR c_1) d_Mo_behind_91 ?_
              refine lv_aload_n hx hb d_Mo_behind_92 rfl (lv_at hl 3 rfl) ?_
              refine va_get (D := G) (ci := 6) (v := .ref a2) (C := R_Mo) (T := T_Mo) (N := 32) hx hb hts hi_2 hown hK hP 0 rfl rfl 4 (by decide) hk_3 (fun _ h9 => h9) rfl d_Mo_behind_93 ?_
              refine lv_iload_n hx hb d_Mo_behind_96 rfl (lv_at hl 2 rfl) ?_
              refine va_iald hx hb hK hP 2 0 rfl rfl (ix_or hI_mbehind.2.2.2 c_16) d_Mo_behind_97 ?_
              refine lv_icmp_ge (tgt := 104) hx hb d_Mo_behind_98 (by decide) (fun c_17 => ?_) (fun c_17 => ?_)
              · refine lv_iinc (v := k + 1) (lv' := [(4, .int (k + 1)), (5, .int (if r = (-1) then (1 : Int32) else (if (orders r.toNatClampNeg) < (orders k.toNatClampNeg) then (1 : Int32) else (if (orders k.toNatClampNeg) = (orders r.toNatClampNeg) then ((if k ≤ r then (0 : Int32) else 1) : Int32) else 0)))), (3, .int best), (0, .ref a0), (1, .int ed), (2, .int r)]) hx hb d_Mo_behind_104 hl (k := 1) rfl rfl (by decide) rfl (fun ls hl => ?_)
                refine lv_goto (tgt := 5) hx hb d_Mo_behind_107 (by decide) ?_
                exact ih ls best (k + 1) (lv_sub hl [0, 2, 3, 4, 5] rfl) (by exact beh_step hI_mbehind hR c_1 hI_mbehind.2.2.2) (by rw [← hT]; simp only [L_mbehind, if_neg c_1, if_pos c_14, if_neg c_15, if_neg c_16, if_pos c_17])
              · refine lv_iload hx hb d_Mo_behind_101 (lv_at hl 1 rfl) ?_
                refine lv_istore_n (lv' := [(3, .int k), (5, .int (if r = (-1) then (1 : Int32) else (if (orders r.toNatClampNeg) < (orders k.toNatClampNeg) then (1 : Int32) else (if (orders k.toNatClampNeg) = (orders r.toNatClampNeg) then ((if k ≤ r then (0 : Int32) else 1) : Int32) else 0)))), (4, .int k), (0, .ref a0), (1, .int ed), (2, .int r)]) hx hb d_Mo_behind_103 rfl hl (by decide) rfl (fun ls hl => ?_)
                refine lv_iinc (v := k + 1) (lv' := [(4, .int (k + 1)), (3, .int k), (5, .int (if r = (-1) then (1 : Int32) else (if (orders r.toNatClampNeg) < (orders k.toNatClampNeg) then (1 : Int32) else (if (orders k.toNatClampNeg) = (orders r.toNatClampNeg) then ((if k ≤ r then (0 : Int32) else 1) : Int32) else 0)))), (0, .ref a0), (1, .int ed), (2, .int r)]) hx hb d_Mo_behind_104 hl (k := 2) rfl rfl (by decide) rfl (fun ls hl => ?_)
                refine lv_goto (tgt := 5) hx hb d_Mo_behind_107 (by decide) ?_
                exact ih ls k (k + 1) (lv_sub hl [0, 1, 3, 4, 5] rfl) (by exact beh_step hI_mbehind hR c_1 (Or.inr (ix_k hI_mbehind hR c_1))) (by rw [← hT]; simp only [L_mbehind, if_neg c_1, if_pos c_14, if_neg c_15, if_neg c_16, if_neg c_17])
  · obtain ⟨z_best_18, z_k_19⟩ := x
    obtain ⟨hw_20, hl⟩ := hq
    replace hl : lv_has ls 6 [(4, .int z_k_19), (3, .int z_best_18), (0, .ref a0), (1, .int ed), (2, .int r)] := hl
    refine lv_iload_n hx hb d_Mo_behind_110 rfl (lv_at hl 1 rfl) ?_
    exact W.iret (v := z_best_18) hx hb hr (fun t ht hW => ⟨z_best_18, rfl, (by rw [← hT]; simp only [f_mbehind, ← hw_20]), by rw [ht, hH]⟩) (fun _ h => by cases h) d_Mo_behind_111
