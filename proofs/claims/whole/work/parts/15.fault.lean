def f_faultOf (stack : Nat → Int64) (handleCount : Int32) (height : Int32) (op : Int32) : Int32 := if (height - (f_takes op)) < 0 then 3 else (if ((height - (f_takes op)) + (f_puts op)) ≤ 8 then (if op = 5 then (if (f_top stack height) = 0 then 2 else (if (if op = 13 then ((if handleCount < 16 then (0 : Int32) else 1) : Int32) else 0) = 0 then (if (if op = 14 then ((if (f_isWithin (f_top stack height) 0 ((handleCount - 1).toInt64)) = 0 then (1 : Int32) else 0) : Int32) else 0) = 0 then 0 else 4) else 4)) else (if (if op = 13 then ((if handleCount < 16 then (0 : Int32) else 1) : Int32) else 0) = 0 then (if (if op = 14 then ((if (f_isWithin (f_top stack height) 0 ((handleCount - 1).toInt64)) = 0 then (1 : Int32) else 0) : Int32) else 0) = 0 then 0 else 4) else 4)) else 3)
set_option maxHeartbeats 4000000 in
set_option maxRecDepth 100000 in
theorem c_faultOf (l : Launch) (G : va_G) (cI cL cZ cR cE : ClassId) (a0 a1 a2 a3 a4 a5 a6 : Nat) (facts : Nat → Int64) (stack : Nat → Int64) (handleFacts : Nat → Int32) (given_values : Nat → Int64) (given_givers : Nat → Int32) (handleCount : Int32) (height : Int32) (position : Int32) (fault : Int32) (cell : Int64) (op : Int32) : Met l y_Rn_faultOf w_Rn_faultOf ({ frames := 2, cells := 0, slots := 0, locals := 40 }) (preR G (TYS cI cL cZ cR cE) [.ref a0, .int op] (W_Run cI cL cZ cR cE a0 a1 a2 a3 a4 a5 a6 facts stack handleFacts given_values given_givers handleCount height position fault cell)) (vp_Si (fun ans_ => ans_ = f_faultOf stack handleCount height op)) 0 0 (fun _ => False) := by
  refine Met.ofW (cc := b_Rn_faultOf) (maxL := 5) (ret := (some .int)) (by decide) rfl ?_
  intro p e s m args below meth c s₁ B hml hv
  obtain ⟨rfl, hP, hK, hN⟩ := hv
  have hx := B.exec
  have hb := B.bytes
  have hr := B.returns
  have hts := atoms_spec (ws := w_Rn_faultOf) B.pre
  have hown : s.vm.findClass R_Rn = some m.cls := findClass_of_methodNamed B.named
  have hlocks := B.notSynchronized
  obtain ⟨H, hH⟩ : ∃ H, H = s.heap := ⟨_, rfl⟩
  rw [← hH] at hP
  rw [← hH]
  have hi_2 : ∀ w ∈ u_ws R_Rn T_Rn 9, w ∈ w_Rn_faultOf := fun w h => List.mem_cons_of_mem _ (iu_Rn w h)
  have hk_1 := hts (.fieldLink R_Rn 33 "HandlingRules$Runner" "height" "I") (List.mem_cons_of_mem _ kw_68)
  have hk_3 := hts (.fieldLink R_Rn 29 "HandlingRules$Runner" "handleCount" "I") (List.mem_cons_of_mem _ kw_66)
  have hl := lv_entry ([.ref a0, .int op]) (n := 5) (Nat.le_of_ble_eq_true rfl)
  rw [lg_entry_eq]
  generalize (lg_sl ([.ref a0, .int op]) ++ List.replicate (5 - (lg_sl ([.ref a0, .int op])).length) Slot.unset).toArray = ls at hl ⊢
  replace hl : lv_has ls 5 [(0, .ref a0), (1, .int op)] := hl
  generalize hT : f_faultOf stack handleCount height op = T
  refine lv_aload_n hx hb d_Rn_faultOf_0 rfl (lv_at hl 0 rfl) ?_
  refine va_get (D := G) (ci := 4) (v := .int height) (C := R_Rn) (T := T_Rn) (N := 9) hx hb hts hi_2 hown hK hP 0 rfl rfl 5 (by decide) hk_1 (fun _ h9 => h9) rfl d_Rn_faultOf_1 ?_
  refine lv_iload_n hx hb d_Rn_faultOf_4 rfl (lv_at hl 1 rfl) ?_
  refine vp_callSi (run_of (va_runSN (As := [.int op]) (rest := [.int height]) ⟨hx, hb, hml, hown, hts⟩ (c_takes l G cI cL cZ cR cE  op) ⟨va_cnB 1 hts (gC kw_314) rfl rfl rfl (nwN_3 hN) (hts _ (List.mem_cons_of_mem _ kw_15)) (by decide +kernel) ⟨Nat.le_of_ble_eq_true rfl, Nat.le_of_ble_eq_true rfl⟩, hts _ (List.mem_cons_of_mem _ kw_313), trivial⟩ (preRS_of hN hK hP [] rfl) rfl rfl hl.1 rfl (lv_room (Nat.le_of_ble_eq_true rfl)) d_Rn_faultOf_5 ⟨Nat.zero_le _, Nat.zero_le _⟩)) (fun r_1 hw => ?_)
  subst hw
  refine lv_isub hx hb d_Rn_faultOf_8 ?_
  refine lv_istore_n (lv' := [(2, .int (height - (f_takes op))), (0, .ref a0), (1, .int op)]) hx hb d_Rn_faultOf_9 rfl hl (by decide) rfl (fun ls hl => ?_)
  refine lv_iload_n hx hb d_Rn_faultOf_10 rfl (lv_at hl 0 rfl) ?_
  refine lv_if_lt (tgt := 25) hx hb d_Rn_faultOf_11 (by decide) (fun c_2 => ?_) (fun c_2 => ?_)
  · refine lv_iconst (v := 3) hx hb d_Rn_faultOf_25 (by decide) ?_
    exact W.iret (v := 3) hx hb hr (fun t ht hW => ⟨3, rfl, (by rw [← hT]; simp only [f_faultOf, if_pos c_2]), by rw [ht, hH]⟩) (fun _ h => by cases h) d_Rn_faultOf_26
  · refine lv_iload_n hx hb d_Rn_faultOf_14 rfl (lv_at hl 0 rfl) ?_
    refine lv_iload_n hx hb d_Rn_faultOf_15 rfl (lv_at hl 2 rfl) ?_
    refine vp_callSi (run_of (va_runSN (As := [.int op]) (rest := [.int (height - (f_takes op))]) ⟨hx, hb, hml, hown, hts⟩ (c_puts l G cI cL cZ cR cE  op) ⟨va_cnB 1 hts (gC kw_320) rfl rfl rfl (nwN_4 hN) (hts _ (List.mem_cons_of_mem _ kw_15)) (by decide +kernel) ⟨Nat.le_of_ble_eq_true rfl, Nat.le_of_ble_eq_true rfl⟩, hts _ (List.mem_cons_of_mem _ kw_319), trivial⟩ (preRS_of hN hK hP [] rfl) rfl rfl hl.1 rfl (lv_room (Nat.le_of_ble_eq_true rfl)) d_Rn_faultOf_16 ⟨Nat.zero_le _, Nat.zero_le _⟩)) (fun r_3 hw => ?_)
    subst hw
    refine lv_iadd hx hb d_Rn_faultOf_19 ?_
    refine lv_bipush (v := 8) hx hb d_Rn_faultOf_20 (by decide) ?_
    refine lv_icmp_le (tgt := 27) hx hb d_Rn_faultOf_22 (by decide) (fun c_4 => ?_) (fun c_4 => ?_)
    · refine lv_iload_n hx hb d_Rn_faultOf_27 rfl (lv_at hl 2 rfl) ?_
      refine lv_iconst (v := 5) hx hb d_Rn_faultOf_28 (by decide) ?_
      refine lv_icmp_ne (tgt := 43) hx hb d_Rn_faultOf_29 (by decide) (fun c_5 => ?_) (fun c_5 => ?_)
      · refine lv_iload_n hx hb d_Rn_faultOf_43 rfl (lv_at hl 2 rfl) ?_
        refine lv_bipush (v := 13) hx hb d_Rn_faultOf_44 (by decide) ?_
        refine W_join (P := op = 13) (A := ((if handleCount < 16 then (0 : Int32) else 1) : Int32)) (B := 0) (fr := (fun v : Int32 => F0 m 63 ls (.int v :: []))) (fun hA_7 hB_8 => ?_) ?_
        · refine lv_icmp_ne (tgt := 62) hx hb d_Rn_faultOf_46 (by decide) (fun c_6 => ?_) (fun c_6 => ?_)
          · refine lv_iconst (v := 0) hx hb d_Rn_faultOf_62 (by decide) ?_
            exact hB_8 c_6
          · refine lv_aload_n hx hb d_Rn_faultOf_49 rfl (lv_at hl 1 rfl) ?_
            refine va_get (D := G) (ci := 4) (v := .int handleCount) (C := R_Rn) (T := T_Rn) (N := 9) hx hb hts hi_2 hown hK hP 0 rfl rfl 4 (by decide) hk_3 (fun _ h9 => h9) rfl d_Rn_faultOf_50 ?_
            refine lv_bipush (v := 16) hx hb d_Rn_faultOf_53 (by decide) ?_
            refine W_join (P := handleCount < 16) (A := (0 : Int32)) (B := 1) (fr := (fun v : Int32 => F0 m 63 ls (.int v :: []))) (fun hA_10 hB_11 => ?_) ?_
            · refine lv_icmp_lt (tgt := 62) hx hb d_Rn_faultOf_55 (by decide) (fun c_9 => ?_) (fun c_9 => ?_)
              · refine lv_iconst (v := 0) hx hb d_Rn_faultOf_62 (by decide) ?_
                exact hA_10 c_9
              · refine lv_iconst (v := 1) hx hb d_Rn_faultOf_58 (by decide) ?_
                refine lv_goto (tgt := 63) hx hb d_Rn_faultOf_59 (by decide) ?_
                exact hB_11 c_9
            exact hA_7 c_6
        refine lv_istore_n (lv' := [(3, .int (if op = 13 then ((if handleCount < 16 then (0 : Int32) else 1) : Int32) else 0)), (2, .int (height - (f_takes op))), (0, .ref a0), (1, .int op)]) hx hb d_Rn_faultOf_63 rfl hl (by decide) rfl (fun ls hl => ?_)
        refine lv_iload_n hx hb d_Rn_faultOf_64 rfl (lv_at hl 3 rfl) ?_
        refine lv_bipush (v := 14) hx hb d_Rn_faultOf_65 (by decide) ?_
        refine W_join (P := op = 14) (A := ((if (f_isWithin (f_top stack height) 0 ((handleCount - 1).toInt64)) = 0 then (1 : Int32) else 0) : Int32)) (B := 0) (fr := (fun v : Int32 => F0 m 93 ls (.int v :: []))) (fun hA_13 hB_14 => ?_) ?_
        · refine lv_icmp_ne (tgt := 92) hx hb d_Rn_faultOf_67 (by decide) (fun c_12 => ?_) (fun c_12 => ?_)
          · refine lv_iconst (v := 0) hx hb d_Rn_faultOf_92 (by decide) ?_
            exact hB_14 c_12
          · refine lv_aload_n hx hb d_Rn_faultOf_70 rfl (lv_at hl 2 rfl) ?_
            refine vp_callSl (W.runV (As := []) (rest := []) ⟨hx, hb, hml, hown, hts⟩ (c_top l G cI cL cZ cR cE a0 a1 a2 a3 a4 a5 a6 facts stack handleFacts given_values given_givers handleCount height position fault cell) (cwV 0 hts (gV kw_321 kw_322 kw_323 kw_16 kw_324) rfl rfl rfl (by decide +kernel) ⟨Nat.le_of_ble_eq_true rfl, Nat.le_of_ble_eq_true rfl⟩) (preRV_of (ci := 4) hN hK hP [0, 1, 2, 3, 4, 5, 6] rfl rfl rfl) rfl rfl hl.1 rfl (lv_room (Nat.le_of_ble_eq_true rfl)) d_Rn_faultOf_71 ⟨Nat.zero_le _, Nat.zero_le _⟩) (fun r_15 hw => ?_)
            subst hw
            refine lv_lconst (v := 0) hx hb d_Rn_faultOf_74 (by decide) ?_
            refine lv_aload_n hx hb d_Rn_faultOf_75 rfl (lv_at hl 2 rfl) ?_
            refine va_get (D := G) (ci := 4) (v := .int handleCount) (C := R_Rn) (T := T_Rn) (N := 9) hx hb hts hi_2 hown hK hP 0 rfl rfl 4 (by decide) hk_3 (fun _ h9 => h9) rfl d_Rn_faultOf_76 ?_
            refine lv_iconst (v := 1) hx hb d_Rn_faultOf_79 (by decide) ?_
            refine lv_isub hx hb d_Rn_faultOf_80 ?_
            refine lv_i2l (v := (handleCount - 1).toInt64) hx hb d_Rn_faultOf_81 rfl ?_
            refine vp_callSi (run_of (va_runSN (As := [.long (f_top stack height), .long 0, .long ((handleCount - 1).toInt64)]) (rest := []) ⟨hx, hb, hml, hown, hts⟩ (c_isWithin l G cI cL cZ cR cE  (f_top stack height) 0 ((handleCount - 1).toInt64)) ⟨va_cnB 3 hts (gC kw_180) rfl rfl rfl (nwN_5 hN) (hts _ (List.mem_cons_of_mem _ kw_15)) (by decide +kernel) ⟨Nat.le_of_ble_eq_true rfl, Nat.le_of_ble_eq_true rfl⟩, hts _ (List.mem_cons_of_mem _ kw_179), trivial⟩ (preRS_of hN hK hP [] rfl) rfl rfl hl.1 rfl (lv_room (Nat.le_of_ble_eq_true rfl)) d_Rn_faultOf_82 ⟨Nat.zero_le _, Nat.zero_le _⟩)) (fun r_16 hw => ?_)
            subst hw
            refine W_join (P := (f_isWithin (f_top stack height) 0 ((handleCount - 1).toInt64)) = 0) (A := (1 : Int32)) (B := 0) (fr := (fun v : Int32 => F0 m 93 ls (.int v :: []))) (fun hA_18 hB_19 => ?_) ?_
            · refine lv_if_ne (tgt := 92) hx hb d_Rn_faultOf_85 (by decide) (fun c_17 => ?_) (fun c_17 => ?_)
              · refine lv_iconst (v := 0) hx hb d_Rn_faultOf_92 (by decide) ?_
                exact hB_19 c_17
              · refine lv_iconst (v := 1) hx hb d_Rn_faultOf_88 (by decide) ?_
                refine lv_goto (tgt := 93) hx hb d_Rn_faultOf_89 (by decide) ?_
                exact hA_18 c_17
            exact hA_13 c_12
        refine lv_istore (lv' := [(4, .int (if op = 14 then ((if (f_isWithin (f_top stack height) 0 ((handleCount - 1).toInt64)) = 0 then (1 : Int32) else 0) : Int32) else 0)), (3, .int (if op = 13 then ((if handleCount < 16 then (0 : Int32) else 1) : Int32) else 0)), (2, .int (height - (f_takes op))), (0, .ref a0), (1, .int op)]) hx hb d_Rn_faultOf_93 hl (by decide) rfl (fun ls hl => ?_)
        refine lv_iload_n hx hb d_Rn_faultOf_95 rfl (lv_at hl 1 rfl) ?_
        refine lv_if_ne (tgt := 104) hx hb d_Rn_faultOf_96 (by decide) (fun c_20 => ?_) (fun c_20 => ?_)
        · refine lv_iconst (v := 4) hx hb d_Rn_faultOf_104 (by decide) ?_
          refine lv_goto (tgt := 109) hx hb d_Rn_faultOf_105 (by decide) ?_
          exact W.iret (v := 4) hx hb hr (fun t ht hW => ⟨4, rfl, (by rw [← hT]; simp only [f_faultOf, if_neg c_2, if_pos c_4, if_neg c_5, if_neg c_20]), by rw [ht, hH]⟩) (fun _ h => by cases h) d_Rn_faultOf_109
        · refine lv_iload hx hb d_Rn_faultOf_99 (lv_at hl 0 rfl) ?_
          refine lv_if_eq (tgt := 108) hx hb d_Rn_faultOf_101 (by decide) (fun c_21 => ?_) (fun c_21 => ?_)
          · refine lv_iconst (v := 0) hx hb d_Rn_faultOf_108 (by decide) ?_
            exact W.iret (v := 0) hx hb hr (fun t ht hW => ⟨0, rfl, (by rw [← hT]; simp only [f_faultOf, if_neg c_2, if_pos c_4, if_neg c_5, if_pos c_20, if_pos c_21]), by rw [ht, hH]⟩) (fun _ h => by cases h) d_Rn_faultOf_109
          · refine lv_iconst (v := 4) hx hb d_Rn_faultOf_104 (by decide) ?_
            refine lv_goto (tgt := 109) hx hb d_Rn_faultOf_105 (by decide) ?_
            exact W.iret (v := 4) hx hb hr (fun t ht hW => ⟨4, rfl, (by rw [← hT]; simp only [f_faultOf, if_neg c_2, if_pos c_4, if_neg c_5, if_pos c_20, if_neg c_21]), by rw [ht, hH]⟩) (fun _ h => by cases h) d_Rn_faultOf_109
      · refine lv_aload_n hx hb d_Rn_faultOf_32 rfl (lv_at hl 1 rfl) ?_
        refine vp_callSl (W.runV (As := []) (rest := []) ⟨hx, hb, hml, hown, hts⟩ (c_top l G cI cL cZ cR cE a0 a1 a2 a3 a4 a5 a6 facts stack handleFacts given_values given_givers handleCount height position fault cell) (cwV 0 hts (gV kw_321 kw_322 kw_323 kw_16 kw_324) rfl rfl rfl (by decide +kernel) ⟨Nat.le_of_ble_eq_true rfl, Nat.le_of_ble_eq_true rfl⟩) (preRV_of (ci := 4) hN hK hP [0, 1, 2, 3, 4, 5, 6] rfl rfl rfl) rfl rfl hl.1 rfl (lv_room (Nat.le_of_ble_eq_true rfl)) d_Rn_faultOf_33 ⟨Nat.zero_le _, Nat.zero_le _⟩) (fun r_22 hw => ?_)
        subst hw
        refine lv_lconst (v := 0) hx hb d_Rn_faultOf_36 (by decide) ?_
        refine lc_ne (x := f_top stack height) (y := 0) (tgt := 43) hx hb d_Rn_faultOf_37 d_Rn_faultOf_38 (by decide) (fun c_23 => ?_) (fun c_23 => ?_)
        · refine lv_iload_n hx hb d_Rn_faultOf_43 rfl (lv_at hl 2 rfl) ?_
          refine lv_bipush (v := 13) hx hb d_Rn_faultOf_44 (by decide) ?_
          refine W_join (P := op = 13) (A := ((if handleCount < 16 then (0 : Int32) else 1) : Int32)) (B := 0) (fr := (fun v : Int32 => F0 m 63 ls (.int v :: []))) (fun hA_25 hB_26 => ?_) ?_
          · refine lv_icmp_ne (tgt := 62) hx hb d_Rn_faultOf_46 (by decide) (fun c_24 => ?_) (fun c_24 => ?_)
            · refine lv_iconst (v := 0) hx hb d_Rn_faultOf_62 (by decide) ?_
              exact hB_26 c_24
            · refine lv_aload_n hx hb d_Rn_faultOf_49 rfl (lv_at hl 1 rfl) ?_
              refine va_get (D := G) (ci := 4) (v := .int handleCount) (C := R_Rn) (T := T_Rn) (N := 9) hx hb hts hi_2 hown hK hP 0 rfl rfl 4 (by decide) hk_3 (fun _ h9 => h9) rfl d_Rn_faultOf_50 ?_
              refine lv_bipush (v := 16) hx hb d_Rn_faultOf_53 (by decide) ?_
              refine W_join (P := handleCount < 16) (A := (0 : Int32)) (B := 1) (fr := (fun v : Int32 => F0 m 63 ls (.int v :: []))) (fun hA_28 hB_29 => ?_) ?_
              · refine lv_icmp_lt (tgt := 62) hx hb d_Rn_faultOf_55 (by decide) (fun c_27 => ?_) (fun c_27 => ?_)
                · refine lv_iconst (v := 0) hx hb d_Rn_faultOf_62 (by decide) ?_
                  exact hA_28 c_27
                · refine lv_iconst (v := 1) hx hb d_Rn_faultOf_58 (by decide) ?_
                  refine lv_goto (tgt := 63) hx hb d_Rn_faultOf_59 (by decide) ?_
                  exact hB_29 c_27
              exact hA_25 c_24
          refine lv_istore_n (lv' := [(3, .int (if op = 13 then ((if handleCount < 16 then (0 : Int32) else 1) : Int32) else 0)), (2, .int (height - (f_takes op))), (0, .ref a0), (1, .int op)]) hx hb d_Rn_faultOf_63 rfl hl (by decide) rfl (fun ls hl => ?_)
          refine lv_iload_n hx hb d_Rn_faultOf_64 rfl (lv_at hl 3 rfl) ?_
          refine lv_bipush (v := 14) hx hb d_Rn_faultOf_65 (by decide) ?_
          refine W_join (P := op = 14) (A := ((if (f_isWithin (f_top stack height) 0 ((handleCount - 1).toInt64)) = 0 then (1 : Int32) else 0) : Int32)) (B := 0) (fr := (fun v : Int32 => F0 m 93 ls (.int v :: []))) (fun hA_31 hB_32 => ?_) ?_
          · refine lv_icmp_ne (tgt := 92) hx hb d_Rn_faultOf_67 (by decide) (fun c_30 => ?_) (fun c_30 => ?_)
            · refine lv_iconst (v := 0) hx hb d_Rn_faultOf_92 (by decide) ?_
              exact hB_32 c_30
            · refine lv_aload_n hx hb d_Rn_faultOf_70 rfl (lv_at hl 2 rfl) ?_
              refine vp_callSl (W.runV (As := []) (rest := []) ⟨hx, hb, hml, hown, hts⟩ (c_top l G cI cL cZ cR cE a0 a1 a2 a3 a4 a5 a6 facts stack handleFacts given_values given_givers handleCount height position fault cell) (cwV 0 hts (gV kw_321 kw_322 kw_323 kw_16 kw_324) rfl rfl rfl (by decide +kernel) ⟨Nat.le_of_ble_eq_true rfl, Nat.le_of_ble_eq_true rfl⟩) (preRV_of (ci := 4) hN hK hP [0, 1, 2, 3, 4, 5, 6] rfl rfl rfl) rfl rfl hl.1 rfl (lv_room (Nat.le_of_ble_eq_true rfl)) d_Rn_faultOf_71 ⟨Nat.zero_le _, Nat.zero_le _⟩) (fun r_33 hw => ?_)
              subst hw
              refine lv_lconst (v := 0) hx hb d_Rn_faultOf_74 (by decide) ?_
              refine lv_aload_n hx hb d_Rn_faultOf_75 rfl (lv_at hl 2 rfl) ?_
              refine va_get (D := G) (ci := 4) (v := .int handleCount) (C := R_Rn) (T := T_Rn) (N := 9) hx hb hts hi_2 hown hK hP 0 rfl rfl 4 (by decide) hk_3 (fun _ h9 => h9) rfl d_Rn_faultOf_76 ?_
              refine lv_iconst (v := 1) hx hb d_Rn_faultOf_79 (by decide) ?_
              refine lv_isub hx hb d_Rn_faultOf_80 ?_
              refine lv_i2l (v := (handleCount - 1).toInt64) hx hb d_Rn_faultOf_81 rfl ?_
              refine vp_callSi (run_of (va_runSN (As := [.long (f_top stack height), .long 0, .long ((handleCount - 1).toInt64)]) (rest := []) ⟨hx, hb, hml, hown, hts⟩ (c_isWithin l G cI cL cZ cR cE  (f_top stack height) 0 ((handleCount - 1).toInt64)) ⟨va_cnB 3 hts (gC kw_180) rfl rfl rfl (nwN_5 hN) (hts _ (List.mem_cons_of_mem _ kw_15)) (by decide +kernel) ⟨Nat.le_of_ble_eq_true rfl, Nat.le_of_ble_eq_true rfl⟩, hts _ (List.mem_cons_of_mem _ kw_179), trivial⟩ (preRS_of hN hK hP [] rfl) rfl rfl hl.1 rfl (lv_room (Nat.le_of_ble_eq_true rfl)) d_Rn_faultOf_82 ⟨Nat.zero_le _, Nat.zero_le _⟩)) (fun r_34 hw => ?_)
              subst hw
              refine W_join (P := (f_isWithin (f_top stack height) 0 ((handleCount - 1).toInt64)) = 0) (A := (1 : Int32)) (B := 0) (fr := (fun v : Int32 => F0 m 93 ls (.int v :: []))) (fun hA_36 hB_37 => ?_) ?_
              · refine lv_if_ne (tgt := 92) hx hb d_Rn_faultOf_85 (by decide) (fun c_35 => ?_) (fun c_35 => ?_)
                · refine lv_iconst (v := 0) hx hb d_Rn_faultOf_92 (by decide) ?_
                  exact hB_37 c_35
                · refine lv_iconst (v := 1) hx hb d_Rn_faultOf_88 (by decide) ?_
                  refine lv_goto (tgt := 93) hx hb d_Rn_faultOf_89 (by decide) ?_
                  exact hA_36 c_35
              exact hA_31 c_30
          refine lv_istore (lv' := [(4, .int (if op = 14 then ((if (f_isWithin (f_top stack height) 0 ((handleCount - 1).toInt64)) = 0 then (1 : Int32) else 0) : Int32) else 0)), (3, .int (if op = 13 then ((if handleCount < 16 then (0 : Int32) else 1) : Int32) else 0)), (2, .int (height - (f_takes op))), (0, .ref a0), (1, .int op)]) hx hb d_Rn_faultOf_93 hl (by decide) rfl (fun ls hl => ?_)
          refine lv_iload_n hx hb d_Rn_faultOf_95 rfl (lv_at hl 1 rfl) ?_
          refine lv_if_ne (tgt := 104) hx hb d_Rn_faultOf_96 (by decide) (fun c_38 => ?_) (fun c_38 => ?_)
          · refine lv_iconst (v := 4) hx hb d_Rn_faultOf_104 (by decide) ?_
            refine lv_goto (tgt := 109) hx hb d_Rn_faultOf_105 (by decide) ?_
            exact W.iret (v := 4) hx hb hr (fun t ht hW => ⟨4, rfl, (by rw [← hT]; simp only [f_faultOf, if_neg c_2, if_pos c_4, if_pos c_5, if_neg c_23, if_neg c_38]), by rw [ht, hH]⟩) (fun _ h => by cases h) d_Rn_faultOf_109
          · refine lv_iload hx hb d_Rn_faultOf_99 (lv_at hl 0 rfl) ?_
            refine lv_if_eq (tgt := 108) hx hb d_Rn_faultOf_101 (by decide) (fun c_39 => ?_) (fun c_39 => ?_)
            · refine lv_iconst (v := 0) hx hb d_Rn_faultOf_108 (by decide) ?_
              exact W.iret (v := 0) hx hb hr (fun t ht hW => ⟨0, rfl, (by rw [← hT]; simp only [f_faultOf, if_neg c_2, if_pos c_4, if_pos c_5, if_neg c_23, if_pos c_38, if_pos c_39]), by rw [ht, hH]⟩) (fun _ h => by cases h) d_Rn_faultOf_109
            · refine lv_iconst (v := 4) hx hb d_Rn_faultOf_104 (by decide) ?_
              refine lv_goto (tgt := 109) hx hb d_Rn_faultOf_105 (by decide) ?_
              exact W.iret (v := 4) hx hb hr (fun t ht hW => ⟨4, rfl, (by rw [← hT]; simp only [f_faultOf, if_neg c_2, if_pos c_4, if_pos c_5, if_neg c_23, if_pos c_38, if_neg c_39]), by rw [ht, hH]⟩) (fun _ h => by cases h) d_Rn_faultOf_109
        · refine lv_iconst (v := 2) hx hb d_Rn_faultOf_41 (by decide) ?_
          exact W.iret (v := 2) hx hb hr (fun t ht hW => ⟨2, rfl, (by rw [← hT]; simp only [f_faultOf, if_neg c_2, if_pos c_4, if_pos c_5, if_pos c_23]), by rw [ht, hH]⟩) (fun _ h => by cases h) d_Rn_faultOf_42
    · refine lv_iconst (v := 3) hx hb d_Rn_faultOf_25 (by decide) ?_
      exact W.iret (v := 3) hx hb hr (fun t ht hW => ⟨3, rfl, (by rw [← hT]; simp only [f_faultOf, if_neg c_2, if_neg c_4]), by rw [ht, hH]⟩) (fun _ h => by cases h) d_Rn_faultOf_26
