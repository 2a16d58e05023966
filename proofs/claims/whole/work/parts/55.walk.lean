set_option maxHeartbeats 4000000 in
set_option maxRecDepth 100000 in
theorem x_inForce (l : Launch) (G : va_G) (cI cL cZ cR cE : ClassId)  (A : CAd) (s : CS) (begun : Int32) : Met l y_Hr_inForceOn w_Hr_inForceOn ({ frames := 1, cells := 0, slots := 0, locals := 21 }) (preR G (TYS cI cL cZ cR cE) [.ref (A.h 0), .int begun] (FW cI cL cZ cR cE A s)) (va_Sq (fun ans_ => ans_ = (inF s.ed begun 6 0 none).map A.ea)) 0 0 (fun _ => False) := by
  refine Met.ofW (cc := b_Hr_inForceOn) (maxL := 5) (ret := (some (.object "HandlingRules$Edition"))) (by decide) rfl ?_
  intro p e s_ m args below meth c s₁ B hml hv
  obtain ⟨rfl, hP, hK, hN⟩ := hv
  have hx := B.exec
  have hb := B.bytes
  have hr := B.returns
  have hts := atoms_spec (ws := w_Hr_inForceOn) B.pre
  have hown : s_.vm.findClass R_Hr = some m.cls := findClass_of_methodNamed B.named
  have hlocks := B.notSynchronized
  obtain ⟨H, hH⟩ : ∃ H, H = s_.heap := ⟨_, rfl⟩
  rw [← hH] at hP
  rw [← hH]
  have hi_2 : ∀ w ∈ u_ws R_Hr T_Hr 8, w ∈ w_Hr_inForceOn := fun w h => List.mem_cons_of_mem _ (iu_Hr w h)
  have hk_1 := hts (.fieldLink R_Hr 11 "HandlingRules" "editions" "[LHandlingRules$Edition;") (List.mem_cons_of_mem _ kw_145)
  have hl := lv_entry ([.ref (A.h 0), .int begun]) (n := 5) (Nat.le_of_ble_eq_true rfl)
  rw [lg_entry_eq]
  generalize (lg_sl ([.ref (A.h 0), .int begun]) ++ List.replicate (5 - (lg_sl ([.ref (A.h 0), .int begun])).length) Slot.unset).toArray = ls at hl ⊢
  replace hl : lv_has ls 5 [(0, .ref (A.h 0)), (1, .int begun)] := hl
  generalize hT : (inF s.ed begun 6 0 none).map A.ea = T
  refine lv_null hx hb d_Hr_inForceOn_0 ?_
  refine lv_astore_nN (lv' := [(2, .null), (0, .ref (A.h 0)), (1, .int begun)]) hx hb d_Hr_inForceOn_1 rfl hl (by decide) rfl (fun ls hl => ?_)
  refine lv_iconst (v := 0) hx hb d_Hr_inForceOn_2 (by decide) ?_
  refine lv_istore_n (lv' := [(3, .int 0), (2, .null), (0, .ref (A.h 0)), (1, .int begun)]) hx hb d_Hr_inForceOn_3 rfl hl (by decide) rfl (fun ls hl => ?_)
  obtain ⟨mm, hmm⟩ : ∃ z : Nat, z = 6 := ⟨_, rfl⟩
  obtain ⟨i, hi0⟩ : ∃ z : Nat, z = 0 := ⟨_, rfl⟩
  obtain ⟨best, hb0⟩ : ∃ z : Option Nat, z = none := ⟨_, rfl⟩
  have hi : i + mm = 6 := by omega
  have hbl : ∀ b, best = some b → b < i := by rw [hb0]; exact fun b h => by cases h
  have hTT : (inF s.ed begun mm i best).map A.ea = T := by rw [hmm, hi0, hb0]; exact hT
  replace hl : lv_has ls 5 [(3, .int (nI i)), (2, va_rf (best.map A.ea)), (0, .ref (A.h 0)), (1, .int begun)] := by rw [hi0, hb0, nI_0]; exact hl
  clear hmm hi0 hb0 hT
  revert hl
  revert hTT
  revert hbl
  revert hi
  revert best
  revert i
  revert ls
  induction mm with
  | zero =>
    intro ls i best hi hbl hTT hl
    have hi6 : i = 6 := by omega
    subst hi6
    cases best with
    | none =>
      replace hl : lv_has ls 5 [(3, .int (nI 6)), (2, .null), (0, .ref (A.h 0)), (1, .int begun)] := hl
      refine lv_iload_n hx hb d_Hr_inForceOn_4 rfl (lv_at hl 0 rfl) ?_
      refine lv_bipush (v := 6) hx hb d_Hr_inForceOn_5 (by decide) ?_
      refine lv_icmp_ge (tgt := 50) hx hb d_Hr_inForceOn_7 (by decide) (fun _ => ?_) (fun c_0 => absurd (show (6 : Int32) ≤ nI 6 by decide) c_0)
      refine lv_aload_nN hx hb d_Hr_inForceOn_50 rfl (lv_at hl 1 rfl) ?_
      exact W.aret (v := va_rf none) hx hb hr (Or.inl ⟨_, rfl⟩) (va_rf_or _) (fun t ht hW => ⟨none, rfl, hTT, by rw [ht, hH]⟩) (fun _ h => by cases h) d_Hr_inForceOn_51
    | some b =>
      replace hl : lv_has ls 5 [(3, .int (nI 6)), (2, .ref (A.ea b)), (0, .ref (A.h 0)), (1, .int begun)] := hl
      refine lv_iload_n hx hb d_Hr_inForceOn_4 rfl (lv_at hl 0 rfl) ?_
      refine lv_bipush (v := 6) hx hb d_Hr_inForceOn_5 (by decide) ?_
      refine lv_icmp_ge (tgt := 50) hx hb d_Hr_inForceOn_7 (by decide) (fun _ => ?_) (fun c_0 => absurd (show (6 : Int32) ≤ nI 6 by decide) c_0)
      refine lv_aload_n hx hb d_Hr_inForceOn_50 rfl (lv_at hl 1 rfl) ?_
      exact W.aret (v := va_rf (some (A.ea b))) hx hb hr (Or.inl ⟨_, rfl⟩) (va_rf_or _) (fun t ht hW => ⟨some (A.ea b), rfl, hTT, by rw [ht, hH]⟩) (fun _ h => by cases h) d_Hr_inForceOn_51
  | succ mm ih =>
    intro ls i best hi hbl hTT hl
    have hi6 : i < 6 := by omega
    cases best with
    | none =>
      replace hl : lv_has ls 5 [(3, .int (nI i)), (2, .null), (0, .ref (A.h 0)), (1, .int begun)] := hl
      refine lv_iload_n hx hb d_Hr_inForceOn_4 rfl (lv_at hl 0 rfl) ?_
      refine lv_bipush (v := 6) hx hb d_Hr_inForceOn_5 (by decide) ?_
      refine lv_icmp_ge (tgt := 50) hx hb d_Hr_inForceOn_7 (by decide) (fun c_0 => absurd c_0 (nI_ge (a := i) (b := 6) hi6 (by omega))) (fun _ => ?_)
      refine lv_aload_n hx hb d_Hr_inForceOn_10 rfl (lv_at hl 2 rfl) ?_
      refine va_get (D := G) (ci := 5) (v := .ref (A.h 1)) (C := R_Hr) (T := T_Hr) (N := 8) hx hb hts hi_2 hown hK (FW_hr hP) 0 rfl rfl 1 (by decide) hk_1 (fun _ h9 => h9) rfl d_Hr_inForceOn_11 ?_
      refine lv_iload_n hx hb d_Hr_inForceOn_14 rfl (lv_at hl 0 rfl) ?_
      refine va_aldq hx hb hK (FW_hr hP) 1 4 rfl rfl (vp_in_nI hi6 (by decide)) d_Hr_inForceOn_15 ?_
      rw [show edsF A (nI i).toNatClampNeg = some (A.ea i) from by rw [nI_clamp (by omega)]; exact if_pos hi6]
      refine W.eq (g2 := F0 m 16 ls (.ref (A.ea i) :: [])) rfl ?_
      refine lv_astore (lv' := [(4, .ref (A.ea i)), (3, .int (nI i)), (2, .null), (0, .ref (A.h 0)), (1, .int begun)]) hx hb d_Hr_inForceOn_16 hl (by decide) rfl (fun ls hl => ?_)
      refine lv_aload hx hb d_Hr_inForceOn_18 (lv_at hl 0 rfl) ?_
      refine lv_ifnull hx hb d_Hr_inForceOn_20 ?_
      refine lv_aload hx hb d_Hr_inForceOn_23 (lv_at hl 0 rfl) ?_
      refine lv_iload_n hx hb d_Hr_inForceOn_25 rfl (lv_at hl 4 rfl) ?_
      refine vp_callSi (W.runV (As := [.int begun]) (rest := []) ⟨hx, hb, hml, hown, hts⟩ (c_isInForceOn l G cI cL cZ cR cE (A.ea i) (A.eb i) ((s.ed i).state) (nI (s.ed i).cnt) ((s.ed i).fr) ((s.ed i).told) (ordF A (s.ed i)) begun) (cwV 1 hts (gV kw_382 kw_383 kw_384 kw_20 kw_385) rfl rfl rfl (by decide +kernel) ⟨Nat.le_of_ble_eq_true rfl, Nat.le_of_ble_eq_true rfl⟩) (preRV_of (ci := 1) hN hK (FW_ed hP hi6) [0, 1] rfl rfl rfl) rfl rfl hl.1 rfl (lv_room (Nat.le_of_ble_eq_true rfl)) d_Hr_inForceOn_26 ⟨Nat.zero_le _, Nat.zero_le _⟩) (fun r_1 hw => ?_)
      subst hw
      refine lv_if_eq (tgt := 44) hx hb d_Hr_inForceOn_29 (by decide) (fun c_2 => ?_) (fun c_2 => ?_)
      · refine lv_iinc (v := (nI i) + 1) (lv' := [(3, .int ((nI i) + 1)), (4, .ref (A.ea i)), (2, .null), (0, .ref (A.h 0)), (1, .int begun)]) hx hb d_Hr_inForceOn_44 hl (k := 1) rfl rfl (by decide) rfl (fun ls hl => ?_)
        refine lv_goto (tgt := 4) hx hb d_Hr_inForceOn_47 (by decide) ?_
        exact ih ls (i + 1) none (by omega) (fun b h => by cases h) (by rw [← hTT]; simp only [inF, inSt, if_pos c_2]) (by rw [← nI_1]; exact (lv_sub hl [0, 2, 3, 4] rfl))
      · refine lv_aload hx hb d_Hr_inForceOn_32 (lv_at hl 0 rfl) ?_
        refine lv_aload_nN hx hb d_Hr_inForceOn_34 rfl (lv_at hl 2 rfl) ?_
        refine vp_callSi (W.runV (As := [.null]) (rest := []) ⟨hx, hb, hml, hown, hts⟩ (c_goesAheadN l G cI cL cZ cR cE (A.ea i) (A.eb i) ((s.ed i).state) (nI (s.ed i).cnt) ((s.ed i).fr) ((s.ed i).told) (ordF A (s.ed i))) (cwV 1 hts (gV kw_386 kw_387 kw_388 kw_20 kw_389) rfl rfl rfl (by decide +kernel) ⟨Nat.le_of_ble_eq_true rfl, Nat.le_of_ble_eq_true rfl⟩) (preRV_of (ci := 1) hN hK (FW_ed hP hi6) [0, 1] rfl rfl rfl) rfl rfl hl.1 rfl (lv_room (Nat.le_of_ble_eq_true rfl)) d_Hr_inForceOn_35 ⟨Nat.zero_le _, Nat.zero_le _⟩) (fun r_3 hw => ?_)
        subst hw
        rw [show f_goesAheadN = (1 : Int32) from rfl]
        refine lv_if_eq (tgt := 44) hx hb d_Hr_inForceOn_38 (by decide) (fun k_4 => absurd k_4 (by decide)) (fun _ => ?_)
        refine lv_aload hx hb d_Hr_inForceOn_41 (lv_at hl 0 rfl) ?_
        refine lv_astore_n (lv' := [(2, .ref (A.ea i)), (4, .ref (A.ea i)), (3, .int (nI i)), (0, .ref (A.h 0)), (1, .int begun)]) hx hb d_Hr_inForceOn_43 rfl hl (by decide) rfl (fun ls hl => ?_)
        refine lv_iinc (v := (nI i) + 1) (lv' := [(3, .int ((nI i) + 1)), (2, .ref (A.ea i)), (4, .ref (A.ea i)), (0, .ref (A.h 0)), (1, .int begun)]) hx hb d_Hr_inForceOn_44 hl (k := 2) rfl rfl (by decide) rfl (fun ls hl => ?_)
        refine lv_goto (tgt := 4) hx hb d_Hr_inForceOn_47 (by decide) ?_
        exact ih ls (i + 1) (some i) (by omega) (fun b h => by cases h; omega) (by rw [← hTT]; simp only [inF, inSt, if_neg c_2]) (by rw [← nI_1]; exact (lv_sub hl [0, 1, 3, 4] rfl))
    | some b =>
      replace hl : lv_has ls 5 [(3, .int (nI i)), (2, .ref (A.ea b)), (0, .ref (A.h 0)), (1, .int begun)] := hl
      refine lv_iload_n hx hb d_Hr_inForceOn_4 rfl (lv_at hl 0 rfl) ?_
      refine lv_bipush (v := 6) hx hb d_Hr_inForceOn_5 (by decide) ?_
      refine lv_icmp_ge (tgt := 50) hx hb d_Hr_inForceOn_7 (by decide) (fun c_0 => absurd c_0 (nI_ge (a := i) (b := 6) hi6 (by omega))) (fun _ => ?_)
      refine lv_aload_n hx hb d_Hr_inForceOn_10 rfl (lv_at hl 2 rfl) ?_
      refine va_get (D := G) (ci := 5) (v := .ref (A.h 1)) (C := R_Hr) (T := T_Hr) (N := 8) hx hb hts hi_2 hown hK (FW_hr hP) 0 rfl rfl 1 (by decide) hk_1 (fun _ h9 => h9) rfl d_Hr_inForceOn_11 ?_
      refine lv_iload_n hx hb d_Hr_inForceOn_14 rfl (lv_at hl 0 rfl) ?_
      refine va_aldq hx hb hK (FW_hr hP) 1 4 rfl rfl (vp_in_nI hi6 (by decide)) d_Hr_inForceOn_15 ?_
      rw [show edsF A (nI i).toNatClampNeg = some (A.ea i) from by rw [nI_clamp (by omega)]; exact if_pos hi6]
      refine W.eq (g2 := F0 m 16 ls (.ref (A.ea i) :: [])) rfl ?_
      refine lv_astore (lv' := [(4, .ref (A.ea i)), (3, .int (nI i)), (2, .ref (A.ea b)), (0, .ref (A.h 0)), (1, .int begun)]) hx hb d_Hr_inForceOn_16 hl (by decide) rfl (fun ls hl => ?_)
      refine lv_aload hx hb d_Hr_inForceOn_18 (lv_at hl 0 rfl) ?_
      refine lv_ifnull hx hb d_Hr_inForceOn_20 ?_
      refine lv_aload hx hb d_Hr_inForceOn_23 (lv_at hl 0 rfl) ?_
      refine lv_iload_n hx hb d_Hr_inForceOn_25 rfl (lv_at hl 4 rfl) ?_
      refine vp_callSi (W.runV (As := [.int begun]) (rest := []) ⟨hx, hb, hml, hown, hts⟩ (c_isInForceOn l G cI cL cZ cR cE (A.ea i) (A.eb i) ((s.ed i).state) (nI (s.ed i).cnt) ((s.ed i).fr) ((s.ed i).told) (ordF A (s.ed i)) begun) (cwV 1 hts (gV kw_382 kw_383 kw_384 kw_20 kw_385) rfl rfl rfl (by decide +kernel) ⟨Nat.le_of_ble_eq_true rfl, Nat.le_of_ble_eq_true rfl⟩) (preRV_of (ci := 1) hN hK (FW_ed hP hi6) [0, 1] rfl rfl rfl) rfl rfl hl.1 rfl (lv_room (Nat.le_of_ble_eq_true rfl)) d_Hr_inForceOn_26 ⟨Nat.zero_le _, Nat.zero_le _⟩) (fun r_5 hw => ?_)
      subst hw
      refine lv_if_eq (tgt := 44) hx hb d_Hr_inForceOn_29 (by decide) (fun c_6 => ?_) (fun c_6 => ?_)
      · refine lv_iinc (v := (nI i) + 1) (lv' := [(3, .int ((nI i) + 1)), (4, .ref (A.ea i)), (2, .ref (A.ea b)), (0, .ref (A.h 0)), (1, .int begun)]) hx hb d_Hr_inForceOn_44 hl (k := 1) rfl rfl (by decide) rfl (fun ls hl => ?_)
        refine lv_goto (tgt := 4) hx hb d_Hr_inForceOn_47 (by decide) ?_
        exact ih ls (i + 1) (some b) (by omega) (fun b' h => by cases h; have := hbl b rfl; omega) (by rw [← hTT]; simp only [inF, inSt, if_pos c_6]) (by rw [← nI_1]; exact (lv_sub hl [0, 2, 3, 4] rfl))
      · refine lv_aload hx hb d_Hr_inForceOn_32 (lv_at hl 0 rfl) ?_
        refine lv_aload_n hx hb d_Hr_inForceOn_34 rfl (lv_at hl 2 rfl) ?_
        refine vp_callSi (W.runV (As := [.ref (A.ea b)]) (rest := []) ⟨hx, hb, hml, hown, hts⟩ (c_goesAhead l G cI cL cZ cR cE (A.ea i) (A.eb i) (A.ea b) (A.eb b) ((s.ed i).state) (nI (s.ed i).cnt) ((s.ed i).fr) ((s.ed i).told) (ordF A (s.ed i)) ((s.ed b).state) (nI (s.ed b).cnt) ((s.ed b).fr) ((s.ed b).told) (ordF A (s.ed b))) (cwV 1 hts (gV kw_386 kw_387 kw_388 kw_20 kw_389) rfl rfl rfl (by decide +kernel) ⟨Nat.le_of_ble_eq_true rfl, Nat.le_of_ble_eq_true rfl⟩) (preRV_of (ci := 1) hN hK ((FW_ed hP hi6).app (FW_ed hP (show b < 6 by have := hbl b rfl; omega))) [0, 1, 2, 3] rfl rfl rfl) rfl rfl hl.1 rfl (lv_room (Nat.le_of_ble_eq_true rfl)) d_Hr_inForceOn_35 ⟨Nat.zero_le _, Nat.zero_le _⟩) (fun r_7 hw => ?_)
        subst hw
        refine lv_if_eq (tgt := 44) hx hb d_Hr_inForceOn_38 (by decide) (fun c_8 => ?_) (fun c_8 => ?_)
        · refine lv_iinc (v := (nI i) + 1) (lv' := [(3, .int ((nI i) + 1)), (4, .ref (A.ea i)), (2, .ref (A.ea b)), (0, .ref (A.h 0)), (1, .int begun)]) hx hb d_Hr_inForceOn_44 hl (k := 1) rfl rfl (by decide) rfl (fun ls hl => ?_)
          refine lv_goto (tgt := 4) hx hb d_Hr_inForceOn_47 (by decide) ?_
          exact ih ls (i + 1) (some b) (by omega) (fun b' h => by cases h; have := hbl b rfl; omega) (by rw [← hTT]; simp only [inF, inSt, if_neg c_6, if_pos c_8]) (by rw [← nI_1]; exact (lv_sub hl [0, 2, 3, 4] rfl))
        · refine lv_aload hx hb d_Hr_inForceOn_41 (lv_at hl 0 rfl) ?_
          refine lv_astore_n (lv' := [(2, .ref (A.ea i)), (4, .ref (A.ea i)), (3, .int (nI i)), (0, .ref (A.h 0)), (1, .int begun)]) hx hb d_Hr_inForceOn_43 rfl hl (by decide) rfl (fun ls hl => ?_)
          refine lv_iinc (v := (nI i) + 1) (lv' := [(3, .int ((nI i) + 1)), (2, .ref (A.ea i)), (4, .ref (A.ea i)), (0, .ref (A.h 0)), (1, .int begun)]) hx hb d_Hr_inForceOn_44 hl (k := 2) rfl rfl (by decide) rfl (fun ls hl => ?_)
          refine lv_goto (tgt := 4) hx hb d_Hr_inForceOn_47 (by decide) ?_
          exact ih ls (i + 1) (some i) (by omega) (fun b h => by cases h; omega) (by rw [← hTT]; simp only [inF, inSt, if_neg c_6, if_neg c_8]) (by rw [← nI_1]; exact (lv_sub hl [0, 1, 3, 4] rfl))
set_option maxHeartbeats 4000000 in
set_option maxRecDepth 100000 in
theorem x_test (l : Launch) (G : va_G) (cI cL cZ cR cE : ClassId)  (sz : Nat) (A : CAd) (s : CS) (hI : CInv s) (k : Int32) : Met l y_Hr_test w_Hr_test ({ frames := 6, cells := 0, slots := 0, locals := 144 }) (preW G (TYS cI cL cZ cR cE) [.ref (A.h 0), .int k] sz (FW cI cL cZ cR cE A s)) (va_Qi (S := CS) (fun ans_ u => (ans_, u) = F_test s k) (fun u t => va_P G vwCl (FW cI cL cZ cR cE A u) t.heap ∧ va_K G vwCl (TYS cI cL cZ cR cE) t ∧ va_D (va_A (FW cI cL cZ cR cE A s) sz) (FW cI cL cZ cR cE A u)) (va_A (FW cI cL cZ cR cE A s) sz)) 0 0 (va_A (FW cI cL cZ cR cE A s) sz) := by
  refine Met.ofW (cc := b_Hr_test) (maxL := 6) (ret := (some .int)) (by decide) rfl ?_
  intro p e s_ m args below meth c s₁ B hml hv
  obtain ⟨rfl, hsz, hP, hK, hD0, hN⟩ := hv
  have hx := B.exec
  have hb := B.bytes
  have hr := B.returns
  have hts := atoms_spec (ws := w_Hr_test) B.pre
  have hown : s_.vm.findClass R_Hr = some m.cls := findClass_of_methodNamed B.named
  have hlocks := B.notSynchronized
  subst hsz
  have hD := hD0.self (sz := s_.heap.size)
  clear hD0
  generalize hAe : va_A (FW cI cL cZ cR cE A s) s_.heap.size = A0 at hD ⊢
  have hA : ∀ q : Nat, s_.heap.size ≤ q → A0 q := fun q h => by rw [← hAe]; exact Or.inr h
  clear hAe
  have hS : va_S A0 s_.heap s_.heap [] := va_S.rf
  obtain ⟨H, hH⟩ : ∃ H, H = s_.heap := ⟨_, rfl⟩
  rw [← hH] at hP
  replace hS : va_S A0 s_.heap H [] := by rw [hH]; exact hS
  rw [← hH]
  clear hH
  obtain ⟨locs, hlocs⟩ : ∃ z : List Loc, z = [] := ⟨_, rfl⟩
  rw [← hlocs] at hS ⊢
  clear hlocs
  have hi_2 : ∀ w ∈ u_ws R_Ed T_Ed 5, w ∈ w_Hr_test := fun w h => List.mem_cons_of_mem _ (iu_Ed w h)
  have hi_5 : ∀ w ∈ u_ws R_Hr T_Hr 8, w ∈ w_Hr_test := fun w h => List.mem_cons_of_mem _ (iu_Hr w h)
  have hi_7 : ∀ w ∈ u_ws R_Fa T_Fa 3, w ∈ w_Hr_test := fun w h => List.mem_cons_of_mem _ (iu_Fa w h)
  have hk_1 := hts (.fieldLink R_Hr 74 "HandlingRules$Edition" "state" "I") (List.mem_cons_of_mem _ kw_125)
  have hk_3 := hts (.fieldLink R_Hr 77 "HandlingRules$Edition" "count" "I") (List.mem_cons_of_mem _ kw_127)
  have hk_4 := hts (.fieldLink R_Hr 45 "HandlingRules" "failures" "LHandlingRules$Failures;") (List.mem_cons_of_mem _ kw_151)
  have hk_6 := hts (.fieldLink R_Hr 137 "HandlingRules$Failures" "count" "I") (List.mem_cons_of_mem _ kw_104)
  have hl := lv_entry ([.ref (A.h 0), .int k]) (n := 6) (Nat.le_of_ble_eq_true rfl)
  rw [lg_entry_eq]
  generalize (lg_sl ([.ref (A.h 0), .int k]) ++ List.replicate (6 - (lg_sl ([.ref (A.h 0), .int k])).length) Slot.unset).toArray = ls at hl ⊢
  replace hl : lv_has ls 6 [(0, .ref (A.h 0)), (1, .int k)] := hl
  by_cases ck : vp_in k 6
  · obtain ⟨ei, hei, rfl⟩ := vp_in_of ck (by decide)
    have hq : f_editionAt (edsF A) (nI ei) = some (A.ea ei) := by rw [edAt_iff, in_pos ck, nI_clamp (by omega)]; exact if_pos hei
    refine lv_aload_n hx hb d_Hr_test_0 rfl (lv_at hl 0 rfl) ?_
    refine lv_iload_n hx hb d_Hr_test_1 rfl (lv_at hl 1 rfl) ?_
    refine va_csq (W.runV (As := [.int (nI ei)]) (rest := []) ⟨hx, hb, hml, hown, hts⟩ (c_editionAt l G cI cL cZ cR cE (A.h 0) (A.h 1) (A.h 2) (A.h 3) (A.h 4) (A.h 5) (A.h 6) (A.h 7) (A.h 8) (A.h 9) (A.h 10) (A.h 11) (A.h 12) (A.h 13) (A.h 14) (A.h 15) s.steps (edsF A) (rulF A s.n) (nI s.n) s.days s.facts s.stack s.hf s.gv s.gg s.hc s.ht s.pos s.fault s.cell s.av s.ag s.fn s.fh s.fc (nI ei)) (cwV 1 hts (gV kw_173 kw_175 kw_0 kw_15 kw_176) rfl rfl rfl (by decide +kernel) ⟨Nat.le_of_ble_eq_true rfl, Nat.le_of_ble_eq_true rfl⟩) (preRV_of (ci := 5) hN hK (FW_hr hP) [0, 1, 2, 3, 4, 5, 6, 7, 8, 9, 10, 11, 12, 13, 14, 15] rfl rfl rfl) rfl rfl hl.1 rfl (lv_room (Nat.le_of_ble_eq_true rfl)) d_Hr_test_2 ⟨Nat.zero_le _, Nat.zero_le _⟩) (fun r_2 hw => ?_)
    rw [hq] at hw
    subst hw
    refine W.eq (g2 := F0 m 5 ls (.ref (A.ea ei) :: [])) rfl ?_
    refine lv_astore_n (lv' := [(2, .ref (A.ea ei)), (0, .ref (A.h 0)), (1, .int (nI ei))]) hx hb d_Hr_test_5 rfl hl (by decide) rfl (fun ls hl => ?_)
    refine lv_aload_n hx hb d_Hr_test_6 rfl (lv_at hl 0 rfl) ?_
    refine lv_ifnonnull (tgt := 13) hx hb d_Hr_test_7 (by decide) ?_
    refine lv_aload_n hx hb d_Hr_test_13 rfl (lv_at hl 0 rfl) ?_
    refine va_get (D := G) (ci := 1) (v := .int ((s.ed ei).state)) (C := R_Ed) (T := T_Ed) (N := 5) hx hb hts hi_2 hown hK (FW_ed hP hei) 0 rfl rfl 0 (by decide) hk_1 (fun _ h9 => h9) rfl d_Hr_test_14 ?_
    refine lv_iconst (v := 1) hx hb d_Hr_test_17 (by decide) ?_
    refine lv_icmp_eq (tgt := 24) hx hb d_Hr_test_18 (by decide) (fun c1 => ?_) (fun c1 => ?_)
    rotate_left
    · refine lv_bipush (v := (-103)) hx hb d_Hr_test_21 (by decide) ?_
      exact W.iret (v := (-103)) hx hb hr (fun t ht hW => ⟨⟨(-103), s, rfl, (by unfold F_test; rw [in_pos ck, nI_clamp (by omega), if_neg c1]), by rw [ht]; exact hP, va_K.moved hW.alike hK, hD⟩, hS.F ht⟩) hS.2.2 d_Hr_test_23
    refine lv_aload_n hx hb d_Hr_test_24 rfl (lv_at hl 1 rfl) ?_
    refine cl_vW hK hP hD hS hA (va_runV (As := []) (rest := []) ⟨hx, hb, hml, hown, hts⟩ (x_forget l G cI cL cZ cR cE H.size A s) (cwV 0 hts (gV kw_276 kw_278 kw_2 kw_15 kw_279) rfl rfl rfl (by decide +kernel) ⟨Nat.le_of_ble_eq_true rfl, Nat.le_of_ble_eq_true rfl⟩) (preWV_w (ci := 5) hN hK hP hD (FW_hr hP) rfl rfl) rfl rfl hl.1 rfl (lv_room (Nat.le_of_ble_eq_true rfl)) d_Hr_test_25 ⟨Nat.le_of_ble_eq_true rfl, Nat.le_of_ble_eq_true rfl⟩) (fun u H locs hw hP hD hS => ?_)
    subst hw
    obtain ⟨z1, hz1⟩ : ∃ z : CS, z = (CS.mk s.steps s.n s.days s.facts s.stack s.hf s.gv s.gg (0) s.ht s.pos s.fault s.cell s.av s.ag s.fn s.fh (0) s.ed s.ru) := ⟨_, rfl⟩
    replace hP : va_P G vwCl (FW cI cL cZ cR cE A z1) H := by rw [hz1]; exact hP
    replace hD : va_D A0 (FW cI cL cZ cR cE A z1) := by rw [hz1]; exact hD
    refine lv_iconst (v := 0) hx hb d_Hr_test_28 (by decide) ?_
    refine lv_istore_n (lv' := [(3, .int 0), (2, .ref (A.ea ei)), (0, .ref (A.h 0)), (1, .int (nI ei))]) hx hb d_Hr_test_29 rfl hl (by decide) rfl (fun ls hl => ?_)
    refine lv_iconst (v := 0) hx hb d_Hr_test_30 (by decide) ?_
    refine lv_istore (lv' := [(4, .int 0), (3, .int 0), (2, .ref (A.ea ei)), (0, .ref (A.h 0)), (1, .int (nI ei))]) hx hb d_Hr_test_31 hl (by decide) rfl (fun ls hl => ?_)
    obtain ⟨T, hT⟩ : ∃ z : Int32 × CS, z = testL (s.ed ei).ord (s.ed ei).cnt 0 0 (CS.mk s.steps s.n s.days s.facts s.stack s.hf s.gv s.gg (0) s.ht s.pos s.fault s.cell s.av s.ag s.fn s.fh (0) s.ed s.ru) := ⟨_, rfl⟩
    have hFT : F_test s (nI ei) = (T.1, (CS.setEd (T.2) (setF s.ed ei (EdS.mk (if T.2.fc = 0 then 2 else 3) (s.ed ei).fr (s.ed ei).told (s.ed ei).cnt (s.ed ei).ord)))) := by unfold F_test; rw [in_pos ck, nI_clamp (by omega), if_pos c1, ← hT]
    obtain ⟨mm, hmm⟩ : ∃ z : Nat, z = (s.ed ei).cnt := ⟨_, rfl⟩
    obtain ⟨i, hi0⟩ : ∃ z : Nat, z = 0 := ⟨_, rfl⟩
    obtain ⟨made, hm0⟩ : ∃ z : Int32, z = 0 := ⟨_, rfl⟩
    obtain ⟨z, hz0⟩ : ∃ z : CS, z = z1 := ⟨_, rfl⟩
    rw [← hz0] at hP hD
    have hi : i + mm = (s.ed ei).cnt := by omega
    have hz2 : z.ed = s.ed := by rw [hz0, hz1]
    have hz3 : z.n = s.n := by rw [hz0, hz1]
    have hz4 : z.steps = s.steps := by rw [hz0, hz1]
    have hzf : fcR z := by rw [hz0, hz1]; exact ⟨(show 0 ≤ (0 : Int32).toInt by decide), (show (0 : Int32).toInt ≤ 8 by decide)⟩
    have hTT : testL (s.ed ei).ord mm i made z = T := by rw [hT, hmm, hi0, hm0, hz0, hz1]
    replace hl : lv_has ls 6 [(4, .int (nI i)), (3, .int made), (2, .ref (A.ea ei)), (0, .ref (A.h 0)), (1, .int (nI ei))] := by rw [hi0, hm0, nI_0]; exact hl
    clear hmm hi0 hm0 hz0 hz1 hT
    revert hl
    revert hTT
    revert hzf
    revert hz4
    revert hz3
    revert hz2
    revert hi
    revert hS
    revert hD
    revert hP
    revert z
    revert made
    revert i
    revert ls
    revert locs
    revert H
    induction mm with
    | zero =>
      intro H locs ls i made z hP hD hS hi hz2 hz3 hz4 hzf hTT hl
      rw [testL] at hTT
      subst hTT
      refine lv_iload hx hb d_Hr_test_33 (lv_at hl 0 rfl) ?_
      refine lv_aload_n hx hb d_Hr_test_35 rfl (lv_at hl 2 rfl) ?_
      refine va_get (D := G) (ci := 1) (v := .int (nI (z.ed ei).cnt)) (C := R_Ed) (T := T_Ed) (N := 5) hx hb hts hi_2 hown hK (FW_ed hP hei) 0 rfl rfl 1 (by decide) hk_3 (fun _ h9 => h9) rfl d_Hr_test_36 ?_
      refine lv_icmp_ge (tgt := 70) hx hb d_Hr_test_39 (by decide) (fun _ => ?_) (fun c_0 => absurd (nI_le (by rw [hz2]; omega) (by have := hI.c8 ei hei; omega)) c_0)
      refine lv_aload_n hx hb d_Hr_test_70 rfl (lv_at hl 2 rfl) ?_
      refine lv_aload_n hx hb d_Hr_test_71 rfl (lv_at hl 3 rfl) ?_
      refine va_get (D := G) (ci := 5) (v := .ref (A.h 13)) (C := R_Hr) (T := T_Hr) (N := 8) hx hb hts hi_5 hown hK (FW_hr hP) 0 rfl rfl 7 (by decide) hk_4 (fun _ h9 => h9) rfl d_Hr_test_72 ?_
      refine va_get (D := G) (ci := 2) (v := .int z.fc) (C := R_Fa) (T := T_Fa) (N := 3) hx hb hts hi_7 hown hK (FW_hr hP) 13 rfl rfl 2 (by decide) hk_6 (fun _ h9 => h9) rfl d_Hr_test_75 ?_
      refine lv_if_ne (tgt := 85) hx hb d_Hr_test_78 (by decide) (fun c_4 => ?_) (fun c_4 => ?_)
      · refine lv_iconst (v := 3) hx hb d_Hr_test_85 (by decide) ?_
        replace hP := hP.perm (FW_fE hei)
        replace hD := hD.perm (FW_fE hei)
        refine va_put (D := G) (ci := 1) (v := .int 3) (ty := (.int)) (C := R_Ed) (T := T_Ed) (N := 5) hx hb hts hi_2 ty_Ed tyk_Ed nm_Ed hown hK hP hD hS 0 rfl rfl 0 (by decide) hk_1 (fun _ h9 => h9) rfl (by decide +kernel) rfl rfl (Nat.le_of_ble_eq_true rfl) d_Hr_test_86 (fun H locs hP hD hS => ?_)
        replace hP : va_P G vwCl (WEe cI cL cZ cR cE A ei (EdS.mk (3) (z.ed ei).fr (z.ed ei).told (z.ed ei).cnt (z.ed ei).ord) ++ (WH cI cL cZ cR cE A z ++ (famX 6 ei (fun e => WEe cI cL cZ cR cE A e (z.ed e)) ++ FR cI cL cZ cR cE A z))) H := hP
        replace hD : va_D A0 (WEe cI cL cZ cR cE A ei (EdS.mk (3) (z.ed ei).fr (z.ed ei).told (z.ed ei).cnt (z.ed ei).ord) ++ (WH cI cL cZ cR cE A z ++ (famX 6 ei (fun e => WEe cI cL cZ cR cE A e (z.ed e)) ++ FR cI cL cZ cR cE A z))) := hD
        replace hP : va_P G vwCl (FW cI cL cZ cR cE A (CS.mk z.steps z.n z.days z.facts z.stack z.hf z.gv z.gg z.hc z.ht z.pos z.fault z.cell z.av z.ag z.fn z.fh z.fc (setF z.ed ei (EdS.mk (3) (z.ed ei).fr (z.ed ei).told (z.ed ei).cnt (z.ed ei).ord)) z.ru)) H := va_P.perm hP (FW_gE hei (EdS.mk (3) (z.ed ei).fr (z.ed ei).told (z.ed ei).cnt (z.ed ei).ord))
        replace hD : va_D A0 (FW cI cL cZ cR cE A (CS.mk z.steps z.n z.days z.facts z.stack z.hf z.gv z.gg z.hc z.ht z.pos z.fault z.cell z.av z.ag z.fn z.fh z.fc (setF z.ed ei (EdS.mk (3) (z.ed ei).fr (z.ed ei).told (z.ed ei).cnt (z.ed ei).ord)) z.ru)) := va_D.perm hD (FW_gE hei (EdS.mk (3) (z.ed ei).fr (z.ed ei).told (z.ed ei).cnt (z.ed ei).ord))
        refine lv_iload_n hx hb d_Hr_test_89 rfl (lv_at hl 1 rfl) ?_
        exact W.iret (v := made) hx hb hr (fun t ht hW => ⟨⟨made, (CS.mk z.steps z.n z.days z.facts z.stack z.hf z.gv z.gg z.hc z.ht z.pos z.fault z.cell z.av z.ag z.fn z.fh z.fc (setF z.ed ei (EdS.mk (3) (z.ed ei).fr (z.ed ei).told (z.ed ei).cnt (z.ed ei).ord)) z.ru), rfl, (by rw [hFT, hz2]; simp only [if_neg c_4]), by rw [ht]; exact hP, va_K.moved hW.alike hK, hD⟩, hS.F ht⟩) hS.2.2 d_Hr_test_90
      · refine lv_iconst (v := 2) hx hb d_Hr_test_81 (by decide) ?_
        refine lv_goto (tgt := 86) hx hb d_Hr_test_82 (by decide) ?_
        replace hP := hP.perm (FW_fE hei)
        replace hD := hD.perm (FW_fE hei)
        refine va_put (D := G) (ci := 1) (v := .int 2) (ty := (.int)) (C := R_Ed) (T := T_Ed) (N := 5) hx hb hts hi_2 ty_Ed tyk_Ed nm_Ed hown hK hP hD hS 0 rfl rfl 0 (by decide) hk_1 (fun _ h9 => h9) rfl (by decide +kernel) rfl rfl (Nat.le_of_ble_eq_true rfl) d_Hr_test_86 (fun H locs hP hD hS => ?_)
        replace hP : va_P G vwCl (WEe cI cL cZ cR cE A ei (EdS.mk (2) (z.ed ei).fr (z.ed ei).told (z.ed ei).cnt (z.ed ei).ord) ++ (WH cI cL cZ cR cE A z ++ (famX 6 ei (fun e => WEe cI cL cZ cR cE A e (z.ed e)) ++ FR cI cL cZ cR cE A z))) H := hP
        replace hD : va_D A0 (WEe cI cL cZ cR cE A ei (EdS.mk (2) (z.ed ei).fr (z.ed ei).told (z.ed ei).cnt (z.ed ei).ord) ++ (WH cI cL cZ cR cE A z ++ (famX 6 ei (fun e => WEe cI cL cZ cR cE A e (z.ed e)) ++ FR cI cL cZ cR cE A z))) := hD
        replace hP : va_P G vwCl (FW cI cL cZ cR cE A (CS.mk z.steps z.n z.days z.facts z.stack z.hf z.gv z.gg z.hc z.ht z.pos z.fault z.cell z.av z.ag z.fn z.fh z.fc (setF z.ed ei (EdS.mk (2) (z.ed ei).fr (z.ed ei).told (z.ed ei).cnt (z.ed ei).ord)) z.ru)) H := va_P.perm hP (FW_gE hei (EdS.mk (2) (z.ed ei).fr (z.ed ei).told (z.ed ei).cnt (z.ed ei).ord))
        replace hD : va_D A0 (FW cI cL cZ cR cE A (CS.mk z.steps z.n z.days z.facts z.stack z.hf z.gv z.gg z.hc z.ht z.pos z.fault z.cell z.av z.ag z.fn z.fh z.fc (setF z.ed ei (EdS.mk (2) (z.ed ei).fr (z.ed ei).told (z.ed ei).cnt (z.ed ei).ord)) z.ru)) := va_D.perm hD (FW_gE hei (EdS.mk (2) (z.ed ei).fr (z.ed ei).told (z.ed ei).cnt (z.ed ei).ord))
        refine lv_iload_n hx hb d_Hr_test_89 rfl (lv_at hl 1 rfl) ?_
        exact W.iret (v := made) hx hb hr (fun t ht hW => ⟨⟨made, (CS.mk z.steps z.n z.days z.facts z.stack z.hf z.gv z.gg z.hc z.ht z.pos z.fault z.cell z.av z.ag z.fn z.fh z.fc (setF z.ed ei (EdS.mk (2) (z.ed ei).fr (z.ed ei).told (z.ed ei).cnt (z.ed ei).ord)) z.ru), rfl, (by rw [hFT, hz2]; simp only [if_pos c_4]), by rw [ht]; exact hP, va_K.moved hW.alike hK, hD⟩, hS.F ht⟩) hS.2.2 d_Hr_test_90
    | succ mm ih =>
      intro H locs ls i made z hP hD hS hi hz2 hz3 hz4 hzf hTT hl
      have hj : (z.ed ei).ord i < z.n := by rw [hz2, hz3]; exact hI.od ei hei i (by omega)
      have hio : f_inOrder (nI (z.ed ei).cnt) (ordF A (z.ed ei)) (nI i) = some (A.ra ((z.ed ei).ord i)) := inOrd_ok (by rw [hz2]; omega) (by rw [hz2]; exact hI.c8 ei hei)
      refine lv_iload hx hb d_Hr_test_33 (lv_at hl 0 rfl) ?_
      refine lv_aload_n hx hb d_Hr_test_35 rfl (lv_at hl 2 rfl) ?_
      refine va_get (D := G) (ci := 1) (v := .int (nI (z.ed ei).cnt)) (C := R_Ed) (T := T_Ed) (N := 5) hx hb hts hi_2 hown hK (FW_ed hP hei) 0 rfl rfl 1 (by decide) hk_3 (fun _ h9 => h9) rfl d_Hr_test_36 ?_
      refine lv_icmp_ge (tgt := 70) hx hb d_Hr_test_39 (by decide) (fun c_0 => absurd c_0 (nI_ge (by rw [hz2]; omega) (by rw [hz2]; have := hI.c8 ei hei; omega))) (fun _ => ?_)
      refine lv_aload_n hx hb d_Hr_test_42 rfl (lv_at hl 2 rfl) ?_
      refine lv_iload hx hb d_Hr_test_43 (lv_at hl 0 rfl) ?_
      refine va_csq (W.runV (As := [.int (nI i)]) (rest := []) ⟨hx, hb, hml, hown, hts⟩ (c_inOrder l G cI cL cZ cR cE (A.ea ei) (A.eb ei) ((z.ed ei).state) (nI (z.ed ei).cnt) ((z.ed ei).fr) ((z.ed ei).told) (ordF A (z.ed ei)) (nI i)) (cwV 1 hts (gV kw_280 kw_281 kw_282 kw_20 kw_283) rfl rfl rfl (by decide +kernel) ⟨Nat.le_of_ble_eq_true rfl, Nat.le_of_ble_eq_true rfl⟩) (preRV_of (ci := 1) hN hK (FW_ed hP hei) [0, 1] rfl rfl rfl) rfl rfl hl.1 rfl (lv_room (Nat.le_of_ble_eq_true rfl)) d_Hr_test_45 ⟨Nat.zero_le _, Nat.zero_le _⟩) (fun r_5 hw => ?_)
      rw [hio] at hw
      subst hw
      refine W.eq (g2 := F0 m 48 ls (.ref (A.ra ((z.ed ei).ord i)) :: [])) rfl ?_
      refine lv_astore (lv' := [(5, .ref (A.ra ((z.ed ei).ord i))), (4, .int (nI i)), (3, .int made), (2, .ref (A.ea ei)), (0, .ref (A.h 0)), (1, .int (nI ei))]) hx hb d_Hr_test_48 hl (by decide) rfl (fun ls hl => ?_)
      refine lv_aload hx hb d_Hr_test_50 (lv_at hl 0 rfl) ?_
      refine lv_ifnull hx hb d_Hr_test_52 ?_
      refine lv_iload_n hx hb d_Hr_test_55 rfl (lv_at hl 2 rfl) ?_
      refine lv_aload_n hx hb d_Hr_test_56 rfl (lv_at hl 4 rfl) ?_
      refine lv_aload hx hb d_Hr_test_57 (lv_at hl 0 rfl) ?_
      refine cl_iW hK hP hD hS hA (va_runV (As := [.ref (A.ra ((z.ed ei).ord i))]) (rest := [.int made]) ⟨hx, hb, hml, hown, hts⟩ (x_doRule l G cI cL cZ cR cE H.size A z ((z.ed ei).ord i) hj (by rw [hz4]; exact hI.st) hzf.nn) (cwV 1 hts (gV kw_284 kw_286 kw_3 kw_15 kw_287) rfl rfl rfl (by decide +kernel) ⟨Nat.le_of_ble_eq_true rfl, Nat.le_of_ble_eq_true rfl⟩) (preWV_w (ci := 5) hN hK hP hD (FW_hr hP) rfl rfl) rfl rfl hl.1 rfl (lv_room (Nat.le_of_ble_eq_true rfl)) d_Hr_test_59 ⟨Nat.le_of_ble_eq_true rfl, Nat.le_of_ble_eq_true rfl⟩) (fun r_6 u H locs hw hP hD hS => ?_)
      obtain ⟨hw1, rfl⟩ := hw
      subst hw1
      replace hP : va_P G vwCl (FW cI cL cZ cR cE A (doS z ((z.ed ei).ord i))) H := hP
      replace hD : va_D A0 (FW cI cL cZ cR cE A (doS z ((z.ed ei).ord i))) := hD
      refine lv_iadd hx hb d_Hr_test_62 ?_
      refine lv_istore_n (lv' := [(3, .int (made + ((doX z ((z.ed ei).ord i)).1))), (5, .ref (A.ra ((z.ed ei).ord i))), (4, .int (nI i)), (2, .ref (A.ea ei)), (0, .ref (A.h 0)), (1, .int (nI ei))]) hx hb d_Hr_test_63 rfl hl (by decide) rfl (fun ls hl => ?_)
      refine lv_iinc (v := (nI i) + 1) (lv' := [(4, .int ((nI i) + 1)), (3, .int (made + ((doX z ((z.ed ei).ord i)).1))), (5, .ref (A.ra ((z.ed ei).ord i))), (2, .ref (A.ea ei)), (0, .ref (A.h 0)), (1, .int (nI ei))]) hx hb d_Hr_test_64 hl (k := 2) rfl rfl (by decide) rfl (fun ls hl => ?_)
      refine lv_goto (tgt := 33) hx hb d_Hr_test_67 (by decide) ?_
      exact ih H _ ls (i + 1) (made + (doX z ((z.ed ei).ord i)).1) (doS z ((z.ed ei).ord i)) hP hD hS (by omega) hz2 hz3 hz4 (fcR_do hzf) (by rw [← hTT, testL, hz2]) (by rw [← nI_1]; exact (lv_sub hl [0, 1, 3, 4, 5] rfl))
  · have hq : f_editionAt (edsF A) k = none := by rw [edAt_iff, in_neg ck]
    refine lv_aload_n hx hb d_Hr_test_0 rfl (lv_at hl 0 rfl) ?_
    refine lv_iload_n hx hb d_Hr_test_1 rfl (lv_at hl 1 rfl) ?_
    refine va_csq (W.runV (As := [.int k]) (rest := []) ⟨hx, hb, hml, hown, hts⟩ (c_editionAt l G cI cL cZ cR cE (A.h 0) (A.h 1) (A.h 2) (A.h 3) (A.h 4) (A.h 5) (A.h 6) (A.h 7) (A.h 8) (A.h 9) (A.h 10) (A.h 11) (A.h 12) (A.h 13) (A.h 14) (A.h 15) s.steps (edsF A) (rulF A s.n) (nI s.n) s.days s.facts s.stack s.hf s.gv s.gg s.hc s.ht s.pos s.fault s.cell s.av s.ag s.fn s.fh s.fc k) (cwV 1 hts (gV kw_173 kw_175 kw_0 kw_15 kw_176) rfl rfl rfl (by decide +kernel) ⟨Nat.le_of_ble_eq_true rfl, Nat.le_of_ble_eq_true rfl⟩) (preRV_of (ci := 5) hN hK (FW_hr hP) [0, 1, 2, 3, 4, 5, 6, 7, 8, 9, 10, 11, 12, 13, 14, 15] rfl rfl rfl) rfl rfl hl.1 rfl (lv_room (Nat.le_of_ble_eq_true rfl)) d_Hr_test_2 ⟨Nat.zero_le _, Nat.zero_le _⟩) (fun r_1 hw => ?_)
    rw [hq] at hw
    subst hw
    refine W.eq (g2 := F0 m 5 ls (.null :: [])) rfl ?_
    refine lv_astore_nN (lv' := [(2, .null), (0, .ref (A.h 0)), (1, .int k)]) hx hb d_Hr_test_5 rfl hl (by decide) rfl (fun ls hl => ?_)
    refine lv_aload_nN hx hb d_Hr_test_6 rfl (lv_at hl 0 rfl) ?_
    refine lv_ifnonnullN hx hb d_Hr_test_7 ?_
    refine lv_bipush (v := (-102)) hx hb d_Hr_test_10 (by decide) ?_
    exact W.iret (v := (-102)) hx hb hr (fun t ht hW => ⟨⟨(-102), s, rfl, (by unfold F_test; rw [in_neg ck]), by rw [ht]; exact hP, va_K.moved hW.alike hK, hD⟩, hS.F ht⟩) hS.2.2 d_Hr_test_12
set_option maxHeartbeats 4000000 in
set_option maxRecDepth 100000 in
theorem x_ask (l : Launch) (G : va_G) (cI cL cZ cR cE : ClassId)  (sz : Nat) (A : CAd) (s : CS) (hI : CInv s) (begun : Int32) : Met l y_Hr_ask w_Hr_ask ({ frames := 6, cells := 0, slots := 0, locals := 144 }) (preW G (TYS cI cL cZ cR cE) [.ref (A.h 0), .int begun] sz (FW cI cL cZ cR cE A s)) (va_Qi (S := CS) (fun ans_ u => (ans_, u) = F_ask s begun) (fun u t => va_P G vwCl (FW cI cL cZ cR cE A u) t.heap ∧ va_K G vwCl (TYS cI cL cZ cR cE) t ∧ va_D (va_A (FW cI cL cZ cR cE A s) sz) (FW cI cL cZ cR cE A u)) (va_A (FW cI cL cZ cR cE A s) sz)) 0 0 (va_A (FW cI cL cZ cR cE A s) sz) := by
  refine Met.ofW (cc := b_Hr_ask) (maxL := 5) (ret := (some .int)) (by decide) rfl ?_
  intro p e s_ m args below meth c s₁ B hml hv
  obtain ⟨rfl, hsz, hP, hK, hD0, hN⟩ := hv
  have hx := B.exec
  have hb := B.bytes
  have hr := B.returns
  have hts := atoms_spec (ws := w_Hr_ask) B.pre
  have hown : s_.vm.findClass R_Hr = some m.cls := findClass_of_methodNamed B.named
  have hlocks := B.notSynchronized
  subst hsz
  have hD := hD0.self (sz := s_.heap.size)
  clear hD0
  generalize hAe : va_A (FW cI cL cZ cR cE A s) s_.heap.size = A0 at hD ⊢
  have hA : ∀ q : Nat, s_.heap.size ≤ q → A0 q := fun q h => by rw [← hAe]; exact Or.inr h
  clear hAe
  have hS : va_S A0 s_.heap s_.heap [] := va_S.rf
  obtain ⟨H, hH⟩ : ∃ H, H = s_.heap := ⟨_, rfl⟩
  rw [← hH] at hP
  replace hS : va_S A0 s_.heap H [] := by rw [hH]; exact hS
  rw [← hH]
  clear hH
  obtain ⟨locs, hlocs⟩ : ∃ z : List Loc, z = [] := ⟨_, rfl⟩
  rw [← hlocs] at hS ⊢
  clear hlocs
  have hi_3 : ∀ w ∈ u_ws R_Hr T_Hr 8, w ∈ w_Hr_ask := fun w h => List.mem_cons_of_mem _ (iu_Hr w h)
  have hi_5 : ∀ w ∈ u_ws R_Ed T_Ed 5, w ∈ w_Hr_ask := fun w h => List.mem_cons_of_mem _ (iu_Ed w h)
  have hk_1 := hts (.constantLong R_Hr 138 100000) (List.mem_cons_of_mem _ kw_372)
  have hk_2 := hts (.fieldLink R_Hr 38 "HandlingRules" "answers" "LHandlingRules$Answers;") (List.mem_cons_of_mem _ kw_150)
  have hk_4 := hts (.fieldLink R_Hr 77 "HandlingRules$Edition" "count" "I") (List.mem_cons_of_mem _ kw_127)
  have hl := lv_entry ([.ref (A.h 0), .int begun]) (n := 5) (Nat.le_of_ble_eq_true rfl)
  rw [lg_entry_eq]
  generalize (lg_sl ([.ref (A.h 0), .int begun]) ++ List.replicate (5 - (lg_sl ([.ref (A.h 0), .int begun])).length) Slot.unset).toArray = ls at hl ⊢
  replace hl : lv_has ls 5 [(0, .ref (A.h 0)), (1, .int begun)] := hl
  refine lv_iload_n hx hb d_Hr_ask_0 rfl (lv_at hl 1 rfl) ?_
  refine lv_i2l (v := begun.toInt64) hx hb d_Hr_ask_1 rfl ?_
  refine lv_lconst (v := 0) hx hb d_Hr_ask_2 (by decide) ?_
  refine lv_ldc2 (v := 100000) hx hb hown hk_1 d_Hr_ask_3 ?_
  refine vp_callSi (W.runS (As := [.long begun.toInt64, .long 0, .long 100000]) (rest := []) ⟨hx, hb, hml, hown, hts⟩ (c_isWithin l G cI cL cZ cR cE  begun.toInt64 0 100000) (va_cwS 3 hts (gS kw_178 kw_179 kw_15 kw_180) rfl rfl rfl (by decide +kernel) ⟨Nat.le_of_ble_eq_true rfl, Nat.le_of_ble_eq_true rfl⟩) (preRS_of hN hK hP [] rfl) rfl rfl hl.1 rfl (lv_room (Nat.le_of_ble_eq_true rfl)) d_Hr_ask_6 ⟨Nat.zero_le _, Nat.zero_le _⟩) (fun r_1 hw => ?_)
  subst hw
  refine lv_if_ne (tgt := 15) hx hb d_Hr_ask_9 (by decide) (fun c0 => ?_) (fun c0 => ?_)
  rotate_left
  · refine lv_bipush (v := (-102)) hx hb d_Hr_ask_12 (by decide) ?_
    exact W.iret (v := (-102)) hx hb hr (fun t ht hW => ⟨⟨(-102), s, rfl, (by unfold F_ask; rw [if_pos c0]), by rw [ht]; exact hP, va_K.moved hW.alike hK, hD⟩, hS.F ht⟩) hS.2.2 d_Hr_ask_14
  refine lv_aload_n hx hb d_Hr_ask_15 rfl (lv_at hl 0 rfl) ?_
  refine cl_vW hK hP hD hS hA (va_runV (As := []) (rest := []) ⟨hx, hb, hml, hown, hts⟩ (x_forget l G cI cL cZ cR cE H.size A s) (cwV 0 hts (gV kw_276 kw_278 kw_2 kw_15 kw_279) rfl rfl rfl (by decide +kernel) ⟨Nat.le_of_ble_eq_true rfl, Nat.le_of_ble_eq_true rfl⟩) (preWV_w (ci := 5) hN hK hP hD (FW_hr hP) rfl rfl) rfl rfl hl.1 rfl (lv_room (Nat.le_of_ble_eq_true rfl)) d_Hr_ask_16 ⟨Nat.le_of_ble_eq_true rfl, Nat.le_of_ble_eq_true rfl⟩) (fun u H locs hw hP hD hS => ?_)
  subst hw
  obtain ⟨z1, hz1⟩ : ∃ z : CS, z = (CS.mk s.steps s.n s.days s.facts s.stack s.hf s.gv s.gg (0) s.ht s.pos s.fault s.cell s.av s.ag s.fn s.fh (0) s.ed s.ru) := ⟨_, rfl⟩
  replace hP : va_P G vwCl (FW cI cL cZ cR cE A z1) H := by rw [hz1]; exact hP
  replace hD : va_D A0 (FW cI cL cZ cR cE A z1) := by rw [hz1]; exact hD
  refine lv_aload_n hx hb d_Hr_ask_19 rfl (lv_at hl 0 rfl) ?_
  refine va_get (D := G) (ci := 5) (v := .ref (A.h 10)) (C := R_Hr) (T := T_Hr) (N := 8) hx hb hts hi_3 hown hK (FW_hr hP) 0 rfl rfl 6 (by decide) hk_2 (fun _ h9 => h9) rfl d_Hr_ask_20 ?_
  refine cl_vW hK hP hD hS hA (va_runV (As := []) (rest := []) ⟨hx, hb, hml, hown, hts⟩ (x_clear l G cI cL cZ cR cE H.size A z1) (cwV 0 hts (gV kw_377 kw_297 kw_298 kw_17 kw_299) rfl rfl rfl (by decide +kernel) ⟨Nat.le_of_ble_eq_true rfl, Nat.le_of_ble_eq_true rfl⟩) (preWV_w (ci := 0) hN hK hP hD (wr := W_Ans cI cL cZ cR cE (A.h 10) (A.h 11) (A.h 12) z1.av z1.ag) ((FW_hr hP).sub [10, 11, 12] rfl) rfl rfl) rfl rfl hl.1 rfl (lv_room (Nat.le_of_ble_eq_true rfl)) d_Hr_ask_23 ⟨Nat.le_of_ble_eq_true rfl, Nat.le_of_ble_eq_true rfl⟩) (fun u H locs hw hP hD hS => ?_)
  subst hw
  obtain ⟨z2, hz2⟩ : ∃ z : CS, z = (CS.mk z1.steps z1.n z1.days z1.facts z1.stack z1.hf z1.gv z1.gg z1.hc z1.ht z1.pos z1.fault z1.cell ((f_clear z1.av z1.ag).1) ((f_clear z1.av z1.ag).2) z1.fn z1.fh z1.fc z1.ed z1.ru) := ⟨_, rfl⟩
  replace hP : va_P G vwCl (FW cI cL cZ cR cE A z2) H := by rw [hz2]; exact hP
  replace hD : va_D A0 (FW cI cL cZ cR cE A z2) := by rw [hz2]; exact hD
  replace hz2 : z2 = (CS.mk s.steps s.n s.days s.facts s.stack s.hf s.gv s.gg (0) s.ht s.pos s.fault s.cell ((f_clear s.av s.ag).1) ((f_clear s.av s.ag).2) s.fn s.fh (0) s.ed s.ru) := by rw [hz2, hz1]
  have he2 : z2.ed = s.ed := by rw [hz2]
  refine lv_aload_n hx hb d_Hr_ask_26 rfl (lv_at hl 0 rfl) ?_
  refine lv_iload_n hx hb d_Hr_ask_27 rfl (lv_at hl 1 rfl) ?_
  refine va_csq (W.runV (As := [.int begun]) (rest := []) ⟨hx, hb, hml, hown, hts⟩ (x_inForce l G cI cL cZ cR cE A z2 begun) (cwV 1 hts (gV kw_378 kw_380 kw_4 kw_15 kw_381) rfl rfl rfl (by decide +kernel) ⟨Nat.le_of_ble_eq_true rfl, Nat.le_of_ble_eq_true rfl⟩) (preRV_w (ci := 5) hN hK hP (FW_hr hP) rfl rfl) rfl rfl hl.1 rfl (lv_room (Nat.le_of_ble_eq_true rfl)) d_Hr_ask_28 ⟨Nat.zero_le _, Nat.zero_le _⟩) (fun r_0 hw => ?_)
  subst hw
  rw [he2]
  rcases hf : inF s.ed begun 6 0 none with _ | ei
  · refine W.eq (g2 := F0 m 31 ls (.null :: [])) rfl ?_
    refine lv_astore_nN (lv' := [(2, .null), (0, .ref (A.h 0)), (1, .int begun)]) hx hb d_Hr_ask_31 rfl hl (by decide) rfl (fun ls hl => ?_)
    refine lv_aload_nN hx hb d_Hr_ask_32 rfl (lv_at hl 0 rfl) ?_
    refine lv_ifnonnullN hx hb d_Hr_ask_33 ?_
    refine lv_iconst (v := (-1)) hx hb d_Hr_ask_36 (by decide) ?_
    exact W.iret (v := (-1)) hx hb hr (fun t ht hW => ⟨⟨(-1), z2, rfl, (by unfold F_ask; rw [if_neg c0, hf, hz2]), by rw [ht]; exact hP, va_K.moved hW.alike hK, hD⟩, hS.F ht⟩) hS.2.2 d_Hr_ask_37
  · have hei : ei < 6 := by have := inF_lt 6 0 none (fun b h => by cases h) ei hf; omega
    refine W.eq (g2 := F0 m 31 ls (.ref (A.ea ei) :: [])) rfl ?_
    refine lv_astore_n (lv' := [(2, .ref (A.ea ei)), (0, .ref (A.h 0)), (1, .int begun)]) hx hb d_Hr_ask_31 rfl hl (by decide) rfl (fun ls hl => ?_)
    refine lv_aload_n hx hb d_Hr_ask_32 rfl (lv_at hl 0 rfl) ?_
    refine lv_ifnonnull (tgt := 38) hx hb d_Hr_ask_33 (by decide) ?_
    refine lv_iconst (v := 0) hx hb d_Hr_ask_38 (by decide) ?_
    refine lv_istore_n (lv' := [(3, .int 0), (2, .ref (A.ea ei)), (0, .ref (A.h 0)), (1, .int begun)]) hx hb d_Hr_ask_39 rfl hl (by decide) rfl (fun ls hl => ?_)
    obtain ⟨T, hT⟩ : ∃ z : CS, z = askL (s.ed ei).ord (s.ed ei).cnt 0 (CS.mk s.steps s.n s.days s.facts s.stack s.hf s.gv s.gg (0) s.ht s.pos s.fault s.cell ((f_clear s.av s.ag).1) ((f_clear s.av s.ag).2) s.fn s.fh (0) s.ed s.ru) := ⟨_, rfl⟩
    have hFT : F_ask s begun = (f_countGiven T.ag, T) := by unfold F_ask; rw [if_neg c0, hf, hT]
    obtain ⟨mm, hmm⟩ : ∃ z : Nat, z = (s.ed ei).cnt := ⟨_, rfl⟩
    obtain ⟨i, hi0⟩ : ∃ z : Nat, z = 0 := ⟨_, rfl⟩
    obtain ⟨z, hz0⟩ : ∃ z : CS, z = z2 := ⟨_, rfl⟩
    rw [← hz0] at hP hD
    rw [← hz0] at he2
    have hi : i + mm = (s.ed ei).cnt := by omega
    have hz3 : z.n = s.n := by rw [hz0, hz2]
    have hz4 : z.steps = s.steps := by rw [hz0, hz2]
    have hzf : fcR z := by rw [hz0, hz2]; exact ⟨(show 0 ≤ (0 : Int32).toInt by decide), (show (0 : Int32).toInt ≤ 8 by decide)⟩
    have hTT : askL (s.ed ei).ord mm i z = T := by rw [hT, hmm, hi0, hz0, hz2]
    replace hl : lv_has ls 5 [(3, .int (nI i)), (2, .ref (A.ea ei)), (0, .ref (A.h 0)), (1, .int begun)] := by rw [hi0, nI_0]; exact hl
    clear hmm hi0 hz0 hz1 hz2 hT
    revert hl
    revert hTT
    revert hzf
    revert hz4
    revert hz3
    revert he2
    revert hi
    revert hS
    revert hD
    revert hP
    revert z
    revert i
    revert ls
    revert locs
    revert H
    induction mm with
    | zero =>
      intro H locs ls i z hP hD hS hi he2 hz3 hz4 hzf hTT hl
      rw [askL] at hTT
      subst hTT
      refine lv_iload_n hx hb d_Hr_ask_40 rfl (lv_at hl 0 rfl) ?_
      refine lv_aload_n hx hb d_Hr_ask_41 rfl (lv_at hl 1 rfl) ?_
      refine va_get (D := G) (ci := 1) (v := .int (nI (z.ed ei).cnt)) (C := R_Ed) (T := T_Ed) (N := 5) hx hb hts hi_5 hown hK (FW_ed hP hei) 0 rfl rfl 1 (by decide) hk_4 (fun _ h9 => h9) rfl d_Hr_ask_42 ?_
      refine lv_icmp_ge (tgt := 79) hx hb d_Hr_ask_45 (by decide) (fun _ => ?_) (fun c_0 => absurd (nI_le (by rw [he2]; omega) (by have := hI.c8 ei hei; omega)) c_0)
      refine lv_aload_n hx hb d_Hr_ask_79 rfl (lv_at hl 2 rfl) ?_
      refine va_get (D := G) (ci := 5) (v := .ref (A.h 10)) (C := R_Hr) (T := T_Hr) (N := 8) hx hb hts hi_3 hown hK (FW_hr hP) 0 rfl rfl 6 (by decide) hk_2 (fun _ h9 => h9) rfl d_Hr_ask_80 ?_
      refine vp_callSi (W.runV (As := []) (rest := []) ⟨hx, hb, hml, hown, hts⟩ (c_countGiven l G cI cL cZ cR cE (A.h 10) (A.h 11) (A.h 12) z.av z.ag) (cwV 0 hts (gV kw_413 kw_414 kw_415 kw_17 kw_416) rfl rfl rfl (by decide +kernel) ⟨Nat.le_of_ble_eq_true rfl, Nat.le_of_ble_eq_true rfl⟩) (preRV_of (ci := 0) hN hK (FW_hr hP) [10, 11, 12] rfl rfl rfl) rfl rfl hl.1 rfl (lv_room (Nat.le_of_ble_eq_true rfl)) d_Hr_ask_83 ⟨Nat.zero_le _, Nat.zero_le _⟩) (fun r_4 hw => ?_)
      subst hw
      exact W.iret (v := f_countGiven z.ag) hx hb hr (fun t ht hW => ⟨⟨f_countGiven z.ag, z, rfl, hFT.symm, by rw [ht]; exact hP, va_K.moved hW.alike hK, hD⟩, hS.F ht⟩) hS.2.2 d_Hr_ask_86
    | succ mm ih =>
      intro H locs ls i z hP hD hS hi he2 hz3 hz4 hzf hTT hl
      have hj : (z.ed ei).ord i < z.n := by rw [he2, hz3]; exact hI.od ei hei i (by omega)
      have hio : f_inOrder (nI (z.ed ei).cnt) (ordF A (z.ed ei)) (nI i) = some (A.ra ((z.ed ei).ord i)) := inOrd_ok (by rw [he2]; omega) (by rw [he2]; exact hI.c8 ei hei)
      refine lv_iload_n hx hb d_Hr_ask_40 rfl (lv_at hl 0 rfl) ?_
      refine lv_aload_n hx hb d_Hr_ask_41 rfl (lv_at hl 1 rfl) ?_
      refine va_get (D := G) (ci := 1) (v := .int (nI (z.ed ei).cnt)) (C := R_Ed) (T := T_Ed) (N := 5) hx hb hts hi_5 hown hK (FW_ed hP hei) 0 rfl rfl 1 (by decide) hk_4 (fun _ h9 => h9) rfl d_Hr_ask_42 ?_
      refine lv_icmp_ge (tgt := 79) hx hb d_Hr_ask_45 (by decide) (fun c_0 => absurd c_0 (nI_ge (by rw [he2]; omega) (by rw [he2]; have := hI.c8 ei hei; omega))) (fun _ => ?_)
      refine lv_aload_n hx hb d_Hr_ask_48 rfl (lv_at hl 1 rfl) ?_
      refine lv_iload_n hx hb d_Hr_ask_49 rfl (lv_at hl 0 rfl) ?_
      refine va_csq (W.runV (As := [.int (nI i)]) (rest := []) ⟨hx, hb, hml, hown, hts⟩ (c_inOrder l G cI cL cZ cR cE (A.ea ei) (A.eb ei) ((z.ed ei).state) (nI (z.ed ei).cnt) ((z.ed ei).fr) ((z.ed ei).told) (ordF A (z.ed ei)) (nI i)) (cwV 1 hts (gV kw_280 kw_281 kw_282 kw_20 kw_283) rfl rfl rfl (by decide +kernel) ⟨Nat.le_of_ble_eq_true rfl, Nat.le_of_ble_eq_true rfl⟩) (preRV_of (ci := 1) hN hK (FW_ed hP hei) [0, 1] rfl rfl rfl) rfl rfl hl.1 rfl (lv_room (Nat.le_of_ble_eq_true rfl)) d_Hr_ask_50 ⟨Nat.zero_le _, Nat.zero_le _⟩) (fun r_5 hw => ?_)
      rw [hio] at hw
      subst hw
      refine W.eq (g2 := F0 m 53 ls (.ref (A.ra ((z.ed ei).ord i)) :: [])) rfl ?_
      refine lv_astore (lv' := [(4, .ref (A.ra ((z.ed ei).ord i))), (3, .int (nI i)), (2, .ref (A.ea ei)), (0, .ref (A.h 0)), (1, .int begun)]) hx hb d_Hr_ask_53 hl (by decide) rfl (fun ls hl => ?_)
      refine lv_aload hx hb d_Hr_ask_55 (lv_at hl 0 rfl) ?_
      refine lv_ifnull hx hb d_Hr_ask_57 ?_
      refine lv_aload_n hx hb d_Hr_ask_60 rfl (lv_at hl 3 rfl) ?_
      refine lv_aload hx hb d_Hr_ask_61 (lv_at hl 0 rfl) ?_
      refine cl_iW hK hP hD hS hA (va_runV (As := [.ref (A.ra ((z.ed ei).ord i))]) (rest := []) ⟨hx, hb, hml, hown, hts⟩ (x_doRule l G cI cL cZ cR cE H.size A z ((z.ed ei).ord i) hj (by rw [hz4]; exact hI.st) hzf.nn) (cwV 1 hts (gV kw_284 kw_286 kw_3 kw_15 kw_287) rfl rfl rfl (by decide +kernel) ⟨Nat.le_of_ble_eq_true rfl, Nat.le_of_ble_eq_true rfl⟩) (preWV_w (ci := 5) hN hK hP hD (FW_hr hP) rfl rfl) rfl rfl hl.1 rfl (lv_room (Nat.le_of_ble_eq_true rfl)) d_Hr_ask_63 ⟨Nat.le_of_ble_eq_true rfl, Nat.le_of_ble_eq_true rfl⟩) (fun r_6 u H locs hw hP hD hS => ?_)
      obtain ⟨hw1, rfl⟩ := hw
      subst hw1
      replace hP : va_P G vwCl (FW cI cL cZ cR cE A (doS z ((z.ed ei).ord i))) H := hP
      replace hD : va_D A0 (FW cI cL cZ cR cE A (doS z ((z.ed ei).ord i))) := hD
      refine lv_pop hx hb d_Hr_ask_66 rfl ?_
      refine lv_aload_n hx hb d_Hr_ask_67 rfl (lv_at hl 3 rfl) ?_
      refine lv_aload hx hb d_Hr_ask_68 (lv_at hl 0 rfl) ?_
      refine cl_vW hK hP hD hS hA (va_runV (As := [.ref (A.ra ((z.ed ei).ord i))]) (rest := []) ⟨hx, hb, hml, hown, hts⟩ (x_settle l G cI cL cZ cR cE H.size A (doS z ((z.ed ei).ord i)) ((z.ed ei).ord i) hj) (cwV 1 hts (gV kw_390 kw_392 kw_5 kw_15 kw_393) rfl rfl rfl (by decide +kernel) ⟨Nat.le_of_ble_eq_true rfl, Nat.le_of_ble_eq_true rfl⟩) (preWV_w (ci := 5) hN hK hP hD (FW_hr hP) rfl rfl) rfl rfl hl.1 rfl (lv_room (Nat.le_of_ble_eq_true rfl)) d_Hr_ask_70 ⟨Nat.le_of_ble_eq_true rfl, Nat.le_of_ble_eq_true rfl⟩) (fun u H locs hw hP hD hS => ?_)
      subst hw
      replace hP : va_P G vwCl (FW cI cL cZ cR cE A (settleS (doS z ((z.ed ei).ord i)) ((z.ed ei).ord i))) H := hP
      replace hD : va_D A0 (FW cI cL cZ cR cE A (settleS (doS z ((z.ed ei).ord i)) ((z.ed ei).ord i))) := hD
      refine lv_iinc (v := (nI i) + 1) (lv' := [(3, .int ((nI i) + 1)), (4, .ref (A.ra ((z.ed ei).ord i))), (2, .ref (A.ea ei)), (0, .ref (A.h 0)), (1, .int begun)]) hx hb d_Hr_ask_73 hl (k := 1) rfl rfl (by decide) rfl (fun ls hl => ?_)
      refine lv_goto (tgt := 40) hx hb d_Hr_ask_76 (by decide) ?_
      exact ih H _ ls (i + 1) (settleS (doS z ((z.ed ei).ord i)) ((z.ed ei).ord i)) hP hD hS (by omega) (show (doS z ((z.ed ei).ord i)).ed = s.ed from he2) (show (doS z ((z.ed ei).ord i)).n = s.n from hz3) (show (doS z ((z.ed ei).ord i)).steps = s.steps from hz4) (fcR_st (fcR_do hzf)) (by rw [← hTT, askL, he2]) (by rw [← nI_1]; exact (lv_sub hl [0, 2, 3, 4] rfl))
