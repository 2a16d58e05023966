-- a rule told: the edition's order shifted, the new one put in
def shO (o : Nat → Option Nat) (p c : Nat) : Nat → Option Nat := fun t => if p < t ∧ t ≤ c then o (t - 1) else o t
theorem shO_top (o : Nat → Option Nat) (c : Nat) : shO o c c = o := by
  funext t
  unfold shO
  rw [if_neg (by omega)]
theorem shO_at {o : Nat → Option Nat} {q c : Nat} : shO o (q + 1) c q = o q := by
  unfold shO
  rw [if_neg (by omega)]
theorem shO_step {o : Nat → Option Nat} {q c : Nat} (h : q + 1 ≤ c) : va_up (shO o (q + 1) c) (q + 1) (o q) = shO o q c := by
  funext t
  unfold va_up shO
  by_cases d : t = q + 1
  · rw [if_pos d, if_pos (by omega), d]; rfl
  · rw [if_neg d]
    by_cases d2 : q + 1 < t ∧ t ≤ c
    · rw [if_pos d2, if_pos (by omega)]
    · rw [if_neg d2, if_neg (by omega)]
theorem ins_raw {A : CAd} {x : EdS} {p n : Nat} {st : Int32} (h : p ≤ x.cnt) : va_up (shO (ordF A x) p x.cnt) p (some (A.ra n)) = ordF A (EdS.mk (st) x.fr x.told (x.cnt + 1) (insOrd x.ord p n)) := by
  funext t
  unfold va_up shO ordF insOrd
  show (if t = p then some (A.ra n) else if p < t ∧ t ≤ x.cnt then (if t - 1 < x.cnt then some (A.ra (x.ord (t - 1))) else none) else (if t < x.cnt then some (A.ra (x.ord t)) else none)) = (if t < x.cnt + 1 then some (A.ra (if t < p then x.ord t else if t = p then n else x.ord (t - 1))) else none)
  by_cases d : t = p
  · rw [if_pos d, if_pos (by omega), if_neg (by omega), if_pos d]
  · rw [if_neg d]
    by_cases d2 : p < t ∧ t ≤ x.cnt
    · rw [if_pos d2, if_pos (by omega), if_pos (by omega), if_neg (by omega), if_neg d]
    · rw [if_neg d2]
      by_cases d3 : t < x.cnt
      · rw [if_pos d3, if_pos (by omega), if_pos (by omega)]
      · rw [if_neg d3, if_neg (by omega)]
theorem nI_dec (q : Nat) : nI q + (-1) = nI q - 1 := by rw [Int32.sub_eq_add_neg]
theorem plc_go {b : Nat → Int32} {q c : Nat} (h : plc b (q + 1) = plc b c) (h0 : b q = 0) : plc b q = plc b c := by
  rw [← h]
  show plc b q = if b q = 0 then plc b q else q + 1
  rw [if_pos h0]
theorem plc_stop {b : Nat → Int32} {q c : Nat} (h : plc b (q + 1) = plc b c) (h0 : ¬ b q = 0) : q + 1 = plc b c := by
  rw [← h]
  show q + 1 = if b q = 0 then plc b q else q + 1
  rw [if_neg h0]
def befR (ru : Nat → RuS) (x : EdS) (n : Nat) (i : Nat) : Int32 := f_goesBefore (nI (x.ord i)) (ru (x.ord i)).rank (ru (x.ord i)).name (nI n) (ru n).rank (ru n).name
theorem IW_ru {G : va_G} {H : Heap} {Wd : va_W} {M j : Nat} {g : Nat → va_W} (h : va_P G vwCl (Wd ++ fam M g) H) (hj : j < M) : va_P G vwCl (g j) H := h.mem (fun x hx => List.mem_append_right _ (fam_mem hj g hx))
theorem IW_p {Wd : va_W} {M j : Nat} {g : Nat → va_W} (hj : j < M) : (Wd ++ fam M g).Perm ((Wd ++ g j) ++ famX M j g) := by
  rw [List.append_assoc]
  exact (fam_foc hj g).append_left _
set_option maxHeartbeats 4000000 in
set_option maxRecDepth 100000 in
theorem x_insert (l : Launch) (G : va_G) (cI cL cZ cR cE : ClassId)  (sz : Nat) (A : CAd) (ei : Nat) (x : EdS) (M n : Nat) (ru : Nat → RuS) (hn : n < M) (hM : M ≤ 41) (h8 : x.cnt < 8) (hod : ∀ i, i < x.cnt → x.ord i < M) : Met l y_Ed_insert w_Ed_insert ({ frames := 1, cells := 0, slots := 0, locals := 21 }) (preW G (TYS cI cL cZ cR cE) [.ref (A.ea ei), .ref (A.ra n)] sz (WEe cI cL cZ cR cE A ei x ++ fam M (fun j => WRr cI cL cZ cR cE A j (ru j)))) (va_Qv (S := EdS) (fun u => u = (EdS.mk (1) x.fr x.told (x.cnt + 1) (insOrd x.ord (plc (befR ru x n) x.cnt) n))) (fun u t => va_P G vwCl (WEe cI cL cZ cR cE A ei u ++ fam M (fun j => WRr cI cL cZ cR cE A j (ru j))) t.heap ∧ va_K G vwCl (TYS cI cL cZ cR cE) t ∧ va_D (va_A (WEe cI cL cZ cR cE A ei x ++ fam M (fun j => WRr cI cL cZ cR cE A j (ru j))) sz) (WEe cI cL cZ cR cE A ei u ++ fam M (fun j => WRr cI cL cZ cR cE A j (ru j)))) (va_A (WEe cI cL cZ cR cE A ei x ++ fam M (fun j => WRr cI cL cZ cR cE A j (ru j))) sz)) 0 0 (va_A (WEe cI cL cZ cR cE A ei x ++ fam M (fun j => WRr cI cL cZ cR cE A j (ru j))) sz) := by
  refine Met.ofW (cc := b_Ed_insert) (maxL := 5) (ret := none) (by decide) rfl ?_
  intro p e s_ m args below meth c s₁ B hml hv
  obtain ⟨rfl, hsz, hP, hK, hD0, hN⟩ := hv
  have hx := B.exec
  have hb := B.bytes
  have hr := B.returns
  have hts := atoms_spec (ws := w_Ed_insert) B.pre
  have hown : s_.vm.findClass R_Ed = some m.cls := findClass_of_methodNamed B.named
  have hlocks := B.notSynchronized
  subst hsz
  have hD := hD0.self (sz := s_.heap.size)
  clear hD0
  generalize hAe : va_A (WEe cI cL cZ cR cE A ei x ++ fam M (fun j => WRr cI cL cZ cR cE A j (ru j))) s_.heap.size = A0 at hD ⊢
  have hA : ∀ q : Nat, s_.heap.size ≤ q → A0 q := fun q h => by rw [← hAe]; exact Or.inr h
  clear hAe
  have hS : va_S A0 s_.heap s_.heap [] := va_S.rf
  obtain ⟨H, hH⟩ : ∃ H, H = s_.heap := ⟨_, rfl⟩
  rw [← hH] at hP
  replace hS : va_S A0 s_.heap H [] := by rw [hH]; exact hS
  rw [← hH]
  clear hH
  obtain ⟨locs, hlocs⟩ : ∃ z : List Loc, z = [] := ⟨_, rfl⟩
  rw [← hlocs] at hS ⊢
  clear hlocs
  have hi_2 : ∀ w ∈ u_ws R_Ed T_Ed 5, w ∈ w_Ed_insert := fun w h => List.mem_cons_of_mem _ (iu_Ed w h)
  have hk_1 := hts (.fieldLink R_Ed 15 "HandlingRules$Edition" "count" "I") (List.mem_cons_of_mem _ kw_126)
  have hk_3 := hts (.fieldLink R_Ed 26 "HandlingRules$Edition" "order" "[LHandlingRules$Rule;") (List.mem_cons_of_mem _ kw_132)
  have hk_4 := hts (.fieldLink R_Ed 9 "HandlingRules$Edition" "state" "I") (List.mem_cons_of_mem _ kw_124)
  have hl := lv_entry ([.ref (A.ea ei), .ref (A.ra n)]) (n := 5) (Nat.le_of_ble_eq_true rfl)
  rw [lg_entry_eq]
  generalize (lg_sl ([.ref (A.ea ei), .ref (A.ra n)]) ++ List.replicate (5 - (lg_sl ([.ref (A.ea ei), .ref (A.ra n)])).length) Slot.unset).toArray = ls at hl ⊢
  replace hl : lv_has ls 5 [(0, .ref (A.ea ei)), (1, .ref (A.ra n))] := hl
  refine lv_aload_n hx hb d_Ed_insert_0 rfl (lv_at hl 0 rfl) ?_
  refine va_get (D := G) (ci := 1) (v := .int (nI x.cnt)) (C := R_Ed) (T := T_Ed) (N := 5) hx hb hts hi_2 hown hK hP 0 rfl rfl 1 (by decide) hk_1 (fun _ h9 => h9) rfl d_Ed_insert_1 ?_
  refine lv_bipush (v := 8) hx hb d_Ed_insert_4 (by decide) ?_
  refine lv_icmp_lt (tgt := 10) hx hb d_Ed_insert_6 (by decide) (fun _ => ?_) (fun c_0 => absurd (nI_lt (a := x.cnt) (b := 8) h8 (by omega)) c_0)
  refine lv_aload_n hx hb d_Ed_insert_10 rfl (lv_at hl 0 rfl) ?_
  refine va_get (D := G) (ci := 1) (v := .int (nI x.cnt)) (C := R_Ed) (T := T_Ed) (N := 5) hx hb hts hi_2 hown hK hP 0 rfl rfl 1 (by decide) hk_1 (fun _ h9 => h9) rfl d_Ed_insert_11 ?_
  refine lv_istore_n (lv' := [(2, .int (nI x.cnt)), (0, .ref (A.ea ei)), (1, .ref (A.ra n))]) hx hb d_Ed_insert_14 rfl hl (by decide) rfl (fun ls hl => ?_)
  refine lv_aload_n hx hb d_Ed_insert_15 rfl (lv_at hl 1 rfl) ?_
  refine va_get (D := G) (ci := 1) (v := .int (nI x.cnt)) (C := R_Ed) (T := T_Ed) (N := 5) hx hb hts hi_2 hown hK hP 0 rfl rfl 1 (by decide) hk_1 (fun _ h9 => h9) rfl d_Ed_insert_16 ?_
  refine lv_iconst (v := 1) hx hb d_Ed_insert_19 (by decide) ?_
  refine lv_isub hx hb d_Ed_insert_20 ?_
  refine lv_istore_n (lv' := [(3, .int ((nI x.cnt) - 1)), (2, .int (nI x.cnt)), (0, .ref (A.ea ei)), (1, .ref (A.ra n))]) hx hb d_Ed_insert_21 rfl hl (by decide) rfl (fun ls hl => ?_)
  obtain ⟨p_, hp0⟩ : ∃ z : Nat, z = x.cnt := ⟨_, rfl⟩
  have hpc : p_ ≤ x.cnt := by omega
  have hpl : plc (befR ru x n) p_ = plc (befR ru x n) x.cnt := by rw [hp0]
  replace hP : va_P G vwCl (W_Edi cI cL cZ cR cE (A.ea ei) (A.eb ei) x.state (nI x.cnt) x.fr x.told (shO (ordF A x) p_ x.cnt) ++ fam M (fun j => WRr cI cL cZ cR cE A j (ru j))) H := by rw [hp0, shO_top]; exact hP
  replace hD : va_D A0 (W_Edi cI cL cZ cR cE (A.ea ei) (A.eb ei) x.state (nI x.cnt) x.fr x.told (shO (ordF A x) p_ x.cnt) ++ fam M (fun j => WRr cI cL cZ cR cE A j (ru j))) := by rw [hp0, shO_top]; exact hD
  replace hl : lv_has ls 5 [(3, .int (nI p_ - 1)), (2, .int (nI p_)), (0, .ref (A.ea ei)), (1, .ref (A.ra n))] := by rw [hp0]; exact hl
  clear hp0
  revert hl
  revert hpl
  revert hpc
  revert hS
  revert hD
  revert hP
  revert ls
  revert locs
  revert H
  induction p_ with
  | zero =>
    intro H locs ls hP hD hS hpc hpl hl
    refine lv_iload_n hx hb d_Ed_insert_22 rfl (lv_at hl 0 rfl) ?_
    refine lv_if_lt (tgt := 69) hx hb d_Ed_insert_23 (by decide) (fun _ => ?_) (fun c_0 => absurd (show nI 0 - 1 < (0 : Int32) by decide) c_0)
    refine lv_aload_n hx hb d_Ed_insert_69 rfl (lv_at hl 2 rfl) ?_
    refine va_get (D := G) (ci := 1) (v := .ref (A.eb ei)) (C := R_Ed) (T := T_Ed) (N := 5) hx hb hts hi_2 hown hK hP 0 rfl rfl 4 (by decide) hk_3 (fun _ h9 => h9) rfl d_Ed_insert_70 ?_
    refine lv_iload_n hx hb d_Ed_insert_73 rfl (lv_at hl 1 rfl) ?_
    refine lv_aload_n hx hb d_Ed_insert_74 rfl (lv_at hl 3 rfl) ?_
    replace hP := hP.perm (IW_p hn)
    replace hD := hD.perm (IW_p hn)
    refine va_astq hx hb hK hP hD hS 1 3 2 3 rfl rfl rfl rfl (vp_in_nI (show 0 < 8 by omega) (by decide)) d_Ed_insert_75 (fun H locs hP hD hS => ?_)
    replace hP : va_P G vwCl ((W_Edi cI cL cZ cR cE (A.ea ei) (A.eb ei) x.state (nI x.cnt) x.fr x.told (va_up (shO (ordF A x) 0 x.cnt) (nI 0).toNatClampNeg (some (A.ra n))) ++ WRr cI cL cZ cR cE A n (ru n)) ++ famX M n (fun j => WRr cI cL cZ cR cE A j (ru j))) H := hP
    replace hD : va_D A0 ((W_Edi cI cL cZ cR cE (A.ea ei) (A.eb ei) x.state (nI x.cnt) x.fr x.told (va_up (shO (ordF A x) 0 x.cnt) (nI 0).toNatClampNeg (some (A.ra n))) ++ WRr cI cL cZ cR cE A n (ru n)) ++ famX M n (fun j => WRr cI cL cZ cR cE A j (ru j))) := hD
    replace hP : va_P G vwCl (W_Edi cI cL cZ cR cE (A.ea ei) (A.eb ei) x.state (nI x.cnt) x.fr x.told (va_up (shO (ordF A x) 0 x.cnt) (nI 0).toNatClampNeg (some (A.ra n))) ++ fam M (fun j => WRr cI cL cZ cR cE A j (ru j))) H := va_P.perm hP (IW_p (g := (fun j => WRr cI cL cZ cR cE A j (ru j))) hn).symm
    replace hD : va_D A0 (W_Edi cI cL cZ cR cE (A.ea ei) (A.eb ei) x.state (nI x.cnt) x.fr x.told (va_up (shO (ordF A x) 0 x.cnt) (nI 0).toNatClampNeg (some (A.ra n))) ++ fam M (fun j => WRr cI cL cZ cR cE A j (ru j))) := va_D.perm hD (IW_p (g := (fun j => WRr cI cL cZ cR cE A j (ru j))) hn).symm
    refine lv_aload_n hx hb d_Ed_insert_76 rfl (lv_at hl 2 rfl) ?_
    refine lv_dup hx hb d_Ed_insert_77 rfl ?_
    refine va_get (D := G) (ci := 1) (v := .int (nI x.cnt)) (C := R_Ed) (T := T_Ed) (N := 5) hx hb hts hi_2 hown hK hP 0 rfl rfl 1 (by decide) hk_1 (fun _ h9 => h9) rfl d_Ed_insert_78 ?_
    refine lv_iconst (v := 1) hx hb d_Ed_insert_81 (by decide) ?_
    refine lv_iadd hx hb d_Ed_insert_82 ?_
    refine va_put (D := G) (ci := 1) (v := .int ((nI x.cnt) + 1)) (ty := (.int)) (C := R_Ed) (T := T_Ed) (N := 5) hx hb hts hi_2 ty_Ed tyk_Ed nm_Ed hown hK hP hD hS 0 rfl rfl 1 (by decide) hk_1 (fun _ h9 => h9) rfl (by decide +kernel) rfl rfl (Nat.le_of_ble_eq_true rfl) d_Ed_insert_83 (fun H locs hP hD hS => ?_)
    replace hP : va_P G vwCl (W_Edi cI cL cZ cR cE (A.ea ei) (A.eb ei) x.state ((nI x.cnt) + 1) x.fr x.told (va_up (shO (ordF A x) 0 x.cnt) (nI 0).toNatClampNeg (some (A.ra n))) ++ fam M (fun j => WRr cI cL cZ cR cE A j (ru j))) H := hP
    replace hD : va_D A0 (W_Edi cI cL cZ cR cE (A.ea ei) (A.eb ei) x.state ((nI x.cnt) + 1) x.fr x.told (va_up (shO (ordF A x) 0 x.cnt) (nI 0).toNatClampNeg (some (A.ra n))) ++ fam M (fun j => WRr cI cL cZ cR cE A j (ru j))) := hD
    refine lv_aload_n hx hb d_Ed_insert_86 rfl (lv_at hl 2 rfl) ?_
    refine lv_iconst (v := 1) hx hb d_Ed_insert_87 (by decide) ?_
    refine va_put (D := G) (ci := 1) (v := .int 1) (ty := (.int)) (C := R_Ed) (T := T_Ed) (N := 5) hx hb hts hi_2 ty_Ed tyk_Ed nm_Ed hown hK hP hD hS 0 rfl rfl 0 (by decide) hk_4 (fun _ h9 => h9) rfl (by decide +kernel) rfl rfl (Nat.le_of_ble_eq_true rfl) d_Ed_insert_88 (fun H locs hP hD hS => ?_)
    replace hP : va_P G vwCl (W_Edi cI cL cZ cR cE (A.ea ei) (A.eb ei) 1 ((nI x.cnt) + 1) x.fr x.told (va_up (shO (ordF A x) 0 x.cnt) (nI 0).toNatClampNeg (some (A.ra n))) ++ fam M (fun j => WRr cI cL cZ cR cE A j (ru j))) H := hP
    replace hD : va_D A0 (W_Edi cI cL cZ cR cE (A.ea ei) (A.eb ei) 1 ((nI x.cnt) + 1) x.fr x.told (va_up (shO (ordF A x) 0 x.cnt) (nI 0).toNatClampNeg (some (A.ra n))) ++ fam M (fun j => WRr cI cL cZ cR cE A j (ru j))) := hD
    have hraw := ins_raw (A := A) (n := n) (st := 1) (show 0 ≤ x.cnt by omega)
    have hpp : 0 = plc (befR ru x n) x.cnt := (by rw [← hpl]; rfl)
    have hfin : W_Edi cI cL cZ cR cE (A.ea ei) (A.eb ei) 1 ((nI x.cnt) + 1) x.fr x.told (va_up (shO (ordF A x) 0 x.cnt) (nI 0).toNatClampNeg (some (A.ra n))) ++ fam M (fun j => WRr cI cL cZ cR cE A j (ru j)) = WEe cI cL cZ cR cE A ei (EdS.mk (1) x.fr x.told (x.cnt + 1) (insOrd x.ord (plc (befR ru x n) x.cnt) n)) ++ fam M (fun j => WRr cI cL cZ cR cE A j (ru j)) := by rw [nI_1, nI_clamp (by omega), ← hpp, hraw]
    exact W.vret hx hb hr (fun t ht hW => ⟨⟨_, rfl, rfl, by rw [ht, ← hfin]; exact hP, va_K.moved hW.alike hK, by rw [← hfin]; exact hD⟩, hS.F ht⟩) hS.2.2 d_Ed_insert_91
  | succ q ih =>
    intro H locs ls hP hD hS hpc hpl hl
    replace hl : lv_has ls 5 [(3, .int (nI q)), (2, .int (nI (q + 1))), (0, .ref (A.ea ei)), (1, .ref (A.ra n))] := by rw [← nI_pred q]; exact hl
    refine lv_iload_n hx hb d_Ed_insert_22 rfl (lv_at hl 0 rfl) ?_
    refine lv_if_lt (tgt := 69) hx hb d_Ed_insert_23 (by decide) (fun c_0 => absurd c_0 (nI_pos (by omega))) (fun _ => ?_)
    refine lv_aload_n hx hb d_Ed_insert_26 rfl (lv_at hl 2 rfl) ?_
    refine va_get (D := G) (ci := 1) (v := .ref (A.eb ei)) (C := R_Ed) (T := T_Ed) (N := 5) hx hb hts hi_2 hown hK hP 0 rfl rfl 4 (by decide) hk_3 (fun _ h9 => h9) rfl d_Ed_insert_27 ?_
    refine lv_iload_n hx hb d_Ed_insert_30 rfl (lv_at hl 0 rfl) ?_
    refine va_aldq hx hb hK hP 1 3 rfl rfl (vp_in_nI (show q < 8 by omega) (by decide)) d_Ed_insert_31 ?_
    rw [show shO (ordF A x) (q + 1) x.cnt (nI q).toNatClampNeg = some (A.ra (x.ord q)) from by rw [nI_clamp (by omega), shO_at]; exact if_pos (by omega)]
    refine W.eq (g2 := F0 m 32 ls (.ref (A.ra (x.ord q)) :: [])) rfl ?_
    refine lv_astore (lv' := [(4, .ref (A.ra (x.ord q))), (3, .int (nI q)), (2, .int (nI (q + 1))), (0, .ref (A.ea ei)), (1, .ref (A.ra n))]) hx hb d_Ed_insert_32 hl (by decide) rfl (fun ls hl => ?_)
    refine lv_aload hx hb d_Ed_insert_34 (lv_at hl 0 rfl) ?_
    refine lv_ifnull hx hb d_Ed_insert_36 ?_
    refine lv_aload hx hb d_Ed_insert_39 (lv_at hl 0 rfl) ?_
    refine lv_aload_n hx hb d_Ed_insert_41 rfl (lv_at hl 4 rfl) ?_
    refine vp_callSi (W.runV (As := [.ref (A.ra n)]) (rest := []) ⟨hx, hb, hml, hown, hts⟩ (c_goesBefore l G cI cL cZ cR cE (A.ra (x.ord q)) (A.rb (x.ord q)) (A.rc (x.ord q)) (A.ra n) (A.rb n) (A.rc n) (nI (x.ord q)) (A.ea (ru (x.ord q)).ho) ((ru (x.ord q)).rank) ((ru (x.ord q)).name) ((ru (x.ord q)).ops) ((ru (x.ord q)).nums) ((ru (x.ord q)).len) ((ru (x.ord q)).cell) ((ru (x.ord q)).fk) ((ru (x.ord q)).fv) (nI n) (A.ea (ru n).ho) ((ru n).rank) ((ru n).name) ((ru n).ops) ((ru n).nums) ((ru n).len) ((ru n).cell) ((ru n).fk) ((ru n).fv)) (cwV 1 hts (gV kw_233 kw_234 kw_235 kw_22 kw_236) rfl rfl rfl (by decide +kernel) ⟨Nat.le_of_ble_eq_true rfl, Nat.le_of_ble_eq_true rfl⟩) (preRV_of (ci := 3) hN hK ((IW_ru hP (hod q (by omega))).app (IW_ru hP hn)) [0, 1, 2, 3, 4, 5] rfl rfl rfl) rfl rfl hl.1 rfl (lv_room (Nat.le_of_ble_eq_true rfl)) d_Ed_insert_42 ⟨Nat.zero_le _, Nat.zero_le _⟩) (fun r_1 hw => ?_)
    subst hw
    refine lv_if_eq (tgt := 51) hx hb d_Ed_insert_45 (by decide) (fun cb => ?_) (fun cb => ?_)
    · refine lv_aload_n hx hb d_Ed_insert_51 rfl (lv_at hl 3 rfl) ?_
      refine va_get (D := G) (ci := 1) (v := .ref (A.eb ei)) (C := R_Ed) (T := T_Ed) (N := 5) hx hb hts hi_2 hown hK hP 0 rfl rfl 4 (by decide) hk_3 (fun _ h9 => h9) rfl d_Ed_insert_52 ?_
      refine lv_iload_n hx hb d_Ed_insert_55 rfl (lv_at hl 1 rfl) ?_
      refine lv_iconst (v := 1) hx hb d_Ed_insert_56 (by decide) ?_
      refine lv_iadd hx hb d_Ed_insert_57 ?_
      refine lv_aload hx hb d_Ed_insert_58 (lv_at hl 0 rfl) ?_
      replace hP := hP.perm (IW_p (hod q (by omega)))
      replace hD := hD.perm (IW_p (hod q (by omega)))
      refine va_astq hx hb hK hP hD hS 1 3 2 3 rfl rfl rfl rfl (by rw [nI_1]; exact vp_in_nI (show q + 1 < 8 by omega) (by decide)) d_Ed_insert_60 (fun H locs hP hD hS => ?_)
      replace hP : va_P G vwCl ((W_Edi cI cL cZ cR cE (A.ea ei) (A.eb ei) x.state (nI x.cnt) x.fr x.told (va_up (shO (ordF A x) (q + 1) x.cnt) ((nI q) + 1).toNatClampNeg (some (A.ra (x.ord q)))) ++ WRr cI cL cZ cR cE A (x.ord q) (ru (x.ord q))) ++ famX M (x.ord q) (fun j => WRr cI cL cZ cR cE A j (ru j))) H := hP
      replace hD : va_D A0 ((W_Edi cI cL cZ cR cE (A.ea ei) (A.eb ei) x.state (nI x.cnt) x.fr x.told (va_up (shO (ordF A x) (q + 1) x.cnt) ((nI q) + 1).toNatClampNeg (some (A.ra (x.ord q)))) ++ WRr cI cL cZ cR cE A (x.ord q) (ru (x.ord q))) ++ famX M (x.ord q) (fun j => WRr cI cL cZ cR cE A j (ru j))) := hD
      replace hP : va_P G vwCl (W_Edi cI cL cZ cR cE (A.ea ei) (A.eb ei) x.state (nI x.cnt) x.fr x.told (va_up (shO (ordF A x) (q + 1) x.cnt) ((nI q) + 1).toNatClampNeg (some (A.ra (x.ord q)))) ++ fam M (fun j => WRr cI cL cZ cR cE A j (ru j))) H := va_P.perm hP (IW_p (g := (fun j => WRr cI cL cZ cR cE A j (ru j))) (hod q (by omega))).symm
      replace hD : va_D A0 (W_Edi cI cL cZ cR cE (A.ea ei) (A.eb ei) x.state (nI x.cnt) x.fr x.told (va_up (shO (ordF A x) (q + 1) x.cnt) ((nI q) + 1).toNatClampNeg (some (A.ra (x.ord q)))) ++ fam M (fun j => WRr cI cL cZ cR cE A j (ru j))) := va_D.perm hD (IW_p (g := (fun j => WRr cI cL cZ cR cE A j (ru j))) (hod q (by omega))).symm
      have hraw : va_up (shO (ordF A x) (q + 1) x.cnt) ((nI q) + 1).toNatClampNeg (some (A.ra (x.ord q))) = shO (ordF A x) q x.cnt := by rw [nI_1, nI_clamp (by omega)]; rw [show some (A.ra (x.ord q)) = ordF A x q from (if_pos (by omega)).symm]; exact shO_step (by omega)
      replace hP : va_P G vwCl (W_Edi cI cL cZ cR cE (A.ea ei) (A.eb ei) x.state (nI x.cnt) x.fr x.told (shO (ordF A x) q x.cnt) ++ fam M (fun j => WRr cI cL cZ cR cE A j (ru j))) H := by rw [← hraw]; exact hP
      replace hD : va_D A0 (W_Edi cI cL cZ cR cE (A.ea ei) (A.eb ei) x.state (nI x.cnt) x.fr x.told (shO (ordF A x) q x.cnt) ++ fam M (fun j => WRr cI cL cZ cR cE A j (ru j))) := by rw [← hraw]; exact hD
      clear hraw
      refine lv_iload_n hx hb d_Ed_insert_61 rfl (lv_at hl 1 rfl) ?_
      refine lv_istore_n (lv' := [(2, .int (nI q)), (4, .ref (A.ra (x.ord q))), (3, .int (nI q)), (0, .ref (A.ea ei)), (1, .ref (A.ra n))]) hx hb d_Ed_insert_62 rfl hl (by decide) rfl (fun ls hl => ?_)
      refine lv_iinc (v := (nI q) + (-1)) (lv' := [(3, .int ((nI q) + (-1))), (2, .int (nI q)), (4, .ref (A.ra (x.ord q))), (0, .ref (A.ea ei)), (1, .ref (A.ra n))]) hx hb d_Ed_insert_63 hl (k := 2) rfl rfl (by decide) rfl (fun ls hl => ?_)
      refine lv_goto (tgt := 22) hx hb d_Ed_insert_66 (by decide) ?_
      exact ih H _ ls hP hD hS (by omega) (plc_go hpl cb) (by rw [← nI_dec]; exact (lv_sub hl [0, 1, 3, 4] rfl))
    · refine lv_goto (tgt := 69) hx hb d_Ed_insert_48 (by decide) ?_
      refine lv_aload_n hx hb d_Ed_insert_69 rfl (lv_at hl 3 rfl) ?_
      refine va_get (D := G) (ci := 1) (v := .ref (A.eb ei)) (C := R_Ed) (T := T_Ed) (N := 5) hx hb hts hi_2 hown hK hP 0 rfl rfl 4 (by decide) hk_3 (fun _ h9 => h9) rfl d_Ed_insert_70 ?_
      refine lv_iload_n hx hb d_Ed_insert_73 rfl (lv_at hl 2 rfl) ?_
      refine lv_aload_n hx hb d_Ed_insert_74 rfl (lv_at hl 4 rfl) ?_
      replace hP := hP.perm (IW_p hn)
      replace hD := hD.perm (IW_p hn)
      refine va_astq hx hb hK hP hD hS 1 3 2 3 rfl rfl rfl rfl (vp_in_nI (show q + 1 < 8 by omega) (by decide)) d_Ed_insert_75 (fun H locs hP hD hS => ?_)
      replace hP : va_P G vwCl ((W_Edi cI cL cZ cR cE (A.ea ei) (A.eb ei) x.state (nI x.cnt) x.fr x.told (va_up (shO (ordF A x) (q + 1) x.cnt) (nI (q + 1)).toNatClampNeg (some (A.ra n))) ++ WRr cI cL cZ cR cE A n (ru n)) ++ famX M n (fun j => WRr cI cL cZ cR cE A j (ru j))) H := hP
      replace hD : va_D A0 ((W_Edi cI cL cZ cR cE (A.ea ei) (A.eb ei) x.state (nI x.cnt) x.fr x.told (va_up (shO (ordF A x) (q + 1) x.cnt) (nI (q + 1)).toNatClampNeg (some (A.ra n))) ++ WRr cI cL cZ cR cE A n (ru n)) ++ famX M n (fun j => WRr cI cL cZ cR cE A j (ru j))) := hD
      replace hP : va_P G vwCl (W_Edi cI cL cZ cR cE (A.ea ei) (A.eb ei) x.state (nI x.cnt) x.fr x.told (va_up (shO (ordF A x) (q + 1) x.cnt) (nI (q + 1)).toNatClampNeg (some (A.ra n))) ++ fam M (fun j => WRr cI cL cZ cR cE A j (ru j))) H := va_P.perm hP (IW_p (g := (fun j => WRr cI cL cZ cR cE A j (ru j))) hn).symm
      replace hD : va_D A0 (W_Edi cI cL cZ cR cE (A.ea ei) (A.eb ei) x.state (nI x.cnt) x.fr x.told (va_up (shO (ordF A x) (q + 1) x.cnt) (nI (q + 1)).toNatClampNeg (some (A.ra n))) ++ fam M (fun j => WRr cI cL cZ cR cE A j (ru j))) := va_D.perm hD (IW_p (g := (fun j => WRr cI cL cZ cR cE A j (ru j))) hn).symm
      refine lv_aload_n hx hb d_Ed_insert_76 rfl (lv_at hl 3 rfl) ?_
      refine lv_dup hx hb d_Ed_insert_77 rfl ?_
      refine va_get (D := G) (ci := 1) (v := .int (nI x.cnt)) (C := R_Ed) (T := T_Ed) (N := 5) hx hb hts hi_2 hown hK hP 0 rfl rfl 1 (by decide) hk_1 (fun _ h9 => h9) rfl d_Ed_insert_78 ?_
      refine lv_iconst (v := 1) hx hb d_Ed_insert_81 (by decide) ?_
      refine lv_iadd hx hb d_Ed_insert_82 ?_
      refine va_put (D := G) (ci := 1) (v := .int ((nI x.cnt) + 1)) (ty := (.int)) (C := R_Ed) (T := T_Ed) (N := 5) hx hb hts hi_2 ty_Ed tyk_Ed nm_Ed hown hK hP hD hS 0 rfl rfl 1 (by decide) hk_1 (fun _ h9 => h9) rfl (by decide +kernel) rfl rfl (Nat.le_of_ble_eq_true rfl) d_Ed_insert_83 (fun H locs hP hD hS => ?_)
      replace hP : va_P G vwCl (W_Edi cI cL cZ cR cE (A.ea ei) (A.eb ei) x.state ((nI x.cnt) + 1) x.fr x.told (va_up (shO (ordF A x) (q + 1) x.cnt) (nI (q + 1)).toNatClampNeg (some (A.ra n))) ++ fam M (fun j => WRr cI cL cZ cR cE A j (ru j))) H := hP
      replace hD : va_D A0 (W_Edi cI cL cZ cR cE (A.ea ei) (A.eb ei) x.state ((nI x.cnt) + 1) x.fr x.told (va_up (shO (ordF A x) (q + 1) x.cnt) (nI (q + 1)).toNatClampNeg (some (A.ra n))) ++ fam M (fun j => WRr cI cL cZ cR cE A j (ru j))) := hD
      refine lv_aload_n hx hb d_Ed_insert_86 rfl (lv_at hl 3 rfl) ?_
      refine lv_iconst (v := 1) hx hb d_Ed_insert_87 (by decide) ?_
      refine va_put (D := G) (ci := 1) (v := .int 1) (ty := (.int)) (C := R_Ed) (T := T_Ed) (N := 5) hx hb hts hi_2 ty_Ed tyk_Ed nm_Ed hown hK hP hD hS 0 rfl rfl 0 (by decide) hk_4 (fun _ h9 => h9) rfl (by decide +kernel) rfl rfl (Nat.le_of_ble_eq_true rfl) d_Ed_insert_88 (fun H locs hP hD hS => ?_)
      replace hP : va_P G vwCl (W_Edi cI cL cZ cR cE (A.ea ei) (A.eb ei) 1 ((nI x.cnt) + 1) x.fr x.told (va_up (shO (ordF A x) (q + 1) x.cnt) (nI (q + 1)).toNatClampNeg (some (A.ra n))) ++ fam M (fun j => WRr cI cL cZ cR cE A j (ru j))) H := hP
      replace hD : va_D A0 (W_Edi cI cL cZ cR cE (A.ea ei) (A.eb ei) 1 ((nI x.cnt) + 1) x.fr x.told (va_up (shO (ordF A x) (q + 1) x.cnt) (nI (q + 1)).toNatClampNeg (some (A.ra n))) ++ fam M (fun j => WRr cI cL cZ cR cE A j (ru j))) := hD
      have hraw := ins_raw (A := A) (n := n) (st := 1) (show q + 1 ≤ x.cnt by omega)
      have hpp : q + 1 = plc (befR ru x n) x.cnt := plc_stop hpl cb
      have hfin : W_Edi cI cL cZ cR cE (A.ea ei) (A.eb ei) 1 ((nI x.cnt) + 1) x.fr x.told (va_up (shO (ordF A x) (q + 1) x.cnt) (nI (q + 1)).toNatClampNeg (some (A.ra n))) ++ fam M (fun j => WRr cI cL cZ cR cE A j (ru j)) = WEe cI cL cZ cR cE A ei (EdS.mk (1) x.fr x.told (x.cnt + 1) (insOrd x.ord (plc (befR ru x n) x.cnt) n)) ++ fam M (fun j => WRr cI cL cZ cR cE A j (ru j)) := by rw [nI_1, nI_clamp (by omega), ← hpp, hraw]
      exact W.vret hx hb hr (fun t ht hW => ⟨⟨_, rfl, rfl, by rw [ht, ← hfin]; exact hP, va_K.moved hW.alike hK, by rw [← hfin]; exact hD⟩, hS.F ht⟩) hS.2.2 d_Ed_insert_91
