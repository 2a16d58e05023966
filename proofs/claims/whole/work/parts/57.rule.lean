theorem pm5 (R1 WX E1 E2 R2 : va_W) : ((R1 ++ WX) ++ ((E1 ++ E2) ++ R2)).Perm ((E1 ++ (R2 ++ R1)) ++ (WX ++ E2)) := by
  have e1 : ((R1 ++ WX) ++ ((E1 ++ E2) ++ R2)).Perm ((E1 ++ E2) ++ R2 ++ (R1 ++ WX)) := List.perm_append_comm
  refine e1.trans ?_
  rw [List.append_assoc E1 E2 R2, List.append_assoc E1, List.append_assoc E1]
  refine List.Perm.append_left _ ?_
  rw [List.append_assoc R2 R1]
  refine ((List.perm_append_comm (l₁ := E2) (l₂ := R2)).append_right _).trans ?_
  rw [List.append_assoc R2 E2]
  refine List.Perm.append_left _ ?_
  refine (List.perm_append_comm (l₁ := E2)).trans ?_
  rw [List.append_assoc R1 WX E2]
theorem pm4 (E1 R2 Hh E2 : va_W) : ((E1 ++ R2) ++ (Hh ++ E2)).Perm ((Hh ++ E1) ++ (E2 ++ R2)) := by
  refine List.perm_append_comm.trans ?_
  rw [List.append_assoc, List.append_assoc]
  refine List.Perm.append_left _ ?_
  exact (List.perm_append_comm_assoc E2 E1 R2)
def newA (A : CAd) (n q q1 q2 : Nat) : CAd := (CAd.mk A.h A.ea A.eb (setF A.ra n q) (setF A.rb n q1) (setF A.rc n q2))
theorem va_P.lf {G : va_G} {H : Heap} {a b : va_W} (h : va_P G vwCl (a ++ b) H) : va_P G vwCl a H := h.mem (fun x hx => List.mem_append_left _ hx)
theorem plc_congr {b b' : Nat → Int32} : ∀ {c : Nat}, (∀ i, i < c → b i = b' i) → plc b c = plc b' c := by
  intro c
  induction c with
  | zero => intro _; rfl
  | succ c ih =>
    intro h
    show (if b c = 0 then plc b c else c + 1) = (if b' c = 0 then plc b' c else c + 1)
    rw [h c (by omega), ih (fun i hi => h i (by omega))]
theorem rulF_new {A : CAd} {n q q1 q2 : Nat} : va_up (rulF A n) n (some q) = rulF (newA A n q q1 q2) (n + 1) := by
  funext t
  show (if t = n then some q else (if t < n then some (A.ra t) else none)) = (if t < n + 1 then some (setF A.ra n q t) else none)
  by_cases d : t = n
  · rw [if_pos d, if_pos (by omega), d, setF_eq]
  · rw [if_neg d, setF_ne _ _ d]
    by_cases d2 : t < n
    · rw [if_pos d2, if_pos (by omega)]
    · rw [if_neg d2, if_neg (by omega)]
theorem ordF_new {A : CAd} {n q q1 q2 : Nat} {x : EdS} (h : ∀ i, i < x.cnt → x.ord i < n) : ordF (newA A n q q1 q2) x = ordF A x := by
  funext t
  show (if t < x.cnt then some (setF A.ra n q (x.ord t)) else none) = (if t < x.cnt then some (A.ra (x.ord t)) else none)
  by_cases d : t < x.cnt
  · have := h t d
    rw [if_pos d, if_pos d, setF_ne _ _ (by omega)]
  · rw [if_neg d, if_neg d]
theorem FE_new {cI cL cZ cR cE : ClassId} {A : CAd} {s : CS} {q q1 q2 : Nat} (hI : CInv s) : FE cI cL cZ cR cE (newA A s.n q q1 q2) s = FE cI cL cZ cR cE A s := fam_congr (fun i hi => by
  show W_Edi cI cL cZ cR cE (A.ea i) (A.eb i) (s.ed i).state (nI (s.ed i).cnt) (s.ed i).fr (s.ed i).told (ordF (newA A s.n q q1 q2) (s.ed i)) = _
  rw [ordF_new (hI.od i hi)])
theorem FR_new {cI cL cZ cR cE : ClassId} {A : CAd} {s : CS} {q q1 q2 ei : Nat} {rank nam : Int32} : fam (s.n + 1) (fun j => WRr cI cL cZ cR cE (newA A s.n q q1 q2) j (setF s.ru s.n (newRu ei rank nam) j)) = FR cI cL cZ cR cE A s ++ W_Rul cI cL cZ cR cE q q1 q2 (nI s.n) (A.ea ei) rank nam (fun _ => 0) (fun _ => 0) 0 0 (-1) 0 := by
  rw [fam_succ]
  congr 1
  · exact fam_congr (fun j hj => by
      have hne : j ≠ s.n := by omega
      show W_Rul cI cL cZ cR cE (setF A.ra s.n q j) (setF A.rb s.n q1 j) (setF A.rc s.n q2 j) _ _ _ _ _ _ _ _ _ _ = _
      simp only [setF_ne _ _ hne]
      rfl)
  · show W_Rul cI cL cZ cR cE (setF A.ra s.n q s.n) (setF A.rb s.n q1 s.n) (setF A.rc s.n q2 s.n) _ _ _ _ _ _ _ _ _ _ = _
    simp only [setF_eq]
    rfl
theorem rule_in {cI cL cZ cR cE : ClassId} {A : CAd} {s : CS} {q q1 q2 ei : Nat} {rank nam : Int32} {WX : va_W} (hI : CInv s) (hei : ei < 6) : ((W_Rul cI cL cZ cR cE q q1 q2 (nI s.n) (A.ea ei) rank nam (fun _ => 0) (fun _ => 0) 0 0 (-1) 0 ++ WX) ++ (FE cI cL cZ cR cE A s ++ FR cI cL cZ cR cE A s)).Perm ((WEe cI cL cZ cR cE (newA A s.n q q1 q2) ei (s.ed ei) ++ fam (s.n + 1) (fun j => WRr cI cL cZ cR cE (newA A s.n q q1 q2) j (setF s.ru s.n (newRu ei rank nam) j))) ++ (WX ++ famX 6 ei (fun e => WEe cI cL cZ cR cE (newA A s.n q q1 q2) e (s.ed e)))) := by
  rw [FR_new, ← FE_new (q := q) (q1 := q1) (q2 := q2) hI]
  have h := (fam_foc hei (fun e => WEe cI cL cZ cR cE (newA A s.n q q1 q2) e (s.ed e)))
  generalize W_Rul cI cL cZ cR cE q q1 q2 (nI s.n) (A.ea ei) rank nam (fun _ => 0) (fun _ => 0) 0 0 (-1) 0 = R1
  generalize FR cI cL cZ cR cE A s = R2
  generalize famX 6 ei (fun e => WEe cI cL cZ cR cE (newA A s.n q q1 q2) e (s.ed e)) = E2 at h ⊢
  refine ((List.Perm.refl (R1 ++ WX)).append (h.append_right R2)).trans ?_
  exact pm5 _ _ _ _ _
theorem rule_out {cI cL cZ cR cE : ClassId} {A : CAd} {s : CS} {q q1 q2 ei : Nat} {rank nam : Int32} {u : EdS} (hI : CInv s) (hei : ei < 6) (hu : u = (EdS.mk (1) (s.ed ei).fr (s.ed ei).told ((s.ed ei).cnt + 1) (insOrd (s.ed ei).ord (plc (befR (setF s.ru s.n (newRu ei rank nam)) (s.ed ei) s.n) (s.ed ei).cnt) s.n))) : ((WEe cI cL cZ cR cE (newA A s.n q q1 q2) ei u ++ fam (s.n + 1) (fun j => WRr cI cL cZ cR cE (newA A s.n q q1 q2) j (setF s.ru s.n (newRu ei rank nam) j))) ++ (W_Hr cI cL cZ cR cE (A.h 0) (A.h 1) (A.h 2) (A.h 3) (A.h 4) (A.h 5) (A.h 6) (A.h 7) (A.h 8) (A.h 9) (A.h 10) (A.h 11) (A.h 12) (A.h 13) (A.h 14) (A.h 15) s.steps (edsF A) (va_up (rulF A s.n) (nI s.n).toNatClampNeg (some q)) (nI s.n + 1) s.days s.facts s.stack s.hf s.gv s.gg s.hc s.ht s.pos s.fault s.cell s.av s.ag s.fn s.fh s.fc ++ famX 6 ei (fun e => WEe cI cL cZ cR cE (newA A s.n q q1 q2) e (s.ed e)))).Perm (FW cI cL cZ cR cE (newA A s.n q q1 q2) (addRule s ei rank nam)) := by
  have hb : plc (befR (setF s.ru s.n (newRu ei rank nam)) (s.ed ei) s.n) (s.ed ei).cnt = plc (befF s ei rank nam) (s.ed ei).cnt := plc_congr (fun i hi => by
    have := hI.od ei hei i hi
    unfold befR befF
    rw [setF_ne _ _ (show (s.ed ei).ord i ≠ s.n by omega), setF_eq]
    rfl)
  rw [hb] at hu
  have hn := hI.n40
  rw [nI_clamp (show s.n < 2 ^ 31 by omega), nI_1, rulF_new (q1 := q1) (q2 := q2)]
  have h := (FW_pE (cI := cI) (cL := cL) (cZ := cZ) (cR := cR) (cE := cE) (A := newA A s.n q q1 q2) (s := addRule s ei rank nam) hei).symm
  refine List.Perm.trans ?_ h
  have e1 : famX 6 ei (fun i => WEe cI cL cZ cR cE (newA A s.n q q1 q2) i ((addRule s ei rank nam).ed i)) = famX 6 ei (fun i => WEe cI cL cZ cR cE (newA A s.n q q1 q2) i (s.ed i)) := famX_congr (fun i _ hi => by
    show WEe cI cL cZ cR cE (newA A s.n q q1 q2) i (setF s.ed ei _ i) = _
    rw [setF_ne _ _ hi])
  have e2 : WEe cI cL cZ cR cE (newA A s.n q q1 q2) ei ((addRule s ei rank nam).ed ei) = WEe cI cL cZ cR cE (newA A s.n q q1 q2) ei u := by
    show WEe cI cL cZ cR cE (newA A s.n q q1 q2) ei (setF s.ed ei _ ei) = _
    rw [setF_eq, hu]
  rw [e1, e2]
  have e3 : FR cI cL cZ cR cE (newA A s.n q q1 q2) (addRule s ei rank nam) = fam (s.n + 1) (fun j => WRr cI cL cZ cR cE (newA A s.n q q1 q2) j (setF s.ru s.n (newRu ei rank nam) j)) := rfl
  rw [e3]
  have e4 : W_Hr cI cL cZ cR cE (A.h 0) (A.h 1) (A.h 2) (A.h 3) (A.h 4) (A.h 5) (A.h 6) (A.h 7) (A.h 8) (A.h 9) (A.h 10) (A.h 11) (A.h 12) (A.h 13) (A.h 14) (A.h 15) s.steps (edsF A) (rulF (newA A s.n q q1 q2) (s.n + 1)) (nI (s.n + 1)) s.days s.facts s.stack s.hf s.gv s.gg s.hc s.ht s.pos s.fault s.cell s.av s.ag s.fn s.fh s.fc = WH cI cL cZ cR cE (newA A s.n q q1 q2) (addRule s ei rank nam) := rfl
  rw [e4]
  generalize WH cI cL cZ cR cE (newA A s.n q q1 q2) (addRule s ei rank nam) = Hh
  generalize fam (s.n + 1) (fun j => WRr cI cL cZ cR cE (newA A s.n q q1 q2) j (setF s.ru s.n (newRu ei rank nam) j)) = R2
  generalize famX 6 ei (fun i => WEe cI cL cZ cR cE (newA A s.n q q1 q2) i (s.ed i)) = E2
  generalize WEe cI cL cZ cR cE (newA A s.n q q1 q2) ei u = E1
  exact pm4 _ _ _ _
set_option maxHeartbeats 4000000 in
set_option maxRecDepth 100000 in
theorem x_rule (l : Launch) (G : va_G) (cI cL cZ cR cE : ClassId)  (sz : Nat) (A : CAd) (s : CS) (hI : CInv s) (k rank nam : Int32) : Met l y_Hr_rule w_Hr_rule ({ frames := 2, cells := 3, slots := 34, locals := 45 }) (preW G (TYS cI cL cZ cR cE) [.ref (A.h 0), .int k, .int rank, .int nam] sz (FW cI cL cZ cR cE A s)) (va_Qi (S := CAd × CS) (fun ans_ u => (ans_, u.2) = F_rule s k rank nam ∧ u.1.h = A.h) (fun u t => va_P G vwCl (FW cI cL cZ cR cE u.1 u.2) t.heap ∧ va_K G vwCl (TYS cI cL cZ cR cE) t ∧ va_D (va_A (FW cI cL cZ cR cE A s) sz) (FW cI cL cZ cR cE u.1 u.2)) (va_A (FW cI cL cZ cR cE A s) sz)) 3 34 (va_A (FW cI cL cZ cR cE A s) sz) := by
  refine Met.ofW (cc := b_Hr_rule) (maxL := 6) (ret := (some .int)) (by decide) rfl ?_
  intro p e s_ m args below meth c s₁ B hml hv
  obtain ⟨rfl, hsz, hP, hK, hD0, hN⟩ := hv
  have hx := B.exec
  have hb := B.bytes
  have hr := B.returns
  have hts := atoms_spec (ws := w_Hr_rule) B.pre
  have hown : s_.vm.findClass R_Hr = some m.cls := findClass_of_methodNamed B.named
  have hlocks := B.notSynchronized
  subst hsz
  have hD := hD0.self (sz := s_.heap.size)
  clear hD0
  generalize hAe : va_A (FW cI cL cZ cR cE A s) s_.heap.size = A0 at hD ⊢
  have hA : ∀ q : Nat, s_.heap.size ≤ q → A0 q := fun q h => by rw [← hAe]; exact Or.inr h
  clear hAe
  have hS : va_S A0 s_.heap s_.heap [] := va_S.rf
  obtain ⟨H, hH⟩ : ∃ H, H = s_.heap := ⟨_, rfl⟩
  rw [← hH] at hP
  replace hS : va_S A0 s_.heap H [] := by rw [hH]; exact hS
  rw [← hH]
  clear hH
  obtain ⟨locs, hlocs⟩ : ∃ z : List Loc, z = [] := ⟨_, rfl⟩
  rw [← hlocs] at hS ⊢
  clear hlocs
  have hi_4 : ∀ w ∈ u_ws R_Ed T_Ed 5, w ∈ w_Hr_rule := fun w h => List.mem_cons_of_mem _ (iu_Ed w h)
  have hi_6 : ∀ w ∈ u_ws R_Hr T_Hr 8, w ∈ w_Hr_rule := fun w h => List.mem_cons_of_mem _ (iu_Hr w h)
  have hi_8 : ∀ w ∈ u_ws R_Ru T_Ru 10, w ∈ w_Hr_rule := fun w h => List.mem_cons_of_mem _ (iu_Ru w h)
  have hk_1 := hts (.constantLong R_Hr 66 9) (List.mem_cons_of_mem _ kw_177)
  have hk_10 := hts (.instantiable R_Ru 10) (List.mem_cons_of_mem _ kw_182)
  have hk_11 := hts (.initialized R_Ru) (List.mem_cons_of_mem _ kw_22)
  have hk_12 := hts (.fieldLink R_Hr 17 "HandlingRules" "rules" "[LHandlingRules$Rule;") (List.mem_cons_of_mem _ kw_146)
  have hk_13 := hts (.fieldLink R_Hr 87 "HandlingRules$Rule" "number" "I") (List.mem_cons_of_mem _ kw_188)
  have hk_2 := hts (.constantLong R_Hr 72 99) (List.mem_cons_of_mem _ kw_181)
  have hk_3 := hts (.fieldLink R_Hr 74 "HandlingRules$Edition" "state" "I") (List.mem_cons_of_mem _ kw_125)
  have hk_5 := hts (.fieldLink R_Hr 21 "HandlingRules" "ruleCount" "I") (List.mem_cons_of_mem _ kw_147)
  have hk_7 := hts (.fieldLink R_Hr 77 "HandlingRules$Edition" "count" "I") (List.mem_cons_of_mem _ kw_127)
  have hk_9 := hts (.classLink R_Hr 15 R_Ru) (List.mem_cons_of_mem _ kw_38)
  have hl := lv_entry ([.ref (A.h 0), .int k, .int rank, .int nam]) (n := 6) (Nat.le_of_ble_eq_true rfl)
  rw [lg_entry_eq]
  generalize (lg_sl ([.ref (A.h 0), .int k, .int rank, .int nam]) ++ List.replicate (6 - (lg_sl ([.ref (A.h 0), .int k, .int rank, .int nam])).length) Slot.unset).toArray = ls at hl ⊢
  replace hl : lv_has ls 6 [(0, .ref (A.h 0)), (1, .int k), (2, .int rank), (3, .int nam)] := hl
  have h40 : (40 : Int32) ≤ nI s.n ↔ 40 ≤ s.n := nI_leI (a := 40) (b := s.n) (by decide) (by have := hI.n40; omega)
  by_cases ck : vp_in k 6
  · obtain ⟨ei, hei, rfl⟩ := vp_in_of ck (by decide)
    have hc8 : nI (s.ed ei).cnt < (8 : Int32) ↔ (s.ed ei).cnt < 8 := nI_ltI (a := (s.ed ei).cnt) (b := 8) (by have := hI.c8 ei hei; omega) (by decide)
    have hq : f_editionAt (edsF A) (nI ei) = some (A.ea ei) := by rw [edAt_iff, in_pos ck, nI_clamp (by omega)]; exact if_pos hei
    refine lv_aload_n hx hb d_Hr_rule_0 rfl (lv_at hl 0 rfl) ?_
    refine lv_iload_n hx hb d_Hr_rule_1 rfl (lv_at hl 1 rfl) ?_
    refine va_csq (W.runV (As := [.int (nI ei)]) (rest := []) ⟨hx, hb, hml, hown, hts⟩ (c_editionAt l G cI cL cZ cR cE (A.h 0) (A.h 1) (A.h 2) (A.h 3) (A.h 4) (A.h 5) (A.h 6) (A.h 7) (A.h 8) (A.h 9) (A.h 10) (A.h 11) (A.h 12) (A.h 13) (A.h 14) (A.h 15) s.steps (edsF A) (rulF A s.n) (nI s.n) s.days s.facts s.stack s.hf s.gv s.gg s.hc s.ht s.pos s.fault s.cell s.av s.ag s.fn s.fh s.fc (nI ei)) (cwV 1 hts (gV kw_173 kw_175 kw_0 kw_15 kw_176) rfl rfl rfl (by decide +kernel) ⟨Nat.le_of_ble_eq_true rfl, Nat.le_of_ble_eq_true rfl⟩) (preRV_of (ci := 5) hN hK (FW_hr hP) [0, 1, 2, 3, 4, 5, 6, 7, 8, 9, 10, 11, 12, 13, 14, 15] rfl rfl rfl) rfl rfl hl.1 rfl (lv_room (Nat.le_of_ble_eq_true rfl)) d_Hr_rule_2 ⟨Nat.zero_le _, Nat.zero_le _⟩) (fun r_2 hw => ?_)
    rw [hq] at hw
    subst hw
    refine W.eq (g2 := F0 m 5 ls (.ref (A.ea ei) :: [])) rfl ?_
    refine lv_astore (lv' := [(4, .ref (A.ea ei)), (0, .ref (A.h 0)), (1, .int (nI ei)), (2, .int rank), (3, .int nam)]) hx hb d_Hr_rule_5 hl (by decide) rfl (fun ls hl => ?_)
    refine lv_aload hx hb d_Hr_rule_7 (lv_at hl 0 rfl) ?_
    refine lv_ifnull hx hb d_Hr_rule_9 ?_
    refine lv_iload_n hx hb d_Hr_rule_12 rfl (lv_at hl 3 rfl) ?_
    refine lv_i2l (v := rank.toInt64) hx hb d_Hr_rule_13 rfl ?_
    refine lv_lconst (v := 0) hx hb d_Hr_rule_14 (by decide) ?_
    refine lv_ldc2 (v := 9) hx hb hown hk_1 d_Hr_rule_15 ?_
    refine vp_callSi (W.runS (As := [.long rank.toInt64, .long 0, .long 9]) (rest := []) ⟨hx, hb, hml, hown, hts⟩ (c_isWithin l G cI cL cZ cR cE  rank.toInt64 0 9) (va_cwS 3 hts (gS kw_178 kw_179 kw_15 kw_180) rfl rfl rfl (by decide +kernel) ⟨Nat.le_of_ble_eq_true rfl, Nat.le_of_ble_eq_true rfl⟩) (preRS_of hN hK hP [] rfl) rfl rfl hl.1 rfl (lv_room (Nat.le_of_ble_eq_true rfl)) d_Hr_rule_18 ⟨Nat.zero_le _, Nat.zero_le _⟩) (fun r_3 hw => ?_)
    subst hw
    refine lv_if_eq (tgt := 36) hx hb d_Hr_rule_21 (by decide) (fun c_4 => ?_) (fun c_4 => ?_)
    · refine lv_bipush (v := (-102)) hx hb d_Hr_rule_36 (by decide) ?_
      refine W.widen (k := 3) (n := 34) (by omega) (by omega) ?_
      exact W.iret (v := (-102)) hx hb hr (fun t ht hW => ⟨⟨(-102), (A, s), rfl, ⟨(by unfold F_rule; rw [in_pos ck, nI_clamp (by omega), if_pos c_4]), rfl⟩, by rw [ht]; exact hP, va_K.moved hW.alike hK, hD⟩, hS.F ht⟩) hS.2.2 d_Hr_rule_38
    · refine lv_iload_n hx hb d_Hr_rule_24 rfl (lv_at hl 4 rfl) ?_
      refine lv_i2l (v := nam.toInt64) hx hb d_Hr_rule_25 rfl ?_
      refine lv_lconst (v := 0) hx hb d_Hr_rule_26 (by decide) ?_
      refine lv_ldc2 (v := 99) hx hb hown hk_2 d_Hr_rule_27 ?_
      refine vp_callSi (W.runS (As := [.long nam.toInt64, .long 0, .long 99]) (rest := []) ⟨hx, hb, hml, hown, hts⟩ (c_isWithin l G cI cL cZ cR cE  nam.toInt64 0 99) (va_cwS 3 hts (gS kw_178 kw_179 kw_15 kw_180) rfl rfl rfl (by decide +kernel) ⟨Nat.le_of_ble_eq_true rfl, Nat.le_of_ble_eq_true rfl⟩) (preRS_of hN hK hP [] rfl) rfl rfl hl.1 rfl (lv_room (Nat.le_of_ble_eq_true rfl)) d_Hr_rule_30 ⟨Nat.zero_le _, Nat.zero_le _⟩) (fun r_5 hw => ?_)
      subst hw
      refine lv_if_ne (tgt := 39) hx hb d_Hr_rule_33 (by decide) (fun c_6 => ?_) (fun c_6 => ?_)
      · refine lv_aload hx hb d_Hr_rule_39 (lv_at hl 0 rfl) ?_
        refine va_get (D := G) (ci := 1) (v := .int ((s.ed ei).state)) (C := R_Ed) (T := T_Ed) (N := 5) hx hb hts hi_4 hown hK (FW_ed hP hei) 0 rfl rfl 0 (by decide) hk_3 (fun _ h9 => h9) rfl d_Hr_rule_41 ?_
        refine lv_iconst (v := 2) hx hb d_Hr_rule_44 (by decide) ?_
        refine lv_icmp_eq (tgt := 57) hx hb d_Hr_rule_45 (by decide) (fun c_7 => ?_) (fun c_7 => ?_)
        · refine lv_bipush (v := (-103)) hx hb d_Hr_rule_57 (by decide) ?_
          refine W.widen (k := 3) (n := 34) (by omega) (by omega) ?_
          exact W.iret (v := (-103)) hx hb hr (fun t ht hW => ⟨⟨(-103), (A, s), rfl, ⟨(by unfold F_rule; rw [in_pos ck, nI_clamp (by omega), if_neg c_4, if_neg c_6, if_pos (Or.inl c_7)]), rfl⟩, by rw [ht]; exact hP, va_K.moved hW.alike hK, hD⟩, hS.F ht⟩) hS.2.2 d_Hr_rule_59
        · refine lv_aload hx hb d_Hr_rule_48 (lv_at hl 0 rfl) ?_
          refine va_get (D := G) (ci := 1) (v := .int ((s.ed ei).state)) (C := R_Ed) (T := T_Ed) (N := 5) hx hb hts hi_4 hown hK (FW_ed hP hei) 0 rfl rfl 0 (by decide) hk_3 (fun _ h9 => h9) rfl d_Hr_rule_50 ?_
          refine lv_iconst (v := 3) hx hb d_Hr_rule_53 (by decide) ?_
          refine lv_icmp_ne (tgt := 60) hx hb d_Hr_rule_54 (by decide) (fun c_8 => ?_) (fun c_8 => ?_)
          · refine lv_aload_n hx hb d_Hr_rule_60 rfl (lv_at hl 1 rfl) ?_
            refine va_get (D := G) (ci := 5) (v := .int (nI s.n)) (C := R_Hr) (T := T_Hr) (N := 8) hx hb hts hi_6 hown hK (FW_hr hP) 0 rfl rfl 3 (by decide) hk_5 (fun _ h9 => h9) rfl d_Hr_rule_61 ?_
            refine lv_bipush (v := 40) hx hb d_Hr_rule_64 (by decide) ?_
            refine lv_icmp_ge (tgt := 79) hx hb d_Hr_rule_66 (by decide) (fun c_9 => ?_) (fun c_9 => ?_)
            · refine lv_bipush (v := (-104)) hx hb d_Hr_rule_79 (by decide) ?_
              refine W.widen (k := 3) (n := 34) (by omega) (by omega) ?_
              exact W.iret (v := (-104)) hx hb hr (fun t ht hW => ⟨⟨(-104), (A, s), rfl, ⟨(by unfold F_rule; rw [in_pos ck, nI_clamp (by omega), if_neg c_4, if_neg c_6, if_neg (fun g => g.elim c_7 c_8), if_pos (Or.inl (h40.mp c_9))]), rfl⟩, by rw [ht]; exact hP, va_K.moved hW.alike hK, hD⟩, hS.F ht⟩) hS.2.2 d_Hr_rule_81
            · refine lv_aload hx hb d_Hr_rule_69 (lv_at hl 0 rfl) ?_
              refine va_get (D := G) (ci := 1) (v := .int (nI (s.ed ei).cnt)) (C := R_Ed) (T := T_Ed) (N := 5) hx hb hts hi_4 hown hK (FW_ed hP hei) 0 rfl rfl 1 (by decide) hk_7 (fun _ h9 => h9) rfl d_Hr_rule_71 ?_
              refine lv_bipush (v := 8) hx hb d_Hr_rule_74 (by decide) ?_
              refine lv_icmp_lt (tgt := 82) hx hb d_Hr_rule_76 (by decide) (fun c_10 => ?_) (fun c_10 => ?_)
              · have hlt : s.n < 40 := Nat.lt_of_not_le (fun g => c_9 (h40.mpr g))
                have hlt8 : (s.ed ei).cnt < 8 := hc8.mp c_10
                refine va_new (ci := 3) (fs := [.int 0, .null, .int 0, .int 0, .null, .null, .int 0, .long 0, .int 0, .long 0]) (C := R_Ru) (T := T_Ru) (N := 10) hx hb hts hi_8 ty_Ru tyk_Ru hown hk_9 hk_10 hk_11 hK hP hD hS hA rfl (fun j hj => by rcases (show j = 0 ∨ j = 1 ∨ j = 2 ∨ j = 3 ∨ j = 4 ∨ j = 5 ∨ j = 6 ∨ j = 7 ∨ j = 8 ∨ j = 9 by omega) with rfl | rfl | rfl | rfl | rfl | rfl | rfl | rfl | rfl | rfl <;> rfl) (Nat.le_of_ble_eq_true rfl) (Nat.le_of_ble_eq_true rfl) d_Hr_rule_82 (fun q H hP hD hS => ?_)
                refine W.widen (k := 1) (n := 10) (by omega) (by omega) ?_
                replace hP : va_P G vwCl (FW cI cL cZ cR cE A s ++ ([(q, .inr (3, [.int 0, .null, .int 0, .int 0, .null, .null, .int 0, .long 0, .int 0, .long 0]))] : va_W)) H := hP
                replace hD : va_D A0 (FW cI cL cZ cR cE A s ++ ([(q, .inr (3, [.int 0, .null, .int 0, .int 0, .null, .null, .int 0, .long 0, .int 0, .long 0]))] : va_W)) := hD
                refine lv_dup hx hb d_Hr_rule_85 rfl ?_
                refine lv_aload_n hx hb d_Hr_rule_86 rfl (lv_at hl 1 rfl) ?_
                refine va_get (D := G) (ci := 5) (v := .int (nI s.n)) (C := R_Hr) (T := T_Hr) (N := 8) hx hb hts hi_6 hown hK (FW_hr (va_P.lf hP)) 0 rfl rfl 3 (by decide) hk_5 (fun _ h9 => h9) rfl d_Hr_rule_87 ?_
                refine lv_aload hx hb d_Hr_rule_90 (lv_at hl 0 rfl) ?_
                refine lv_iload_n hx hb d_Hr_rule_92 rfl (lv_at hl 3 rfl) ?_
                refine lv_iload_n hx hb d_Hr_rule_93 rfl (lv_at hl 4 rfl) ?_
                refine cl_vP (List.perm_append_comm : (FW cI cL cZ cR cE A s ++ ([(q, .inr (3, [.int 0, .null, .int 0, .int 0, .null, .null, .int 0, .long 0, .int 0, .long 0]))] : va_W)).Perm (([(q, .inr (3, [.int 0, .null, .int 0, .int 0, .null, .null, .int 0, .long 0, .int 0, .long 0]))] : va_W) ++ FW cI cL cZ cR cE A s)) hK hP hD hS hA (va_runI (As := [.int (nI s.n), .ref (A.ea ei), .int rank, .int nam]) (rest := [.ref q]) ⟨hx, hb, hml, hown, hts⟩ (c_initRul l G cI cL cZ cR cE H.size q (nI s.n) (A.ea ei) rank nam) (cwI 4 hts (gC kw_185) rfl rfl rfl (hts _ (List.mem_cons_of_mem _ kw_22)) (hts _ (List.mem_cons_of_mem _ kw_183)) (hts _ (List.mem_cons_of_mem _ kw_184)) rfl (by decide +kernel) ⟨Nat.le_of_ble_eq_true rfl, Nat.le_of_ble_eq_true rfl⟩) (preWS_p (List.perm_append_comm : (FW cI cL cZ cR cE A s ++ ([(q, .inr (3, [.int 0, .null, .int 0, .int 0, .null, .null, .int 0, .long 0, .int 0, .long 0]))] : va_W)).Perm (([(q, .inr (3, [.int 0, .null, .int 0, .int 0, .null, .null, .int 0, .long 0, .int 0, .long 0]))] : va_W) ++ FW cI cL cZ cR cE A s)) hN hK hP hD) rfl rfl hl.1 rfl (lv_room (Nat.le_of_ble_eq_true rfl)) d_Hr_rule_94 ⟨Nat.le_of_ble_eq_true rfl, Nat.le_of_ble_eq_true rfl⟩) (fun u H locs hw hP hD hS => ?_)
                obtain ⟨q1, q2⟩ := u
                refine W.widen (k := 3) (n := 34) (by omega) (by omega) ?_
                replace hP : va_P G vwCl (W_Rul cI cL cZ cR cE q q1 q2 (nI s.n) (A.ea ei) rank nam (fun _ => 0) (fun _ => 0) 0 0 (-1) 0 ++ W_Hr cI cL cZ cR cE (A.h 0) (A.h 1) (A.h 2) (A.h 3) (A.h 4) (A.h 5) (A.h 6) (A.h 7) (A.h 8) (A.h 9) (A.h 10) (A.h 11) (A.h 12) (A.h 13) (A.h 14) (A.h 15) s.steps (edsF A) (rulF A s.n) (nI s.n) s.days s.facts s.stack s.hf s.gv s.gg s.hc s.ht s.pos s.fault s.cell s.av s.ag s.fn s.fh s.fc ++ (FE cI cL cZ cR cE A s ++ FR cI cL cZ cR cE A s)) H := by rw [List.append_assoc]; exact hP
                replace hD : va_D A0 (W_Rul cI cL cZ cR cE q q1 q2 (nI s.n) (A.ea ei) rank nam (fun _ => 0) (fun _ => 0) 0 0 (-1) 0 ++ W_Hr cI cL cZ cR cE (A.h 0) (A.h 1) (A.h 2) (A.h 3) (A.h 4) (A.h 5) (A.h 6) (A.h 7) (A.h 8) (A.h 9) (A.h 10) (A.h 11) (A.h 12) (A.h 13) (A.h 14) (A.h 15) s.steps (edsF A) (rulF A s.n) (nI s.n) s.days s.facts s.stack s.hf s.gv s.gg s.hc s.ht s.pos s.fault s.cell s.av s.ag s.fn s.fh s.fc ++ (FE cI cL cZ cR cE A s ++ FR cI cL cZ cR cE A s)) := by rw [List.append_assoc]; exact hD
                refine lv_astore (lv' := [(5, .ref q), (4, .ref (A.ea ei)), (0, .ref (A.h 0)), (1, .int (nI ei)), (2, .int rank), (3, .int nam)]) hx hb d_Hr_rule_97 hl (by decide) rfl (fun ls hl => ?_)
                refine lv_aload_n hx hb d_Hr_rule_99 rfl (lv_at hl 2 rfl) ?_
                refine va_get (D := G) (ci := 5) (v := .ref (A.h 2)) (C := R_Hr) (T := T_Hr) (N := 8) hx hb hts hi_6 hown hK hP 3 rfl rfl 2 (by decide) hk_12 (fun _ h9 => h9) rfl d_Hr_rule_100 ?_
                refine lv_aload_n hx hb d_Hr_rule_103 rfl (lv_at hl 2 rfl) ?_
                refine va_get (D := G) (ci := 5) (v := .int (nI s.n)) (C := R_Hr) (T := T_Hr) (N := 8) hx hb hts hi_6 hown hK hP 3 rfl rfl 3 (by decide) hk_5 (fun _ h9 => h9) rfl d_Hr_rule_104 ?_
                refine lv_aload hx hb d_Hr_rule_107 (lv_at hl 0 rfl) ?_
                refine va_astq hx hb hK hP hD hS 5 3 0 3 rfl rfl rfl rfl (vp_in_nI hlt (by decide)) d_Hr_rule_109 (fun H locs hP hD hS => ?_)
                replace hP : va_P G vwCl (W_Rul cI cL cZ cR cE q q1 q2 (nI s.n) (A.ea ei) rank nam (fun _ => 0) (fun _ => 0) 0 0 (-1) 0 ++ W_Hr cI cL cZ cR cE (A.h 0) (A.h 1) (A.h 2) (A.h 3) (A.h 4) (A.h 5) (A.h 6) (A.h 7) (A.h 8) (A.h 9) (A.h 10) (A.h 11) (A.h 12) (A.h 13) (A.h 14) (A.h 15) s.steps (edsF A) (va_up (rulF A s.n) (nI s.n).toNatClampNeg (some q)) (nI s.n) s.days s.facts s.stack s.hf s.gv s.gg s.hc s.ht s.pos s.fault s.cell s.av s.ag s.fn s.fh s.fc ++ (FE cI cL cZ cR cE A s ++ FR cI cL cZ cR cE A s)) H := hP
                replace hD : va_D A0 (W_Rul cI cL cZ cR cE q q1 q2 (nI s.n) (A.ea ei) rank nam (fun _ => 0) (fun _ => 0) 0 0 (-1) 0 ++ W_Hr cI cL cZ cR cE (A.h 0) (A.h 1) (A.h 2) (A.h 3) (A.h 4) (A.h 5) (A.h 6) (A.h 7) (A.h 8) (A.h 9) (A.h 10) (A.h 11) (A.h 12) (A.h 13) (A.h 14) (A.h 15) s.steps (edsF A) (va_up (rulF A s.n) (nI s.n).toNatClampNeg (some q)) (nI s.n) s.days s.facts s.stack s.hf s.gv s.gg s.hc s.ht s.pos s.fault s.cell s.av s.ag s.fn s.fh s.fc ++ (FE cI cL cZ cR cE A s ++ FR cI cL cZ cR cE A s)) := hD
                refine lv_aload_n hx hb d_Hr_rule_110 rfl (lv_at hl 2 rfl) ?_
                refine lv_dup hx hb d_Hr_rule_111 rfl ?_
                refine va_get (D := G) (ci := 5) (v := .int (nI s.n)) (C := R_Hr) (T := T_Hr) (N := 8) hx hb hts hi_6 hown hK hP 3 rfl rfl 3 (by decide) hk_5 (fun _ h9 => h9) rfl d_Hr_rule_112 ?_
                refine lv_iconst (v := 1) hx hb d_Hr_rule_115 (by decide) ?_
                refine lv_iadd hx hb d_Hr_rule_116 ?_
                refine va_put (D := G) (ci := 5) (v := .int ((nI s.n) + 1)) (ty := (.int)) (C := R_Hr) (T := T_Hr) (N := 8) hx hb hts hi_6 ty_Hr tyk_Hr nm_Hr hown hK hP hD hS 3 rfl rfl 3 (by decide) hk_5 (fun _ h9 => h9) rfl (by decide +kernel) rfl rfl (Nat.le_of_ble_eq_true rfl) d_Hr_rule_117 (fun H locs hP hD hS => ?_)
                replace hP : va_P G vwCl (W_Rul cI cL cZ cR cE q q1 q2 (nI s.n) (A.ea ei) rank nam (fun _ => 0) (fun _ => 0) 0 0 (-1) 0 ++ W_Hr cI cL cZ cR cE (A.h 0) (A.h 1) (A.h 2) (A.h 3) (A.h 4) (A.h 5) (A.h 6) (A.h 7) (A.h 8) (A.h 9) (A.h 10) (A.h 11) (A.h 12) (A.h 13) (A.h 14) (A.h 15) s.steps (edsF A) (va_up (rulF A s.n) (nI s.n).toNatClampNeg (some q)) ((nI s.n) + 1) s.days s.facts s.stack s.hf s.gv s.gg s.hc s.ht s.pos s.fault s.cell s.av s.ag s.fn s.fh s.fc ++ (FE cI cL cZ cR cE A s ++ FR cI cL cZ cR cE A s)) H := hP
                replace hD : va_D A0 (W_Rul cI cL cZ cR cE q q1 q2 (nI s.n) (A.ea ei) rank nam (fun _ => 0) (fun _ => 0) 0 0 (-1) 0 ++ W_Hr cI cL cZ cR cE (A.h 0) (A.h 1) (A.h 2) (A.h 3) (A.h 4) (A.h 5) (A.h 6) (A.h 7) (A.h 8) (A.h 9) (A.h 10) (A.h 11) (A.h 12) (A.h 13) (A.h 14) (A.h 15) s.steps (edsF A) (va_up (rulF A s.n) (nI s.n).toNatClampNeg (some q)) ((nI s.n) + 1) s.days s.facts s.stack s.hf s.gv s.gg s.hc s.ht s.pos s.fault s.cell s.av s.ag s.fn s.fh s.fc ++ (FE cI cL cZ cR cE A s ++ FR cI cL cZ cR cE A s)) := hD
                refine lv_aload hx hb d_Hr_rule_120 (lv_at hl 1 rfl) ?_
                refine lv_aload hx hb d_Hr_rule_122 (lv_at hl 0 rfl) ?_
                have hra : (newA A s.n q q1 q2).ra s.n = q := setF_eq _ _ _
                have hc := x_insert l G cI cL cZ cR cE H.size (newA A s.n q q1 q2) ei (s.ed ei) (s.n + 1) s.n (setF s.ru s.n (newRu ei rank nam)) (by omega) (by omega) hlt8 (fun i hi => by have := hI.od ei hei i hi; omega)
                rw [hra] at hc
                have hpm := rule_in (cI := cI) (cL := cL) (cZ := cZ) (cR := cR) (cE := cE) (A := A) (q := q) (q1 := q1) (q2 := q2) (rank := rank) (nam := nam) (WX := W_Hr cI cL cZ cR cE (A.h 0) (A.h 1) (A.h 2) (A.h 3) (A.h 4) (A.h 5) (A.h 6) (A.h 7) (A.h 8) (A.h 9) (A.h 10) (A.h 11) (A.h 12) (A.h 13) (A.h 14) (A.h 15) s.steps (edsF A) (va_up (rulF A s.n) (nI s.n).toNatClampNeg (some q)) ((nI s.n) + 1) s.days s.facts s.stack s.hf s.gv s.gg s.hc s.ht s.pos s.fault s.cell s.av s.ag s.fn s.fh s.fc) hI hei
                refine cl_vP hpm hK hP hD hS hA (va_runV (As := [.ref q]) (rest := []) ⟨hx, hb, hml, hown, hts⟩ hc (cwV 1 hts (gV kw_229 kw_230 kw_231 kw_20 kw_232) rfl rfl rfl (by decide +kernel) ⟨Nat.le_of_ble_eq_true rfl, Nat.le_of_ble_eq_true rfl⟩) (preWV_p (ci := 1) (wr := WEe cI cL cZ cR cE (newA A s.n q q1 q2) ei (s.ed ei)) hpm hN hK hP hD ((hP.perm hpm).mem (fun x hx => List.mem_append_left _ (List.mem_append_left _ hx))) rfl rfl) rfl rfl hl.1 rfl (lv_room (Nat.le_of_ble_eq_true rfl)) d_Hr_rule_124 ⟨Nat.le_of_ble_eq_true rfl, Nat.le_of_ble_eq_true rfl⟩) (fun u H locs hw hP hD hS => ?_)
                have hpo := rule_out (cI := cI) (cL := cL) (cZ := cZ) (cR := cR) (cE := cE) (A := A) (q := q) (q1 := q1) (q2 := q2) (rank := rank) (nam := nam) hI hei hw
                replace hP : va_P G vwCl (FW cI cL cZ cR cE (newA A s.n q q1 q2) (addRule s ei rank nam)) H := va_P.perm hP hpo
                replace hD : va_D A0 (FW cI cL cZ cR cE (newA A s.n q q1 q2) (addRule s ei rank nam)) := va_D.perm hD hpo
                have hPq : va_P G vwCl (WRr cI cL cZ cR cE (newA A s.n q q1 q2) s.n ((addRule s ei rank nam).ru s.n)) H := FW_ru hP (Nat.lt_succ_self s.n)
                unfold WRr at hPq
                rw [hra] at hPq
                refine lv_aload hx hb d_Hr_rule_127 (lv_at hl 0 rfl) ?_
                refine va_get (D := G) (ci := 3) (v := .int (nI s.n)) (C := R_Ru) (T := T_Ru) (N := 10) hx hb hts hi_8 hown hK hPq 0 rfl rfl 0 (by decide) hk_13 (fun _ h9 => h9) rfl d_Hr_rule_129 ?_
                refine W.widen (k := 3) (n := 34) (by omega) (by omega) ?_
                exact W.iret (v := nI s.n) hx hb hr (fun t ht hW => ⟨⟨nI s.n, (newA A s.n q q1 q2, addRule s ei rank nam), rfl, ⟨(by unfold F_rule; rw [in_pos ck, nI_clamp (by omega), if_neg c_4, if_neg c_6, if_neg (fun g => g.elim c_7 c_8), if_neg (fun g => g.elim (fun g => c_9 (h40.mpr g)) (fun g => Nat.not_le_of_lt (hc8.mp c_10) g))]), rfl⟩, by rw [ht]; exact hP, va_K.moved hW.alike hK, hD⟩, hS.F ht⟩) hS.2.2 d_Hr_rule_132
              · refine lv_bipush (v := (-104)) hx hb d_Hr_rule_79 (by decide) ?_
                refine W.widen (k := 3) (n := 34) (by omega) (by omega) ?_
                exact W.iret (v := (-104)) hx hb hr (fun t ht hW => ⟨⟨(-104), (A, s), rfl, ⟨(by unfold F_rule; rw [in_pos ck, nI_clamp (by omega), if_neg c_4, if_neg c_6, if_neg (fun g => g.elim c_7 c_8), if_pos (Or.inr (Nat.le_of_not_lt (fun g => c_10 (hc8.mpr g))))]), rfl⟩, by rw [ht]; exact hP, va_K.moved hW.alike hK, hD⟩, hS.F ht⟩) hS.2.2 d_Hr_rule_81
          · refine lv_bipush (v := (-103)) hx hb d_Hr_rule_57 (by decide) ?_
            refine W.widen (k := 3) (n := 34) (by omega) (by omega) ?_
            exact W.iret (v := (-103)) hx hb hr (fun t ht hW => ⟨⟨(-103), (A, s), rfl, ⟨(by unfold F_rule; rw [in_pos ck, nI_clamp (by omega), if_neg c_4, if_neg c_6, if_pos (Or.inr c_8)]), rfl⟩, by rw [ht]; exact hP, va_K.moved hW.alike hK, hD⟩, hS.F ht⟩) hS.2.2 d_Hr_rule_59
      · refine lv_bipush (v := (-102)) hx hb d_Hr_rule_36 (by decide) ?_
        refine W.widen (k := 3) (n := 34) (by omega) (by omega) ?_
        exact W.iret (v := (-102)) hx hb hr (fun t ht hW => ⟨⟨(-102), (A, s), rfl, ⟨(by unfold F_rule; rw [in_pos ck, nI_clamp (by omega), if_neg c_4, if_pos c_6]), rfl⟩, by rw [ht]; exact hP, va_K.moved hW.alike hK, hD⟩, hS.F ht⟩) hS.2.2 d_Hr_rule_38
  · have hq : f_editionAt (edsF A) k = none := by rw [edAt_iff, in_neg ck]
    refine lv_aload_n hx hb d_Hr_rule_0 rfl (lv_at hl 0 rfl) ?_
    refine lv_iload_n hx hb d_Hr_rule_1 rfl (lv_at hl 1 rfl) ?_
    refine va_csq (W.runV (As := [.int k]) (rest := []) ⟨hx, hb, hml, hown, hts⟩ (c_editionAt l G cI cL cZ cR cE (A.h 0) (A.h 1) (A.h 2) (A.h 3) (A.h 4) (A.h 5) (A.h 6) (A.h 7) (A.h 8) (A.h 9) (A.h 10) (A.h 11) (A.h 12) (A.h 13) (A.h 14) (A.h 15) s.steps (edsF A) (rulF A s.n) (nI s.n) s.days s.facts s.stack s.hf s.gv s.gg s.hc s.ht s.pos s.fault s.cell s.av s.ag s.fn s.fh s.fc k) (cwV 1 hts (gV kw_173 kw_175 kw_0 kw_15 kw_176) rfl rfl rfl (by decide +kernel) ⟨Nat.le_of_ble_eq_true rfl, Nat.le_of_ble_eq_true rfl⟩) (preRV_of (ci := 5) hN hK (FW_hr hP) [0, 1, 2, 3, 4, 5, 6, 7, 8, 9, 10, 11, 12, 13, 14, 15] rfl rfl rfl) rfl rfl hl.1 rfl (lv_room (Nat.le_of_ble_eq_true rfl)) d_Hr_rule_2 ⟨Nat.zero_le _, Nat.zero_le _⟩) (fun r_1 hw => ?_)
    rw [hq] at hw
    subst hw
    refine W.eq (g2 := F0 m 5 ls (.null :: [])) rfl ?_
    refine lv_astoreN (lv' := [(4, .null), (0, .ref (A.h 0)), (1, .int k), (2, .int rank), (3, .int nam)]) hx hb d_Hr_rule_5 hl (by decide) rfl (fun ls hl => ?_)
    refine lv_aloadN hx hb d_Hr_rule_7 (lv_at hl 0 rfl) ?_
    refine lv_ifnullN (tgt := 36) hx hb d_Hr_rule_9 (by decide) ?_
    refine lv_bipush (v := (-102)) hx hb d_Hr_rule_36 (by decide) ?_
    refine W.widen (k := 3) (n := 34) (by omega) (by omega) ?_
    exact W.iret (v := (-102)) hx hb hr (fun t ht hW => ⟨⟨(-102), (A, s), rfl, ⟨(by unfold F_rule; rw [in_neg ck]), rfl⟩, by rw [ht]; exact hP, va_K.moved hW.alike hK, hD⟩, hS.F ht⟩) hS.2.2 d_Hr_rule_38
