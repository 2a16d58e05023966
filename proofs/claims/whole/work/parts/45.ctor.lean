set_option maxHeartbeats 8000000 in
set_option maxRecDepth 100000 in
theorem c_initAns (l : Launch) (G : va_G) (cI cL cZ cR cE : ClassId) (sz : Nat) (a0 : Nat)  : Met l y_An_init w_An_init ({ frames := 1, cells := 2, slots := 8, locals := 20 }) (preW G (TYS cI cL cZ cR cE) [.ref a0] sz ([(a0, .inr (0, [.null, .null]))])) (va_Qv (fun _ : Nat × Nat => True) (fun u t => va_P G vwCl (W_Ans cI cL cZ cR cE a0 u.1 u.2 (fun _ => 0) (upd (upd (upd (upd (fun _ => 0) (0 : Int32).toNatClampNeg (-1)) (1 : Int32).toNatClampNeg (-1)) (2 : Int32).toNatClampNeg (-1)) (3 : Int32).toNatClampNeg (-1))) t.heap ∧ va_K G vwCl (TYS cI cL cZ cR cE) t ∧ va_D (va_A ([(a0, .inr (0, [.null, .null]))]) sz) (W_Ans cI cL cZ cR cE a0 u.1 u.2 (fun _ => 0) (upd (upd (upd (upd (fun _ => 0) (0 : Int32).toNatClampNeg (-1)) (1 : Int32).toNatClampNeg (-1)) (2 : Int32).toNatClampNeg (-1)) (3 : Int32).toNatClampNeg (-1)))) (va_A ([(a0, .inr (0, [.null, .null]))]) sz)) 2 8 (va_A ([(a0, .inr (0, [.null, .null]))]) sz) := by
  refine Met.ofW (cc := b_An_init) (maxL := 2) (ret := none) (by decide) rfl ?_
  intro p e s m args below meth c s₁ B hml hv
  obtain ⟨rfl, hsz, hP, hK, hD0, hN⟩ := hv
  have hx := B.exec
  have hb := B.bytes
  have hr := B.returns
  have hts := atoms_spec (ws := w_An_init) B.pre
  have hown : s.vm.findClass R_An = some m.cls := findClass_of_methodNamed B.named
  have hlocks := B.notSynchronized
  have hin : meth.name = "<init>" := (name_of_methodNamed B.named B.method).1
  subst hsz
  have hD := hD0.self (sz := s.heap.size)
  clear hD0
  generalize hAe : va_A ([(a0, .inr (0, [.null, .null]))]) s.heap.size = A at hD ⊢
  have hA : ∀ q : Nat, s.heap.size ≤ q → A q := fun q h => by rw [← hAe]; exact Or.inr h
  clear hAe
  have hS : va_S A s.heap s.heap [] := va_S.rf
  obtain ⟨H, hH⟩ : ∃ H, H = s.heap := ⟨_, rfl⟩
  rw [← hH] at hP
  replace hS : va_S A s.heap H [] := by rw [hH]; exact hS
  rw [← hH]
  clear hH
  have hi_6 : ∀ w ∈ u_ws R_An T_An 2, w ∈ w_An_init := fun w h => List.mem_cons_of_mem _ (iu_An w h)
  have hk_1 := hts (.methodLink R_An 3 objectInit) (List.mem_cons_of_mem _ kw_51)
  have hk_2 := hts (.instanceMethod objectInit) (List.mem_cons_of_mem _ kw_34)
  have hk_3 := hts (.code objectInit ⟨#[0xb1]⟩ 1 none) (List.mem_cons_of_mem _ (kw_oc))
  have hk_4 := hts (.arrayClass .long) (List.mem_cons_of_mem _ kw_59)
  have hk_5 := hts (.fieldLink R_An 9 "HandlingRules$Answers" "values" "[J") (List.mem_cons_of_mem _ kw_52)
  have hk_7 := hts (.arrayClass .int) (List.mem_cons_of_mem _ kw_60)
  have hk_8 := hts (.fieldLink R_An 15 "HandlingRules$Answers" "givers" "[I") (List.mem_cons_of_mem _ kw_53)
  have hl := lv_entry ([.ref a0]) (n := 2) (Nat.le_of_ble_eq_true rfl)
  rw [lg_entry_eq]
  generalize (lg_sl ([.ref a0]) ++ List.replicate (2 - (lg_sl ([.ref a0])).length) Slot.unset).toArray = ls at hl ⊢
  replace hl : lv_has ls 2 [(0, .ref a0)] := hl
  refine lv_aload_n hx hb d_An_init_0 rfl (lv_at hl 0 rfl) ?_
  refine W.objInit hx hb hown hk_1 hk_2 hk_3 rfl (by rw [hml]; exact hl.1) rfl d_An_init_1 (Nat.le_of_ble_eq_true rfl) (Nat.le_of_ble_eq_true rfl) ?_
  refine W.eq (g2 := F0 m 4 ls []) rfl ?_
  refine lv_aload_n hx hb d_An_init_4 rfl (lv_at hl 0 rfl) ?_
  refine lv_iconst (v := 4) hx hb d_An_init_5 (by decide) ?_
  refine va_newa (atype := .long) (ty := .long) (a0 := (4, .inr (.inl (fun _ => 0)))) (N' := 4) hx hb hk_4 rfl hK hP hD hS hA (fun _ => rfl) (by decide) (by decide) (by decide) (Nat.le_of_ble_eq_true rfl) (Nat.le_of_ble_eq_true rfl) d_An_init_6 (fun q_1 cA H hK2 hP hD hS => ?_)
  obtain rfl := ka_long hK hK2
  clear hK2
  refine W.widen (k := 1) (n := 4) (by omega) (by omega) ?_
  replace hP : va_P G vwCl ([(a0, .inr (0, [.null, .null])), (q_1, .inl (cL, 4, .inr (.inl (fun _ => 0))))]) H := hP
  replace hD : va_D A ([(a0, .inr (0, [.null, .null])), (q_1, .inl (cL, 4, .inr (.inl (fun _ => 0))))]) := hD
  refine va_putF (D := G) (ci := 0) (v := .ref q_1) (ty := (.array .long)) (C := R_An) (T := T_An) (N := 2) hx hb hts hi_6 ty_An tyk_An nm_An hown hK hP hD hS 0 rfl rfl 0 (by decide) hk_5 (fun _ h9 => h9) rfl hin rfl (by decide +kernel) rfl rfl (Nat.le_of_ble_eq_true rfl) d_An_init_8 (fun H locs hP hD hS => ?_)
  replace hP : va_P G vwCl ([(a0, .inr (0, [.ref q_1, .null])), (q_1, .inl (cL, 4, .inr (.inl (fun _ => 0))))]) H := hP
  replace hD : va_D A ([(a0, .inr (0, [.ref q_1, .null])), (q_1, .inl (cL, 4, .inr (.inl (fun _ => 0))))]) := hD
  refine lv_aload_n hx hb d_An_init_11 rfl (lv_at hl 0 rfl) ?_
  refine lv_iconst (v := 4) hx hb d_An_init_12 (by decide) ?_
  refine va_newa (atype := .int) (ty := .int) (a0 := (4, .inl (fun _ => 0))) (N' := 4) hx hb hk_7 rfl hK hP hD hS hA (fun _ => rfl) (by decide) (by decide) (by decide) (Nat.le_of_ble_eq_true rfl) (Nat.le_of_ble_eq_true rfl) d_An_init_13 (fun q_2 cA H hK2 hP hD hS => ?_)
  obtain rfl := ka_int hK hK2
  clear hK2
  refine W.widen (k := 2) (n := 8) (by omega) (by omega) ?_
  replace hP : va_P G vwCl ([(a0, .inr (0, [.ref q_1, .null])), (q_1, .inl (cL, 4, .inr (.inl (fun _ => 0)))), (q_2, .inl (cI, 4, .inl (fun _ => 0)))]) H := hP
  replace hD : va_D A ([(a0, .inr (0, [.ref q_1, .null])), (q_1, .inl (cL, 4, .inr (.inl (fun _ => 0)))), (q_2, .inl (cI, 4, .inl (fun _ => 0)))]) := hD
  refine va_putF (D := G) (ci := 0) (v := .ref q_2) (ty := (.array .int)) (C := R_An) (T := T_An) (N := 2) hx hb hts hi_6 ty_An tyk_An nm_An hown hK hP hD hS 0 rfl rfl 1 (by decide) hk_8 (fun _ h9 => h9) rfl hin rfl (by decide +kernel) rfl rfl (Nat.le_of_ble_eq_true rfl) d_An_init_15 (fun H locs hP hD hS => ?_)
  replace hP : va_P G vwCl ([(a0, .inr (0, [.ref q_1, .ref q_2])), (q_1, .inl (cL, 4, .inr (.inl (fun _ => 0)))), (q_2, .inl (cI, 4, .inl (fun _ => 0)))]) H := hP
  replace hD : va_D A ([(a0, .inr (0, [.ref q_1, .ref q_2])), (q_1, .inl (cL, 4, .inr (.inl (fun _ => 0)))), (q_2, .inl (cI, 4, .inl (fun _ => 0)))]) := hD
  refine lv_iconst (v := 0) hx hb d_An_init_18 (by decide) ?_
  refine lv_istore_n (lv' := [(1, .int 0), (0, .ref a0)]) hx hb d_An_init_19 rfl hl (by decide) rfl (fun ls hl => ?_)
  refine lv_iload_n hx hb d_An_init_20 rfl (lv_at hl 0 rfl) ?_
  refine lv_iconst (v := 4) hx hb d_An_init_21 (by decide) ?_
  refine lv_icmp_ge (tgt := 38) hx hb d_An_init_22 (by decide) (fun k_3 => absurd k_3 (by decide)) (fun _ => ?_)
  refine lv_aload_n hx hb d_An_init_25 rfl (lv_at hl 1 rfl) ?_
  refine va_get (D := G) (ci := 0) (v := .ref q_2) (C := R_An) (T := T_An) (N := 2) hx hb hts hi_6 hown hK hP 0 rfl rfl 1 (by decide) hk_8 (fun _ h9 => h9) rfl d_An_init_26 ?_
  refine lv_iload_n hx hb d_An_init_29 rfl (lv_at hl 0 rfl) ?_
  refine lv_iconst (v := (-1)) hx hb d_An_init_30 (by decide) ?_
  refine va_iast hx hb hK hP hD hS 2 0 rfl rfl (by unfold vp_in; decide) d_An_init_31 (fun H locs hP hD hS => ?_)
  replace hP : va_P G vwCl ([(a0, .inr (0, [.ref q_1, .ref q_2])), (q_1, .inl (cL, 4, .inr (.inl (fun _ => 0)))), (q_2, .inl (cI, 4, .inl (upd (fun _ => 0) (0 : Int32).toNatClampNeg (-1))))]) H := hP
  replace hD : va_D A ([(a0, .inr (0, [.ref q_1, .ref q_2])), (q_1, .inl (cL, 4, .inr (.inl (fun _ => 0)))), (q_2, .inl (cI, 4, .inl (upd (fun _ => 0) (0 : Int32).toNatClampNeg (-1))))]) := hD
  refine lv_iinc (v := 1) (lv' := [(1, .int 1), (0, .ref a0)]) hx hb d_An_init_32 hl (k := 0) rfl (by decide) (by decide) rfl (fun ls hl => ?_)
  refine lv_goto (tgt := 20) hx hb d_An_init_35 (by decide) ?_
  refine lv_iload_n hx hb d_An_init_20 rfl (lv_at hl 0 rfl) ?_
  refine lv_iconst (v := 4) hx hb d_An_init_21 (by decide) ?_
  refine lv_icmp_ge (tgt := 38) hx hb d_An_init_22 (by decide) (fun k_4 => absurd k_4 (by decide)) (fun _ => ?_)
  refine lv_aload_n hx hb d_An_init_25 rfl (lv_at hl 1 rfl) ?_
  refine va_get (D := G) (ci := 0) (v := .ref q_2) (C := R_An) (T := T_An) (N := 2) hx hb hts hi_6 hown hK hP 0 rfl rfl 1 (by decide) hk_8 (fun _ h9 => h9) rfl d_An_init_26 ?_
  refine lv_iload_n hx hb d_An_init_29 rfl (lv_at hl 0 rfl) ?_
  refine lv_iconst (v := (-1)) hx hb d_An_init_30 (by decide) ?_
  refine va_iast hx hb hK hP hD hS 2 0 rfl rfl (by unfold vp_in; decide) d_An_init_31 (fun H locs hP hD hS => ?_)
  replace hP : va_P G vwCl ([(a0, .inr (0, [.ref q_1, .ref q_2])), (q_1, .inl (cL, 4, .inr (.inl (fun _ => 0)))), (q_2, .inl (cI, 4, .inl (upd (upd (fun _ => 0) (0 : Int32).toNatClampNeg (-1)) (1 : Int32).toNatClampNeg (-1))))]) H := hP
  replace hD : va_D A ([(a0, .inr (0, [.ref q_1, .ref q_2])), (q_1, .inl (cL, 4, .inr (.inl (fun _ => 0)))), (q_2, .inl (cI, 4, .inl (upd (upd (fun _ => 0) (0 : Int32).toNatClampNeg (-1)) (1 : Int32).toNatClampNeg (-1))))]) := hD
  refine lv_iinc (v := 2) (lv' := [(1, .int 2), (0, .ref a0)]) hx hb d_An_init_32 hl (k := 0) rfl (by decide) (by decide) rfl (fun ls hl => ?_)
  refine lv_goto (tgt := 20) hx hb d_An_init_35 (by decide) ?_
  refine lv_iload_n hx hb d_An_init_20 rfl (lv_at hl 0 rfl) ?_
  refine lv_iconst (v := 4) hx hb d_An_init_21 (by decide) ?_
  refine lv_icmp_ge (tgt := 38) hx hb d_An_init_22 (by decide) (fun k_5 => absurd k_5 (by decide)) (fun _ => ?_)
  refine lv_aload_n hx hb d_An_init_25 rfl (lv_at hl 1 rfl) ?_
  refine va_get (D := G) (ci := 0) (v := .ref q_2) (C := R_An) (T := T_An) (N := 2) hx hb hts hi_6 hown hK hP 0 rfl rfl 1 (by decide) hk_8 (fun _ h9 => h9) rfl d_An_init_26 ?_
  refine lv_iload_n hx hb d_An_init_29 rfl (lv_at hl 0 rfl) ?_
  refine lv_iconst (v := (-1)) hx hb d_An_init_30 (by decide) ?_
  refine va_iast hx hb hK hP hD hS 2 0 rfl rfl (by unfold vp_in; decide) d_An_init_31 (fun H locs hP hD hS => ?_)
  replace hP : va_P G vwCl ([(a0, .inr (0, [.ref q_1, .ref q_2])), (q_1, .inl (cL, 4, .inr (.inl (fun _ => 0)))), (q_2, .inl (cI, 4, .inl (upd (upd (upd (fun _ => 0) (0 : Int32).toNatClampNeg (-1)) (1 : Int32).toNatClampNeg (-1)) (2 : Int32).toNatClampNeg (-1))))]) H := hP
  replace hD : va_D A ([(a0, .inr (0, [.ref q_1, .ref q_2])), (q_1, .inl (cL, 4, .inr (.inl (fun _ => 0)))), (q_2, .inl (cI, 4, .inl (upd (upd (upd (fun _ => 0) (0 : Int32).toNatClampNeg (-1)) (1 : Int32).toNatClampNeg (-1)) (2 : Int32).toNatClampNeg (-1))))]) := hD
  refine lv_iinc (v := 3) (lv' := [(1, .int 3), (0, .ref a0)]) hx hb d_An_init_32 hl (k := 0) rfl (by decide) (by decide) rfl (fun ls hl => ?_)
  refine lv_goto (tgt := 20) hx hb d_An_init_35 (by decide) ?_
  refine lv_iload_n hx hb d_An_init_20 rfl (lv_at hl 0 rfl) ?_
  refine lv_iconst (v := 4) hx hb d_An_init_21 (by decide) ?_
  refine lv_icmp_ge (tgt := 38) hx hb d_An_init_22 (by decide) (fun k_6 => absurd k_6 (by decide)) (fun _ => ?_)
  refine lv_aload_n hx hb d_An_init_25 rfl (lv_at hl 1 rfl) ?_
  refine va_get (D := G) (ci := 0) (v := .ref q_2) (C := R_An) (T := T_An) (N := 2) hx hb hts hi_6 hown hK hP 0 rfl rfl 1 (by decide) hk_8 (fun _ h9 => h9) rfl d_An_init_26 ?_
  refine lv_iload_n hx hb d_An_init_29 rfl (lv_at hl 0 rfl) ?_
  refine lv_iconst (v := (-1)) hx hb d_An_init_30 (by decide) ?_
  refine va_iast hx hb hK hP hD hS 2 0 rfl rfl (by unfold vp_in; decide) d_An_init_31 (fun H locs hP hD hS => ?_)
  replace hP : va_P G vwCl ([(a0, .inr (0, [.ref q_1, .ref q_2])), (q_1, .inl (cL, 4, .inr (.inl (fun _ => 0)))), (q_2, .inl (cI, 4, .inl (upd (upd (upd (upd (fun _ => 0) (0 : Int32).toNatClampNeg (-1)) (1 : Int32).toNatClampNeg (-1)) (2 : Int32).toNatClampNeg (-1)) (3 : Int32).toNatClampNeg (-1))))]) H := hP
  replace hD : va_D A ([(a0, .inr (0, [.ref q_1, .ref q_2])), (q_1, .inl (cL, 4, .inr (.inl (fun _ => 0)))), (q_2, .inl (cI, 4, .inl (upd (upd (upd (upd (fun _ => 0) (0 : Int32).toNatClampNeg (-1)) (1 : Int32).toNatClampNeg (-1)) (2 : Int32).toNatClampNeg (-1)) (3 : Int32).toNatClampNeg (-1))))]) := hD
  refine lv_iinc (v := 4) (lv' := [(1, .int 4), (0, .ref a0)]) hx hb d_An_init_32 hl (k := 0) rfl (by decide) (by decide) rfl (fun ls hl => ?_)
  refine lv_goto (tgt := 20) hx hb d_An_init_35 (by decide) ?_
  refine lv_iload_n hx hb d_An_init_20 rfl (lv_at hl 0 rfl) ?_
  refine lv_iconst (v := 4) hx hb d_An_init_21 (by decide) ?_
  refine lv_icmp_ge (tgt := 38) hx hb d_An_init_22 (by decide) (fun _ => ?_) (fun k_7 => absurd (by decide) k_7)
  replace hP : va_P G vwCl (W_Ans cI cL cZ cR cE a0 q_1 q_2 (fun _ => 0) (upd (upd (upd (upd (fun _ => 0) (0 : Int32).toNatClampNeg (-1)) (1 : Int32).toNatClampNeg (-1)) (2 : Int32).toNatClampNeg (-1)) (3 : Int32).toNatClampNeg (-1))) H := hP.sub [0, 1, 2] rfl
  replace hD : va_D A (W_Ans cI cL cZ cR cE a0 q_1 q_2 (fun _ => 0) (upd (upd (upd (upd (fun _ => 0) (0 : Int32).toNatClampNeg (-1)) (1 : Int32).toNatClampNeg (-1)) (2 : Int32).toNatClampNeg (-1)) (3 : Int32).toNatClampNeg (-1))) := hD.sub [0, 1, 2] (by decide) rfl
  refine W.widen (k := 2) (n := 8) (by omega) (by omega) ?_
  exact W.vret hx hb hr (fun t ht hW => ⟨⟨(q_1, q_2), rfl, trivial, by rw [ht]; exact hP, va_K.moved hW.alike hK, hD⟩, hS.F ht⟩) hS.2.2 d_An_init_38
set_option maxHeartbeats 8000000 in
set_option maxRecDepth 100000 in
theorem c_initFai (l : Launch) (G : va_G) (cI cL cZ cR cE : ClassId) (sz : Nat) (a0 : Nat)  : Met l y_Fa_init w_Fa_init ({ frames := 1, cells := 2, slots := 16, locals := 20 }) (preW G (TYS cI cL cZ cR cE) [.ref a0] sz ([(a0, .inr (2, [.null, .null, .int 0]))])) (va_Qv (fun _ : Nat × Nat => True) (fun u t => va_P G vwCl (W_Fai cI cL cZ cR cE a0 u.1 u.2 (fun _ => 0) (fun _ => 0) 0) t.heap ∧ va_K G vwCl (TYS cI cL cZ cR cE) t ∧ va_D (va_A ([(a0, .inr (2, [.null, .null, .int 0]))]) sz) (W_Fai cI cL cZ cR cE a0 u.1 u.2 (fun _ => 0) (fun _ => 0) 0)) (va_A ([(a0, .inr (2, [.null, .null, .int 0]))]) sz)) 2 16 (va_A ([(a0, .inr (2, [.null, .null, .int 0]))]) sz) := by
  refine Met.ofW (cc := b_Fa_init) (maxL := 1) (ret := none) (by decide) rfl ?_
  intro p e s m args below meth c s₁ B hml hv
  obtain ⟨rfl, hsz, hP, hK, hD0, hN⟩ := hv
  have hx := B.exec
  have hb := B.bytes
  have hr := B.returns
  have hts := atoms_spec (ws := w_Fa_init) B.pre
  have hown : s.vm.findClass R_Fa = some m.cls := findClass_of_methodNamed B.named
  have hlocks := B.notSynchronized
  have hin : meth.name = "<init>" := (name_of_methodNamed B.named B.method).1
  subst hsz
  have hD := hD0.self (sz := s.heap.size)
  clear hD0
  generalize hAe : va_A ([(a0, .inr (2, [.null, .null, .int 0]))]) s.heap.size = A at hD ⊢
  have hA : ∀ q : Nat, s.heap.size ≤ q → A q := fun q h => by rw [← hAe]; exact Or.inr h
  clear hAe
  have hS : va_S A s.heap s.heap [] := va_S.rf
  obtain ⟨H, hH⟩ : ∃ H, H = s.heap := ⟨_, rfl⟩
  rw [← hH] at hP
  replace hS : va_S A s.heap H [] := by rw [hH]; exact hS
  rw [← hH]
  clear hH
  have hi_6 : ∀ w ∈ u_ws R_Fa T_Fa 3, w ∈ w_Fa_init := fun w h => List.mem_cons_of_mem _ (iu_Fa w h)
  have hk_1 := hts (.methodLink R_Fa 3 objectInit) (List.mem_cons_of_mem _ kw_100)
  have hk_2 := hts (.instanceMethod objectInit) (List.mem_cons_of_mem _ kw_34)
  have hk_3 := hts (.code objectInit ⟨#[0xb1]⟩ 1 none) (List.mem_cons_of_mem _ (kw_oc))
  have hk_4 := hts (.arrayClass .int) (List.mem_cons_of_mem _ kw_60)
  have hk_5 := hts (.fieldLink R_Fa 9 "HandlingRules$Failures" "ruleNumbers" "[I") (List.mem_cons_of_mem _ kw_101)
  have hk_7 := hts (.fieldLink R_Fa 15 "HandlingRules$Failures" "hows" "[I") (List.mem_cons_of_mem _ kw_102)
  have hk_8 := hts (.fieldLink R_Fa 18 "HandlingRules$Failures" "count" "I") (List.mem_cons_of_mem _ kw_103)
  have hl := lv_entry ([.ref a0]) (n := 1) (Nat.le_of_ble_eq_true rfl)
  rw [lg_entry_eq]
  generalize (lg_sl ([.ref a0]) ++ List.replicate (1 - (lg_sl ([.ref a0])).length) Slot.unset).toArray = ls at hl ⊢
  replace hl : lv_has ls 1 [(0, .ref a0)] := hl
  refine lv_aload_n hx hb d_Fa_init_0 rfl (lv_at hl 0 rfl) ?_
  refine W.objInit hx hb hown hk_1 hk_2 hk_3 rfl (by rw [hml]; exact hl.1) rfl d_Fa_init_1 (Nat.le_of_ble_eq_true rfl) (Nat.le_of_ble_eq_true rfl) ?_
  refine W.eq (g2 := F0 m 4 ls []) rfl ?_
  refine lv_aload_n hx hb d_Fa_init_4 rfl (lv_at hl 0 rfl) ?_
  refine lv_bipush (v := 8) hx hb d_Fa_init_5 (by decide) ?_
  refine va_newa (atype := .int) (ty := .int) (a0 := (8, .inl (fun _ => 0))) (N' := 8) hx hb hk_4 rfl hK hP hD hS hA (fun _ => rfl) (by decide) (by decide) (by decide) (Nat.le_of_ble_eq_true rfl) (Nat.le_of_ble_eq_true rfl) d_Fa_init_7 (fun q_1 cA H hK2 hP hD hS => ?_)
  obtain rfl := ka_int hK hK2
  clear hK2
  refine W.widen (k := 1) (n := 8) (by omega) (by omega) ?_
  replace hP : va_P G vwCl ([(a0, .inr (2, [.null, .null, .int 0])), (q_1, .inl (cI, 8, .inl (fun _ => 0)))]) H := hP
  replace hD : va_D A ([(a0, .inr (2, [.null, .null, .int 0])), (q_1, .inl (cI, 8, .inl (fun _ => 0)))]) := hD
  refine va_putF (D := G) (ci := 2) (v := .ref q_1) (ty := (.array .int)) (C := R_Fa) (T := T_Fa) (N := 3) hx hb hts hi_6 ty_Fa tyk_Fa nm_Fa hown hK hP hD hS 0 rfl rfl 0 (by decide) hk_5 (fun _ h9 => h9) rfl hin rfl (by decide +kernel) rfl rfl (Nat.le_of_ble_eq_true rfl) d_Fa_init_9 (fun H locs hP hD hS => ?_)
  replace hP : va_P G vwCl ([(a0, .inr (2, [.ref q_1, .null, .int 0])), (q_1, .inl (cI, 8, .inl (fun _ => 0)))]) H := hP
  replace hD : va_D A ([(a0, .inr (2, [.ref q_1, .null, .int 0])), (q_1, .inl (cI, 8, .inl (fun _ => 0)))]) := hD
  refine lv_aload_n hx hb d_Fa_init_12 rfl (lv_at hl 0 rfl) ?_
  refine lv_bipush (v := 8) hx hb d_Fa_init_13 (by decide) ?_
  refine va_newa (atype := .int) (ty := .int) (a0 := (8, .inl (fun _ => 0))) (N' := 8) hx hb hk_4 rfl hK hP hD hS hA (fun _ => rfl) (by decide) (by decide) (by decide) (Nat.le_of_ble_eq_true rfl) (Nat.le_of_ble_eq_true rfl) d_Fa_init_15 (fun q_2 cA H hK2 hP hD hS => ?_)
  obtain rfl := ka_int hK hK2
  clear hK2
  refine W.widen (k := 2) (n := 16) (by omega) (by omega) ?_
  replace hP : va_P G vwCl ([(a0, .inr (2, [.ref q_1, .null, .int 0])), (q_1, .inl (cI, 8, .inl (fun _ => 0))), (q_2, .inl (cI, 8, .inl (fun _ => 0)))]) H := hP
  replace hD : va_D A ([(a0, .inr (2, [.ref q_1, .null, .int 0])), (q_1, .inl (cI, 8, .inl (fun _ => 0))), (q_2, .inl (cI, 8, .inl (fun _ => 0)))]) := hD
  refine va_putF (D := G) (ci := 2) (v := .ref q_2) (ty := (.array .int)) (C := R_Fa) (T := T_Fa) (N := 3) hx hb hts hi_6 ty_Fa tyk_Fa nm_Fa hown hK hP hD hS 0 rfl rfl 1 (by decide) hk_7 (fun _ h9 => h9) rfl hin rfl (by decide +kernel) rfl rfl (Nat.le_of_ble_eq_true rfl) d_Fa_init_17 (fun H locs hP hD hS => ?_)
  replace hP : va_P G vwCl ([(a0, .inr (2, [.ref q_1, .ref q_2, .int 0])), (q_1, .inl (cI, 8, .inl (fun _ => 0))), (q_2, .inl (cI, 8, .inl (fun _ => 0)))]) H := hP
  replace hD : va_D A ([(a0, .inr (2, [.ref q_1, .ref q_2, .int 0])), (q_1, .inl (cI, 8, .inl (fun _ => 0))), (q_2, .inl (cI, 8, .inl (fun _ => 0)))]) := hD
  refine lv_aload_n hx hb d_Fa_init_20 rfl (lv_at hl 0 rfl) ?_
  refine lv_iconst (v := 0) hx hb d_Fa_init_21 (by decide) ?_
  refine va_put (D := G) (ci := 2) (v := .int 0) (ty := (.int)) (C := R_Fa) (T := T_Fa) (N := 3) hx hb hts hi_6 ty_Fa tyk_Fa nm_Fa hown hK hP hD hS 0 rfl rfl 2 (by decide) hk_8 (fun _ h9 => h9) rfl (by decide +kernel) rfl rfl (Nat.le_of_ble_eq_true rfl) d_Fa_init_22 (fun H locs hP hD hS => ?_)
  replace hP : va_P G vwCl ([(a0, .inr (2, [.ref q_1, .ref q_2, .int 0])), (q_1, .inl (cI, 8, .inl (fun _ => 0))), (q_2, .inl (cI, 8, .inl (fun _ => 0)))]) H := hP
  replace hD : va_D A ([(a0, .inr (2, [.ref q_1, .ref q_2, .int 0])), (q_1, .inl (cI, 8, .inl (fun _ => 0))), (q_2, .inl (cI, 8, .inl (fun _ => 0)))]) := hD
  replace hP : va_P G vwCl (W_Fai cI cL cZ cR cE a0 q_1 q_2 (fun _ => 0) (fun _ => 0) 0) H := hP.sub [0, 1, 2] rfl
  replace hD : va_D A (W_Fai cI cL cZ cR cE a0 q_1 q_2 (fun _ => 0) (fun _ => 0) 0) := hD.sub [0, 1, 2] (by decide) rfl
  refine W.widen (k := 2) (n := 16) (by omega) (by omega) ?_
  exact W.vret hx hb hr (fun t ht hW => ⟨⟨(q_1, q_2), rfl, trivial, by rw [ht]; exact hP, va_K.moved hW.alike hK, hD⟩, hS.F ht⟩) hS.2.2 d_Fa_init_25
set_option maxHeartbeats 8000000 in
set_option maxRecDepth 100000 in
theorem c_initRul (l : Launch) (G : va_G) (cI cL cZ cR cE : ClassId) (sz : Nat) (a0 : Nat) (number : Int32) (home : Nat) (rank : Int32) (nam : Int32) : Met l y_Ru_init w_Ru_init ({ frames := 1, cells := 2, slots := 24, locals := 20 }) (preW G (TYS cI cL cZ cR cE) [.ref a0, .int number, .ref home, .int rank, .int nam] sz ([(a0, .inr (3, [.int 0, .null, .int 0, .int 0, .null, .null, .int 0, .long 0, .int 0, .long 0]))])) (va_Qv (fun _ : Nat × Nat => True) (fun u t => va_P G vwCl (W_Rul cI cL cZ cR cE a0 u.1 u.2 number home rank nam (fun _ => 0) (fun _ => 0) 0 0 (-1) 0) t.heap ∧ va_K G vwCl (TYS cI cL cZ cR cE) t ∧ va_D (va_A ([(a0, .inr (3, [.int 0, .null, .int 0, .int 0, .null, .null, .int 0, .long 0, .int 0, .long 0]))]) sz) (W_Rul cI cL cZ cR cE a0 u.1 u.2 number home rank nam (fun _ => 0) (fun _ => 0) 0 0 (-1) 0)) (va_A ([(a0, .inr (3, [.int 0, .null, .int 0, .int 0, .null, .null, .int 0, .long 0, .int 0, .long 0]))]) sz)) 2 24 (va_A ([(a0, .inr (3, [.int 0, .null, .int 0, .int 0, .null, .null, .int 0, .long 0, .int 0, .long 0]))]) sz) := by
  refine Met.ofW (cc := b_Ru_init) (maxL := 5) (ret := none) (by decide) rfl ?_
  intro p e s m args below meth c s₁ B hml hv
  obtain ⟨rfl, hsz, hP, hK, hD0, hN⟩ := hv
  have hx := B.exec
  have hb := B.bytes
  have hr := B.returns
  have hts := atoms_spec (ws := w_Ru_init) B.pre
  have hown : s.vm.findClass R_Ru = some m.cls := findClass_of_methodNamed B.named
  have hlocks := B.notSynchronized
  have hin : meth.name = "<init>" := (name_of_methodNamed B.named B.method).1
  subst hsz
  have hD := hD0.self (sz := s.heap.size)
  clear hD0
  generalize hAe : va_A ([(a0, .inr (3, [.int 0, .null, .int 0, .int 0, .null, .null, .int 0, .long 0, .int 0, .long 0]))]) s.heap.size = A at hD ⊢
  have hA : ∀ q : Nat, s.heap.size ≤ q → A q := fun q h => by rw [← hAe]; exact Or.inr h
  clear hAe
  have hS : va_S A s.heap s.heap [] := va_S.rf
  obtain ⟨H, hH⟩ : ∃ H, H = s.heap := ⟨_, rfl⟩
  rw [← hH] at hP
  replace hS : va_S A s.heap H [] := by rw [hH]; exact hS
  rw [← hH]
  clear hH
  have hi_6 : ∀ w ∈ u_ws R_Ru T_Ru 10, w ∈ w_Ru_init := fun w h => List.mem_cons_of_mem _ (iu_Ru w h)
  have hk_1 := hts (.methodLink R_Ru 3 objectInit) (List.mem_cons_of_mem _ kw_186)
  have hk_10 := hts (.fieldLink R_Ru 23 "HandlingRules$Rule" "cell" "J") (List.mem_cons_of_mem _ kw_201)
  have hk_11 := hts (.fieldLink R_Ru 27 "HandlingRules$Rule" "fallbackKind" "I") (List.mem_cons_of_mem _ kw_204)
  have hk_12 := hts (.fieldLink R_Ru 30 "HandlingRules$Rule" "fallbackValue" "J") (List.mem_cons_of_mem _ kw_206)
  have hk_13 := hts (.fieldLink R_Ru 33 "HandlingRules$Rule" "number" "I") (List.mem_cons_of_mem _ kw_187)
  have hk_14 := hts (.fieldLink R_Ru 36 "HandlingRules$Rule" "home" "LHandlingRules$Edition;") (List.mem_cons_of_mem _ kw_190)
  have hk_15 := hts (.fieldLink R_Ru 40 "HandlingRules$Rule" "rank" "I") (List.mem_cons_of_mem _ kw_192)
  have hk_16 := hts (.fieldLink R_Ru 43 "HandlingRules$Rule" "name" "I") (List.mem_cons_of_mem _ kw_193)
  have hk_2 := hts (.instanceMethod objectInit) (List.mem_cons_of_mem _ kw_34)
  have hk_3 := hts (.code objectInit ⟨#[0xb1]⟩ 1 none) (List.mem_cons_of_mem _ (kw_oc))
  have hk_4 := hts (.arrayClass .int) (List.mem_cons_of_mem _ kw_60)
  have hk_5 := hts (.fieldLink R_Ru 9 "HandlingRules$Rule" "ops" "[I") (List.mem_cons_of_mem _ kw_194)
  have hk_7 := hts (.arrayClass .long) (List.mem_cons_of_mem _ kw_59)
  have hk_8 := hts (.fieldLink R_Ru 15 "HandlingRules$Rule" "numbers" "[J") (List.mem_cons_of_mem _ kw_196)
  have hk_9 := hts (.fieldLink R_Ru 19 "HandlingRules$Rule" "length" "I") (List.mem_cons_of_mem _ kw_198)
  have hl := lv_entry ([.ref a0, .int number, .ref home, .int rank, .int nam]) (n := 5) (Nat.le_of_ble_eq_true rfl)
  rw [lg_entry_eq]
  generalize (lg_sl ([.ref a0, .int number, .ref home, .int rank, .int nam]) ++ List.replicate (5 - (lg_sl ([.ref a0, .int number, .ref home, .int rank, .int nam])).length) Slot.unset).toArray = ls at hl ⊢
  replace hl : lv_has ls 5 [(0, .ref a0), (1, .int number), (2, .ref home), (3, .int rank), (4, .int nam)] := hl
  refine lv_aload_n hx hb d_Ru_init_0 rfl (lv_at hl 0 rfl) ?_
  refine W.objInit hx hb hown hk_1 hk_2 hk_3 rfl (by rw [hml]; exact hl.1) rfl d_Ru_init_1 (Nat.le_of_ble_eq_true rfl) (Nat.le_of_ble_eq_true rfl) ?_
  refine W.eq (g2 := F0 m 4 ls []) rfl ?_
  refine lv_aload_n hx hb d_Ru_init_4 rfl (lv_at hl 0 rfl) ?_
  refine lv_bipush (v := 12) hx hb d_Ru_init_5 (by decide) ?_
  refine va_newa (atype := .int) (ty := .int) (a0 := (12, .inl (fun _ => 0))) (N' := 12) hx hb hk_4 rfl hK hP hD hS hA (fun _ => rfl) (by decide) (by decide) (by decide) (Nat.le_of_ble_eq_true rfl) (Nat.le_of_ble_eq_true rfl) d_Ru_init_7 (fun q_1 cA H hK2 hP hD hS => ?_)
  obtain rfl := ka_int hK hK2
  clear hK2
  refine W.widen (k := 1) (n := 12) (by omega) (by omega) ?_
  replace hP : va_P G vwCl ([(a0, .inr (3, [.int 0, .null, .int 0, .int 0, .null, .null, .int 0, .long 0, .int 0, .long 0])), (q_1, .inl (cI, 12, .inl (fun _ => 0)))]) H := hP
  replace hD : va_D A ([(a0, .inr (3, [.int 0, .null, .int 0, .int 0, .null, .null, .int 0, .long 0, .int 0, .long 0])), (q_1, .inl (cI, 12, .inl (fun _ => 0)))]) := hD
  refine va_putF (D := G) (ci := 3) (v := .ref q_1) (ty := (.array .int)) (C := R_Ru) (T := T_Ru) (N := 10) hx hb hts hi_6 ty_Ru tyk_Ru nm_Ru hown hK hP hD hS 0 rfl rfl 4 (by decide) hk_5 (fun _ h9 => h9) rfl hin rfl (by decide +kernel) rfl rfl (Nat.le_of_ble_eq_true rfl) d_Ru_init_9 (fun H locs hP hD hS => ?_)
  replace hP : va_P G vwCl ([(a0, .inr (3, [.int 0, .null, .int 0, .int 0, .ref q_1, .null, .int 0, .long 0, .int 0, .long 0])), (q_1, .inl (cI, 12, .inl (fun _ => 0)))]) H := hP
  replace hD : va_D A ([(a0, .inr (3, [.int 0, .null, .int 0, .int 0, .ref q_1, .null, .int 0, .long 0, .int 0, .long 0])), (q_1, .inl (cI, 12, .inl (fun _ => 0)))]) := hD
  refine lv_aload_n hx hb d_Ru_init_12 rfl (lv_at hl 0 rfl) ?_
  refine lv_bipush (v := 12) hx hb d_Ru_init_13 (by decide) ?_
  refine va_newa (atype := .long) (ty := .long) (a0 := (12, .inr (.inl (fun _ => 0)))) (N' := 12) hx hb hk_7 rfl hK hP hD hS hA (fun _ => rfl) (by decide) (by decide) (by decide) (Nat.le_of_ble_eq_true rfl) (Nat.le_of_ble_eq_true rfl) d_Ru_init_15 (fun q_2 cA H hK2 hP hD hS => ?_)
  obtain rfl := ka_long hK hK2
  clear hK2
  refine W.widen (k := 2) (n := 24) (by omega) (by omega) ?_
  replace hP : va_P G vwCl ([(a0, .inr (3, [.int 0, .null, .int 0, .int 0, .ref q_1, .null, .int 0, .long 0, .int 0, .long 0])), (q_1, .inl (cI, 12, .inl (fun _ => 0))), (q_2, .inl (cL, 12, .inr (.inl (fun _ => 0))))]) H := hP
  replace hD : va_D A ([(a0, .inr (3, [.int 0, .null, .int 0, .int 0, .ref q_1, .null, .int 0, .long 0, .int 0, .long 0])), (q_1, .inl (cI, 12, .inl (fun _ => 0))), (q_2, .inl (cL, 12, .inr (.inl (fun _ => 0))))]) := hD
  refine va_putF (D := G) (ci := 3) (v := .ref q_2) (ty := (.array .long)) (C := R_Ru) (T := T_Ru) (N := 10) hx hb hts hi_6 ty_Ru tyk_Ru nm_Ru hown hK hP hD hS 0 rfl rfl 5 (by decide) hk_8 (fun _ h9 => h9) rfl hin rfl (by decide +kernel) rfl rfl (Nat.le_of_ble_eq_true rfl) d_Ru_init_17 (fun H locs hP hD hS => ?_)
  replace hP : va_P G vwCl ([(a0, .inr (3, [.int 0, .null, .int 0, .int 0, .ref q_1, .ref q_2, .int 0, .long 0, .int 0, .long 0])), (q_1, .inl (cI, 12, .inl (fun _ => 0))), (q_2, .inl (cL, 12, .inr (.inl (fun _ => 0))))]) H := hP
  replace hD : va_D A ([(a0, .inr (3, [.int 0, .null, .int 0, .int 0, .ref q_1, .ref q_2, .int 0, .long 0, .int 0, .long 0])), (q_1, .inl (cI, 12, .inl (fun _ => 0))), (q_2, .inl (cL, 12, .inr (.inl (fun _ => 0))))]) := hD
  refine lv_aload_n hx hb d_Ru_init_20 rfl (lv_at hl 0 rfl) ?_
  refine lv_iconst (v := 0) hx hb d_Ru_init_21 (by decide) ?_
  refine va_put (D := G) (ci := 3) (v := .int 0) (ty := (.int)) (C := R_Ru) (T := T_Ru) (N := 10) hx hb hts hi_6 ty_Ru tyk_Ru nm_Ru hown hK hP hD hS 0 rfl rfl 6 (by decide) hk_9 (fun _ h9 => h9) rfl (by decide +kernel) rfl rfl (Nat.le_of_ble_eq_true rfl) d_Ru_init_22 (fun H locs hP hD hS => ?_)
  replace hP : va_P G vwCl ([(a0, .inr (3, [.int 0, .null, .int 0, .int 0, .ref q_1, .ref q_2, .int 0, .long 0, .int 0, .long 0])), (q_1, .inl (cI, 12, .inl (fun _ => 0))), (q_2, .inl (cL, 12, .inr (.inl (fun _ => 0))))]) H := hP
  replace hD : va_D A ([(a0, .inr (3, [.int 0, .null, .int 0, .int 0, .ref q_1, .ref q_2, .int 0, .long 0, .int 0, .long 0])), (q_1, .inl (cI, 12, .inl (fun _ => 0))), (q_2, .inl (cL, 12, .inr (.inl (fun _ => 0))))]) := hD
  refine lv_aload_n hx hb d_Ru_init_25 rfl (lv_at hl 0 rfl) ?_
  refine lv_lconst (v := 0) hx hb d_Ru_init_26 (by decide) ?_
  refine va_put (D := G) (ci := 3) (v := .long 0) (ty := (.long)) (C := R_Ru) (T := T_Ru) (N := 10) hx hb hts hi_6 ty_Ru tyk_Ru nm_Ru hown hK hP hD hS 0 rfl rfl 7 (by decide) hk_10 (fun _ h9 => h9) rfl (by decide +kernel) rfl rfl (Nat.le_of_ble_eq_true rfl) d_Ru_init_27 (fun H locs hP hD hS => ?_)
  replace hP : va_P G vwCl ([(a0, .inr (3, [.int 0, .null, .int 0, .int 0, .ref q_1, .ref q_2, .int 0, .long 0, .int 0, .long 0])), (q_1, .inl (cI, 12, .inl (fun _ => 0))), (q_2, .inl (cL, 12, .inr (.inl (fun _ => 0))))]) H := hP
  replace hD : va_D A ([(a0, .inr (3, [.int 0, .null, .int 0, .int 0, .ref q_1, .ref q_2, .int 0, .long 0, .int 0, .long 0])), (q_1, .inl (cI, 12, .inl (fun _ => 0))), (q_2, .inl (cL, 12, .inr (.inl (fun _ => 0))))]) := hD
  refine lv_aload_n hx hb d_Ru_init_30 rfl (lv_at hl 0 rfl) ?_
  refine lv_iconst (v := (-1)) hx hb d_Ru_init_31 (by decide) ?_
  refine va_put (D := G) (ci := 3) (v := .int (-1)) (ty := (.int)) (C := R_Ru) (T := T_Ru) (N := 10) hx hb hts hi_6 ty_Ru tyk_Ru nm_Ru hown hK hP hD hS 0 rfl rfl 8 (by decide) hk_11 (fun _ h9 => h9) rfl (by decide +kernel) rfl rfl (Nat.le_of_ble_eq_true rfl) d_Ru_init_32 (fun H locs hP hD hS => ?_)
  replace hP : va_P G vwCl ([(a0, .inr (3, [.int 0, .null, .int 0, .int 0, .ref q_1, .ref q_2, .int 0, .long 0, .int (-1), .long 0])), (q_1, .inl (cI, 12, .inl (fun _ => 0))), (q_2, .inl (cL, 12, .inr (.inl (fun _ => 0))))]) H := hP
  replace hD : va_D A ([(a0, .inr (3, [.int 0, .null, .int 0, .int 0, .ref q_1, .ref q_2, .int 0, .long 0, .int (-1), .long 0])), (q_1, .inl (cI, 12, .inl (fun _ => 0))), (q_2, .inl (cL, 12, .inr (.inl (fun _ => 0))))]) := hD
  refine lv_aload_n hx hb d_Ru_init_35 rfl (lv_at hl 0 rfl) ?_
  refine lv_lconst (v := 0) hx hb d_Ru_init_36 (by decide) ?_
  refine va_put (D := G) (ci := 3) (v := .long 0) (ty := (.long)) (C := R_Ru) (T := T_Ru) (N := 10) hx hb hts hi_6 ty_Ru tyk_Ru nm_Ru hown hK hP hD hS 0 rfl rfl 9 (by decide) hk_12 (fun _ h9 => h9) rfl (by decide +kernel) rfl rfl (Nat.le_of_ble_eq_true rfl) d_Ru_init_37 (fun H locs hP hD hS => ?_)
  replace hP : va_P G vwCl ([(a0, .inr (3, [.int 0, .null, .int 0, .int 0, .ref q_1, .ref q_2, .int 0, .long 0, .int (-1), .long 0])), (q_1, .inl (cI, 12, .inl (fun _ => 0))), (q_2, .inl (cL, 12, .inr (.inl (fun _ => 0))))]) H := hP
  replace hD : va_D A ([(a0, .inr (3, [.int 0, .null, .int 0, .int 0, .ref q_1, .ref q_2, .int 0, .long 0, .int (-1), .long 0])), (q_1, .inl (cI, 12, .inl (fun _ => 0))), (q_2, .inl (cL, 12, .inr (.inl (fun _ => 0))))]) := hD
  refine lv_aload_n hx hb d_Ru_init_40 rfl (lv_at hl 0 rfl) ?_
  refine lv_iload_n hx hb d_Ru_init_41 rfl (lv_at hl 1 rfl) ?_
  refine va_putF (D := G) (ci := 3) (v := .int number) (ty := (.int)) (C := R_Ru) (T := T_Ru) (N := 10) hx hb hts hi_6 ty_Ru tyk_Ru nm_Ru hown hK hP hD hS 0 rfl rfl 0 (by decide) hk_13 (fun _ h9 => h9) rfl hin rfl (by decide +kernel) rfl rfl (Nat.le_of_ble_eq_true rfl) d_Ru_init_42 (fun H locs hP hD hS => ?_)
  replace hP : va_P G vwCl ([(a0, .inr (3, [.int number, .null, .int 0, .int 0, .ref q_1, .ref q_2, .int 0, .long 0, .int (-1), .long 0])), (q_1, .inl (cI, 12, .inl (fun _ => 0))), (q_2, .inl (cL, 12, .inr (.inl (fun _ => 0))))]) H := hP
  replace hD : va_D A ([(a0, .inr (3, [.int number, .null, .int 0, .int 0, .ref q_1, .ref q_2, .int 0, .long 0, .int (-1), .long 0])), (q_1, .inl (cI, 12, .inl (fun _ => 0))), (q_2, .inl (cL, 12, .inr (.inl (fun _ => 0))))]) := hD
  refine lv_aload_n hx hb d_Ru_init_45 rfl (lv_at hl 0 rfl) ?_
  refine lv_aload_n hx hb d_Ru_init_46 rfl (lv_at hl 2 rfl) ?_
  refine va_putF (D := G) (ci := 3) (v := .ref home) (ty := (.object "HandlingRules$Edition")) (C := R_Ru) (T := T_Ru) (N := 10) hx hb hts hi_6 ty_Ru tyk_Ru nm_Ru hown hK hP hD hS 0 rfl rfl 1 (by decide) hk_14 (fun _ h9 => h9) rfl hin rfl (by decide +kernel) rfl rfl (Nat.le_of_ble_eq_true rfl) d_Ru_init_47 (fun H locs hP hD hS => ?_)
  replace hP : va_P G vwCl ([(a0, .inr (3, [.int number, .ref home, .int 0, .int 0, .ref q_1, .ref q_2, .int 0, .long 0, .int (-1), .long 0])), (q_1, .inl (cI, 12, .inl (fun _ => 0))), (q_2, .inl (cL, 12, .inr (.inl (fun _ => 0))))]) H := hP
  replace hD : va_D A ([(a0, .inr (3, [.int number, .ref home, .int 0, .int 0, .ref q_1, .ref q_2, .int 0, .long 0, .int (-1), .long 0])), (q_1, .inl (cI, 12, .inl (fun _ => 0))), (q_2, .inl (cL, 12, .inr (.inl (fun _ => 0))))]) := hD
  refine lv_aload_n hx hb d_Ru_init_50 rfl (lv_at hl 0 rfl) ?_
  refine lv_iload_n hx hb d_Ru_init_51 rfl (lv_at hl 3 rfl) ?_
  refine va_putF (D := G) (ci := 3) (v := .int rank) (ty := (.int)) (C := R_Ru) (T := T_Ru) (N := 10) hx hb hts hi_6 ty_Ru tyk_Ru nm_Ru hown hK hP hD hS 0 rfl rfl 2 (by decide) hk_15 (fun _ h9 => h9) rfl hin rfl (by decide +kernel) rfl rfl (Nat.le_of_ble_eq_true rfl) d_Ru_init_52 (fun H locs hP hD hS => ?_)
  replace hP : va_P G vwCl ([(a0, .inr (3, [.int number, .ref home, .int rank, .int 0, .ref q_1, .ref q_2, .int 0, .long 0, .int (-1), .long 0])), (q_1, .inl (cI, 12, .inl (fun _ => 0))), (q_2, .inl (cL, 12, .inr (.inl (fun _ => 0))))]) H := hP
  replace hD : va_D A ([(a0, .inr (3, [.int number, .ref home, .int rank, .int 0, .ref q_1, .ref q_2, .int 0, .long 0, .int (-1), .long 0])), (q_1, .inl (cI, 12, .inl (fun _ => 0))), (q_2, .inl (cL, 12, .inr (.inl (fun _ => 0))))]) := hD
  refine lv_aload_n hx hb d_Ru_init_55 rfl (lv_at hl 0 rfl) ?_
  refine lv_iload hx hb d_Ru_init_56 (lv_at hl 4 rfl) ?_
  refine va_putF (D := G) (ci := 3) (v := .int nam) (ty := (.int)) (C := R_Ru) (T := T_Ru) (N := 10) hx hb hts hi_6 ty_Ru tyk_Ru nm_Ru hown hK hP hD hS 0 rfl rfl 3 (by decide) hk_16 (fun _ h9 => h9) rfl hin rfl (by decide +kernel) rfl rfl (Nat.le_of_ble_eq_true rfl) d_Ru_init_58 (fun H locs hP hD hS => ?_)
  replace hP : va_P G vwCl ([(a0, .inr (3, [.int number, .ref home, .int rank, .int nam, .ref q_1, .ref q_2, .int 0, .long 0, .int (-1), .long 0])), (q_1, .inl (cI, 12, .inl (fun _ => 0))), (q_2, .inl (cL, 12, .inr (.inl (fun _ => 0))))]) H := hP
  replace hD : va_D A ([(a0, .inr (3, [.int number, .ref home, .int rank, .int nam, .ref q_1, .ref q_2, .int 0, .long 0, .int (-1), .long 0])), (q_1, .inl (cI, 12, .inl (fun _ => 0))), (q_2, .inl (cL, 12, .inr (.inl (fun _ => 0))))]) := hD
  replace hP : va_P G vwCl (W_Rul cI cL cZ cR cE a0 q_1 q_2 number home rank nam (fun _ => 0) (fun _ => 0) 0 0 (-1) 0) H := hP.sub [0, 1, 2] rfl
  replace hD : va_D A (W_Rul cI cL cZ cR cE a0 q_1 q_2 number home rank nam (fun _ => 0) (fun _ => 0) 0 0 (-1) 0) := hD.sub [0, 1, 2] (by decide) rfl
  refine W.widen (k := 2) (n := 24) (by omega) (by omega) ?_
  exact W.vret hx hb hr (fun t ht hW => ⟨⟨(q_1, q_2), rfl, trivial, by rw [ht]; exact hP, va_K.moved hW.alike hK, hD⟩, hS.F ht⟩) hS.2.2 d_Ru_init_61
set_option maxHeartbeats 8000000 in
set_option maxRecDepth 100000 in
theorem c_initEdi (l : Launch) (G : va_G) (cI cL cZ cR cE : ClassId) (sz : Nat) (a0 : Nat)  : Met l y_Ed_init w_Ed_init ({ frames := 1, cells := 1, slots := 8, locals := 20 }) (preW G (TYS cI cL cZ cR cE) [.ref a0] sz ([(a0, .inr (1, [.int 0, .int 0, .int 0, .int 0, .null]))])) (va_Qv (fun _ : Nat => True) (fun u t => va_P G vwCl (W_Edi cI cL cZ cR cE a0 u 0 0 (-1) 0 (fun _ => none)) t.heap ∧ va_K G vwCl (TYS cI cL cZ cR cE) t ∧ va_D (va_A ([(a0, .inr (1, [.int 0, .int 0, .int 0, .int 0, .null]))]) sz) (W_Edi cI cL cZ cR cE a0 u 0 0 (-1) 0 (fun _ => none))) (va_A ([(a0, .inr (1, [.int 0, .int 0, .int 0, .int 0, .null]))]) sz)) 1 8 (va_A ([(a0, .inr (1, [.int 0, .int 0, .int 0, .int 0, .null]))]) sz) := by
  refine Met.ofW (cc := b_Ed_init) (maxL := 1) (ret := none) (by decide) rfl ?_
  intro p e s m args below meth c s₁ B hml hv
  obtain ⟨rfl, hsz, hP, hK, hD0, hN⟩ := hv
  have hx := B.exec
  have hb := B.bytes
  have hr := B.returns
  have hts := atoms_spec (ws := w_Ed_init) B.pre
  have hown : s.vm.findClass R_Ed = some m.cls := findClass_of_methodNamed B.named
  have hlocks := B.notSynchronized
  have hin : meth.name = "<init>" := (name_of_methodNamed B.named B.method).1
  subst hsz
  have hD := hD0.self (sz := s.heap.size)
  clear hD0
  generalize hAe : va_A ([(a0, .inr (1, [.int 0, .int 0, .int 0, .int 0, .null]))]) s.heap.size = A at hD ⊢
  have hA : ∀ q : Nat, s.heap.size ≤ q → A q := fun q h => by rw [← hAe]; exact Or.inr h
  clear hAe
  have hS : va_S A s.heap s.heap [] := va_S.rf
  obtain ⟨H, hH⟩ : ∃ H, H = s.heap := ⟨_, rfl⟩
  rw [← hH] at hP
  replace hS : va_S A s.heap H [] := by rw [hH]; exact hS
  rw [← hH]
  clear hH
  have hi_5 : ∀ w ∈ u_ws R_Ed T_Ed 5, w ∈ w_Ed_init := fun w h => List.mem_cons_of_mem _ (iu_Ed w h)
  have hk_1 := hts (.methodLink R_Ed 3 objectInit) (List.mem_cons_of_mem _ kw_122)
  have hk_10 := hts (.fieldLink R_Ed 26 "HandlingRules$Edition" "order" "[LHandlingRules$Rule;") (List.mem_cons_of_mem _ kw_132)
  have hk_2 := hts (.instanceMethod objectInit) (List.mem_cons_of_mem _ kw_34)
  have hk_3 := hts (.code objectInit ⟨#[0xb1]⟩ 1 none) (List.mem_cons_of_mem _ (kw_oc))
  have hk_4 := hts (.fieldLink R_Ed 9 "HandlingRules$Edition" "state" "I") (List.mem_cons_of_mem _ kw_124)
  have hk_6 := hts (.fieldLink R_Ed 15 "HandlingRules$Edition" "count" "I") (List.mem_cons_of_mem _ kw_126)
  have hk_7 := hts (.fieldLink R_Ed 18 "HandlingRules$Edition" "from" "I") (List.mem_cons_of_mem _ kw_128)
  have hk_8 := hts (.fieldLink R_Ed 21 "HandlingRules$Edition" "toldAs" "I") (List.mem_cons_of_mem _ kw_130)
  have hk_9 := hts (.classLink R_Ed 24 R_Ru) (List.mem_cons_of_mem _ kw_123)
  have hl := lv_entry ([.ref a0]) (n := 1) (Nat.le_of_ble_eq_true rfl)
  rw [lg_entry_eq]
  generalize (lg_sl ([.ref a0]) ++ List.replicate (1 - (lg_sl ([.ref a0])).length) Slot.unset).toArray = ls at hl ⊢
  replace hl : lv_has ls 1 [(0, .ref a0)] := hl
  refine lv_aload_n hx hb d_Ed_init_0 rfl (lv_at hl 0 rfl) ?_
  refine W.objInit hx hb hown hk_1 hk_2 hk_3 rfl (by rw [hml]; exact hl.1) rfl d_Ed_init_1 (Nat.le_of_ble_eq_true rfl) (Nat.le_of_ble_eq_true rfl) ?_
  refine W.eq (g2 := F0 m 4 ls []) rfl ?_
  refine lv_aload_n hx hb d_Ed_init_4 rfl (lv_at hl 0 rfl) ?_
  refine lv_iconst (v := 0) hx hb d_Ed_init_5 (by decide) ?_
  refine va_put (D := G) (ci := 1) (v := .int 0) (ty := (.int)) (C := R_Ed) (T := T_Ed) (N := 5) hx hb hts hi_5 ty_Ed tyk_Ed nm_Ed hown hK hP hD hS 0 rfl rfl 0 (by decide) hk_4 (fun _ h9 => h9) rfl (by decide +kernel) rfl rfl (Nat.le_of_ble_eq_true rfl) d_Ed_init_6 (fun H locs hP hD hS => ?_)
  replace hP : va_P G vwCl ([(a0, .inr (1, [.int 0, .int 0, .int 0, .int 0, .null]))]) H := hP
  replace hD : va_D A ([(a0, .inr (1, [.int 0, .int 0, .int 0, .int 0, .null]))]) := hD
  refine lv_aload_n hx hb d_Ed_init_9 rfl (lv_at hl 0 rfl) ?_
  refine lv_iconst (v := 0) hx hb d_Ed_init_10 (by decide) ?_
  refine va_put (D := G) (ci := 1) (v := .int 0) (ty := (.int)) (C := R_Ed) (T := T_Ed) (N := 5) hx hb hts hi_5 ty_Ed tyk_Ed nm_Ed hown hK hP hD hS 0 rfl rfl 1 (by decide) hk_6 (fun _ h9 => h9) rfl (by decide +kernel) rfl rfl (Nat.le_of_ble_eq_true rfl) d_Ed_init_11 (fun H locs hP hD hS => ?_)
  replace hP : va_P G vwCl ([(a0, .inr (1, [.int 0, .int 0, .int 0, .int 0, .null]))]) H := hP
  replace hD : va_D A ([(a0, .inr (1, [.int 0, .int 0, .int 0, .int 0, .null]))]) := hD
  refine lv_aload_n hx hb d_Ed_init_14 rfl (lv_at hl 0 rfl) ?_
  refine lv_iconst (v := (-1)) hx hb d_Ed_init_15 (by decide) ?_
  refine va_put (D := G) (ci := 1) (v := .int (-1)) (ty := (.int)) (C := R_Ed) (T := T_Ed) (N := 5) hx hb hts hi_5 ty_Ed tyk_Ed nm_Ed hown hK hP hD hS 0 rfl rfl 2 (by decide) hk_7 (fun _ h9 => h9) rfl (by decide +kernel) rfl rfl (Nat.le_of_ble_eq_true rfl) d_Ed_init_16 (fun H locs hP hD hS => ?_)
  replace hP : va_P G vwCl ([(a0, .inr (1, [.int 0, .int 0, .int (-1), .int 0, .null]))]) H := hP
  replace hD : va_D A ([(a0, .inr (1, [.int 0, .int 0, .int (-1), .int 0, .null]))]) := hD
  refine lv_aload_n hx hb d_Ed_init_19 rfl (lv_at hl 0 rfl) ?_
  refine lv_iconst (v := 0) hx hb d_Ed_init_20 (by decide) ?_
  refine va_put (D := G) (ci := 1) (v := .int 0) (ty := (.int)) (C := R_Ed) (T := T_Ed) (N := 5) hx hb hts hi_5 ty_Ed tyk_Ed nm_Ed hown hK hP hD hS 0 rfl rfl 3 (by decide) hk_8 (fun _ h9 => h9) rfl (by decide +kernel) rfl rfl (Nat.le_of_ble_eq_true rfl) d_Ed_init_21 (fun H locs hP hD hS => ?_)
  replace hP : va_P G vwCl ([(a0, .inr (1, [.int 0, .int 0, .int (-1), .int 0, .null]))]) H := hP
  replace hD : va_D A ([(a0, .inr (1, [.int 0, .int 0, .int (-1), .int 0, .null]))]) := hD
  refine lv_aload_n hx hb d_Ed_init_24 rfl (lv_at hl 0 rfl) ?_
  refine lv_bipush (v := 8) hx hb d_Ed_init_25 (by decide) ?_
  refine va_newq (N' := 8) hx hb hown hk_9 hN.2.1 hK hP hD hS hA (by decide) (by decide) (by decide) (Nat.le_of_ble_eq_true rfl) (Nat.le_of_ble_eq_true rfl) d_Ed_init_27 (fun q_1 cA H hK2 hP hD hS => ?_)
  obtain rfl := ka_rul hK hK2
  clear hK2
  refine W.widen (k := 1) (n := 8) (by omega) (by omega) ?_
  replace hP : va_P G vwCl ([(a0, .inr (1, [.int 0, .int 0, .int (-1), .int 0, .null])), (q_1, .inl (cR, 8, .inr (.inr (.inr (.inr (fun _ => none))))))]) H := hP
  replace hD : va_D A ([(a0, .inr (1, [.int 0, .int 0, .int (-1), .int 0, .null])), (q_1, .inl (cR, 8, .inr (.inr (.inr (.inr (fun _ => none))))))]) := hD
  refine va_putF (D := G) (ci := 1) (v := .ref q_1) (ty := (.array (.object "HandlingRules$Rule"))) (C := R_Ed) (T := T_Ed) (N := 5) hx hb hts hi_5 ty_Ed tyk_Ed nm_Ed hown hK hP hD hS 0 rfl rfl 4 (by decide) hk_10 (fun _ h9 => h9) rfl hin rfl (by decide +kernel) rfl rfl (Nat.le_of_ble_eq_true rfl) d_Ed_init_30 (fun H locs hP hD hS => ?_)
  replace hP : va_P G vwCl ([(a0, .inr (1, [.int 0, .int 0, .int (-1), .int 0, .ref q_1])), (q_1, .inl (cR, 8, .inr (.inr (.inr (.inr (fun _ => none))))))]) H := hP
  replace hD : va_D A ([(a0, .inr (1, [.int 0, .int 0, .int (-1), .int 0, .ref q_1])), (q_1, .inl (cR, 8, .inr (.inr (.inr (.inr (fun _ => none))))))]) := hD
  replace hP : va_P G vwCl (W_Edi cI cL cZ cR cE a0 q_1 0 0 (-1) 0 (fun _ => none)) H := hP.sub [0, 1] rfl
  replace hD : va_D A (W_Edi cI cL cZ cR cE a0 q_1 0 0 (-1) 0 (fun _ => none)) := hD.sub [0, 1] (by decide) rfl
  refine W.widen (k := 1) (n := 8) (by omega) (by omega) ?_
  exact W.vret hx hb hr (fun t ht hW => ⟨⟨q_1, rfl, trivial, by rw [ht]; exact hP, va_K.moved hW.alike hK, hD⟩, hS.F ht⟩) hS.2.2 d_Ed_init_33
set_option maxHeartbeats 8000000 in
set_option maxRecDepth 100000 in
theorem c_initRun (l : Launch) (G : va_G) (cI cL cZ cR cE : ClassId) (sz : Nat) (a0 : Nat)  : Met l y_Rn_init w_Rn_init ({ frames := 2, cells := 6, slots := 42, locals := 41 }) (preW G (TYS cI cL cZ cR cE) [.ref a0] sz ([(a0, .inr (4, [.null, .null, .null, .null, .int 0, .int 0, .int 0, .int 0, .long 0]))])) (va_Qv (fun _ : Nat × Nat × Nat × Nat × Nat × Nat => True) (fun u t => va_P G vwCl (W_Run cI cL cZ cR cE a0 u.1 u.2.1 u.2.2.1 u.2.2.2.1 u.2.2.2.2.1 u.2.2.2.2.2 (fun _ => 0) (fun _ => 0) (fun _ => 0) (fun _ => 0) (upd (upd (upd (upd (fun _ => 0) (0 : Int32).toNatClampNeg (-1)) (1 : Int32).toNatClampNeg (-1)) (2 : Int32).toNatClampNeg (-1)) (3 : Int32).toNatClampNeg (-1)) 0 0 0 0 0) t.heap ∧ va_K G vwCl (TYS cI cL cZ cR cE) t ∧ va_D (va_A ([(a0, .inr (4, [.null, .null, .null, .null, .int 0, .int 0, .int 0, .int 0, .long 0]))]) sz) (W_Run cI cL cZ cR cE a0 u.1 u.2.1 u.2.2.1 u.2.2.2.1 u.2.2.2.2.1 u.2.2.2.2.2 (fun _ => 0) (fun _ => 0) (fun _ => 0) (fun _ => 0) (upd (upd (upd (upd (fun _ => 0) (0 : Int32).toNatClampNeg (-1)) (1 : Int32).toNatClampNeg (-1)) (2 : Int32).toNatClampNeg (-1)) (3 : Int32).toNatClampNeg (-1)) 0 0 0 0 0)) (va_A ([(a0, .inr (4, [.null, .null, .null, .null, .int 0, .int 0, .int 0, .int 0, .long 0]))]) sz)) 6 42 (va_A ([(a0, .inr (4, [.null, .null, .null, .null, .int 0, .int 0, .int 0, .int 0, .long 0]))]) sz) := by
  refine Met.ofW (cc := b_Rn_init) (maxL := 1) (ret := none) (by decide) rfl ?_
  intro p e s m args below meth c s₁ B hml hv
  obtain ⟨rfl, hsz, hP, hK, hD0, hN⟩ := hv
  have hx := B.exec
  have hb := B.bytes
  have hr := B.returns
  have hts := atoms_spec (ws := w_Rn_init) B.pre
  have hown : s.vm.findClass R_Rn = some m.cls := findClass_of_methodNamed B.named
  have hlocks := B.notSynchronized
  have hin : meth.name = "<init>" := (name_of_methodNamed B.named B.method).1
  subst hsz
  have hD := hD0.self (sz := s.heap.size)
  clear hD0
  generalize hAe : va_A ([(a0, .inr (4, [.null, .null, .null, .null, .int 0, .int 0, .int 0, .int 0, .long 0]))]) s.heap.size = A at hD ⊢
  have hA : ∀ q : Nat, s.heap.size ≤ q → A q := fun q h => by rw [← hAe]; exact Or.inr h
  clear hAe
  have hS : va_S A s.heap s.heap [] := va_S.rf
  obtain ⟨H, hH⟩ : ∃ H, H = s.heap := ⟨_, rfl⟩
  rw [← hH] at hP
  replace hS : va_S A s.heap H [] := by rw [hH]; exact hS
  rw [← hH]
  clear hH
  have hi_10 : ∀ w ∈ u_ws R_An T_An 2, w ∈ w_Rn_init := fun w h => List.mem_cons_of_mem _ (iu_An w h)
  have hi_6 : ∀ w ∈ u_ws R_Rn T_Rn 9, w ∈ w_Rn_init := fun w h => List.mem_cons_of_mem _ (iu_Rn w h)
  have hk_1 := hts (.methodLink R_Rn 3 objectInit) (List.mem_cons_of_mem _ kw_45)
  have hk_11 := hts (.classLink R_Rn 22 R_An) (List.mem_cons_of_mem _ kw_46)
  have hk_12 := hts (.instantiable R_An 2) (List.mem_cons_of_mem _ kw_47)
  have hk_13 := hts (.initialized R_An) (List.mem_cons_of_mem _ kw_17)
  have hk_14 := hts (.fieldLink R_Rn 25 "HandlingRules$Runner" "given" "LHandlingRules$Answers;") (List.mem_cons_of_mem _ kw_64)
  have hk_15 := hts (.fieldLink R_Rn 29 "HandlingRules$Runner" "handleCount" "I") (List.mem_cons_of_mem _ kw_66)
  have hk_16 := hts (.fieldLink R_Rn 33 "HandlingRules$Runner" "height" "I") (List.mem_cons_of_mem _ kw_68)
  have hk_17 := hts (.fieldLink R_Rn 36 "HandlingRules$Runner" "position" "I") (List.mem_cons_of_mem _ kw_69)
  have hk_18 := hts (.fieldLink R_Rn 39 "HandlingRules$Runner" "fault" "I") (List.mem_cons_of_mem _ kw_70)
  have hk_19 := hts (.fieldLink R_Rn 42 "HandlingRules$Runner" "cell" "J") (List.mem_cons_of_mem _ kw_72)
  have hk_2 := hts (.instanceMethod objectInit) (List.mem_cons_of_mem _ kw_34)
  have hk_3 := hts (.code objectInit ⟨#[0xb1]⟩ 1 none) (List.mem_cons_of_mem _ (kw_oc))
  have hk_4 := hts (.arrayClass .long) (List.mem_cons_of_mem _ kw_59)
  have hk_5 := hts (.fieldLink R_Rn 9 "HandlingRules$Runner" "facts" "[J") (List.mem_cons_of_mem _ kw_61)
  have hk_7 := hts (.fieldLink R_Rn 15 "HandlingRules$Runner" "stack" "[J") (List.mem_cons_of_mem _ kw_62)
  have hk_8 := hts (.arrayClass .int) (List.mem_cons_of_mem _ kw_60)
  have hk_9 := hts (.fieldLink R_Rn 18 "HandlingRules$Runner" "handleFacts" "[I") (List.mem_cons_of_mem _ kw_63)
  have hl := lv_entry ([.ref a0]) (n := 1) (Nat.le_of_ble_eq_true rfl)
  rw [lg_entry_eq]
  generalize (lg_sl ([.ref a0]) ++ List.replicate (1 - (lg_sl ([.ref a0])).length) Slot.unset).toArray = ls at hl ⊢
  replace hl : lv_has ls 1 [(0, .ref a0)] := hl
  refine lv_aload_n hx hb d_Rn_init_0 rfl (lv_at hl 0 rfl) ?_
  refine W.objInit hx hb hown hk_1 hk_2 hk_3 rfl (by rw [hml]; exact hl.1) rfl d_Rn_init_1 (Nat.le_of_ble_eq_true rfl) (Nat.le_of_ble_eq_true rfl) ?_
  refine W.eq (g2 := F0 m 4 ls []) rfl ?_
  refine lv_aload_n hx hb d_Rn_init_4 rfl (lv_at hl 0 rfl) ?_
  refine lv_bipush (v := 8) hx hb d_Rn_init_5 (by decide) ?_
  refine va_newa (atype := .long) (ty := .long) (a0 := (8, .inr (.inl (fun _ => 0)))) (N' := 8) hx hb hk_4 rfl hK hP hD hS hA (fun _ => rfl) (by decide) (by decide) (by decide) (Nat.le_of_ble_eq_true rfl) (Nat.le_of_ble_eq_true rfl) d_Rn_init_7 (fun q_1 cA H hK2 hP hD hS => ?_)
  obtain rfl := ka_long hK hK2
  clear hK2
  refine W.widen (k := 1) (n := 8) (by omega) (by omega) ?_
  replace hP : va_P G vwCl ([(a0, .inr (4, [.null, .null, .null, .null, .int 0, .int 0, .int 0, .int 0, .long 0])), (q_1, .inl (cL, 8, .inr (.inl (fun _ => 0))))]) H := hP
  replace hD : va_D A ([(a0, .inr (4, [.null, .null, .null, .null, .int 0, .int 0, .int 0, .int 0, .long 0])), (q_1, .inl (cL, 8, .inr (.inl (fun _ => 0))))]) := hD
  refine va_putF (D := G) (ci := 4) (v := .ref q_1) (ty := (.array .long)) (C := R_Rn) (T := T_Rn) (N := 9) hx hb hts hi_6 ty_Rn tyk_Rn nm_Rn hown hK hP hD hS 0 rfl rfl 0 (by decide) hk_5 (fun _ h9 => h9) rfl hin rfl (by decide +kernel) rfl rfl (Nat.le_of_ble_eq_true rfl) d_Rn_init_9 (fun H locs hP hD hS => ?_)
  replace hP : va_P G vwCl ([(a0, .inr (4, [.ref q_1, .null, .null, .null, .int 0, .int 0, .int 0, .int 0, .long 0])), (q_1, .inl (cL, 8, .inr (.inl (fun _ => 0))))]) H := hP
  replace hD : va_D A ([(a0, .inr (4, [.ref q_1, .null, .null, .null, .int 0, .int 0, .int 0, .int 0, .long 0])), (q_1, .inl (cL, 8, .inr (.inl (fun _ => 0))))]) := hD
  refine lv_aload_n hx hb d_Rn_init_12 rfl (lv_at hl 0 rfl) ?_
  refine lv_bipush (v := 8) hx hb d_Rn_init_13 (by decide) ?_
  refine va_newa (atype := .long) (ty := .long) (a0 := (8, .inr (.inl (fun _ => 0)))) (N' := 8) hx hb hk_4 rfl hK hP hD hS hA (fun _ => rfl) (by decide) (by decide) (by decide) (Nat.le_of_ble_eq_true rfl) (Nat.le_of_ble_eq_true rfl) d_Rn_init_15 (fun q_2 cA H hK2 hP hD hS => ?_)
  obtain rfl := ka_long hK hK2
  clear hK2
  refine W.widen (k := 2) (n := 16) (by omega) (by omega) ?_
  replace hP : va_P G vwCl ([(a0, .inr (4, [.ref q_1, .null, .null, .null, .int 0, .int 0, .int 0, .int 0, .long 0])), (q_1, .inl (cL, 8, .inr (.inl (fun _ => 0)))), (q_2, .inl (cL, 8, .inr (.inl (fun _ => 0))))]) H := hP
  replace hD : va_D A ([(a0, .inr (4, [.ref q_1, .null, .null, .null, .int 0, .int 0, .int 0, .int 0, .long 0])), (q_1, .inl (cL, 8, .inr (.inl (fun _ => 0)))), (q_2, .inl (cL, 8, .inr (.inl (fun _ => 0))))]) := hD
  refine va_putF (D := G) (ci := 4) (v := .ref q_2) (ty := (.array .long)) (C := R_Rn) (T := T_Rn) (N := 9) hx hb hts hi_6 ty_Rn tyk_Rn nm_Rn hown hK hP hD hS 0 rfl rfl 1 (by decide) hk_7 (fun _ h9 => h9) rfl hin rfl (by decide +kernel) rfl rfl (Nat.le_of_ble_eq_true rfl) d_Rn_init_17 (fun H locs hP hD hS => ?_)
  replace hP : va_P G vwCl ([(a0, .inr (4, [.ref q_1, .ref q_2, .null, .null, .int 0, .int 0, .int 0, .int 0, .long 0])), (q_1, .inl (cL, 8, .inr (.inl (fun _ => 0)))), (q_2, .inl (cL, 8, .inr (.inl (fun _ => 0))))]) H := hP
  replace hD : va_D A ([(a0, .inr (4, [.ref q_1, .ref q_2, .null, .null, .int 0, .int 0, .int 0, .int 0, .long 0])), (q_1, .inl (cL, 8, .inr (.inl (fun _ => 0)))), (q_2, .inl (cL, 8, .inr (.inl (fun _ => 0))))]) := hD
  refine lv_aload_n hx hb d_Rn_init_20 rfl (lv_at hl 0 rfl) ?_
  refine lv_bipush (v := 16) hx hb d_Rn_init_21 (by decide) ?_
  refine va_newa (atype := .int) (ty := .int) (a0 := (16, .inl (fun _ => 0))) (N' := 16) hx hb hk_8 rfl hK hP hD hS hA (fun _ => rfl) (by decide) (by decide) (by decide) (Nat.le_of_ble_eq_true rfl) (Nat.le_of_ble_eq_true rfl) d_Rn_init_23 (fun q_3 cA H hK2 hP hD hS => ?_)
  obtain rfl := ka_int hK hK2
  clear hK2
  refine W.widen (k := 3) (n := 32) (by omega) (by omega) ?_
  replace hP : va_P G vwCl ([(a0, .inr (4, [.ref q_1, .ref q_2, .null, .null, .int 0, .int 0, .int 0, .int 0, .long 0])), (q_1, .inl (cL, 8, .inr (.inl (fun _ => 0)))), (q_2, .inl (cL, 8, .inr (.inl (fun _ => 0)))), (q_3, .inl (cI, 16, .inl (fun _ => 0)))]) H := hP
  replace hD : va_D A ([(a0, .inr (4, [.ref q_1, .ref q_2, .null, .null, .int 0, .int 0, .int 0, .int 0, .long 0])), (q_1, .inl (cL, 8, .inr (.inl (fun _ => 0)))), (q_2, .inl (cL, 8, .inr (.inl (fun _ => 0)))), (q_3, .inl (cI, 16, .inl (fun _ => 0)))]) := hD
  refine va_putF (D := G) (ci := 4) (v := .ref q_3) (ty := (.array .int)) (C := R_Rn) (T := T_Rn) (N := 9) hx hb hts hi_6 ty_Rn tyk_Rn nm_Rn hown hK hP hD hS 0 rfl rfl 2 (by decide) hk_9 (fun _ h9 => h9) rfl hin rfl (by decide +kernel) rfl rfl (Nat.le_of_ble_eq_true rfl) d_Rn_init_25 (fun H locs hP hD hS => ?_)
  replace hP : va_P G vwCl ([(a0, .inr (4, [.ref q_1, .ref q_2, .ref q_3, .null, .int 0, .int 0, .int 0, .int 0, .long 0])), (q_1, .inl (cL, 8, .inr (.inl (fun _ => 0)))), (q_2, .inl (cL, 8, .inr (.inl (fun _ => 0)))), (q_3, .inl (cI, 16, .inl (fun _ => 0)))]) H := hP
  replace hD : va_D A ([(a0, .inr (4, [.ref q_1, .ref q_2, .ref q_3, .null, .int 0, .int 0, .int 0, .int 0, .long 0])), (q_1, .inl (cL, 8, .inr (.inl (fun _ => 0)))), (q_2, .inl (cL, 8, .inr (.inl (fun _ => 0)))), (q_3, .inl (cI, 16, .inl (fun _ => 0)))]) := hD
  refine lv_aload_n hx hb d_Rn_init_28 rfl (lv_at hl 0 rfl) ?_
  refine va_new (ci := 0) (fs := [.null, .null]) (C := R_An) (T := T_An) (N := 2) hx hb hts hi_10 ty_An tyk_An hown hk_11 hk_12 hk_13 hK hP hD hS hA rfl (fun j hj => by rcases (show j = 0 ∨ j = 1 by omega) with rfl | rfl <;> rfl) (Nat.le_of_ble_eq_true rfl) (Nat.le_of_ble_eq_true rfl) d_Rn_init_29 (fun q_4 H hP hD hS => ?_)
  refine W.widen (k := 4) (n := 34) (by omega) (by omega) ?_
  replace hP : va_P G vwCl ([(a0, .inr (4, [.ref q_1, .ref q_2, .ref q_3, .null, .int 0, .int 0, .int 0, .int 0, .long 0])), (q_1, .inl (cL, 8, .inr (.inl (fun _ => 0)))), (q_2, .inl (cL, 8, .inr (.inl (fun _ => 0)))), (q_3, .inl (cI, 16, .inl (fun _ => 0))), (q_4, .inr (0, [.null, .null]))]) H := hP
  replace hD : va_D A ([(a0, .inr (4, [.ref q_1, .ref q_2, .ref q_3, .null, .int 0, .int 0, .int 0, .int 0, .long 0])), (q_1, .inl (cL, 8, .inr (.inl (fun _ => 0)))), (q_2, .inl (cL, 8, .inr (.inl (fun _ => 0)))), (q_3, .inl (cI, 16, .inl (fun _ => 0))), (q_4, .inr (0, [.null, .null]))]) := hD
  refine lv_dup hx hb d_Rn_init_32 rfl ?_
  refine cl_v hK hP hD hS hA (va_runI (As := []) (rest := [.ref q_4, .ref a0]) ⟨hx, hb, hml, hown, hts⟩ (c_initAns l G cI cL cZ cR cE H.size q_4 ) (cwI 0 hts (gC kw_50) rfl rfl rfl (hts _ (List.mem_cons_of_mem _ kw_17)) (hts _ (List.mem_cons_of_mem _ kw_48)) (hts _ (List.mem_cons_of_mem _ kw_49)) rfl (by decide +kernel) ⟨Nat.le_of_ble_eq_true rfl, Nat.le_of_ble_eq_true rfl⟩) (preWS_of hN hK hP hD [4] (by decide) rfl) rfl rfl hl.1 rfl (lv_room (Nat.le_of_ble_eq_true rfl)) d_Rn_init_33 ⟨Nat.le_of_ble_eq_true rfl, Nat.le_of_ble_eq_true rfl⟩) [4] [0, 1, 2, 3] rfl rfl (by decide) (by decide) (fun u H locs hw hP hD hS => ?_)
  obtain ⟨q_5, q_6⟩ := u
  refine W.widen (k := 6) (n := 42) (by omega) (by omega) ?_
  replace hP : va_P G vwCl ([(a0, .inr (4, [.ref q_1, .ref q_2, .ref q_3, .null, .int 0, .int 0, .int 0, .int 0, .long 0])), (q_1, .inl (cL, 8, .inr (.inl (fun _ => 0)))), (q_2, .inl (cL, 8, .inr (.inl (fun _ => 0)))), (q_3, .inl (cI, 16, .inl (fun _ => 0)))] ++ W_Ans cI cL cZ cR cE q_4 q_5 q_6 (fun _ => 0) (upd (upd (upd (upd (fun _ => 0) (0 : Int32).toNatClampNeg (-1)) (1 : Int32).toNatClampNeg (-1)) (2 : Int32).toNatClampNeg (-1)) (3 : Int32).toNatClampNeg (-1))) H := hP
  replace hD : va_D A ([(a0, .inr (4, [.ref q_1, .ref q_2, .ref q_3, .null, .int 0, .int 0, .int 0, .int 0, .long 0])), (q_1, .inl (cL, 8, .inr (.inl (fun _ => 0)))), (q_2, .inl (cL, 8, .inr (.inl (fun _ => 0)))), (q_3, .inl (cI, 16, .inl (fun _ => 0)))] ++ W_Ans cI cL cZ cR cE q_4 q_5 q_6 (fun _ => 0) (upd (upd (upd (upd (fun _ => 0) (0 : Int32).toNatClampNeg (-1)) (1 : Int32).toNatClampNeg (-1)) (2 : Int32).toNatClampNeg (-1)) (3 : Int32).toNatClampNeg (-1))) := hD
  refine va_putF (D := G) (ci := 4) (v := .ref q_4) (ty := (.object "HandlingRules$Answers")) (C := R_Rn) (T := T_Rn) (N := 9) hx hb hts hi_6 ty_Rn tyk_Rn nm_Rn hown hK hP hD hS 0 rfl rfl 3 (by decide) hk_14 (fun _ h9 => h9) rfl hin rfl (by decide +kernel) rfl rfl (Nat.le_of_ble_eq_true rfl) d_Rn_init_36 (fun H locs hP hD hS => ?_)
  replace hP : va_P G vwCl ([(a0, .inr (4, [.ref q_1, .ref q_2, .ref q_3, .ref q_4, .int 0, .int 0, .int 0, .int 0, .long 0])), (q_1, .inl (cL, 8, .inr (.inl (fun _ => 0)))), (q_2, .inl (cL, 8, .inr (.inl (fun _ => 0)))), (q_3, .inl (cI, 16, .inl (fun _ => 0)))] ++ W_Ans cI cL cZ cR cE q_4 q_5 q_6 (fun _ => 0) (upd (upd (upd (upd (fun _ => 0) (0 : Int32).toNatClampNeg (-1)) (1 : Int32).toNatClampNeg (-1)) (2 : Int32).toNatClampNeg (-1)) (3 : Int32).toNatClampNeg (-1))) H := hP
  replace hD : va_D A ([(a0, .inr (4, [.ref q_1, .ref q_2, .ref q_3, .ref q_4, .int 0, .int 0, .int 0, .int 0, .long 0])), (q_1, .inl (cL, 8, .inr (.inl (fun _ => 0)))), (q_2, .inl (cL, 8, .inr (.inl (fun _ => 0)))), (q_3, .inl (cI, 16, .inl (fun _ => 0)))] ++ W_Ans cI cL cZ cR cE q_4 q_5 q_6 (fun _ => 0) (upd (upd (upd (upd (fun _ => 0) (0 : Int32).toNatClampNeg (-1)) (1 : Int32).toNatClampNeg (-1)) (2 : Int32).toNatClampNeg (-1)) (3 : Int32).toNatClampNeg (-1))) := hD
  refine lv_aload_n hx hb d_Rn_init_39 rfl (lv_at hl 0 rfl) ?_
  refine lv_iconst (v := 0) hx hb d_Rn_init_40 (by decide) ?_
  refine va_put (D := G) (ci := 4) (v := .int 0) (ty := (.int)) (C := R_Rn) (T := T_Rn) (N := 9) hx hb hts hi_6 ty_Rn tyk_Rn nm_Rn hown hK hP hD hS 0 rfl rfl 4 (by decide) hk_15 (fun _ h9 => h9) rfl (by decide +kernel) rfl rfl (Nat.le_of_ble_eq_true rfl) d_Rn_init_41 (fun H locs hP hD hS => ?_)
  replace hP : va_P G vwCl ([(a0, .inr (4, [.ref q_1, .ref q_2, .ref q_3, .ref q_4, .int 0, .int 0, .int 0, .int 0, .long 0])), (q_1, .inl (cL, 8, .inr (.inl (fun _ => 0)))), (q_2, .inl (cL, 8, .inr (.inl (fun _ => 0)))), (q_3, .inl (cI, 16, .inl (fun _ => 0)))] ++ W_Ans cI cL cZ cR cE q_4 q_5 q_6 (fun _ => 0) (upd (upd (upd (upd (fun _ => 0) (0 : Int32).toNatClampNeg (-1)) (1 : Int32).toNatClampNeg (-1)) (2 : Int32).toNatClampNeg (-1)) (3 : Int32).toNatClampNeg (-1))) H := hP
  replace hD : va_D A ([(a0, .inr (4, [.ref q_1, .ref q_2, .ref q_3, .ref q_4, .int 0, .int 0, .int 0, .int 0, .long 0])), (q_1, .inl (cL, 8, .inr (.inl (fun _ => 0)))), (q_2, .inl (cL, 8, .inr (.inl (fun _ => 0)))), (q_3, .inl (cI, 16, .inl (fun _ => 0)))] ++ W_Ans cI cL cZ cR cE q_4 q_5 q_6 (fun _ => 0) (upd (upd (upd (upd (fun _ => 0) (0 : Int32).toNatClampNeg (-1)) (1 : Int32).toNatClampNeg (-1)) (2 : Int32).toNatClampNeg (-1)) (3 : Int32).toNatClampNeg (-1))) := hD
  refine lv_aload_n hx hb d_Rn_init_44 rfl (lv_at hl 0 rfl) ?_
  refine lv_iconst (v := 0) hx hb d_Rn_init_45 (by decide) ?_
  refine va_put (D := G) (ci := 4) (v := .int 0) (ty := (.int)) (C := R_Rn) (T := T_Rn) (N := 9) hx hb hts hi_6 ty_Rn tyk_Rn nm_Rn hown hK hP hD hS 0 rfl rfl 5 (by decide) hk_16 (fun _ h9 => h9) rfl (by decide +kernel) rfl rfl (Nat.le_of_ble_eq_true rfl) d_Rn_init_46 (fun H locs hP hD hS => ?_)
  replace hP : va_P G vwCl ([(a0, .inr (4, [.ref q_1, .ref q_2, .ref q_3, .ref q_4, .int 0, .int 0, .int 0, .int 0, .long 0])), (q_1, .inl (cL, 8, .inr (.inl (fun _ => 0)))), (q_2, .inl (cL, 8, .inr (.inl (fun _ => 0)))), (q_3, .inl (cI, 16, .inl (fun _ => 0)))] ++ W_Ans cI cL cZ cR cE q_4 q_5 q_6 (fun _ => 0) (upd (upd (upd (upd (fun _ => 0) (0 : Int32).toNatClampNeg (-1)) (1 : Int32).toNatClampNeg (-1)) (2 : Int32).toNatClampNeg (-1)) (3 : Int32).toNatClampNeg (-1))) H := hP
  replace hD : va_D A ([(a0, .inr (4, [.ref q_1, .ref q_2, .ref q_3, .ref q_4, .int 0, .int 0, .int 0, .int 0, .long 0])), (q_1, .inl (cL, 8, .inr (.inl (fun _ => 0)))), (q_2, .inl (cL, 8, .inr (.inl (fun _ => 0)))), (q_3, .inl (cI, 16, .inl (fun _ => 0)))] ++ W_Ans cI cL cZ cR cE q_4 q_5 q_6 (fun _ => 0) (upd (upd (upd (upd (fun _ => 0) (0 : Int32).toNatClampNeg (-1)) (1 : Int32).toNatClampNeg (-1)) (2 : Int32).toNatClampNeg (-1)) (3 : Int32).toNatClampNeg (-1))) := hD
  refine lv_aload_n hx hb d_Rn_init_49 rfl (lv_at hl 0 rfl) ?_
  refine lv_iconst (v := 0) hx hb d_Rn_init_50 (by decide) ?_
  refine va_put (D := G) (ci := 4) (v := .int 0) (ty := (.int)) (C := R_Rn) (T := T_Rn) (N := 9) hx hb hts hi_6 ty_Rn tyk_Rn nm_Rn hown hK hP hD hS 0 rfl rfl 6 (by decide) hk_17 (fun _ h9 => h9) rfl (by decide +kernel) rfl rfl (Nat.le_of_ble_eq_true rfl) d_Rn_init_51 (fun H locs hP hD hS => ?_)
  replace hP : va_P G vwCl ([(a0, .inr (4, [.ref q_1, .ref q_2, .ref q_3, .ref q_4, .int 0, .int 0, .int 0, .int 0, .long 0])), (q_1, .inl (cL, 8, .inr (.inl (fun _ => 0)))), (q_2, .inl (cL, 8, .inr (.inl (fun _ => 0)))), (q_3, .inl (cI, 16, .inl (fun _ => 0)))] ++ W_Ans cI cL cZ cR cE q_4 q_5 q_6 (fun _ => 0) (upd (upd (upd (upd (fun _ => 0) (0 : Int32).toNatClampNeg (-1)) (1 : Int32).toNatClampNeg (-1)) (2 : Int32).toNatClampNeg (-1)) (3 : Int32).toNatClampNeg (-1))) H := hP
  replace hD : va_D A ([(a0, .inr (4, [.ref q_1, .ref q_2, .ref q_3, .ref q_4, .int 0, .int 0, .int 0, .int 0, .long 0])), (q_1, .inl (cL, 8, .inr (.inl (fun _ => 0)))), (q_2, .inl (cL, 8, .inr (.inl (fun _ => 0)))), (q_3, .inl (cI, 16, .inl (fun _ => 0)))] ++ W_Ans cI cL cZ cR cE q_4 q_5 q_6 (fun _ => 0) (upd (upd (upd (upd (fun _ => 0) (0 : Int32).toNatClampNeg (-1)) (1 : Int32).toNatClampNeg (-1)) (2 : Int32).toNatClampNeg (-1)) (3 : Int32).toNatClampNeg (-1))) := hD
  refine lv_aload_n hx hb d_Rn_init_54 rfl (lv_at hl 0 rfl) ?_
  refine lv_iconst (v := 0) hx hb d_Rn_init_55 (by decide) ?_
  refine va_put (D := G) (ci := 4) (v := .int 0) (ty := (.int)) (C := R_Rn) (T := T_Rn) (N := 9) hx hb hts hi_6 ty_Rn tyk_Rn nm_Rn hown hK hP hD hS 0 rfl rfl 7 (by decide) hk_18 (fun _ h9 => h9) rfl (by decide +kernel) rfl rfl (Nat.le_of_ble_eq_true rfl) d_Rn_init_56 (fun H locs hP hD hS => ?_)
  replace hP : va_P G vwCl ([(a0, .inr (4, [.ref q_1, .ref q_2, .ref q_3, .ref q_4, .int 0, .int 0, .int 0, .int 0, .long 0])), (q_1, .inl (cL, 8, .inr (.inl (fun _ => 0)))), (q_2, .inl (cL, 8, .inr (.inl (fun _ => 0)))), (q_3, .inl (cI, 16, .inl (fun _ => 0)))] ++ W_Ans cI cL cZ cR cE q_4 q_5 q_6 (fun _ => 0) (upd (upd (upd (upd (fun _ => 0) (0 : Int32).toNatClampNeg (-1)) (1 : Int32).toNatClampNeg (-1)) (2 : Int32).toNatClampNeg (-1)) (3 : Int32).toNatClampNeg (-1))) H := hP
  replace hD : va_D A ([(a0, .inr (4, [.ref q_1, .ref q_2, .ref q_3, .ref q_4, .int 0, .int 0, .int 0, .int 0, .long 0])), (q_1, .inl (cL, 8, .inr (.inl (fun _ => 0)))), (q_2, .inl (cL, 8, .inr (.inl (fun _ => 0)))), (q_3, .inl (cI, 16, .inl (fun _ => 0)))] ++ W_Ans cI cL cZ cR cE q_4 q_5 q_6 (fun _ => 0) (upd (upd (upd (upd (fun _ => 0) (0 : Int32).toNatClampNeg (-1)) (1 : Int32).toNatClampNeg (-1)) (2 : Int32).toNatClampNeg (-1)) (3 : Int32).toNatClampNeg (-1))) := hD
  refine lv_aload_n hx hb d_Rn_init_59 rfl (lv_at hl 0 rfl) ?_
  refine lv_lconst (v := 0) hx hb d_Rn_init_60 (by decide) ?_
  refine va_put (D := G) (ci := 4) (v := .long 0) (ty := (.long)) (C := R_Rn) (T := T_Rn) (N := 9) hx hb hts hi_6 ty_Rn tyk_Rn nm_Rn hown hK hP hD hS 0 rfl rfl 8 (by decide) hk_19 (fun _ h9 => h9) rfl (by decide +kernel) rfl rfl (Nat.le_of_ble_eq_true rfl) d_Rn_init_61 (fun H locs hP hD hS => ?_)
  replace hP : va_P G vwCl ([(a0, .inr (4, [.ref q_1, .ref q_2, .ref q_3, .ref q_4, .int 0, .int 0, .int 0, .int 0, .long 0])), (q_1, .inl (cL, 8, .inr (.inl (fun _ => 0)))), (q_2, .inl (cL, 8, .inr (.inl (fun _ => 0)))), (q_3, .inl (cI, 16, .inl (fun _ => 0)))] ++ W_Ans cI cL cZ cR cE q_4 q_5 q_6 (fun _ => 0) (upd (upd (upd (upd (fun _ => 0) (0 : Int32).toNatClampNeg (-1)) (1 : Int32).toNatClampNeg (-1)) (2 : Int32).toNatClampNeg (-1)) (3 : Int32).toNatClampNeg (-1))) H := hP
  replace hD : va_D A ([(a0, .inr (4, [.ref q_1, .ref q_2, .ref q_3, .ref q_4, .int 0, .int 0, .int 0, .int 0, .long 0])), (q_1, .inl (cL, 8, .inr (.inl (fun _ => 0)))), (q_2, .inl (cL, 8, .inr (.inl (fun _ => 0)))), (q_3, .inl (cI, 16, .inl (fun _ => 0)))] ++ W_Ans cI cL cZ cR cE q_4 q_5 q_6 (fun _ => 0) (upd (upd (upd (upd (fun _ => 0) (0 : Int32).toNatClampNeg (-1)) (1 : Int32).toNatClampNeg (-1)) (2 : Int32).toNatClampNeg (-1)) (3 : Int32).toNatClampNeg (-1))) := hD
  replace hP : va_P G vwCl (W_Run cI cL cZ cR cE a0 q_1 q_2 q_3 q_4 q_5 q_6 (fun _ => 0) (fun _ => 0) (fun _ => 0) (fun _ => 0) (upd (upd (upd (upd (fun _ => 0) (0 : Int32).toNatClampNeg (-1)) (1 : Int32).toNatClampNeg (-1)) (2 : Int32).toNatClampNeg (-1)) (3 : Int32).toNatClampNeg (-1)) 0 0 0 0 0) H := hP.sub [0, 1, 2, 3, 4, 5, 6] rfl
  replace hD : va_D A (W_Run cI cL cZ cR cE a0 q_1 q_2 q_3 q_4 q_5 q_6 (fun _ => 0) (fun _ => 0) (fun _ => 0) (fun _ => 0) (upd (upd (upd (upd (fun _ => 0) (0 : Int32).toNatClampNeg (-1)) (1 : Int32).toNatClampNeg (-1)) (2 : Int32).toNatClampNeg (-1)) (3 : Int32).toNatClampNeg (-1)) 0 0 0 0 0) := hD.sub [0, 1, 2, 3, 4, 5, 6] (by decide) rfl
  refine W.widen (k := 6) (n := 42) (by omega) (by omega) ?_
  exact W.vret hx hb hr (fun t ht hW => ⟨⟨(q_1, q_2, q_3, q_4, q_5, q_6), rfl, trivial, by rw [ht]; exact hP, va_K.moved hW.alike hK, hD⟩, hS.F ht⟩) hS.2.2 d_Rn_init_64
