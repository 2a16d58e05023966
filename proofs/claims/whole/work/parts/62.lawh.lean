-- the law's helpers: words, frames, calls of methods with a handler
theorem TW.same {B : Nat} {u U : State} (hv : U.vm = u.vm) (hh : U.heap = u.heap) (h : TW B u) : TW B U := by
  obtain ⟨⟨q1, h1⟩, ⟨q2, h2⟩, h3, h4, h5, h6, h7, h8, h9⟩ := h
  have hal : u.vm.Alike U.vm := by rw [hv]; exact Vm.Alike.refl u.vm
  exact ⟨⟨q1, h1.same hv⟩, ⟨q2, h2.same hv⟩, h3.same rfl hv.symm, h4.same rfl hv.symm, h5.same rfl hv.symm, h6.same rfl hv.symm, h7.same rfl hv.symm, by rw [hh]; exact h8.moved hal, by rw [hh]; exact h9.moved hal⟩
theorem blindT {G : va_G} {tys : List (ClassId × FieldType)} {av : List Value} {ws : va_W} {Bz : Nat} : FrameBlind (va_Pc av (fun U => va_P G vwCl ws U.heap ∧ va_K G vwCl tys U ∧ NW U ∧ TW Bz U)) := fun a U g mk q => by
  obtain ⟨q0, qP, qK, qN, qT⟩ := q
  exact ⟨q0, qP, va_K.moved (u := U) (U := U.calling g mk a) (Vm.Alike.refl U.vm) qK, qN.calling, qT.same rfl rfl⟩
abbrev preWT (G : va_G) (tys : List (ClassId × FieldType)) (av : List Value) (sz : Nat) (ws : va_W) (Bz : Nat) : Array Value → State → Prop := va_Pc av (fun U => U.heap.size = sz ∧ va_P G vwCl ws U.heap ∧ va_K G vwCl tys U ∧ va_D (fun _ => True) ws ∧ NW U ∧ TW Bz U)
theorem preWT_blind {G : va_G} {tys : List (ClassId × FieldType)} {av : List Value} {sz : Nat} {ws : va_W} {Bz : Nat} : FrameBlind (preWT G tys av sz ws Bz) := fun a U g mk q => by
  obtain ⟨q0, q1, qP, qK, qD, qN, qT⟩ := q
  exact ⟨q0, q1, qP, va_K.moved (u := U) (U := U.calling g mk a) (Vm.Alike.refl U.vm) qK, qD, qN.calling, qT.same rfl rfl⟩
theorem va_P.rg {G : va_G} {H : Heap} {a b : va_W} (h : va_P G vwCl (a ++ b) H) : va_P G vwCl b H := h.mem (fun x hx => List.mem_append_right _ hx)
theorem gCW {c : Cond} {y : MethodName} {b : ByteArray} {mx : Nat} {rt : Option FieldType} {hh : List (Nat × Nat × Nat × Nat)} (h5 : Cond.codeWith y b mx rt hh ∈ GW) : GoodIn (c :: GW) (Cond.codeWith y b mx rt hh :: GW) := fun w hw => by
  rcases List.mem_cons.mp hw with rfl | hw
  · exact gw_good _ h5
  · exact gw_good _ hw
section RSW
variable {p : Program} {l : Launch} {e : Env} {R : Jvm.Room} {s : State} {m : MethodId} {args : Array Value} {below : List Frame} {meth : Method} {c : Code} {H : Heap} {locs : List Loc} {cells slots : Nat} {Q : State → Prop}
theorem va_runSW {y : MethodName} {bytes cc : ByteArray} {maxL nL mc ms n index : Nat} {ret : Option FieldType} {hh : List (Nat × Nat × Nat × Nat)} {ws : List Cond} {rm : Jvm.Room} {Pc : Array Value → State → Prop} {Qc : Array Value → State → Outcome → State → Prop} {free : Addr → Prop} {Ts : List Cond} {own : String} {As rest : List Value} {g : JFrame}
    (S : CallFix p m c cc nL s args Ts own) (hM : Met l y ws rm Pc Qc mc ms free) (hrc : rm.cells = mc) (hrs : rm.slots = ms) (hfr : rm.frames + 1 ≤ R.frames) (hlo : 8 + (maxL + 11) + rm.locals ≤ R.locals)
    (hws : ∀ w ∈ ws, ∀ (a' : Array Value) (U : State), s.WarmedH U.vm → w.before a' U = true) (hcw : Cond.codeWith y bytes maxL ret hh ∈ ws) (hcode : (Cond.codeWith y bytes maxL ret hh).before args s = true) (hini : (Cond.initialized y.cls).before args s = true) (hstt : (Cond.static y).before args s = true)
    (hy : y.cls ≠ "java/lang/invoke/MethodHandle" ∧ y.cls ≠ "java/lang/invoke/VarHandle") (hlen : (parseMethodDescriptor y.desc).map (fun d => d.parameters.length) = some n) (hl : (Cond.methodLink own index y).before args s = true) (hp : PreS s H Pc As)
    (hg : g.method = m) (hn : As.length = n) (hsize : g.locals.size = nL) (hstack : g.stack = As.reverse ++ rest) (hW : 2 * g.monitorRoom + (rest.map fun v => v.category).sum ≤ 8) (hdg : decode cc g.pc = .ok (.invokestatic index, 3)) (hf : cells + mc ≤ R.cells ∧ slots + ms ≤ R.slots) :
    va_Run p l e R s m args below meth c H locs cells slots mc ms g rest (Qc As.toArray) free := by
  have hK := va_backW (p := p) (e := e) (below := below) (sargs := args) (len := 3) (W := 8) (R := R) (s := s) (hh := hh) (bytes := bytes) (maxL := maxL) (ret := ret) hM hp.1 hrc hrs hfr hlo hws hcw (fun a' U hW => word_at hW (Or.inl (by first | rfl | simp [Cond.onTables, Cond.keeps, Cond.steady])) hini)
  obtain ⟨hx, hb, hml, ho, -⟩ := S
  intro T hT X
  obtain ⟨mk, methM, cM, hnamed, hmethM, -, -, -, -, -, -, hsig⟩ := Cond.codeWith_spec hcode
  have hstatic : methM.isStatic = true := Cond.static_spec hnamed hmethM hstt
  obtain ⟨kP, hkP, -⟩ := className_of_methodNamed hnamed
  have hinitP : kP.init = .initialized := Cond.initialized_spec (findClass_of_methodNamed hnamed) hkP hini
  have hdg' : decode c.code g.pc = .ok (.invokestatic index, 3) := by rw [hb]; exact hdg
  rw [hsig] at hlen
  obtain ⟨vm₁, X₁, hstep₁⟩ := X.invokestatic hx ho hl hnamed hmethM hstatic hkP hinitP hy (g := g) hg (argsL := As) (rest := rest) (hn.trans (Option.some.inj hlen).symm) hstack hdg'
  obtain ⟨v, ⟨U', l2, c2, s2⟩, X', ⟨g', mk', t, L, e1, e2, hq, h1, hL, h2, h3⟩, hsteps⟩ := hK m meth c ⟨T.setVm vm₁, locs, cells, slots⟩ { g with stack := rest } (.invokestatic index) mk As.toArray X₁ hg (hsize.trans hml.symm) hdg' hW (X₁.named hnamed) ⟨hf.1, hf.2, hp.2 (T.setVm vm₁) hT X₁.warmed⟩
  dsimp only [Pt.U, Pt.locs, Pt.cells, Pt.slots] at X' e1 e2 h1 h2 h3 hsteps
  subst h1; subst h2; subst h3
  exact ⟨v, (T.setVm vm₁).calling g' mk' As.toArray, t, U', L, hT, X', hL, e1, e2, hq, fun target h => hstep₁ _ fun acts => by rw [doInvoke_state]; exact hsteps.trans h⟩
end RSW
set_option maxHeartbeats 2000000 in
set_option maxRecDepth 100000 in
theorem x_lcell (l : Launch) (b L : Nat) (xs : Nat → Int32) (hL : L < 2 ^ 31) : Met l y_La_cell w_La_cell ({ frames := 0, cells := 0, slots := 0, locals := 0 }) (va_Pc [.ref b, .int 0] (fun U => va_X b L xs U U.heap ∧ b < U.heap.size)) (vp_Si (fun ans => ans = if L = 0 then 0 else xs 0)) 0 0 (fun _ => False) := by
  refine Met.ofW (cc := b_La_cell) (maxL := 2) (ret := (some .int)) (by decide) rfl ?_
  intro p e s_ m args below meth c s₁ B hml hv
  obtain ⟨rfl, hX, hbl⟩ := hv
  have hx := B.exec
  have hb := B.bytes
  have hr := B.returns
  have hlocks := B.notSynchronized
  have hS : va_S (fun _ => False) s_.heap s_.heap [] := va_S.rf
  have hl := lv_entry ([.ref b, .int 0]) (n := 2) (Nat.le_of_ble_eq_true rfl)
  rw [lg_entry_eq]
  generalize (lg_sl ([.ref b, .int 0]) ++ List.replicate (2 - (lg_sl ([.ref b, .int 0])).length) Slot.unset).toArray = ls at hl ⊢
  replace hl : lv_has ls 2 [(0, .ref b), (1, .int 0)] := hl
  refine lv_iload_n hx hb d_La_cell_0 rfl (lv_at hl 1 rfl) ?_
  refine lv_aload_n hx hb d_La_cell_1 rfl (lv_at hl 0 rfl) ?_
  refine va_slen (A := fun _ => False) hx hb hX hbl (fun h => h) hS d_La_cell_2 ?_
  refine lv_icmp_ge (tgt := 12) hx hb d_La_cell_3 (by decide) (fun c0 => ?_) (fun c0 => ?_)
  · refine lv_iconst (v := 0) hx hb d_La_cell_12 (by decide) ?_
    refine W.iret (v := 0) hx hb hr (fun t ht hW => ⟨0, rfl, ?_, ht⟩) (fun _ h => by cases h) d_La_cell_13
    have hz : L = 0 := by
      have c1 : nI L ≤ nI 0 := c0
      rw [nI_leI hL (by decide)] at c1
      omega
    rw [if_pos hz]
  · have hz : ¬ L = 0 := fun h => c0 (by rw [h]; decide)
    refine lv_aload_n hx hb d_La_cell_6 rfl (lv_at hl 0 rfl) ?_
    refine lv_iload_n hx hb d_La_cell_7 rfl (lv_at hl 1 rfl) ?_
    refine va_sld (A := fun _ => False) hx hb hX hbl (fun h => h) hS (vp_in_nI (n := 0) (by omega) hL) d_La_cell_8 ?_
    refine lv_goto (tgt := 13) hx hb d_La_cell_9 (by decide) ?_
    refine W.iret (v := xs (0 : Int32).toNatClampNeg) hx hb hr (fun t ht hW => ⟨_, rfl, ?_, ht⟩) (fun _ h => by cases h) d_La_cell_13
    rw [if_neg hz]
    rfl
def F_ldiv (s : CS) (k : Int32) (x y : Int64) (f : Nat → Int64) : Int32 × (Nat → Int64) := if ¬ (k < 0 ∨ s.n ≤ k.toNatClampNeg) then (if y = 0 then (1, f) else (0, vp_updL f 0 (x / y))) else (0, vp_updL f 0 (-101))
def F_lhan (s : CS) (k : Int32) (f : Nat → Int64) : Int32 × (Nat → Int64) := if k < 0 then (0, vp_updL f 0 (-102)) else (if s.hc ≤ k then (0, vp_updL f 0 (-102)) else (1, f))
abbrev ww_La_divide : List Cond := .codeWith y_La_divide b_La_divide 8 (some .int) [(0, 12, 15, 13)] :: GW
set_option maxHeartbeats 4000000 in
set_option maxRecDepth 100000 in
theorem x_ldivide (l : Launch) (G : va_G) (cI cL cZ cR cE : ClassId)  (htr : l.stackTraces = false) (Bz sz : Nat) (A : CAd) (s : CS) (hn : s.n ≤ 40) (oa : Nat) (f : Nat → Int64) (k : Int32) (x : Int64) (y : Int64) : Met l y_La_divide ww_La_divide ({ frames := 7, cells := 1, slots := 6, locals := 107 }) (preWT G (TYS cI cL cZ cR cE) [.ref (A.h 0), .int k, .long x, .long y, .ref oa] sz (([(oa, .inl (cL, 1, .inr (.inl f)))] : va_W) ++ FW cI cL cZ cR cE A s) Bz) (va_Qi (S := Nat → Int64) (fun r u => (r, u) = F_ldiv s k x y f) (fun u t => va_P G vwCl (([(oa, .inl (cL, 1, .inr (.inl u)))] : va_W) ++ FW cI cL cZ cR cE A s) t.heap ∧ va_K G vwCl (TYS cI cL cZ cR cE) t ∧ va_D (va_A (([(oa, .inl (cL, 1, .inr (.inl f)))] : va_W) ++ FW cI cL cZ cR cE A s) sz) (([(oa, .inl (cL, 1, .inr (.inl u)))] : va_W) ++ FW cI cL cZ cR cE A s)) (va_A (([(oa, .inl (cL, 1, .inr (.inl f)))] : va_W) ++ FW cI cL cZ cR cE A s) sz)) 1 6 (va_A (([(oa, .inl (cL, 1, .inr (.inl f)))] : va_W) ++ FW cI cL cZ cR cE A s) sz) := by
  refine va_MetW (cc := b_La_divide) (maxL := 8) (ret := (some .int)) (hh := [(0, 12, 15, 13)]) (by decide) rfl ?_
  intro p e s_ m args below meth c s₁ B hml hv
  obtain ⟨rfl, hsz, hP, hK, hD0, hN, hTW⟩ := hv
  have hx := B.exec
  have hb := B.bytes
  have hr := B.returns
  have hts := atoms_spec (ws := ww_La_divide) B.pre
  have hown : s_.vm.findClass R_La = some m.cls := findClass_of_methodNamed B.named
  have hlocks := B.notSynchronized
  have htab : c.exceptionTable.toList.map (fun h => (h.startPc, h.endPc, h.handlerPc, h.catchType)) = [(0, 12, 15, 13)] := by
    obtain ⟨m9, meth9, c9, hn9, h1, h2, -, -, h5, -⟩ := Cond.codeWith_spec (hts _ List.mem_cons_self)
    cases B.named.symm.trans hn9
    cases B.method.symm.trans h1
    cases (Stand.of_body B).code.symm.trans h2
    exact h5
  subst hsz
  have hD := hD0.self (sz := s_.heap.size)
  clear hD0
  generalize hAe : va_A (([(oa, .inl (cL, 1, .inr (.inl f)))] : va_W) ++ FW cI cL cZ cR cE A s) s_.heap.size = A0 at hD ⊢
  have hA : ∀ q : Nat, s_.heap.size ≤ q → A0 q := fun q h => by rw [← hAe]; exact Or.inr h
  clear hAe
  have hS : va_S A0 s_.heap s_.heap [] := va_S.rf
  obtain ⟨H, hH⟩ : ∃ H, H = s_.heap := ⟨_, rfl⟩
  rw [← hH] at hP
  replace hS : va_S A0 s_.heap H [] := by rw [hH]; exact hS
  rw [← hH]
  have hHs : H = s_.heap := hH
  clear hH
  obtain ⟨locs, hlocs⟩ : ∃ z : List Loc, z = [] := ⟨_, rfl⟩
  rw [← hlocs] at hS ⊢
  clear hlocs
  have hk_1 := hts (.classLink R_La 13 "java/lang/ArithmeticException") (List.mem_cons_of_mem _ kw_461)
  have hl := lv_entry ([.ref (A.h 0), .int k, .long x, .long y, .ref oa]) (n := 8) (Nat.le_of_ble_eq_true rfl)
  rw [lg_entry_eq]
  generalize (lg_sl ([.ref (A.h 0), .int k, .long x, .long y, .ref oa]) ++ List.replicate (8 - (lg_sl ([.ref (A.h 0), .int k, .long x, .long y, .ref oa])).length) Slot.unset).toArray = ls at hl ⊢
  replace hl : lv_has ls 8 [(0, .ref (A.h 0)), (1, .int k), (2, .long x), (4, .long y), (6, .ref oa)] := hl
  by_cases hth : vp_in k s.n ∧ y = 0
  · obtain ⟨ck, hy0⟩ := hth
    have hF : ((1 : Int32), f) = F_ldiv s k x y f := by unfold F_ldiv; rw [in_pos ck, if_pos hy0]
    refine lv_aload hx hb d_La_divide_0 (lv_at hl 4 rfl) ?_
    refine lv_iconst (v := 0) hx hb d_La_divide_2 (by decide) ?_
    refine lv_aload_n hx hb d_La_divide_3 rfl (lv_at hl 0 rfl) ?_
    refine lv_iload_n hx hb d_La_divide_4 rfl (lv_at hl 1 rfl) ?_
    refine lv_lload_n hx hb d_La_divide_5 rfl (lv_at hl 2 rfl) ?_
    refine lv_lload hx hb d_La_divide_6 (lv_at hl 3 rfl) ?_
    refine W.eq (g2 := F0 m 8 ls (([.int k, .long x, .long y] : List Value).reverse ++ .ref (A.h 0) :: [.int 0, .ref oa])) rfl ?_
    refine cl_T (own := R_La) (X9 := AEN) ⟨hx, hb, hml, hown, hts⟩ (x_divideT l G cI cL cZ cR cE htr Bz A s hn k x y ck hy0) (cwV 3 hts (gV kw_462 kw_463 kw_464 kw_15 kw_465) rfl rfl rfl (by decide +kernel) ⟨Nat.le_of_ble_eq_true rfl, Nat.le_of_ble_eq_true rfl⟩) ⟨blindT, va_recv hK (FW_hr (va_P.rg hP)) (ci := 5) rfl (show (WH cI cL cZ cR cE A s)[0]? = some (A.h 0, .inr (5, _)) from rfl), fun U hU hW => ⟨rfl, by rw [hU]; exact va_P.rg hP, va_K.moved hW.alike hK, hN.warm hW, hTW.keep hW (fun q _ => by rw [hU, hHs])⟩⟩ rfl hl.1 (Nat.le_of_ble_eq_true rfl) d_La_divide_8 ⟨Nat.le_of_ble_eq_true rfl, Nat.le_of_ble_eq_true rfl⟩ htab ⟨by decide, by decide⟩ (by decide) hk_1 (fun v H1 hz1 hk1 => ?_)
    have hP1 : va_P G vwCl (([(oa, .inl (cL, 1, .inr (.inl f)))] : va_W) ++ FW cI cL cZ cR cE A s) H1 := fun i q hq => (hP i q hq).kept (hk1 q.1 (hP i q hq).lt)
    have hS1 : va_S A0 s_.heap H1 locs := ⟨Nat.le_trans hS.1 hz1, fun q h1 h2 => by rw [hk1 q (Nat.lt_of_lt_of_le h1 hS.1)]; exact hS.2.1 q h1 h2, hS.2.2⟩
    refine lv_astore (lv' := [(7, .ref v), (0, .ref (A.h 0)), (1, .int k), (2, .long x), (4, .long y), (6, .ref oa)]) hx hb d_La_divide_15 hl (by decide) rfl (fun ls hl => ?_)
    refine lv_iconst (v := 1) hx hb d_La_divide_17 (by decide) ?_
    refine W.widen (k := 1) (n := 6) (by omega) (by omega) ?_
    exact W.iret (v := 1) hx hb hr (fun t ht hW => ⟨⟨1, f, rfl, hF, by rw [ht]; exact hP1, va_K.moved hW.alike hK, hD⟩, hS1.F ht⟩) hS1.2.2 d_La_divide_18
  · have hno := hth
    have hF : ((0 : Int32), vp_updL f (0 : Int32).toNatClampNeg (F_divide s k x y)) = F_ldiv s k x y f := by
      unfold F_ldiv F_divide
      by_cases ck : vp_in k s.n
      · have hy0 : ¬ y = 0 := fun h => hno ⟨ck, h⟩
        rw [in_pos ck, in_pos ck, if_neg hy0, if_neg hy0]
        rfl
      · rw [in_neg ck, in_neg ck]
        rfl
    refine lv_aload hx hb d_La_divide_0 (lv_at hl 4 rfl) ?_
    refine lv_iconst (v := 0) hx hb d_La_divide_2 (by decide) ?_
    refine lv_aload_n hx hb d_La_divide_3 rfl (lv_at hl 0 rfl) ?_
    refine lv_iload_n hx hb d_La_divide_4 rfl (lv_at hl 1 rfl) ?_
    refine lv_lload_n hx hb d_La_divide_5 rfl (lv_at hl 2 rfl) ?_
    refine lv_lload hx hb d_La_divide_6 (lv_at hl 3 rfl) ?_
    refine vp_callSl (W.runV (As := [.int k, .long x, .long y]) (rest := [.int 0, .ref oa]) ⟨hx, hb, hml, hown, hts⟩ (x_divide l G cI cL cZ cR cE A s hn k x y hno) (cwV 3 hts (gV kw_462 kw_463 kw_464 kw_15 kw_465) rfl rfl rfl (by decide +kernel) ⟨Nat.le_of_ble_eq_true rfl, Nat.le_of_ble_eq_true rfl⟩) (preRV_w (ci := 5) hN hK (va_P.rg hP) (FW_hr (va_P.rg hP)) rfl rfl) rfl rfl hl.1 rfl (lv_room (Nat.le_of_ble_eq_true rfl)) d_La_divide_8 ⟨Nat.zero_le _, Nat.zero_le _⟩) (fun r_0 hw => ?_)
    subst hw
    refine va_last hx hb hK hP hD hS 0 1 rfl rfl (by unfold vp_in; decide) d_La_divide_11 (fun H locs hP hD hS => ?_)
    replace hP : va_P G vwCl (([(oa, .inl (cL, 1, .inr (.inl (vp_updL f (0 : Int32).toNatClampNeg (F_divide s k x y)))))] : va_W) ++ FW cI cL cZ cR cE A s) H := hP
    replace hD : va_D A0 (([(oa, .inl (cL, 1, .inr (.inl (vp_updL f (0 : Int32).toNatClampNeg (F_divide s k x y)))))] : va_W) ++ FW cI cL cZ cR cE A s) := hD
    refine lv_goto (tgt := 19) hx hb d_La_divide_12 (by decide) ?_
    refine lv_iconst (v := 0) hx hb d_La_divide_19 (by decide) ?_
    refine W.widen (k := 1) (n := 6) (by omega) (by omega) ?_
    exact W.iret (v := 0) hx hb hr (fun t ht hW => ⟨⟨0, vp_updL f (0 : Int32).toNatClampNeg (F_divide s k x y), rfl, hF, by rw [ht]; exact hP, va_K.moved hW.alike hK, hD⟩, hS.F ht⟩) hS.2.2 d_La_divide_20
abbrev ww_La_handle : List Cond := .codeWith y_La_handle b_La_handle 4 (some .int) [(0, 9, 12, 19)] :: GW
set_option maxHeartbeats 4000000 in
set_option maxRecDepth 100000 in
theorem x_lhandle (l : Launch) (G : va_G) (cI cL cZ cR cE : ClassId)  (htr : l.stackTraces = false) (Bz sz : Nat) (A : CAd) (s : CS) (hn : s.n ≤ 40) (oa : Nat) (f : Nat → Int64) (k : Int32) : Met l y_La_handle ww_La_handle ({ frames := 7, cells := 1, slots := 6, locals := 103 }) (preWT G (TYS cI cL cZ cR cE) [.ref (A.h 0), .int k, .ref oa] sz (([(oa, .inl (cL, 1, .inr (.inl f)))] : va_W) ++ FW cI cL cZ cR cE A s) Bz) (va_Qi (S := Nat → Int64) (fun r u => (r, u) = F_lhan s k f) (fun u t => va_P G vwCl (([(oa, .inl (cL, 1, .inr (.inl u)))] : va_W) ++ FW cI cL cZ cR cE A s) t.heap ∧ va_K G vwCl (TYS cI cL cZ cR cE) t ∧ va_D (va_A (([(oa, .inl (cL, 1, .inr (.inl f)))] : va_W) ++ FW cI cL cZ cR cE A s) sz) (([(oa, .inl (cL, 1, .inr (.inl u)))] : va_W) ++ FW cI cL cZ cR cE A s)) (va_A (([(oa, .inl (cL, 1, .inr (.inl f)))] : va_W) ++ FW cI cL cZ cR cE A s) sz)) 1 6 (va_A (([(oa, .inl (cL, 1, .inr (.inl f)))] : va_W) ++ FW cI cL cZ cR cE A s) sz) := by
  refine va_MetW (cc := b_La_handle) (maxL := 4) (ret := (some .int)) (hh := [(0, 9, 12, 19)]) (by decide) rfl ?_
  intro p e s_ m args below meth c s₁ B hml hv
  obtain ⟨rfl, hsz, hP, hK, hD0, hN, hTW⟩ := hv
  have hx := B.exec
  have hb := B.bytes
  have hr := B.returns
  have hts := atoms_spec (ws := ww_La_handle) B.pre
  have hown : s_.vm.findClass R_La = some m.cls := findClass_of_methodNamed B.named
  have hlocks := B.notSynchronized
  have htab : c.exceptionTable.toList.map (fun h => (h.startPc, h.endPc, h.handlerPc, h.catchType)) = [(0, 9, 12, 19)] := by
    obtain ⟨m9, meth9, c9, hn9, h1, h2, -, -, h5, -⟩ := Cond.codeWith_spec (hts _ List.mem_cons_self)
    cases B.named.symm.trans hn9
    cases B.method.symm.trans h1
    cases (Stand.of_body B).code.symm.trans h2
    exact h5
  subst hsz
  have hD := hD0.self (sz := s_.heap.size)
  clear hD0
  generalize hAe : va_A (([(oa, .inl (cL, 1, .inr (.inl f)))] : va_W) ++ FW cI cL cZ cR cE A s) s_.heap.size = A0 at hD ⊢
  have hA : ∀ q : Nat, s_.heap.size ≤ q → A0 q := fun q h => by rw [← hAe]; exact Or.inr h
  clear hAe
  have hS : va_S A0 s_.heap s_.heap [] := va_S.rf
  obtain ⟨H, hH⟩ : ∃ H, H = s_.heap := ⟨_, rfl⟩
  rw [← hH] at hP
  replace hS : va_S A0 s_.heap H [] := by rw [hH]; exact hS
  rw [← hH]
  have hHs : H = s_.heap := hH
  clear hH
  obtain ⟨locs, hlocs⟩ : ∃ z : List Loc, z = [] := ⟨_, rfl⟩
  rw [← hlocs] at hS ⊢
  clear hlocs
  have hk_1 := hts (.classLink R_La 19 "java/lang/IllegalStateException") (List.mem_cons_of_mem _ kw_538)
  have hl := lv_entry ([.ref (A.h 0), .int k, .ref oa]) (n := 4) (Nat.le_of_ble_eq_true rfl)
  rw [lg_entry_eq]
  generalize (lg_sl ([.ref (A.h 0), .int k, .ref oa]) ++ List.replicate (4 - (lg_sl ([.ref (A.h 0), .int k, .ref oa])).length) Slot.unset).toArray = ls at hl ⊢
  replace hl : lv_has ls 4 [(0, .ref (A.h 0)), (1, .int k), (2, .ref oa)] := hl
  by_cases hth : ¬ k < 0 ∧ ¬ s.hc ≤ k
  · obtain ⟨c0, c2⟩ := hth
    have c1 : k < s.hc := by rw [Int32.lt_iff_toInt_lt]; rw [Int32.le_iff_toInt_le] at c2; omega
    have hF : ((1 : Int32), f) = F_lhan s k f := by unfold F_lhan; rw [if_neg c0, if_neg c2]
    refine lv_aload_n hx hb d_La_handle_0 rfl (lv_at hl 2 rfl) ?_
    refine lv_iconst (v := 0) hx hb d_La_handle_1 (by decide) ?_
    refine lv_aload_n hx hb d_La_handle_2 rfl (lv_at hl 0 rfl) ?_
    refine lv_iload_n hx hb d_La_handle_3 rfl (lv_at hl 1 rfl) ?_
    refine W.eq (g2 := F0 m 4 ls (([.int k] : List Value).reverse ++ .ref (A.h 0) :: [.int 0, .ref oa])) rfl ?_
    refine cl_T (own := R_La) (X9 := ISN) ⟨hx, hb, hml, hown, hts⟩ (x_handleT l G cI cL cZ cR cE htr Bz A s k c0 c1) (cwV 1 hts (gV kw_539 kw_540 kw_541 kw_15 kw_542) rfl rfl rfl (by decide +kernel) ⟨Nat.le_of_ble_eq_true rfl, Nat.le_of_ble_eq_true rfl⟩) ⟨blindT, va_recv hK (FW_hr (va_P.rg hP)) (ci := 5) rfl (show (WH cI cL cZ cR cE A s)[0]? = some (A.h 0, .inr (5, _)) from rfl), fun U hU hW => ⟨rfl, by rw [hU]; exact va_P.rg hP, va_K.moved hW.alike hK, hN.warm hW, hTW.keep hW (fun q _ => by rw [hU, hHs])⟩⟩ rfl hl.1 (Nat.le_of_ble_eq_true rfl) d_La_handle_4 ⟨Nat.le_of_ble_eq_true rfl, Nat.le_of_ble_eq_true rfl⟩ htab ⟨by decide, by decide⟩ (by decide) hk_1 (fun v H1 hz1 hk1 => ?_)
    have hP1 : va_P G vwCl (([(oa, .inl (cL, 1, .inr (.inl f)))] : va_W) ++ FW cI cL cZ cR cE A s) H1 := fun i q hq => (hP i q hq).kept (hk1 q.1 (hP i q hq).lt)
    have hS1 : va_S A0 s_.heap H1 locs := ⟨Nat.le_trans hS.1 hz1, fun q h1 h2 => by rw [hk1 q (Nat.lt_of_lt_of_le h1 hS.1)]; exact hS.2.1 q h1 h2, hS.2.2⟩
    refine lv_astore_n (lv' := [(3, .ref v), (0, .ref (A.h 0)), (1, .int k), (2, .ref oa)]) hx hb d_La_handle_12 rfl hl (by decide) rfl (fun ls hl => ?_)
    refine lv_iconst (v := 1) hx hb d_La_handle_13 (by decide) ?_
    refine W.widen (k := 1) (n := 6) (by omega) (by omega) ?_
    exact W.iret (v := 1) hx hb hr (fun t ht hW => ⟨⟨1, f, rfl, hF, by rw [ht]; exact hP1, va_K.moved hW.alike hK, hD⟩, hS1.F ht⟩) hS1.2.2 d_La_handle_14
  · have hno : k < 0 ∨ s.hc ≤ k := by
      by_cases c0 : k < 0
      · exact Or.inl c0
      · exact Or.inr (Classical.byContradiction fun g => hth ⟨c0, g⟩)
    have hF : ((0 : Int32), vp_updL f (0 : Int32).toNatClampNeg (-102)) = F_lhan s k f := by
      unfold F_lhan
      by_cases c0 : k < 0
      · rw [if_pos c0]
        rfl
      · rw [if_neg c0, if_pos (hno.resolve_left c0)]
        rfl
    refine lv_aload_n hx hb d_La_handle_0 rfl (lv_at hl 2 rfl) ?_
    refine lv_iconst (v := 0) hx hb d_La_handle_1 (by decide) ?_
    refine lv_aload_n hx hb d_La_handle_2 rfl (lv_at hl 0 rfl) ?_
    refine lv_iload_n hx hb d_La_handle_3 rfl (lv_at hl 1 rfl) ?_
    refine vp_callSi (W.runV (As := [.int k]) (rest := [.int 0, .ref oa]) ⟨hx, hb, hml, hown, hts⟩ (x_handle l G cI cL cZ cR cE A s k hno) (cwV 1 hts (gV kw_539 kw_540 kw_541 kw_15 kw_542) rfl rfl rfl (by decide +kernel) ⟨Nat.le_of_ble_eq_true rfl, Nat.le_of_ble_eq_true rfl⟩) (preRV_w (ci := 5) hN hK (va_P.rg hP) (FW_hr (va_P.rg hP)) rfl rfl) rfl rfl hl.1 rfl (lv_room (Nat.le_of_ble_eq_true rfl)) d_La_handle_4 ⟨Nat.zero_le _, Nat.zero_le _⟩) (fun r_0 hw => ?_)
    subst hw
    refine lv_i2l (v := (-102)) hx hb d_La_handle_7 (by decide) ?_
    refine va_last hx hb hK hP hD hS 0 1 rfl rfl (by unfold vp_in; decide) d_La_handle_8 (fun H locs hP hD hS => ?_)
    replace hP : va_P G vwCl (([(oa, .inl (cL, 1, .inr (.inl (vp_updL f (0 : Int32).toNatClampNeg (-102)))))] : va_W) ++ FW cI cL cZ cR cE A s) H := hP
    replace hD : va_D A0 (([(oa, .inl (cL, 1, .inr (.inl (vp_updL f (0 : Int32).toNatClampNeg (-102)))))] : va_W) ++ FW cI cL cZ cR cE A s) := hD
    refine lv_goto (tgt := 15) hx hb d_La_handle_9 (by decide) ?_
    refine lv_iconst (v := 0) hx hb d_La_handle_15 (by decide) ?_
    refine W.widen (k := 1) (n := 6) (by omega) (by omega) ?_
    exact W.iret (v := 0) hx hb hr (fun t ht hW => ⟨⟨0, vp_updL f (0 : Int32).toNatClampNeg (-102), rfl, hF, by rw [ht]; exact hP, va_K.moved hW.alike hK, hD⟩, hS.F ht⟩) hS.2.2 d_La_handle_16
