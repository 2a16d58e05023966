def R_law : String := "HandlingRulesLaw"
def lw_P (b : Addr) (xs : List Int32) (args : Array Value) (s : State) : Prop := args = #[.ref b] ∧ s.IntsAt b xs ∧ xs.length ≤ 3073 ∧ (Jvm.Cond.and given_1 narrow_1).before args s = true
def lw_Q (_ : Array Value) (s : State) (o : Outcome) (t : State) : Prop := o = .returned (some (.int 1)) ∧ Framed s o t [] 601024 7293000
def lw_Z (below : List Frame) (a : Array Value) (s : State) : State → Prop := fun t => ∃ o, t.status = .running ∧ Ended t below o ∧ lw_Q a s o t
/-- the law's own end, with 1 on the stack, nothing written that was there before, its room as the claim has it -/
theorem lw_ret {p : Program} {l : Launch} {e : Env} {s : State} {m : MethodId} {below : List Frame} {meth : Method} {c : Code} {b : Nat} (hx : p.tables.exec = Jvm.exec) (hb : c.code = code) (hr : meth.sig.returnType = ret) (hlocks : meth.locks = false) {pc : Nat} {H : Heap} {ls : Array Slot} (hdg : decode code pc = .ok (.ireturn, 1)) : W p l e room_1 s m #[Value.ref b] below meth c H [] 601024 7293000 (lw_Z below #[Value.ref b] s) (F0 m pc ls [.int 1]) := by
  intro T hT X
  obtain ⟨fs, hret, hrun, hended, hW, hframe⟩ := X.leave (v := some (.int 1)) (hlocks := hlocks) (fun h => by rw [hr] at h; cases h)
  have hmeth' : T.vm.method? m = some meth := X.method'
  refine ⟨T.setFrames fs, ?_, .returned (some (.int 1)), hrun, hended, rfl, ⟨_, rfl⟩, hW, hframe⟩
  jvm_step X.here [X.here.top, hx, hb, hdg, hmeth', hr, ret, narrow_b1]
  (try refine ⟨rfl, ?_⟩); (try refine ⟨rfl, ?_⟩)
  first | (intro acts; rw [hret _ acts rfl rfl rfl]) | rw [hret _ _ rfl rfl rfl]
  exact Steps.refl _
/-- what holds at the law's entry: the machine, the code, the tables' words (any of lw_tbl by 'hts w (by decide +kernel)'), the script of L ints xs at the cell b, what the Statement gives of the start (any of its parts by flat_of_before) -/
def lw_At (p : Program) (s : State) (m : MethodId) (meth : Method) (c : Code) (b L : Nat) (xs : Nat → Int32) : Prop :=
  p.tables.exec = Jvm.exec ∧ c.code = code ∧ meth.sig.returnType = ret ∧ c.maxLocals = 8 ∧ s.vm.findClass R_law = some m.cls ∧ (∀ w ∈ lw_tbl, w.before #[Value.ref b] s = true) ∧ va_X b L xs s s.heap ∧ b < s.heap.size ∧ meth.locks = false ∧ (Jvm.Cond.and given_1 narrow_1).before #[Value.ref b] s = true
theorem lp_sub {L : Nat} (hL : L ≤ 3073) : (nI L - 6).toInt = (L : Int) - 6 := by
  have h6 : (6 : Int32).toInt = 6 := rfl
  rw [Int32.toInt_sub, nI_toInt (by omega), h6]
  rw [Int.bmod_eq_of_le (by omega) (by omega)]
theorem lp_out {L i : Nat} (hL : L ≤ 3073) (hi : i < 4000) (h : ¬ nI L - 6 < nI i) : i + 6 ≤ L := by
  rw [Int32.lt_iff_toInt_lt, lp_sub hL, nI_toInt (by omega)] at h
  omega
theorem lp_inc (i : Nat) : nI i + Int32.ofInt 6 = nI (i + 6) := by
  rw [show (Int32.ofInt 6 : Int32) = nI 6 from rfl, nI_add]
set_option maxHeartbeats 4000000 in
set_option maxRecDepth 100000 in
theorem lw_round {p : Program} {l : Launch} {e : Env} {s : State} {m : MethodId} {below : List Frame} {meth : Method} {c : Code} {b L : Nat} (hx : p.tables.exec = Jvm.exec) (hb : c.code = b_La_law) (hml : c.maxLocals = 8) (hown : s.vm.findClass R_La = some m.cls) (hts : ∀ w ∈ Cond.tt :: GW, w.before #[Value.ref b] s = true) {G : va_G} {cI cL cZ cR cE : ClassId} (hK : va_K G vwCl (TYS cI cL cZ cR cE) s) (hN : NW s) (htr : l.stackTraces = false) (hTW : TW s.heap.size s) {xs : Nat → Int32} (hX : va_X b L xs s s.heap) (hbl : b < s.heap.size) (hL : L ≤ 3073) {Bm : Nat → Nat} {oa i : Nat} (hi : i + 6 ≤ L) {cells slots : Nat} (hcs : cells + 3 ≤ 601024 ∧ slots + 34 ≤ 7293000) {Q : State → Prop} {A : CAd} {sc : CS} {t : MS} {f : Nat → Int64} {H : Heap} {locs : List Loc} {ls : Array Slot} (hR : Rel sc t) (hP : va_P G vwCl (LW cI cL cZ cR cE A sc Bm t oa f) H) (hD : va_D (AL s.heap.size) (LW cI cL cZ cR cE A sc Bm t oa f)) (hS : va_S (AL s.heap.size) s.heap H locs) (hl : lv_has ls 8 [(4, .int (nI i)), (3, .ref oa), (2, .ref (Bm 0)), (1, .ref (A.h 0)), (0, .ref b)])
    (kk : ∀ (A' : CAd) (sc' : CS) (t' : MS) (f' : Nat → Int64) (H' : Heap) (locs' : List Loc) (ls' : Array Slot), A'.h 0 = A.h 0 → Rel sc' t' → va_P G vwCl (LW cI cL cZ cR cE A' sc' Bm t' oa f') H' → va_D (AL s.heap.size) (LW cI cL cZ cR cE A' sc' Bm t' oa f') → va_S (AL s.heap.size) s.heap H' locs' → lv_has ls' 8 [(4, .int (nI i)), (3, .ref oa), (2, .ref (Bm 0)), (1, .ref (A.h 0)), (0, .ref b)] → W p l e room_1 s m #[Value.ref b] below meth c  H' locs' (cells + 3) (slots + 34) Q (F0 m 878 ls' [])) : W p l e room_1 s m #[Value.ref b] below meth c  H locs cells slots Q (F0 m 43 ls []) := by
  refine lv_aload_n hx hb d_La_law_43 rfl (lv_at hl 4 rfl) ?_
  refine lv_iload hx hb d_La_law_44 (lv_at hl 0 rfl) ?_
  refine va_sld hx hb hX hbl (Nat.not_le_of_lt hbl) hS (vp_in_nI (by omega) (by omega)) d_La_law_46 ?_
  refine lv_bipush (v := 15) hx hb d_La_law_47 (by decide) ?_
  refine lv_iand hx hb d_La_law_49 ?_
  generalize xs (nI i).toNatClampNeg &&& 15 = v
  by_cases c0 : v = 0
  · refine sw_t (x := v) (tgt := 124) hx hb d_La_law_50 (by rw [c0]; decide) ?_
    exact lw_c0 hx hb hml hown hts hK hN htr hTW hX hbl hL hi hcs hR hP hD hS hl kk
  by_cases c1 : v = 1
  · refine sw_t (x := v) (tgt := 173) hx hb d_La_law_50 (by rw [c1]; decide) ?_
    exact lw_c1 hx hb hml hown hts hK hN htr hTW hX hbl hL hi hcs hR hP hD hS hl kk
  by_cases c2 : v = 2
  · refine sw_t (x := v) (tgt := 254) hx hb d_La_law_50 (by rw [c2]; decide) ?_
    exact lw_c2 hx hb hml hown hts hK hN htr hTW hX hbl hL hi hcs hR hP hD hS hl kk
  by_cases c3 : v = 3
  · refine sw_t (x := v) (tgt := 335) hx hb d_La_law_50 (by rw [c3]; decide) ?_
    exact lw_c3 hx hb hml hown hts hK hN htr hTW hX hbl hL hi hcs hR hP hD hS hl kk
  by_cases c4 : v = 4
  · refine sw_t (x := v) (tgt := 404) hx hb d_La_law_50 (by rw [c4]; decide) ?_
    exact lw_c4 hx hb hml hown hts hK hN htr hTW hX hbl hL hi hcs hR hP hD hS hl kk
  by_cases c5 : v = 5
  · refine sw_t (x := v) (tgt := 429) hx hb d_La_law_50 (by rw [c5]; decide) ?_
    exact lw_c5 hx hb hml hown hts hK hN htr hTW hX hbl hL hi hcs hR hP hD hS hl kk
  by_cases c6 : v = 6
  · refine sw_t (x := v) (tgt := 466) hx hb d_La_law_50 (by rw [c6]; decide) ?_
    exact lw_c6 hx hb hml hown hts hK hN htr hTW hX hbl hL hi hcs hR hP hD hS hl kk
  by_cases c7 : v = 7
  · refine sw_t (x := v) (tgt := 491) hx hb d_La_law_50 (by rw [c7]; decide) ?_
    exact lw_c7 hx hb hml hown hts hK hN htr hTW hX hbl hL hi hcs hR hP hD hS hl kk
  by_cases c8 : v = 8
  · refine sw_t (x := v) (tgt := 517) hx hb d_La_law_50 (by rw [c8]; decide) ?_
    exact lw_c8 hx hb hml hown hts hK hN htr hTW hX hbl hL hi hcs hR hP hD hS hl kk
  by_cases c9 : v = 9
  · refine sw_t (x := v) (tgt := 542) hx hb d_La_law_50 (by rw [c9]; decide) ?_
    exact lw_c9 hx hb hml hown hts hK hN htr hTW hX hbl hL hi hcs hR hP hD hS hl kk
  by_cases c10 : v = 10
  · refine sw_t (x := v) (tgt := 579) hx hb d_La_law_50 (by rw [c10]; decide) ?_
    exact lw_c10 hx hb hml hown hts hK hN htr hTW hX hbl hL hi hcs hR hP hD hS hl kk
  by_cases c11 : v = 11
  · refine sw_t (x := v) (tgt := 605) hx hb d_La_law_50 (by rw [c11]; decide) ?_
    exact lw_c11 hx hb hml hown hts hK hN htr hTW hX hbl hL hi hcs hR hP hD hS hl kk
  by_cases c12 : v = 12
  · refine sw_t (x := v) (tgt := 642) hx hb d_La_law_50 (by rw [c12]; decide) ?_
    exact lw_c12 hx hb hml hown hts hK hN htr hTW hX hbl hL hi hcs hR hP hD hS hl kk
  by_cases c13 : v = 13
  · refine sw_t (x := v) (tgt := 679) hx hb d_La_law_50 (by rw [c13]; decide) ?_
    exact lw_c13 hx hb hml hown hts hK hN htr hTW hX hbl hL hi hcs hR hP hD hS hl kk
  by_cases c14 : v = 14
  · refine sw_t (x := v) (tgt := 822) hx hb d_La_law_50 (by rw [c14]; decide) ?_
    exact lw_c14 hx hb hml hown hts hK hN htr hTW hX hbl hL hi hcs hR hP hD hS hl kk
  refine sw_t (x := v) (tgt := 878) hx hb d_La_law_50 (sw_d (by decide) [0, 1, 2, 3, 4, 5, 6, 7, 8, 9, 10, 11, 12, 13, 14] (by decide) (List.forall_mem_cons.mpr ⟨sw_ne c0 rfl, (List.forall_mem_cons.mpr ⟨sw_ne c1 rfl, (List.forall_mem_cons.mpr ⟨sw_ne c2 rfl, (List.forall_mem_cons.mpr ⟨sw_ne c3 rfl, (List.forall_mem_cons.mpr ⟨sw_ne c4 rfl, (List.forall_mem_cons.mpr ⟨sw_ne c5 rfl, (List.forall_mem_cons.mpr ⟨sw_ne c6 rfl, (List.forall_mem_cons.mpr ⟨sw_ne c7 rfl, (List.forall_mem_cons.mpr ⟨sw_ne c8 rfl, (List.forall_mem_cons.mpr ⟨sw_ne c9 rfl, (List.forall_mem_cons.mpr ⟨sw_ne c10 rfl, (List.forall_mem_cons.mpr ⟨sw_ne c11 rfl, (List.forall_mem_cons.mpr ⟨sw_ne c12 rfl, (List.forall_mem_cons.mpr ⟨sw_ne c13 rfl, (List.forall_mem_cons.mpr ⟨sw_ne c14 rfl, (fun _ h => nomatch h)⟩)⟩)⟩)⟩)⟩)⟩)⟩)⟩)⟩)⟩)⟩)⟩)⟩)⟩)⟩)) ?_
  refine W.widen (k := cells + 3) (n := slots + 34) (by omega) (by omega) ?_
  exact kk A sc t f H locs ls rfl hR hP hD hS hl
set_option maxHeartbeats 4000000 in
set_option maxRecDepth 100000 in
theorem lw_loop {p : Program} {l : Launch} {e : Env} {s : State} {m : MethodId} {below : List Frame} {meth : Method} {c : Code} {b L : Nat} (hx : p.tables.exec = Jvm.exec) (hb : c.code = b_La_law) (hr : meth.sig.returnType = ret) (hlocks : meth.locks = false) (hml : c.maxLocals = 8) (hown : s.vm.findClass R_La = some m.cls) (hts : ∀ w ∈ Cond.tt :: GW, w.before #[Value.ref b] s = true) {G : va_G} {cI cL cZ cR cE : ClassId} (hK : va_K G vwCl (TYS cI cL cZ cR cE) s) (hN : NW s) (htr : l.stackTraces = false) (hTW : TW s.heap.size s) {xs : Nat → Int32} (hX : va_X b L xs s s.heap) (hbl : b < s.heap.size) (hL : L ≤ 3073) {Bm : Nat → Nat} {oa : Nat} : ∀ (mm j : Nat), mm + j = 512 → ∀ {A : CAd} {sc : CS} {t : MS} {f : Nat → Int64} {H : Heap} {locs : List Loc} {ls : Array Slot}, Rel sc t → va_P G vwCl (LW cI cL cZ cR cE A sc Bm t oa f) H → va_D (AL s.heap.size) (LW cI cL cZ cR cE A sc Bm t oa f) → va_S (AL s.heap.size) s.heap H locs → lv_has ls 8 [(4, .int (nI (1 + 6 * j))), (3, .ref oa), (2, .ref (Bm 0)), (1, .ref (A.h 0)), (0, .ref b)] → W p l e room_1 s m #[Value.ref b] below meth c  H locs (52 + 3 * j) (1573 + 34 * j) (lw_Z below #[Value.ref b] s) (F0 m 33 ls []) := by
  intro mm
  induction mm with
  | zero =>
    intro j hj A sc t f H locs ls hR hP hD hS hl
    refine lv_iload hx hb d_La_law_33 (lv_at hl 0 rfl) ?_
    refine lv_aload_n hx hb d_La_law_35 rfl (lv_at hl 4 rfl) ?_
    refine va_slen hx hb hX hbl (Nat.not_le_of_lt hbl) hS d_La_law_36 ?_
    refine lv_bipush (v := 6) hx hb d_La_law_37 (by decide) ?_
    refine lv_isub hx hb d_La_law_39 ?_
    refine lv_icmp_gt (tgt := 884) hx hb d_La_law_40 (by decide) (fun g => ?_) (fun g => ?_)
    · refine lv_iconst (v := 1) hx hb d_La_law_884 (by decide) ?_
      refine va_forget (fun q hq => hS.2.2 q hq) ?_
      refine W.widen (k := 601024) (n := 7293000) (by omega) (by omega) ?_
      exact lw_ret hx hb hr hlocks d_La_law_885
    · exact absurd (lp_out hL (by omega) g) (by omega)
  | succ mm ih =>
    intro j hj A sc t f H locs ls hR hP hD hS hl
    refine lv_iload hx hb d_La_law_33 (lv_at hl 0 rfl) ?_
    refine lv_aload_n hx hb d_La_law_35 rfl (lv_at hl 4 rfl) ?_
    refine va_slen hx hb hX hbl (Nat.not_le_of_lt hbl) hS d_La_law_36 ?_
    refine lv_bipush (v := 6) hx hb d_La_law_37 (by decide) ?_
    refine lv_isub hx hb d_La_law_39 ?_
    refine lv_icmp_gt (tgt := 884) hx hb d_La_law_40 (by decide) (fun g => ?_) (fun g => ?_)
    · refine lv_iconst (v := 1) hx hb d_La_law_884 (by decide) ?_
      refine va_forget (fun q hq => hS.2.2 q hq) ?_
      refine W.widen (k := 601024) (n := 7293000) (by omega) (by omega) ?_
      exact lw_ret hx hb hr hlocks d_La_law_885
    · have hi := lp_out (i := 1 + 6 * j) hL (by omega) g
      refine lw_round hx hb hml hown hts hK hN htr hTW hX hbl hL hi ⟨by omega, by omega⟩ hR hP hD hS hl (fun A2 sc2 t2 f2 H2 locs2 ls2 hh hR2 hP2 hD2 hS2 hl2 => ?_)
      refine lv_iinc (v := nI (1 + 6 * (j + 1))) (lv' := [(4, .int (nI (1 + 6 * (j + 1)))), (3, .ref oa), (2, .ref (Bm 0)), (1, .ref (A.h 0)), (0, .ref b)]) hx hb d_La_law_878 hl2 (k := 0) rfl ((lp_inc (1 + 6 * j)).trans (by congr 1)) (by decide) rfl (fun ls3 hl3 => ?_)
      refine lv_goto (tgt := 33) hx hb d_La_law_881 (by decide) ?_
      rw [← hh] at hl3
      exact ih (j + 1) (by omega) hR2 hP2 hD2 hS2 hl3
