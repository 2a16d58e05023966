theorem arr_prim {ty : FieldType} {args : Array Value} {s : State} (h : (Cond.arrayClass ty).before args s = true) : ∃ cA : ClassId, ArrOfT s cA ty ∧ s.vm.findClass ("[" ++ ty.toString) = some cA := by
  obtain ⟨cA, kA, comp, h1, h2, h3⟩ := Cond.arrayClass_spec h
  exact ⟨cA, fun n z => ⟨fun k h => (by cases h), kA, h2, comp, h3⟩, h1⟩
theorem arr_obj {C : String} {s : State} (h : va_AO C s) : ∃ cA : ClassId, ArrOfT s cA (.object C) ∧ va_RA s cA (.object C) := by
  obtain ⟨comp, c, k, h1, h2, h3, h4, h5⟩ := Cond.arrayOver_spec h
  exact ⟨c, fun n z => ⟨fun k h => (by cases h), k, h3, comp, h4⟩, k, comp, h3, h4, h1, h5⟩
theorem nest_tbl : ∀ q ∈ nestL, Cond.methodLinkNest q.1 q.2.1 q.2.2.1 q.2.2.2 ∈ lw_tbl := by decide +kernel
theorem ao_Ru : Cond.arrayOver (.object R_Ru) ∈ lw_tbl := by decide +kernel
theorem ao_Ed : Cond.arrayOver (.object R_Ed) ∈ lw_tbl := by decide +kernel
theorem sr_AE : Cond.stringRef R_Hr 184 "a quotient by 0" ∈ lw_tbl := by decide +kernel
theorem sr_IS : Cond.stringRef R_Hr 198 "the call of this handle is over" ∈ lw_tbl := by decide +kernel
theorem de_1 : Cond.declares (Bundle.initS "java/lang/RuntimeException") ∈ lw_tbl := by decide +kernel
theorem de_2 : Cond.declares (Bundle.initS "java/lang/Exception") ∈ lw_tbl := by decide +kernel
theorem de_3 : Cond.declares (Bundle.initS Bundle.tN) ∈ lw_tbl := by decide +kernel
theorem ca_1 : Cond.castable AEN AEN ∈ lw_tbl := by decide +kernel
theorem ca_2 : Cond.castable ISN ISN ∈ lw_tbl := by decide +kernel
theorem ls_1 : Cond.laysStatic Bundle.tN "UNASSIGNED_STACK" Bundle.steD ∈ lw_tbl := by decide +kernel
theorem ls_2 : Cond.laysStatic Bundle.tN "SUPPRESSED_SENTINEL" Bundle.listD ∈ lw_tbl := by decide +kernel
theorem lw_world {s : State} {args : Array Value} (h0 : ∀ w ∈ lw_tbl, w.before args s = true) (hgv : (Jvm.Cond.and given_1 narrow_1).before args s = true) : ∃ (G : va_G) (cI cL cZ cR cE : ClassId), va_K G vwCl (TYS cI cL cZ cR cE) s ∧ NW s ∧ TW s.heap.size s := by
  have hts : ∀ w ∈ GW, w.before args s = true := fun w h => h0 w (gw_tbl h)
  have hN : NW s := ⟨fun q hq => va_Nw.of rfl (h0 _ (nest_tbl q hq)), va_AO.of (h0 _ ao_Ru), va_AO.of (h0 _ ao_Ed)⟩
  obtain ⟨c0, i0, k0⟩ := u_known hts iu_An (hts _ kw_47)
  obtain ⟨c1, i1, k1⟩ := u_known hts iu_Ed (hts _ kw_118)
  obtain ⟨c2, i2, k2⟩ := u_known hts iu_Fa (hts _ kw_96)
  obtain ⟨c3, i3, k3⟩ := u_known hts iu_Ru (hts _ kw_182)
  obtain ⟨c4, i4, k4⟩ := u_known hts iu_Rn (hts _ kw_41)
  obtain ⟨c5, i5, k5⟩ := u_known hts iu_Hr (hts _ kw_29)
  obtain ⟨c6, i6, k6⟩ := u_known hts iu_Mo (hts _ kw_560)
  obtain ⟨cI, ai, ri⟩ := arr_prim (hts _ kw_60)
  obtain ⟨cL, al, rl⟩ := arr_prim (hts _ kw_59)
  obtain ⟨cZ, az, rz⟩ := arr_prim (hts _ kw_662)
  obtain ⟨cR, ar, rr⟩ := arr_obj hN.2.1
  obtain ⟨cE, ae, re⟩ := arr_obj hN.2.2
  have hflat := flat_of_before _ hgv
  refine ⟨(fun c => [c0, c1, c2, c3, c4, c5, c6].getD c 0, fun c => [i0, i1, i2, i3, i4, i5, i6].getD c i0), cI, cL, cZ, cR, cE, ⟨fun c q hq => ?_, fun k q hq => ?_⟩, hN, ?_⟩
  · match c, hq with
    | 0, hq => cases hq; exact k0
    | 1, hq => cases hq; exact k1
    | 2, hq => cases hq; exact k2
    | 3, hq => cases hq; exact k3
    | 4, hq => cases hq; exact k4
    | 5, hq => cases hq; exact k5
    | 6, hq => cases hq; exact k6
    | n + 7, hq => cases hq
  · match k, hq with
    | 0, hq => cases hq; exact ⟨ai, ri⟩
    | 1, hq => cases hq; exact ⟨al, rl⟩
    | 2, hq => cases hq; exact ⟨az, rz⟩
    | 3, hq => cases hq; exact ⟨ar, rr⟩
    | 4, hq => cases hq; exact ⟨ae, re⟩
    | n + 5, hq => cases hq
  · obtain ⟨_, _, _, q1, _, _, _, _, _, e1⟩ := Cond.stringRef_spec k5.2.1 (h0 _ sr_AE)
    obtain ⟨_, _, _, q2, _, _, _, _, _, e2⟩ := Cond.stringRef_spec k5.2.1 (h0 _ sr_IS)
    exact ⟨⟨q1, vk_R.of (h0 _ sr_AE) e1⟩, ⟨q2, vk_R.of (h0 _ sr_IS) e2⟩, va_Nw.of rfl (h0 _ de_1), va_Nw.of rfl (h0 _ de_2), va_Nw.of rfl (h0 _ de_3), va_Nw.of rfl (h0 _ ca_1), va_Nw.of rfl (h0 _ ca_2), SZ_of (h0 _ ls_1) (hflat _ (by decide +kernel)), SZ_of (h0 _ ls_2) (hflat _ (by decide +kernel))⟩
/-- from the entry, for every script of at most 3073 ints, the law comes to its end with true -/
theorem whole_start {p : Program} {e : Env} {s : State} {m : MethodId} {below : List Frame} {meth : Method} {c : Code} (l : Launch) (htr : l.stackTraces = false) {b L : Nat} {xs : Nat → Int32} (hL : L ≤ 3073) (C0 : lw_At p s m meth c b L xs) : W p l e room_1 s m #[Value.ref b] below meth c s.heap [] 0 0 (lw_Z below #[Value.ref b] s) (entryFrame m ([Value.ref b] : List Value).toArray 8) := by
  obtain ⟨hx, hb, hr, hml, hown, h0, hX, hbl, hlocks, hgv⟩ := C0
  obtain ⟨G, cI, cL, cZ, cR, cE, hK, hN, hTW⟩ := lw_world h0 hgv
  have hown' : s.vm.findClass R_La = some m.cls := hown
  have hts : ∀ w ∈ Cond.tt :: GW, w.before #[Value.ref b] s = true := fun w hw => by
    rcases List.mem_cons.mp hw with rfl | hw
    · rfl
    · exact h0 w (gw_tbl hw)
  have hl := lv_entry ([.ref b]) (n := 8) (Nat.le_of_ble_eq_true rfl)
  rw [lg_entry_eq]
  generalize (lg_sl ([.ref b]) ++ List.replicate (8 - (lg_sl ([.ref b])).length) Slot.unset).toArray = ls at hl ⊢
  replace hl : lv_has ls 8 [(0, .ref b)] := hl
  have hD0 : va_D (AL s.heap.size) [] := ⟨fun i j p q h => (by cases h), fun k q h => (by cases h)⟩
  have hP0 : va_P G vwCl [] s.heap := fun k q h => by cases h
  refine st_A hx hb hml hown' hts hK hN hX hbl hL (q0 := if L = 0 then 0 else xs 0) rfl hP0 hD0 va_S.rf hl (fun A H locs ls hP hD hS hl => ?_)
  refine st_B hx hb hml hown' hts hK hN hX hbl hL (q0 := if L = 0 then 0 else xs 0) rfl hP hD hS hl (fun Bm H locs ls hP hD hS hl => ?_)
  refine st_C hx hb hml hown' hts hK hN hX hbl hL hP hD hS hl (fun oa H locs ls hP hD hS hl => ?_)
  exact lw_loop hx hb hr hlocks hml hown' hts hK hN htr hTW hX hbl hL 512 0 rfl (rel_0 _) hP hD hS hl
set_option maxHeartbeats 4000000 in
theorem lw_walk (l : Launch) (htr : l.stackTraces = false) (b : Addr) (xs : List Int32) : MetFree l x (headSpec (Jvm.Cond.code x code maxLocals ret :: tables_1) room_1) (lw_P b xs) (fun _ _ _ _ _ => True) lw_Q := by
  refine MetFree.of_bodyS (code := code) (maxLocals := maxLocals) (ret := ret) (by decide) ?_ ?_
  · intro args s m h hn
    obtain ⟨meth, c, h1, h2, h3, h4, h5, h6, -, -⟩ := Cond.code_spec hn (atoms_spec (ws := Jvm.Cond.code x code maxLocals ret :: tables_1) h _ List.mem_cons_self)
    exact ⟨meth, c, h1, h2, h3, h4, h5, h6⟩
  · intro p e s m args below meth c s₁ B hml0 hP _
    obtain ⟨rfl, hx, hbd, hgv⟩ := hP
    obtain ⟨scr, harrAt, hlist, hof, hsmall⟩ := hx
    obtain ⟨hcb, hkn, -, -⟩ := State.arrayAt?_spec harrAt
    have hown : s.vm.findClass R_law = some m.cls := findClass_of_methodNamed B.named
    have hts0 : ∀ c ∈ (Jvm.Cond.code x code maxLocals ret :: tables_1), c.before #[Value.ref b] s = true := atoms_spec (ws := Jvm.Cond.code x code maxLocals ret :: tables_1) B.pre
    have hts : ∀ w ∈ lw_tbl, w.before #[Value.ref b] s = true := k2_hts_sels lw_privs (fun w hw => hts0 w (List.mem_cons_of_mem _ hw)) lw_privs_ok
    have hml : c.maxLocals = 8 := B.maxLocals_eq (hts0 _ List.mem_cons_self)
    have X₀ : Stand p l e room_1 s m #[Value.ref b] below meth c s₁ [] 0 0 := Stand.of_body B
    have hh0 : s₁.heap = s.heap := by rw [B.state]; rfl
    have hsz : scr.slots.size = xs.length := by rw [← Array.length_toList, hlist, List.length_map]
    have hval : ∀ j : Nat, j < xs.length → scr.slots[j]? = some (.int (xs.getD j 0)) := fun j hj => by
      rw [← Array.getElem?_toList, hlist]
      simp [hj]
    have hbl : b < s.heap.size := (Array.getElem?_eq_some_iff.mp hcb).1
    have hX : va_X b xs.length (fun j => xs.getD j 0) s s.heap := ⟨scr, hcb, hof, hkn, hsz, hval⟩
    have K : W p l e room_1 s m #[Value.ref b] below meth c s₁.heap [] 0 0 (lw_Z below #[Value.ref b] s) (entryFrame m ([Value.ref b] : List Value).toArray 8) := by
      rw [hh0]
      exact whole_start l htr hbd ⟨B.exec, B.bytes, B.returns, hml, hown, hts, hX, hbl, B.notSynchronized, hgv⟩
    obtain ⟨t, a1, o, b1, b2, b3⟩ := K s₁ rfl X₀
    exact ⟨t, o, a1, b1, b2, b3⟩
theorem lw_pre_spec {args : Array Value} {s : State} (h : (Jvm.Cond.and given_1 narrow_1).before args s = true) (hr : rest_1_c.before args s = true) : ∃ (b : Addr) (xs : List Int32), lw_P b xs args s := by
  have hs := flat_of_before _ h
  have hq := flat_of_before _ hr
  have hc : (Cond.count 1).before args s = true := hs _ (by decide +kernel)
  have harr : (Cond.arrayOf (.arg 0) .int).before args s = true := hs _ (by decide +kernel)
  have hle : (Cond.le (.length (.arg 0)) (.int 3073)).before args s = true := hs _ (by decide +kernel)
  have hlen : (Cond.isInt (.length (.arg 0))).before args s = true := hq _ (by decide +kernel)
  have hall : (Cond.all (.arg 0) (.isInt (.elem (.arg 0) (.index 0)))).before args s = true := hq _ (by decide +kernel)
  obtain ⟨b, xs, hb, hx⟩ := State.ints_of_pre rfl harr hlen hall
  have hsm : xs.length < 2 ^ 31 := hx.choose_spec.2.2.2
  have hev : (Term.length (.arg 0)).eval args s none [] s = some (.int xs.length.toInt32) := hx.length_eval hb
  have hv := Cond.le_ints hev (show (Term.int 3073).eval args s none [] s = some (.int 3073) from rfl)
  have hd : xs.length.toInt32 ≤ 3073 := by
    simpa [Cond.before, Cond.holds, hv] using hle
  have hN : xs.length ≤ 3073 := (Int32.ofNat_le_ofNat hsm (by decide)).mp (show Int32.ofNat xs.length ≤ Int32.ofNat 3073 from hd)
  exact ⟨b, xs, Cond.one_arg hc (show args[0]? = some (.ref b) from hb), hx, hN, h⟩
theorem lw_comes (l : Launch) (htr : l.stackTraces = false) : Comes l x (Jvm.Cond.code x code maxLocals ret :: tables_1) room_1 (fun tb e args s => Calls_1 tb e args s ∧ rest_1 tb e args s ∧ Pre_1 tb e args s)
    (fun _ _ args s o t => lw_Q args s o t) := by
  intro p e ha hc hk s m args below hf hfit hheap happ hpre
  obtain ⟨b, xs, hP⟩ := lw_pre_spec hpre.2.2 hpre.2.1
  obtain ⟨k, o, h1, h2, h3, hQ⟩ := lw_walk l htr b xs p e ha hc hk s m args below hf ((Spec.applies_iff_loose hf).mp happ).1 hP trivial
  exact ⟨k, o, h1, h2, h3, hQ⟩
theorem lw_frame {s t : State} {o : Outcome} {args : Array Value} (h : Framed s o t [] 601024 7293000) :
    Framed s o t (fieldLocs frame_1_writes args s ++ arrayLocs frame_1_arrays args s ++ staticLocs frame_1_statics s) 601024 7293000 := h
theorem lw_limb (L : Cond) (hL : ∀ (args : Array Value) (s t : State), L.after args s (.returned (some (.int 1))) t = true) :
    ArmFor flags0 classFile x code maxLocals ret World_1 tables_1 room_1 Calls_1 rest_1 Pre_1
      (fun tb e a s o t => postC L tb e a s o t ∧ Framed s o t (fieldLocs frame_1_writes a s ++ arrayLocs frame_1_arrays a s ++ staticLocs frame_1_statics s) 601024 7293000) := by
  intro l hfl _ _ p e ha hc hk s m args below hf hfit hheap happ hpre
  have htr : l.stackTraces = false := by
    unfold Launch.stackTraces
    rw [hfl]
    decide +kernel
  obtain ⟨k, o, h1, h2, h3, rfl, hF⟩ := lw_comes l htr p e ha hc hk s m args below hf hfit hheap happ hpre
  exact ⟨k, _, h1, h2, h3, hL args s _, lw_frame hF⟩
theorem i_vc : Claimed_1_1 ∧ Claimed_1_2 := ⟨lw_limb limb_1_1 (fun args s t => by simp [limb_1_1, Cond.after, Cond.holds, Cond.value]), lw_limb limb_1_2 (fun args s t => Cond.after_iff.mpr (by
  first | (rw [show limb_1_2 = Cond.eq .result (.int 1) from rfl, Cond.eq_ints (x := 1) (y := 1) rfl rfl]; simp; done) | (simp [limb_1_2, Cond.value, Term.eval]; done)))⟩
