theorem go_cold {E : CtlPost} {e : Env} {d : Bool} {acts : List Action} {s : State} {f : JFrame} {a : Addr} {Q : Handler → Pre} {x : ExceptionTableEntry} {t : List ExceptionTableEntry} {c : ClassId} {cell : Cell} {vm' : Vm} (hx : covers x f.pc = true) (h0 : x.catchType ≠ 0)
    (hg : (Jvm.resolveClass f.method.cls x.catchType).Gives e.toSetting s.vm (.ok c) vm') (hsz : vm'.classes.size ≤ s.vm.classes.size) (hcell : s.heap[a]? = some cell) (hobj : ∀ k, cell.vm ≠ .statics k) (hk : ∃ k, vm'.classes[cell.cls]? = some k) (hc : ∃ k, vm'.classes[c]? = some k) (hfit : vm'.assignable cell.cls c = true) :
    wp (findHandler.go f a (x :: t)) Q E e d acts s ↔ Q (.found x.handlerPc) d acts (s.setVm vm') := by
  simp only [covers] at hx
  obtain ⟨ha, ht⟩ := hg.op (op := VmOp.resolveClass f.method.cls x.catchType) rfl
  simp [findHandler.go, hx, h0, ha, ht, hsz, hcell, hobj, hk, hc, hfit, VmOp.dirties, VmOp.acts]
def FindsV (e : Env) (s : State) (f : JFrame) (a : Addr) (pc : Nat) (vm' : Vm) : Prop :=
  ∀ (Q : Handler → Pre) (E : CtlPost) (d : Bool) (acts : List Action), wp (findHandler f a) Q E e d acts s ↔ Q (.found pc) d acts (s.setVm vm')
theorem catchV {e : Env} {s : State} {a : Addr} {f : JFrame} {r : List Frame} {pc : Nat} {vm' : Vm} (hfind : FindsV e s f a pc vm') :
    (stepThrowing e s a (.java f :: r)).Is ((s.setVm vm').setFrames (.java { f with pc := pc, stack := [.ref a] } :: r)) [] := by
  simp only [stepThrowing, searchFrame, vmDo]
  generalize hr : Sem.go _ e false [] s = res
  obtain ⟨as, rfl, ha⟩ := Sem.eq_ok_of hr (a := Handler.found pc) (s' := s.setVm vm') (acts' := []) (by simp [hfind _ _ _ _])
  exact ⟨rfl, ha⟩
theorem caughtV {tb : Tables} [Ours tb] {e : Env} {s target : State} {g : JFrame} {c : Code} {below : List Frame} {a : Addr} (h : At s g.method c below) {pc : Nat} {vm' : Vm} (hfind : FindsV e ((s.setTop g).pushFrame (.throwing a)) g a pc vm')
    (hrest : Steps tb e below ((s.setVm vm').setTop { g with pc := pc, stack := [.ref a] }) target) :
    Steps tb e below ((s.setTop g).pushFrame (.throwing a)) target := by
  obtain ⟨hgo, hw⟩ := h.throwing a
  refine Steps.head hgo hw ?_
  rw [stepThread_throwing (frames_entered h.top _), (catchV (s := (s.setTop g).pushFrame (.throwing a)) hfind).1]
  obtain ⟨g₀, hg⟩ := Option.isSome_iff_exists.mp h.top
  obtain ⟨r, hr⟩ := State.topJava?_eq_some.mp hg
  have hr' : (s.setVm vm').frames = .java g₀ :: r := hr
  rw [State.setTop_of_frames _ hr'] at hrest
  rw [State.pushFrame, State.setTop_of_frames _ hr, State.setFrames_setFrames]
  rw [hr]
  have e1 : ∀ F1 F2 : List Frame, ((s.setFrames F1).setVm vm').setFrames F2 = (s.setVm vm').setFrames F2 := fun F1 F2 => by
    rw [show (s.setFrames F1).setVm vm' = (s.setVm vm').setFrames F1 from rfl, State.setFrames_setFrames]
  rw [e1]
  exact hrest
def AEN : String := "java/lang/ArithmeticException"
def ISN : String := "java/lang/IllegalStateException"
def chN : List String := ["java/lang/RuntimeException", "java/lang/Exception"]
def spL : List Cond := [.laysStatic Bundle.tN "UNASSIGNED_STACK" Bundle.steD, .laysStatic Bundle.tN "SUPPRESSED_SENTINEL" Bundle.listD, .isRef (.static Bundle.tN "UNASSIGNED_STACK" Bundle.steD), .isRef (.static Bundle.tN "SUPPRESSED_SENTINEL" Bundle.listD), .declares (Bundle.initS "java/lang/RuntimeException"), .declares (Bundle.initS "java/lang/Exception"), .declares (Bundle.initS Bundle.tN), .castable AEN AEN, .castable ISN ISN]
theorem own_of {L : List Cond} (h : L.all (fun w => (decide (w ∈ lw_tbl) && goodWord w) || decide (w ∈ spL)) = true) : ∀ w ∈ L, w ∈ GW ∨ w ∈ spL := fun w hw => by
  have h1 := List.all_eq_true.mp h w hw
  simp only [Bool.or_eq_true, Bool.and_eq_true, decide_eq_true_eq] at h1
  rcases h1 with h1 | h1
  · exact Or.inl (List.mem_filter.mpr h1)
  · exact Or.inr h1
theorem ow_AE : ∀ w ∈ Bundle.ownAtoms R_Hr 186 AEN chN, w ∈ GW ∨ w ∈ spL := own_of (by decide +kernel)
theorem ow_IS : ∀ w ∈ Bundle.ownAtoms R_Hr 200 ISN chN, w ∈ GW ∨ w ∈ spL := own_of (by decide +kernel)
/-- a static of Throwable, in a cell below B: laid, and a reference -/
def SZ (n d : String) (B : Nat) (U : State) (H : Heap) : Prop := ∃ (c : ClassId) (k : Class) (i : Nat) (f : Field) (a : Nat) (cell : Cell), U.vm.findClass Bundle.tN = some c ∧ U.fieldFound? Bundle.tN n d = some (c, k, i, f) ∧ f.isStatic = true ∧ k.statics = some a ∧ H[a]? = some cell ∧ cell.vm.isStatics = true ∧ cell.cls = c ∧ f.slot < cell.slots.size ∧ k.staticTypes[f.slot]? = some f.type ∧ (∃ u : RefV, cell.slots[f.slot]? = some u.v) ∧ a < B
theorem SZ.moved {n d : String} {B : Nat} {u U : State} {H : Heap} (hvm : u.vm.Alike U.vm) (h : SZ n d B u H) : SZ n d B U H := by
  obtain ⟨c, k, i, f, a, cell, h1, h2, h3, h4, h5, h6, h7, h8, h9, h10, h11⟩ := h
  obtain ⟨k', hi', he⟩ := State.fieldFound?_setVm hvm h2
  exact ⟨c, k', i, f, a, cell, by rw [hvm.findClass]; exact h1, hi', h3, by rw [he]; exact h4, h5, h6, h7, h8, by rw [he]; exact h9, h10, h11⟩
theorem SZ.kept {n d : String} {B : Nat} {U : State} {H H1 : Heap} (h : SZ n d B U H) (hq : ∀ a : Nat, a < B → H1[a]? = H[a]?) : SZ n d B U H1 := by
  obtain ⟨c, k, i, f, a, cell, h1, h2, h3, h4, h5, h6, h7, h8, h9, h10, h11⟩ := h
  exact ⟨c, k, i, f, a, cell, h1, h2, h3, h4, by rw [hq a h11]; exact h5, h6, h7, h8, h9, h10, h11⟩
theorem SZ.lays {n d : String} {B : Nat} {U : State} {args : Array Value} (h : SZ n d B U U.heap) : (Cond.laysStatic Bundle.tN n d).before args U = true := by
  obtain ⟨c, k, i, f, a, cell, h1, h2, h3, h4, h5, h6, h7, h8, h9, h10, h11⟩ := h
  simp [Cond.before, Cond.holds, Cond.value, h1, h2, h3, h4, h5, h6, h7, h8, h9]
theorem SZ.isref {n d : String} {B : Nat} {U : State} {args : Array Value} (h : SZ n d B U U.heap) : (Cond.isRef (.static Bundle.tN n d)).before args U = true := by
  obtain ⟨c, k, i, f, a, cell, h1, h2, h3, h4, h5, h6, h7, h8, h9, ⟨u, h10⟩, h11⟩ := h
  have he : (Term.static Bundle.tN n d).eval args U none [] U = cell.slots[f.slot]? := by
    simp [Term.eval, State.fieldNamed?, h2, h3, h4, h5, h6]
  simp only [Cond.before, Cond.holds, Cond.value]
  rw [he, h10]
  obtain ⟨v, hv⟩ := u
  cases v with
  | null => rfl
  | ref x => rfl
  | _ => cases hv
theorem SZ_of {n d : String} {s : State} {args : Array Value} (hl : (Cond.laysStatic Bundle.tN n d).before args s = true) (h : (Cond.isRef (.static Bundle.tN n d)).before args s = true) : SZ n d s.heap.size s s.heap := by
  obtain ⟨c, k, i, f, a, cell, h1, h2, h3, h4, h5, h6, h7, h8, h9⟩ := Cond.laysStatic_spec hl
  exact ⟨c, k, i, f, a, cell, h1, h2, h3, h4, h5, h6, h7, h8, h9, Cond.staticRefV h2 h3 h4 h5 h6 h, (Array.getElem?_eq_some_iff.mp h5).1⟩
/-- what the two throws want of the tables and of the cells below B -/
def TW (B : Nat) (U : State) : Prop := (∃ q, vk_R R_Hr 184 "a quotient by 0" q U) ∧ (∃ q, vk_R R_Hr 198 "the call of this handle is over" q U) ∧ va_Nw (.declares (Bundle.initS "java/lang/RuntimeException")) U ∧ va_Nw (.declares (Bundle.initS "java/lang/Exception")) U ∧ va_Nw (.declares (Bundle.initS Bundle.tN)) U ∧ va_Nw (.castable AEN AEN) U ∧ va_Nw (.castable ISN ISN) U ∧ SZ "UNASSIGNED_STACK" Bundle.steD B U U.heap ∧ SZ "SUPPRESSED_SENTINEL" Bundle.listD B U U.heap
theorem TW.keep {B : Nat} {s U : State} (h : TW B s) (hW : s.WarmedH U.vm) (hh : ∀ q, q < B → U.heap[q]? = s.heap[q]?) : TW B U := by
  obtain ⟨⟨q1, h1⟩, ⟨q2, h2⟩, h3, h4, h5, h6, h7, h8, h9⟩ := h
  exact ⟨⟨q1, h1.warm hW⟩, ⟨q2, h2.warm hW⟩, h3.warmD hW, h4.warmD hW, h5.warmD hW, h6.warmC hW, h7.warmC hW, (h8.moved hW.alike).kept hh, (h9.moved hW.alike).kept hh⟩
theorem TW.own {B : Nat} {s : State} {args : Array Value} {c : Cond} {L : List Cond} (h : TW B s) (hts : ∀ w ∈ c :: GW, w.before args s = true) (hL : ∀ w ∈ L, w ∈ GW ∨ w ∈ spL) : ∀ w ∈ L, w.before args s = true := fun w hw => by
  obtain ⟨-, -, h3, h4, h5, h6, h7, h8, h9⟩ := h
  rcases hL w hw with g | g
  · exact hts w (List.mem_cons_of_mem _ g)
  · unfold spL at g
    simp only [List.mem_cons, List.not_mem_nil, or_false] at g
    rcases g with rfl | rfl | rfl | rfl | rfl | rfl | rfl | rfl | rfl
    · exact h8.lays
    · exact h9.lays
    · exact h8.isref
    · exact h9.isref
    · exact va_Nw.use rfl h3
    · exact va_Nw.use rfl h4
    · exact va_Nw.use rfl h5
    · exact va_Nw.use rfl h6
    · exact va_Nw.use rfl h7
-- contracts of methods that end in a throw
def MetT (l : Launch) (y : MethodName) (ws : List Cond) (rm : Jvm.Room) (Pc : Array Value → State → Prop) (Qc : Array Value → State → Outcome → State → Prop) (mc ms : Nat) : Prop :=
  MetFree l y (headSpec ws rm) Pc (fun _ _ _ _ _ => True) (fun a st o t => Qc a st o t ∧ FrameEndT st o t [] mc ms)
def MQT (below : List Frame) (Qc : Array Value → State → Outcome → State → Prop) (a : Array Value) (s : State) (mc ms : Nat) : State → Prop := fun t =>
  ∃ o, t.status = .running ∧ Ended t below o ∧ Qc a s o t ∧ FrameEndT s o t [] mc ms
theorem MetT.ofW {l : Launch} {y : MethodName} {ws ws' : List Cond} {rm : Jvm.Room} {Pc : Array Value → State → Prop} {Qc : Array Value → State → Outcome → State → Prop} {mc ms : Nat} {cc : ByteArray} {maxL : Nat} {ret : Option FieldType}
    (hy : plainName y.cls = true) (hw : ws = Cond.code y cc maxL ret :: ws')
    (body : ∀ p e s m args below meth c s₁, BodyLoose p l y (headSpec ws rm) cc maxL ret e s m args below meth c s₁ → c.maxLocals = maxL → Pc args s →
      W p l e (headSpec ws rm).room s m args below meth c s.heap [] 0 0 (MQT below Qc args s mc ms) (entryFrame m args maxL)) : MetT l y ws rm Pc Qc mc ms := by
  refine MetFree.of_bodyS (code := cc) (maxLocals := maxL) (ret := ret) hy ?_ ?_
  · intro args s m h hn
    obtain ⟨meth, c, h1, h2, h3, h4, h5, h6, -, -⟩ := Cond.code_spec hn (atoms_spec (ws := ws) h _ (by rw [hw]; exact List.mem_cons_self))
    exact ⟨meth, c, h1, h2, h3, h4, h5, h6⟩
  · intro p e s m args below meth c s₁ B hml hP _
    have hh0 : s₁.heap = s.heap := by rw [B.state]; rfl
    obtain ⟨t, a1, o, b1, b2, b3⟩ := body p e s m args below meth c s₁ B hml hP s₁ hh0 (Stand.of_body B)
    exact ⟨t, o, a1, b1, b2, ⟨b3.1, b3.2⟩⟩
/-- it threw an object of class X, new; what was there is as it was -/
def QT (X : String) : Array Value → State → Outcome → State → Prop := fun _ st o t => ∃ (x : Addr) (ce : Cell) (k : Class), o = .threw x ∧ st.heap.size ≤ x ∧ (∀ q : Nat, q < st.heap.size → t.heap[q]? = st.heap[q]?) ∧ st.heap.size ≤ t.heap.size ∧ t.heap[x]? = some ce ∧ st.vm.findClass X = some ce.cls ∧ st.vm.classes[ce.cls]? = some k ∧ st.vm.assignable ce.cls ce.cls = true ∧ ce.vm = .none
theorem same_heap {s t : State} {cells slots : Nat} (h : s.sameButNew ({ t with vm := s.vm } : State) [] cells slots) : s.heap.size ≤ t.heap.size ∧ ∀ q : Nat, q < s.heap.size → t.heap[q]? = s.heap[q]? := by
  obtain ⟨-, h2, -, -, -, h6⟩ := h
  refine ⟨h2, fun q hq => ?_⟩
  obtain ⟨c', g1, g2, g3, g4⟩ := h6 q s.heap[q] (Array.getElem?_eq_getElem hq)
  have e : c'.slots = s.heap[q].slots := by
    apply Array.ext_getElem?
    intro i
    exact g4 i (fun z => nomatch z)
  have e2 : c' = s.heap[q] := by rw [g2, e]
  have g1' : t.heap[q]? = some c' := g1
  rw [g1', e2, Array.getElem?_eq_getElem hq]
section THR
variable {p : Program} {l : Launch} {e : Env} {R : Jvm.Room} {s : State} {m : MethodId} {args : Array Value} {below : List Frame} {meth : Method} {c : Code} {H : Heap} {locs : List Loc} {cells slots : Nat} {Q : State → Prop}
theorem notrace (hl : l.stackTraces = false) (h : l.admits e) : e.platform.stackTraces = false := by
  have : e.platform.stackTraces = l.stackTraces := by rw [h.platform]
  rw [this]; exact hl
theorem W.thr {cc : ByteArray} (hexec : p.tables.exec = Jvm.exec) (htr : l.stackTraces = false) (hb : c.code = cc) {own cls : String} {names : List String} {ic : Nat}
    (hown : s.vm.findClass own = some m.cls) (hcls : Bundle.fit cls = true) (hnames : ∀ n ∈ names, Bundle.fit n = true) (hat : ∀ a ∈ Bundle.ownAtoms own ic cls names, a.before args s = true)
    {a : Addr} {cX : ClassId} {kX : Class} (hfX : s.vm.findClass cls = some cX) (hkX : s.vm.classes[cX]? = some kX) (hcell : H[a]? = some (freshCell cX kX)) (hnew : s.heap.size ≤ a)
    {msg : Value} (hmsg : msg.isRef = true) {pc : Nat} {ls : Array Slot} (hsz : ls.size = c.maxLocals) (hd6 : decode cc pc = .ok (.invokespecial ic, 3)) (hd9 : decode cc (pc + 3) = .ok (.athrow, 1)) (hout : c.exceptionTable.isEmpty = true)
    (hRf : names.length + 3 < R.frames) (hRl : 1 + (13 * (names.length + 1) + 42) ≤ R.locals) (hlocks : meth.locks = false) :
    W p l e R s m args below meth c H [] cells slots (MQT below (QT cls) args s cells slots) (F0 m pc ls [msg, .ref a, .ref a]) := by
  intro T hT X
  subst hb
  have htab : c.exceptionTable.toList = [] := by
    have := Array.isEmpty_iff.mp hout
    rw [this]
  obtain ⟨U, st, hrun, hend, hW, hsame, ce, hce, hoc⟩ := X.ctorThrowS hexec (notrace htr X.admits) hown hcls hnames hat (fun x hx => nomatch hx) hfX hkX (by rw [hT]; exact hcell) hnew hmsg (g := F0 m pc ls [msg, .ref a, .ref a]) rfl hsz rfl rfl (rest := []) rfl hd6 hd9 (fun x hx => by rw [htab] at hx; cases hx) hRf (by show 0 + 1 + (13 * (names.length + 1) + 42) ≤ R.locals; omega) hlocks
  obtain ⟨h1, h2⟩ := same_heap hsame
  have hcc := hoc.cls
  rw [hfX] at hcc
  have hcc' := Option.some.inj hcc
  exact ⟨U, st, .threw a, hrun, hend, ⟨a, ce, kX, rfl, hnew, h2, h1, hce, by rw [← hcc']; exact hfX, by rw [← hcc']; exact hkX, hoc.self, hoc.vm⟩, ⟨⟨a, rfl⟩, hW, hsame⟩⟩
/-- the payer -/
theorem backT {y : MethodName} {sargs : Array Value} {len W9 : Nat} {ws : List Cond} {rm : Jvm.Room} {Pc : Array Value → State → Prop} {Qc : Array Value → State → Outcome → State → Prop} {mc ms : Nat} {bytes : ByteArray} {maxL : Nat} {ret : Option FieldType}
    (hM : MetT l y ws rm Pc Qc mc ms) (hblind : FrameBlind Pc) (hrc : rm.cells = mc) (hrs : rm.slots = ms)
    (hframes : rm.frames + 1 ≤ R.frames) (hlocals : W9 + (maxL + 11) + rm.locals ≤ R.locals)
    (hws : ∀ w ∈ ws, ∀ a' U, s.WarmedH U.vm → w.before a' U = true) (hcode : Cond.code y bytes maxL ret ∈ ws) (hinit : ∀ a' U, s.WarmedH U.vm → (Cond.initialized y.cls).before a' U = true) :
    BackT l R p e below s sargs y len W9 (PreOf R mc ms Pc) (fun A a v B => ∃ (g : JFrame) (mk : MethodId) (t : State), B.U.heap = t.heap ∧ B.U.vm = t.vm ∧ Qc a (A.U.calling g mk a) (.threw v) t ∧ B.locs = A.locs ++ [] ∧ B.cells = A.cells + mc ∧ B.slots = A.slots + ms) := by
  refine BackT.of_free (S := headSpec ws rm) (P := Pc) (K := fun _ _ _ _ _ => True) (Q := fun a st o t => Qc a st o t ∧ FrameEndT st o t [] mc ms) (bytes := bytes) (maxL := maxL) (ret := ret)
    (E := fun a st o t L k n => k = mc ∧ n = ms ∧ L = []) hM hframes hlocals ?_ ?_ (fun _ _ _ _ _ _ _ _ _ => trivial) ?_ ?_
  · intro m meth c A a X hp
    exact ⟨atoms_intro fun w hw => hws w hw _ _ X.warmed, hws _ hcode _ _ X.warmed, hinit _ _ X.warmed, by rw [show (headSpec ws rm).room.cells = mc from hrc]; exact hp.1, by rw [show (headSpec ws rm).room.slots = ms from hrs]; exact hp.2.1⟩
  · intro m meth c A a g mk X hp
    exact hblind _ _ _ _ hp.2.2
  · intro a st o t ⟨hq, hF⟩
    exact ⟨[], mc, ms, hF, rfl, rfl, rfl⟩
  · intro m meth c A a g mk v t L k n X hp hq hF ⟨e1, e2, e3⟩
    subst e1; subst e2; subst e3
    exact ⟨g, mk, t, rfl, rfl, hq.1, rfl, rfl, rfl⟩
end THR
section THC
variable {p : Program} {l : Launch} {e : Env} {R : Jvm.Room} {s : State} {m : MethodId} {args : Array Value} {below : List Frame} {meth : Method} {c : Code} {H : Heap} {locs : List Loc} {cells slots : Nat} {Q : State → Prop}
/-- a virtual call that throws an X, caught here -/
theorem cl_T {cc : ByteArray} {nL : Nat} {Ts : List Cond} {own C X9 : String} {index n maxL mc ms : Nat} {y : MethodName} {bytes : ByteArray} {ret : Option FieldType} {ws : List Cond} {rm : Jvm.Room} {Pc : Array Value → State → Prop} {b : Addr} {As rest : List Value} {pc : Nat} {ls : Array Slot}
    (S : CallFix p m c cc nL s args Ts own) (hM : MetT l y ws rm Pc (QT X9) mc ms) (cw : CallW R s args own C index y bytes maxL ret ws rm mc ms n) (hp : PreV s H C b Pc As)
    (hn : As.length = n) (hsize : ls.size = nL) (hW : (rest.map fun v => v.category).sum ≤ 8) (hdg : decode cc pc = .ok (.invokevirtual index, 3)) (hf : cells + mc ≤ R.cells ∧ slots + ms ≤ R.slots)
    {sp ep hpc ct : Nat} (htab : c.exceptionTable.toList.map (fun h => (h.startPc, h.endPc, h.handlerPc, h.catchType)) = [(sp, ep, hpc, ct)]) (hcov : sp ≤ pc ∧ pc < ep) (hct : ct ≠ 0) (hcl : (Cond.classLink own ct X9).before args s = true)
    (kk : ∀ (v : Addr) (H1 : Heap), H.size ≤ H1.size → (∀ q : Nat, q < H.size → H1[q]? = H[q]?) → W p l e R s m args below meth c H1 locs (cells + mc) (slots + ms) Q (F0 m hpc ls [.ref v])) :
    W p l e R s m args below meth c H locs cells slots Q (F0 m pc ls (As.reverse ++ .ref b :: rest)) := by
  obtain ⟨⟨hrc, hrs, hfr, hlo, hws, hcw, hcode, hini, hy, hlen, hl⟩, hin, hse⟩ := cw
  obtain ⟨hx, hb, hml, ho, -⟩ := S
  obtain ⟨hbl, ⟨cellB, hcB, hoB, hclB⟩, hPc⟩ := hp
  have hK := backT (p := p) (e := e) (below := below) (sargs := args) (len := 3) (W9 := 8) (bytes := bytes) (maxL := maxL) (ret := ret) hM hbl hrc hrs hfr hlo hws hcw (fun a' U hW => word_at hW (Or.inl (by first | rfl | simp [Cond.onTables, Cond.keeps, Cond.steady])) hini)
  intro T hT X
  obtain ⟨mk, methM, hnamed, hmethM, hstM, habM⟩ := Cond.instanceMethod_spec hin
  obtain ⟨methM', cM, hmethM', -, -, -, -, -, -, hsigM⟩ := Cond.code_spec hnamed hcode
  cases hmethM.symm.trans hmethM'
  obtain ⟨c2, r2, m2, q1, q2, q3, q4, kP, hkP, hkPi⟩ := Cond.selects_spec hse
  cases hclB.symm.trans q1
  cases (State.methodFound?_of_named hnamed hy).symm.trans q2
  cases hnamed.symm.trans q3
  have hselP : selectMethod e.platform s.vm cellB.cls mk = .method mk := by rw [Launch.admits_selectMethod X.admits]; exact q4
  have hdg' : decode c.code pc = .ok (.invokevirtual index, 3) := by rw [hb]; exact hdg
  obtain ⟨vm₁, X₁, hstep₁⟩ := X.invokevirtual hx ho hl hnamed hmethM hstM hkP hkPi hy (a := b) (cell := cellB) (by rw [hT]; exact hcB)
    (fun z h => by rw [h] at hoB; cases hoB) hselP hmethM habM hkP hkPi (g := F0 m pc ls (As.reverse ++ .ref b :: rest)) rfl (argsL := As) (rest := rest) (hn.trans (hlen _ hsigM)) rfl hdg'
  obtain ⟨v, ⟨U', l2, c2', s2⟩, X', ⟨g', mk', t, e1, e2, ⟨x, ce, kc, hth, hxn, hkeep, hsz, hce, hfX, hkc, hself, hvm⟩, h1, h2, h3⟩, hsteps⟩ := hK m meth c ⟨T.setVm vm₁, locs, cells, slots⟩ (F0 m pc ls rest) (.invokevirtual index) mk (Value.ref b :: As).toArray X₁ rfl (hsize.trans hml.symm) hdg' (by show 0 + (rest.map fun v => v.category).sum ≤ 8; omega) (X₁.named hnamed) ⟨hf.1, hf.2, hPc (T.setVm vm₁) hT X₁.warmed⟩
  cases hth
  dsimp only [Pt.U, Pt.locs, Pt.cells, Pt.slots] at X' e1 e2 h1 h2 h3 hsteps hxn hkeep hsz hfX hkc hself
  subst h2; subst h3
  rw [List.append_nil] at h1
  subst h1
  have hheap : ((T.setVm vm₁).calling g' mk' (Value.ref b :: As).toArray).heap = H := hT
  rw [hheap] at hkeep hsz hxn
  -- the catch
  have hpl : e.platform.magicAccessors = ({} : Platform).magicAccessors := by rw [X.admits.platform]
  obtain ⟨cX, hfcX, hlinks⟩ := Cond.classLink_spec ho hcl e.platform hpl
  obtain ⟨hgv, hwarm, hready⟩ := State.classEntry (e := e) X'.warmed hlinks
  have hal : s.vm.Alike ((T.setVm vm₁).calling g' mk' (Value.ref b :: As).toArray).vm := X₁.warmed.alike
  have hfX' : s.vm.findClass X9 = some ce.cls := by rw [← hal.findClass]; exact hfX
  cases Option.some.inj (hfcX.symm.trans hfX')
  have hasg : s.vm.assignable ce.cls ce.cls = true := by rw [← hal.assignable]; exact hself
  obtain ⟨k1, hk1, -⟩ := hal.symm.2.2 _ _ hkc
  obtain ⟨k2, hk2, -⟩ := hwarm.alike.2.2 _ _ hk1
  obtain ⟨xt, hxt, hxe⟩ : ∃ xt : ExceptionTableEntry, c.exceptionTable.toList = [xt] ∧ (xt.startPc, xt.endPc, xt.handlerPc, xt.catchType) = (sp, ep, hpc, ct) := by
    cases hh : c.exceptionTable.toList with
    | nil => rw [hh] at htab; cases htab
    | cons a r =>
      rw [hh] at htab
      cases r with
      | nil => exact ⟨a, rfl, (List.cons.inj htab).1⟩
      | cons a2 r2 => simp at htab
  simp only [Prod.mk.injEq] at hxe
  obtain ⟨f1, f2, f3, f4⟩ := hxe
  subst f1 f2 f3 f4
  obtain ⟨tt, ta, tb⟩ := kk v U'.heap (by rw [e1]; exact hsz) (fun q hq => by rw [e1]; exact hkeep q hq) (U'.setVm (U'.vm.noted m.cls xt.catchType (.cls ce.cls))) rfl (X'.noted hwarm)
  refine ⟨tt, hstep₁ _ fun acts => ?_, tb⟩
  rw [doInvoke_state]
  refine hsteps.trans ?_
  refine caughtV (pc := xt.handlerPc) (vm' := U'.vm.noted m.cls xt.catchType (.cls ce.cls)) X'.here ?_ ta
  intro Q9 E9 d9 a9
  rw [W.findHandler_eq (meth := meth) (code := c) (by rw [throwing_vm]; exact X'.method') X'.code, hxt]
  have h9 := go_cold (E := E9) (e := e) (d := d9) (acts := a9) (s := (U'.setTop (F0 m pc ls rest)).pushFrame (.throwing v)) (f := F0 m pc ls rest) (a := v) (Q := Q9) (x := xt) (t := []) (c := ce.cls) (cell := ce) (vm' := U'.vm.noted m.cls xt.catchType (.cls ce.cls))
    (by simp only [covers]; simp [hcov.1, hcov.2]) hct (by rw [throwing_vm]; exact hgv) (by rw [throwing_vm]; exact Nat.le_of_eq (by first | exact (X'.warmed.alike.symm.trans hwarm.alike).1.symm | simp)) (by rw [throwing_heap, e1]; exact hce) (fun k hk => by rw [hvm] at hk; cases hk) ⟨k2, hk2⟩ ⟨k2, hk2⟩ (by rw [hwarm.alike.assignable]; exact hasg)
  exact h9
end THC
