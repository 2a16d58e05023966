-- own rows over the kit: contracts' starts and ends, calls with their frame, branches on longs, switches
theorem gC {c : Cond} {y : MethodName} {b : ByteArray} {mx : Nat} {rt : Option FieldType} (h5 : Cond.code y b mx rt ∈ GW) : GoodIn (c :: GW) (Cond.code y b mx rt :: GW) := fun w hw => by
  rcases List.mem_cons.mp hw with rfl | hw
  · exact gw_good _ h5
  · exact gw_good _ hw
theorem gV {c : Cond} {own C : String} {idx : Nat} {y : MethodName} {b : ByteArray} {mx : Nat} {rt : Option FieldType} (h1 : Cond.methodLink own idx y ∈ GW) (h2 : Cond.instanceMethod y ∈ GW) (h3 : Cond.selects C y y ∈ GW) (h4 : Cond.initialized C ∈ GW) (h5 : Cond.code y b mx rt ∈ GW) : GoodIn (c :: GW) (wsV own idx C y (Cond.code y b mx rt :: GW)) := fun w hw => by
  unfold wsV at hw
  rcases List.mem_append.mp hw with hw | hw
  · simp only [List.mem_cons, List.not_mem_nil, or_false] at hw
    rcases hw with rfl | rfl | rfl | rfl
    · exact gw_good _ h1
    · exact gw_good _ h2
    · exact gw_good _ h3
    · exact gw_good _ h4
  · exact gC h5 w hw
theorem gS {c : Cond} {own : String} {idx : Nat} {y : MethodName} {b : ByteArray} {mx : Nat} {rt : Option FieldType} (h1 : Cond.methodLink own idx y ∈ GW) (h2 : Cond.static y ∈ GW) (h4 : Cond.initialized y.cls ∈ GW) (h5 : Cond.code y b mx rt ∈ GW) : GoodIn (c :: GW) (va_wsS own idx y (Cond.code y b mx rt :: GW)) := fun w hw => by
  unfold va_wsS at hw
  rcases List.mem_append.mp hw with hw | hw
  · simp only [List.mem_cons, List.not_mem_nil, or_false] at hw
    rcases hw with rfl | rfl | rfl
    · exact gw_good _ h1
    · exact gw_good _ h2
    · exact gw_good _ h4
  · exact gC h5 w hw
/-- words of nest mates, and of arrays over own classes: they hold at every state that a call comes to -/
def NW (U : State) : Prop := (∀ q ∈ nestL, va_Nw (.methodLinkNest q.1 q.2.1 q.2.2.1 q.2.2.2) U) ∧ va_AO R_Ru U ∧ va_AO R_Ed U
theorem NW.warm {s U : State} (hW : s.WarmedH U.vm) (h : NW s) : NW U := ⟨fun q hq => va_Nw.warmM hW (h.1 q hq), va_AO.moved hW.alike h.2.1, va_AO.moved hW.alike h.2.2⟩
theorem NW.calling {U : State} {g : JFrame} {mk : MethodId} {a : Array Value} (h : NW U) : NW (U.calling g mk a) := ⟨fun q hq => va_Nw.same rfl (u := U) rfl (h.1 q hq), va_AO.moved (u := U) (Vm.Alike.refl U.vm) h.2.1, va_AO.moved (u := U) (Vm.Alike.refl U.vm) h.2.2⟩
theorem nwN_0 {s : State} (h : NW s) : va_Nw (.methodLinkNest R_An 21 y_Hr_isWithin R_Hr) s := h.1 (R_An, 21, y_Hr_isWithin, R_Hr) nw_0
theorem nwN_1 {s : State} (h : NW s) : va_Nw (.methodLinkNest R_Rn 77 y_Hr_takesTwo R_Hr) s := h.1 (R_Rn, 77, y_Hr_takesTwo, R_Hr) nw_1
theorem nwN_2 {s : State} (h : NW s) : va_Nw (.methodLinkNest R_Rn 85 y_Hr_combine R_Hr) s := h.1 (R_Rn, 85, y_Hr_combine, R_Hr) nw_2
theorem nwN_3 {s : State} (h : NW s) : va_Nw (.methodLinkNest R_Rn 120 y_Hr_takes R_Hr) s := h.1 (R_Rn, 120, y_Hr_takes, R_Hr) nw_3
theorem nwN_4 {s : State} (h : NW s) : va_Nw (.methodLinkNest R_Rn 123 y_Hr_puts R_Hr) s := h.1 (R_Rn, 123, y_Hr_puts, R_Hr) nw_4
theorem nwN_5 {s : State} (h : NW s) : va_Nw (.methodLinkNest R_Rn 129 y_Hr_isWithin R_Hr) s := h.1 (R_Rn, 129, y_Hr_isWithin, R_Hr) nw_5
theorem nwN_6 {s : State} (h : NW s) : va_Nw (.methodLinkNest R_Hr 30 y_Rn_init R_Hr) s := h.1 (R_Hr, 30, y_Rn_init, R_Hr) nw_6
theorem nwN_7 {s : State} (h : NW s) : va_Nw (.methodLinkNest R_Hr 44 y_Fa_init R_Hr) s := h.1 (R_Hr, 44, y_Fa_init, R_Hr) nw_7
theorem nwN_8 {s : State} (h : NW s) : va_Nw (.methodLinkNest R_Hr 61 y_Ed_init R_Hr) s := h.1 (R_Hr, 61, y_Ed_init, R_Hr) nw_8
abbrev preR (G : va_G) (tys : List (ClassId × FieldType)) (av : List Value) (ws : va_W) : Array Value → State → Prop := va_Pc av (fun U => va_P G vwCl ws U.heap ∧ va_K G vwCl tys U ∧ NW U)
abbrev preW (G : va_G) (tys : List (ClassId × FieldType)) (av : List Value) (sz : Nat) (ws : va_W) : Array Value → State → Prop := va_Pc av (fun U => U.heap.size = sz ∧ va_P G vwCl ws U.heap ∧ va_K G vwCl tys U ∧ va_D (fun _ => True) ws ∧ NW U)
theorem preR_blind {G : va_G} {tys : List (ClassId × FieldType)} {av : List Value} {ws : va_W} : FrameBlind (preR G tys av ws) := fun a U g mk q => by
  obtain ⟨q0, qP, qK, qN⟩ := q
  exact ⟨q0, qP, va_K.moved (u := U) (U := U.calling g mk a) (Vm.Alike.refl U.vm) qK, qN.calling⟩
theorem preW_blind {G : va_G} {tys : List (ClassId × FieldType)} {av : List Value} {sz : Nat} {ws : va_W} : FrameBlind (preW G tys av sz ws) := fun a U g mk q => by
  obtain ⟨q0, q1, qP, qK, qD, qN⟩ := q
  exact ⟨q0, q1, qP, va_K.moved (u := U) (U := U.calling g mk a) (Vm.Alike.refl U.vm) qK, qD, qN.calling⟩
theorem preRS_of {G : va_G} {tys : List (ClassId × FieldType)} {s : State} {H : Heap} {ws cx : va_W} {As : List Value} (hN : NW s) (hK : va_K G vwCl tys s) (hP : va_P G vwCl ws H) (is : List Nat) (hs : is.filterMap (fun i => ws[i]?) = cx) : PreS s H (preR G tys As cx) As :=
  ⟨preR_blind, fun U hU hW => ⟨rfl, by rw [hU]; exact hP.sub is hs, va_K.moved hW.alike hK, hN.warm hW⟩⟩
theorem preRV_of {G : va_G} {tys : List (ClassId × FieldType)} {s : State} {H : Heap} {ws cx : va_W} {As : List Value} {b ci : Nat} {q : vw_C} {fs : List Value} (hN : NW s) (hK : va_K G vwCl tys s) (hP : va_P G vwCl ws H) (is : List Nat) (hs : is.filterMap (fun i => ws[i]?) = cx) (hc : vwCl[ci]? = some q) (he : cx[0]? = some (b, .inr (ci, fs))) : PreV s H q.1 b (preR G tys (.ref b :: As) cx) As :=
  ⟨preR_blind, va_recv hK (hP.sub is hs) hc he, fun U hU hW => ⟨rfl, by rw [hU]; exact hP.sub is hs, va_K.moved hW.alike hK, hN.warm hW⟩⟩
theorem preWS_of {G : va_G} {tys : List (ClassId × FieldType)} {s : State} {H : Heap} {A : Nat → Prop} {ws cx : va_W} {As : List Value} (hN : NW s) (hK : va_K G vwCl tys s) (hP : va_P G vwCl ws H) (hD : va_D A ws) (is : List Nat) (hn : va_nd is = true) (hs : is.map (fun i => ws[i]?) = cx.map some) : PreS s H (preW G tys As H.size cx) As :=
  ⟨preW_blind, fun U hU hW => ⟨rfl, by rw [hU], by
    rw [hU]
    intro k x hk
    obtain ⟨i, -, hi⟩ := va_in_of is hs hk
    exact hP i x hi, va_K.moved hW.alike hK, (hD.sub is hn hs).weaken (fun _ _ _ _ => trivial), hN.warm hW⟩⟩
theorem preWV_of {G : va_G} {tys : List (ClassId × FieldType)} {s : State} {H : Heap} {A : Nat → Prop} {ws cx : va_W} {As : List Value} {b ci : Nat} {q : vw_C} {fs : List Value} (hN : NW s) (hK : va_K G vwCl tys s) (hP : va_P G vwCl ws H) (hD : va_D A ws) (is : List Nat) (hn : va_nd is = true) (hs : is.map (fun i => ws[i]?) = cx.map some) (hc : vwCl[ci]? = some q) (he : cx[0]? = some (b, .inr (ci, fs))) : PreV s H q.1 b (preW G tys (.ref b :: As) H.size cx) As := by
  have hPc : va_P G vwCl cx H := by
    intro k x hk
    obtain ⟨i, -, hi⟩ := va_in_of is hs hk
    exact hP i x hi
  exact ⟨preW_blind, va_recv hK hPc hc he, fun U hU hW => ⟨rfl, by rw [hU], by rw [hU]; exact hPc, va_K.moved hW.alike hK, (hD.sub is hn hs).weaken (fun _ _ _ _ => trivial), hN.warm hW⟩⟩
section LIBC
variable {p : Program} {l : Launch} {e : Env} {R : Room} {s : State} {m : MethodId} {args : Array Value} {below : List Frame} {meth : Method} {c : Code} {H : Heap} {locs : List Loc} {cells slots : Nat} {Q : State → Prop}
variable {pc : Nat} {ls : Array Slot} {rest st0 : List Value} {a : Array Value} {A0 : Nat → Prop} {H0 : Heap} {mc ms : Nat}
variable {G : va_G} {tys : List (ClassId × FieldType)} {X cx : va_W}
theorem run_of {g : JFrame} {Qa : State → Outcome → State → Prop} {free : Addr → Prop} (h : va_Run p l e R s m args below meth c H locs cells slots mc ms g rest Qa free) : CallRun p l e R s m args below meth c H locs cells slots mc ms g rest Qa free := by
  intro T hT X
  obtain ⟨v, st₀, t, T', L, h0, X', hL, e1, e2, hq, st⟩ := h T hT X
  exact ⟨v, st₀, t, T', L, h0, X', hL, e1, hq, st⟩
theorem cl_i {S : Type} {post : Int32 → S → Prop} {WS : S → va_W} (hK : va_K G vwCl tys s) (hP : va_P G vwCl X H) (hD : va_D A0 X) (hS : va_S A0 H0 H locs) (hA : ∀ q, H0.size ≤ q → A0 q)
    (hr : va_Run p l e R s m args below meth c H locs cells slots mc ms (F0 m pc ls st0) rest (va_Qi post (fun u t => va_P G vwCl (WS u) t.heap ∧ va_K G vwCl tys t ∧ va_D (va_A cx H.size) (WS u)) (va_A cx H.size) a) (va_A cx H.size))
    (isC isR : List Nat) (hC : isC.map (fun i => X[i]?) = cx.map some) (hR : isR.map (fun i => X[i]?) = (isR.filterMap (fun i => X[i]?)).map some) (hn : va_nd isR = true) (hdis : ∀ i ∈ isR, i ∉ isC)
    (kk : ∀ (r : Int32) (u : S) (H1 : Heap) (locs1 : List Loc), post r u → va_P G vwCl (isR.filterMap (fun i => X[i]?) ++ WS u) H1 → va_D A0 (isR.filterMap (fun i => X[i]?) ++ WS u) → va_S A0 H0 H1 locs1 → W p l e R s m args below meth c H1 locs1 (cells + mc) (slots + ms) Q (F0 m (pc + 3) ls (.int r :: rest))) : W p l e R s m args below meth c H locs cells slots Q (F0 m pc ls st0) := by
  have hF := va_free hD hS hA isC hC
  refine va_calli hr hS (fun q _ h => hF q h) hF (fun r u t H1 locs1 ht hvm hw hB hz1 hk1 hS1 => ?_)
  obtain ⟨hP1, -, hD1⟩ := hB
  rw [ht] at hP1
  obtain ⟨hP2, hD2⟩ := va_join hP hD isC isR hC hR hn hdis hk1 hF hP1 hD1
  exact kk r u H1 locs1 hw hP2 hD2 hS1
theorem cl_l {S : Type} {post : Int64 → S → Prop} {WS : S → va_W} (hK : va_K G vwCl tys s) (hP : va_P G vwCl X H) (hD : va_D A0 X) (hS : va_S A0 H0 H locs) (hA : ∀ q, H0.size ≤ q → A0 q)
    (hr : va_Run p l e R s m args below meth c H locs cells slots mc ms (F0 m pc ls st0) rest (va_Ql post (fun u t => va_P G vwCl (WS u) t.heap ∧ va_K G vwCl tys t ∧ va_D (va_A cx H.size) (WS u)) (va_A cx H.size) a) (va_A cx H.size))
    (isC isR : List Nat) (hC : isC.map (fun i => X[i]?) = cx.map some) (hR : isR.map (fun i => X[i]?) = (isR.filterMap (fun i => X[i]?)).map some) (hn : va_nd isR = true) (hdis : ∀ i ∈ isR, i ∉ isC)
    (kk : ∀ (r : Int64) (u : S) (H1 : Heap) (locs1 : List Loc), post r u → va_P G vwCl (isR.filterMap (fun i => X[i]?) ++ WS u) H1 → va_D A0 (isR.filterMap (fun i => X[i]?) ++ WS u) → va_S A0 H0 H1 locs1 → W p l e R s m args below meth c H1 locs1 (cells + mc) (slots + ms) Q (F0 m (pc + 3) ls (.long r :: rest))) : W p l e R s m args below meth c H locs cells slots Q (F0 m pc ls st0) := by
  have hF := va_free hD hS hA isC hC
  refine va_calll hr hS (fun q _ h => hF q h) hF (fun r u t H1 locs1 ht hvm hw hB hz1 hk1 hS1 => ?_)
  obtain ⟨hP1, -, hD1⟩ := hB
  rw [ht] at hP1
  obtain ⟨hP2, hD2⟩ := va_join hP hD isC isR hC hR hn hdis hk1 hF hP1 hD1
  exact kk r u H1 locs1 hw hP2 hD2 hS1
theorem cl_v {S : Type} {post : S → Prop} {WS : S → va_W} (hK : va_K G vwCl tys s) (hP : va_P G vwCl X H) (hD : va_D A0 X) (hS : va_S A0 H0 H locs) (hA : ∀ q, H0.size ≤ q → A0 q)
    (hr : va_Run p l e R s m args below meth c H locs cells slots mc ms (F0 m pc ls st0) rest (va_Qv post (fun u t => va_P G vwCl (WS u) t.heap ∧ va_K G vwCl tys t ∧ va_D (va_A cx H.size) (WS u)) (va_A cx H.size) a) (va_A cx H.size))
    (isC isR : List Nat) (hC : isC.map (fun i => X[i]?) = cx.map some) (hR : isR.map (fun i => X[i]?) = (isR.filterMap (fun i => X[i]?)).map some) (hn : va_nd isR = true) (hdis : ∀ i ∈ isR, i ∉ isC)
    (kk : ∀ (u : S) (H1 : Heap) (locs1 : List Loc), post u → va_P G vwCl (isR.filterMap (fun i => X[i]?) ++ WS u) H1 → va_D A0 (isR.filterMap (fun i => X[i]?) ++ WS u) → va_S A0 H0 H1 locs1 → W p l e R s m args below meth c H1 locs1 (cells + mc) (slots + ms) Q (F0 m (pc + 3) ls rest)) : W p l e R s m args below meth c H locs cells slots Q (F0 m pc ls st0) := by
  have hF := va_free hD hS hA isC hC
  refine va_callv hr hS (fun q _ h => hF q h) hF (fun u t H1 locs1 ht hvm hw hB hz1 hk1 hS1 => ?_)
  obtain ⟨hP1, -, hD1⟩ := hB
  rw [ht] at hP1
  obtain ⟨hP2, hD2⟩ := va_join hP hD isC isR hC hR hn hdis hk1 hF hP1 hD1
  exact kk u H1 locs1 hw hP2 hD2 hS1
end LIBC
theorem i32_nn {x : Int32} (h : 0 ≤ x) : ¬ x < 0 := by
  rw [Int32.le_iff_toInt_le] at h
  rw [Int32.lt_iff_toInt_lt]
  omega
theorem i32_nl {x y : Int32} (h : x < y) : ¬ y ≤ x := by
  rw [Int32.lt_iff_toInt_lt] at h
  rw [Int32.le_iff_toInt_le]
  omega
theorem ix_of {x b : Int32} {n : Nat} (h1 : ¬ x < 0) (h2 : ¬ b ≤ x) (hb : b.toInt = (n : Int)) : vp_in x n := by
  rw [vp_in_iff]
  rw [Int32.lt_iff_toInt_lt] at h1
  rw [Int32.le_iff_toInt_le] at h2
  have h0 : (0 : Int32).toInt = 0 := rfl
  omega
section LIBL
variable {p : Program} {l : Launch} {e : Env} {R : Room} {s : State} {m : MethodId} {args : Array Value} {below : List Frame} {meth : Method} {c : Code} {H : Heap} {locs : List Loc} {cells slots : Nat} {Q : State → Prop}
variable {pc : Nat} {ls : Array Slot} {rest : List Value} {cc : ByteArray}
theorem lg_cases (x y : Int64) : (y < x ∧ lg_cmp x y = 1) ∨ (x = y ∧ lg_cmp x y = 0) ∨ (x < y ∧ lg_cmp x y = -1) := by
  by_cases h1 : y < x
  · exact Or.inl ⟨h1, by simp [lg_cmp, h1]⟩
  · by_cases h2 : x = y
    · exact Or.inr (Or.inl ⟨h2, by simp [lg_cmp, h2]⟩)
    · refine Or.inr (Or.inr ⟨?_, by simp [lg_cmp, h1, h2]⟩)
      rw [Int64.lt_iff_toInt_lt] at h1 ⊢
      have : x.toInt ≠ y.toInt := fun q => h2 (Int64.toInt_inj.mp q)
      omega
theorem lc_lt (x y : Int64) (hexec : p.tables.exec = Jvm.exec) (hb : c.code = cc) {off : Int} {tgt : Nat} (hd1 : decode cc pc = .ok (.lcmp, 1)) (hd2 : decode cc (pc + 1) = .ok (.ifCond .lt off, 3)) (ht : ((pc + 1 : Nat) : Int) + off = (tgt : Int))
    (kt : x < y → W p l e R s m args below meth c H locs cells slots Q (F0 m tgt ls rest)) (kf : ¬ x < y → W p l e R s m args below meth c H locs cells slots Q (F0 m (pc + 1 + 3) ls rest)) : W p l e R s m args below meth c H locs cells slots Q (F0 m pc ls (.long y :: .long x :: rest)) := by
  refine W.lcmp hexec hb hd1 ?_
  refine lv_if_lt (tgt := tgt) hexec hb hd2 ht (fun h => kt ?_) (fun h => kf ?_)
  · rcases lg_cases x y with ⟨h1, h2⟩ | ⟨h1, h2⟩ | ⟨h1, h2⟩
    · rw [h2] at h; exact absurd h (by decide)
    · rw [h2] at h; exact absurd h (by decide)
    · exact h1
  · rcases lg_cases x y with ⟨h1, h2⟩ | ⟨h1, h2⟩ | ⟨h1, h2⟩
    · rw [Int64.lt_iff_toInt_lt] at h1 ⊢; omega
    · subst h1; rw [Int64.lt_iff_toInt_lt]; omega
    · rw [h2] at h; exact absurd (by decide) h
theorem lc_ge (x y : Int64) (hexec : p.tables.exec = Jvm.exec) (hb : c.code = cc) {off : Int} {tgt : Nat} (hd1 : decode cc pc = .ok (.lcmp, 1)) (hd2 : decode cc (pc + 1) = .ok (.ifCond .ge off, 3)) (ht : ((pc + 1 : Nat) : Int) + off = (tgt : Int))
    (kt : y ≤ x → W p l e R s m args below meth c H locs cells slots Q (F0 m tgt ls rest)) (kf : ¬ y ≤ x → W p l e R s m args below meth c H locs cells slots Q (F0 m (pc + 1 + 3) ls rest)) : W p l e R s m args below meth c H locs cells slots Q (F0 m pc ls (.long y :: .long x :: rest)) := by
  refine W.lcmp hexec hb hd1 ?_
  refine lv_if_ge (tgt := tgt) hexec hb hd2 ht (fun h => kt ?_) (fun h => kf ?_)
  · rcases lg_cases x y with ⟨h1, h2⟩ | ⟨h1, h2⟩ | ⟨h1, h2⟩
    · rw [Int64.lt_iff_toInt_lt] at h1; rw [Int64.le_iff_toInt_le]; omega
    · subst h1; rw [Int64.le_iff_toInt_le]; omega
    · rw [h2] at h; exact absurd h (by decide)
  · rcases lg_cases x y with ⟨h1, h2⟩ | ⟨h1, h2⟩ | ⟨h1, h2⟩
    · rw [h2] at h; exact absurd (by decide) h
    · rw [h2] at h; exact absurd (by decide) h
    · rw [Int64.lt_iff_toInt_lt] at h1; rw [Int64.le_iff_toInt_le]; omega
theorem lc_gt (x y : Int64) (hexec : p.tables.exec = Jvm.exec) (hb : c.code = cc) {off : Int} {tgt : Nat} (hd1 : decode cc pc = .ok (.lcmp, 1)) (hd2 : decode cc (pc + 1) = .ok (.ifCond .gt off, 3)) (ht : ((pc + 1 : Nat) : Int) + off = (tgt : Int))
    (kt : y < x → W p l e R s m args below meth c H locs cells slots Q (F0 m tgt ls rest)) (kf : ¬ y < x → W p l e R s m args below meth c H locs cells slots Q (F0 m (pc + 1 + 3) ls rest)) : W p l e R s m args below meth c H locs cells slots Q (F0 m pc ls (.long y :: .long x :: rest)) := by
  refine W.lcmp hexec hb hd1 ?_
  refine lv_if_gt (tgt := tgt) hexec hb hd2 ht (fun h => kt ?_) (fun h => kf ?_)
  · rcases lg_cases x y with ⟨h1, h2⟩ | ⟨h1, h2⟩ | ⟨h1, h2⟩
    · exact h1
    · rw [h2] at h; exact absurd h (by decide)
    · rw [h2] at h; exact absurd h (by decide)
  · rcases lg_cases x y with ⟨h1, h2⟩ | ⟨h1, h2⟩ | ⟨h1, h2⟩
    · rw [h2] at h; exact absurd (by decide) h
    · subst h1; rw [Int64.lt_iff_toInt_lt]; omega
    · rw [Int64.lt_iff_toInt_lt] at h1 ⊢; omega
theorem lc_le (x y : Int64) (hexec : p.tables.exec = Jvm.exec) (hb : c.code = cc) {off : Int} {tgt : Nat} (hd1 : decode cc pc = .ok (.lcmp, 1)) (hd2 : decode cc (pc + 1) = .ok (.ifCond .le off, 3)) (ht : ((pc + 1 : Nat) : Int) + off = (tgt : Int))
    (kt : x ≤ y → W p l e R s m args below meth c H locs cells slots Q (F0 m tgt ls rest)) (kf : ¬ x ≤ y → W p l e R s m args below meth c H locs cells slots Q (F0 m (pc + 1 + 3) ls rest)) : W p l e R s m args below meth c H locs cells slots Q (F0 m pc ls (.long y :: .long x :: rest)) := by
  refine W.lcmp hexec hb hd1 ?_
  refine lv_if_le (tgt := tgt) hexec hb hd2 ht (fun h => kt ?_) (fun h => kf ?_)
  · rcases lg_cases x y with ⟨h1, h2⟩ | ⟨h1, h2⟩ | ⟨h1, h2⟩
    · rw [h2] at h; exact absurd h (by decide)
    · subst h1; rw [Int64.le_iff_toInt_le]; omega
    · rw [Int64.lt_iff_toInt_lt] at h1; rw [Int64.le_iff_toInt_le]; omega
  · rcases lg_cases x y with ⟨h1, h2⟩ | ⟨h1, h2⟩ | ⟨h1, h2⟩
    · rw [Int64.lt_iff_toInt_lt] at h1; rw [Int64.le_iff_toInt_le]; omega
    · rw [h2] at h; exact absurd (by decide) h
    · rw [h2] at h; exact absurd (by decide) h
theorem lc_eq (x y : Int64) (hexec : p.tables.exec = Jvm.exec) (hb : c.code = cc) {off : Int} {tgt : Nat} (hd1 : decode cc pc = .ok (.lcmp, 1)) (hd2 : decode cc (pc + 1) = .ok (.ifCond .eq off, 3)) (ht : ((pc + 1 : Nat) : Int) + off = (tgt : Int))
    (kt : x = y → W p l e R s m args below meth c H locs cells slots Q (F0 m tgt ls rest)) (kf : ¬ x = y → W p l e R s m args below meth c H locs cells slots Q (F0 m (pc + 1 + 3) ls rest)) : W p l e R s m args below meth c H locs cells slots Q (F0 m pc ls (.long y :: .long x :: rest)) := by
  refine W.lcmp hexec hb hd1 ?_
  refine lv_if_eq (tgt := tgt) hexec hb hd2 ht (fun h => kt ?_) (fun h => kf ?_)
  · rcases lg_cases x y with ⟨h1, h2⟩ | ⟨h1, h2⟩ | ⟨h1, h2⟩
    · rw [h2] at h; exact absurd h (by decide)
    · exact h1
    · rw [h2] at h; exact absurd h (by decide)
  · rcases lg_cases x y with ⟨h1, h2⟩ | ⟨h1, h2⟩ | ⟨h1, h2⟩
    · intro q; subst q; rw [Int64.lt_iff_toInt_lt] at h1; omega
    · exact absurd h2 h
    · intro q; subst q; rw [Int64.lt_iff_toInt_lt] at h1; omega
theorem lc_ne (x y : Int64) (hexec : p.tables.exec = Jvm.exec) (hb : c.code = cc) {off : Int} {tgt : Nat} (hd1 : decode cc pc = .ok (.lcmp, 1)) (hd2 : decode cc (pc + 1) = .ok (.ifCond .ne off, 3)) (ht : ((pc + 1 : Nat) : Int) + off = (tgt : Int))
    (kt : ¬ x = y → W p l e R s m args below meth c H locs cells slots Q (F0 m tgt ls rest)) (kf : x = y → W p l e R s m args below meth c H locs cells slots Q (F0 m (pc + 1 + 3) ls rest)) : W p l e R s m args below meth c H locs cells slots Q (F0 m pc ls (.long y :: .long x :: rest)) := by
  refine W.lcmp hexec hb hd1 ?_
  refine lv_if_ne (tgt := tgt) hexec hb hd2 ht (fun h => kt ?_) (fun h => kf ?_)
  · rcases lg_cases x y with ⟨h1, h2⟩ | ⟨h1, h2⟩ | ⟨h1, h2⟩
    · intro q; subst q; rw [Int64.lt_iff_toInt_lt] at h1; omega
    · exact absurd h2 h
    · intro q; subst q; rw [Int64.lt_iff_toInt_lt] at h1; omega
  · rcases lg_cases x y with ⟨h1, h2⟩ | ⟨h1, h2⟩ | ⟨h1, h2⟩
    · rw [h2] at h; exact absurd h (by decide)
    · exact h1
    · rw [h2] at h; exact absurd h (by decide)
theorem W_join {α : Type} {P : Prop} [Decidable P] {A B : α} {g : JFrame} {fr : α → JFrame} (fork : (P → W p l e R s m args below meth c H locs cells slots Q (fr A)) → (¬ P → W p l e R s m args below meth c H locs cells slots Q (fr B)) → W p l e R s m args below meth c H locs cells slots Q g) (cont : W p l e R s m args below meth c H locs cells slots Q (fr (if P then A else B))) : W p l e R s m args below meth c H locs cells slots Q g := by
  refine fork (fun h => ?_) (fun h => ?_)
  · rw [if_pos h] at cont; exact cont
  · rw [if_neg h] at cont; exact cont
/-- where a tableswitch goes -/
def sw_at (dflt lo hi : Int) (offs : Array Int) (x : Int) : Option Int := if x < lo ∨ hi < x then some dflt else offs[(x - lo).toNat]?
theorem sw_t (x : Int32) (hexec : p.tables.exec = Jvm.exec) (hb : c.code = cc) {dflt lo hi : Int} {offs : Array Int} {len tgt : Nat} (hdg : decode cc pc = .ok (.tableswitch dflt lo hi offs, len)) (ht : (sw_at dflt lo hi offs x.toInt).map (fun o => (pc : Int) + o) = some (tgt : Int))
    (k : W p l e R s m args below meth c H locs cells slots Q (F0 m tgt ls rest)) : W p l e R s m args below meth c H locs cells slots Q (F0 m pc ls (.int x :: rest)) := by
  unfold sw_at at ht
  by_cases h : x.toInt < lo ∨ hi < x.toInt
  · rw [if_pos h] at ht
    exact lv_tableOut hexec hb hdg h (Option.some.inj ht) k
  · rw [if_neg h] at ht
    cases ho : offs[(x.toInt - lo).toNat]? with
    | none => rw [ho] at ht; cases ht
    | some off =>
      rw [ho] at ht
      exact lv_tableIn hexec hb hdg (fun q => h (Or.inl q)) (fun q => h (Or.inr q)) ho (Option.some.inj ht) k
/-- the default: none of the live keys -/
theorem sw_d {dflt lo hi : Int} {offs : Array Int} {pc : Nat} {tgt : Int} {x : Int} (ht : (pc : Int) + dflt = tgt) (live : List Int) (hall : ∀ n : Nat, n ≤ (hi - lo).toNat → (lo + (n : Int) ∈ live ∨ offs[n]? = some dflt)) (hx : ∀ k ∈ live, x ≠ k) : (sw_at dflt lo hi offs x).map (fun o => (pc : Int) + o) = some tgt := by
  unfold sw_at
  by_cases h : x < lo ∨ hi < x
  · rw [if_pos h]; exact congrArg some ht
  · rw [if_neg h]
    rcases hall (x - lo).toNat (by omega) with h1 | h1
    · exact absurd rfl (hx x (by rw [show lo + ((x - lo).toNat : Int) = x by omega] at h1; exact h1))
    · rw [h1]; exact congrArg some ht
theorem sw_off : ∀ (l : List (Int × Int)) (d k : Int), (∀ a ∈ l.map Prod.fst, k ≠ a) → Op.lookupswitch.offset l d k = d
  | [], _, _, _ => rfl
  | (a, o) :: l, d, k, h => by
    rw [Op.lookupswitch.offset_cons, if_neg (fun q => h a List.mem_cons_self q.symm)]
    exact sw_off l d k (fun b hb => h b (List.mem_cons_of_mem _ hb))
theorem sw_l (x : Int32) (hexec : p.tables.exec = Jvm.exec) (hb : c.code = cc) {dflt : Int} {ps : Array (Int × Int)} {len tgt : Nat} (hdg : decode cc pc = .ok (.lookupswitch dflt ps, len)) (hp : (ps.toList.zip (ps.toList.drop 1)).all (fun (a, next) => a.1 < next.1) = true) (ht : (pc : Int) + Op.lookupswitch.offset ps.toList dflt x.toInt = (tgt : Int))
    (k : W p l e R s m args below meth c H locs cells slots Q (F0 m tgt ls rest)) : W p l e R s m args below meth c H locs cells slots Q (F0 m pc ls (.int x :: rest)) :=
  lv_lookup hexec hb hdg hp rfl ht k
theorem sw_ld {dflt : Int} {ps : Array (Int × Int)} {pc : Nat} {tgt x : Int} (live : List Int) (hk : ps.toList.map Prod.fst = live) (ht : (pc : Int) + dflt = tgt) (hx : ∀ k ∈ live, x ≠ k) : (pc : Int) + Op.lookupswitch.offset ps.toList dflt x = tgt := by
  rw [sw_off _ _ _ (by rw [hk]; exact hx)]; exact ht
theorem sw_ne {x : Int32} {k : Int32} {n : Int} (h : ¬ x = k) (hk : k.toInt = n) : x.toInt ≠ n := fun q => h (Int32.toInt_inj.mp (q.trans hk.symm))
end LIBL
-- numbers: steps of int loops, indices out of tests
theorem i32_add {x y : Int32} (h1 : -2147483648 ≤ x.toInt + y.toInt) (h2 : x.toInt + y.toInt < 2147483648) : (x + y).toInt = x.toInt + y.toInt := by
  rw [Int32.toInt_add]
  exact Int.bmod_eq_of_le (by omega) (by omega)
theorem i32_sub {x y : Int32} (h1 : -2147483648 ≤ x.toInt - y.toInt) (h2 : x.toInt - y.toInt < 2147483648) : (x - y).toInt = x.toInt - y.toInt := by
  rw [Int32.toInt_sub]
  exact Int.bmod_eq_of_le (by omega) (by omega)
theorem i32_inc {x : Int32} (h : x.toInt < 2147483647) : (x + 1).toInt = x.toInt + 1 := by
  have h0 : (1 : Int32).toInt = 1 := rfl
  have h3 := Int32.minValue_le_toInt x
  have h4 : Int32.minValue.toInt = -2147483648 := rfl
  rw [i32_add (by omega) (by omega), h0]
theorem i_step {i K : Int32} {n : Nat} {k : Int} (hI : 0 ≤ i.toInt ∧ i.toInt ≤ k ∧ k + 1 ≤ i.toInt + ((n + 1 : Nat) : Int)) (c : ¬ K ≤ i) (hK : K.toInt = k) (hk : k < 2147483647) : 0 ≤ (i + 1).toInt ∧ (i + 1).toInt ≤ k ∧ k + 1 ≤ (i + 1).toInt + (n : Int) := by
  rw [Int32.le_iff_toInt_le] at c
  rw [i32_inc (by omega)]
  omega
theorem i_step_le {i K : Int32} {n : Nat} (hK : K.toInt ≤ 100) (hI : 0 ≤ i.toInt ∧ i.toInt ≤ 100 ∧ 101 ≤ i.toInt + ((n + 1 : Nat) : Int)) (c : ¬ K ≤ i) : 0 ≤ (i + 1).toInt ∧ (i + 1).toInt ≤ 100 ∧ 101 ≤ (i + 1).toInt + (n : Int) := by
  rw [Int32.le_iff_toInt_le] at c
  rw [i32_inc (by omega)]
  omega
theorem ix_pred {x b : Int32} {n : Nat} (h1 : ¬ x ≤ 0) (h2 : ¬ b < x) (hb : b.toInt = (n : Int)) : vp_in (x - 1) n := by
  rw [vp_in_iff]
  rw [Int32.le_iff_toInt_le] at h1
  rw [Int32.lt_iff_toInt_lt] at h2
  have h0 : (0 : Int32).toInt = 0 := rfl
  have h3 : (1 : Int32).toInt = 1 := rfl
  have h4 := Int32.toInt_le x
  have h5 : Int32.maxValue.toInt = 2147483647 := rfl
  rw [i32_sub (by omega) (by omega)]
  omega
theorem l2i_small {k : Int64} (h1 : 0 ≤ k.toInt) (h2 : k.toInt < 2147483648) : k.toInt32.toInt = k.toInt := by
  rw [Int64.toInt_toInt32]
  exact Int.bmod_eq_of_le (by omega) (by omega)
theorem nar01 {x : Int32} (h : x = 0 ∨ x = 1) : narrow .boolean (.int x) = .int x := by
  rcases h with h | h <;> rw [h] <;> rfl
