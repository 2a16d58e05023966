-- families: one or two objects brought to the front, and put back
theorem fam_mem {n i : Nat} (hi : i < n) (g : Nat → va_W) {x : Nat × va_E} (hx : x ∈ g i) : x ∈ fam n g := List.mem_flatMap.mpr ⟨i, List.mem_range.mpr hi, hx⟩
theorem fam_congr {n : Nat} {g g' : Nat → va_W} (h : ∀ j, j < n → g j = g' j) : fam n g = fam n g' := by
  unfold fam
  rw [List.flatMap_def, List.flatMap_def]
  congr 1
  apply List.map_congr_left
  intro j hj
  exact h j (List.mem_range.mp hj)
theorem pm_E {B : va_W} {a i : Nat} (hi : i < a) (g : Nat → va_W) (C : va_W) : (B ++ (fam a g ++ C)).Perm ((B ++ g i) ++ (famX a i g ++ C)) := by
  rw [List.append_assoc]
  refine List.Perm.append_left _ ?_
  have := (fam_foc hi g).append_right C
  rw [List.append_assoc] at this
  exact this
theorem pm_R {B C : va_W} {n j : Nat} (hj : j < n) (g : Nat → va_W) : (B ++ (C ++ fam n g)).Perm ((B ++ g j) ++ (C ++ famX n j g)) := by
  rw [List.append_assoc]
  refine List.Perm.append_left _ ?_
  refine ((fam_foc hj g).append_left C).trans ?_
  exact List.perm_append_comm_assoc C (g j) (famX n j g)
theorem pm_RE {B : va_W} {a i n j : Nat} (hi : i < a) (hj : j < n) (g g2 : Nat → va_W) : (B ++ (fam a g ++ fam n g2)).Perm (((B ++ g2 j) ++ g i) ++ (famX a i g ++ famX n j g2)) :=
  (pm_R hj g2).trans (pm_E hi g _)
theorem pm_front {B C D : va_W} : ((B ++ C) ++ D).Perm ((C ++ B) ++ D) := (List.perm_append_comm).append_right D
def CAd : Type := (Nat → Nat) × (Nat → Nat) × (Nat → Nat) × (Nat → Nat) × (Nat → Nat) × (Nat → Nat)
abbrev CAd.mk (h_ : Nat → Nat) (ea_ : Nat → Nat) (eb_ : Nat → Nat) (ra_ : Nat → Nat) (rb_ : Nat → Nat) (rc_ : Nat → Nat) : CAd := (h_, ea_, eb_, ra_, rb_, rc_)
abbrev CAd.h (x : CAd) : Nat → Nat := x.1
abbrev CAd.ea (x : CAd) : Nat → Nat := x.2.1
abbrev CAd.eb (x : CAd) : Nat → Nat := x.2.2.1
abbrev CAd.ra (x : CAd) : Nat → Nat := x.2.2.2.1
abbrev CAd.rb (x : CAd) : Nat → Nat := x.2.2.2.2.1
abbrev CAd.rc (x : CAd) : Nat → Nat := x.2.2.2.2.2
def edsF (A : CAd) : Nat → Option Nat := fun e => if e < 6 then some (A.ea e) else none
def rulF (A : CAd) (n : Nat) : Nat → Option Nat := fun j => if j < n then some (A.ra j) else none
def ordF (A : CAd) (x : EdS) : Nat → Option Nat := fun i => if i < x.cnt then some (A.ra (x.ord i)) else none
abbrev WH (cI cL cZ cR cE : ClassId) (A : CAd) (s : CS) : va_W := W_Hr cI cL cZ cR cE (A.h 0) (A.h 1) (A.h 2) (A.h 3) (A.h 4) (A.h 5) (A.h 6) (A.h 7) (A.h 8) (A.h 9) (A.h 10) (A.h 11) (A.h 12) (A.h 13) (A.h 14) (A.h 15) s.steps (edsF A) (rulF A s.n) (nI s.n) s.days s.facts s.stack s.hf s.gv s.gg s.hc s.ht s.pos s.fault s.cell s.av s.ag s.fn s.fh s.fc
abbrev WEe (cI cL cZ cR cE : ClassId) (A : CAd) (e : Nat) (x : EdS) : va_W := W_Edi cI cL cZ cR cE (A.ea e) (A.eb e) x.state (nI x.cnt) x.fr x.told (ordF A x)
abbrev WRr (cI cL cZ cR cE : ClassId) (A : CAd) (j : Nat) (r : RuS) : va_W := W_Rul cI cL cZ cR cE (A.ra j) (A.rb j) (A.rc j) (nI j) (A.ea r.ho) r.rank r.name r.ops r.nums r.len r.cell r.fk r.fv
abbrev FE (cI cL cZ cR cE : ClassId) (A : CAd) (s : CS) : va_W := fam 6 (fun e => WEe cI cL cZ cR cE A e (s.ed e))
abbrev FR (cI cL cZ cR cE : ClassId) (A : CAd) (s : CS) : va_W := fam s.n (fun j => WRr cI cL cZ cR cE A j (s.ru j))
/-- the class's whole world -/
def FW (cI cL cZ cR cE : ClassId) (A : CAd) (s : CS) : va_W := WH cI cL cZ cR cE A s ++ (FE cI cL cZ cR cE A s ++ FR cI cL cZ cR cE A s)
theorem FW_hr {G : va_G} {cI cL cZ cR cE : ClassId} {A : CAd} {s : CS} {H : Heap} (h : va_P G vwCl (FW cI cL cZ cR cE A s) H) : va_P G vwCl (WH cI cL cZ cR cE A s) H := h.mem (fun x hx => List.mem_append_left _ hx)
theorem FW_ed {G : va_G} {cI cL cZ cR cE : ClassId} {A : CAd} {s : CS} {H : Heap} {e : Nat} (h : va_P G vwCl (FW cI cL cZ cR cE A s) H) (he : e < 6) : va_P G vwCl (WEe cI cL cZ cR cE A e (s.ed e)) H := h.mem (fun x hx => List.mem_append_right _ (List.mem_append_left _ (fam_mem he (fun e => WEe cI cL cZ cR cE A e (s.ed e)) hx)))
theorem FW_ru {G : va_G} {cI cL cZ cR cE : ClassId} {A : CAd} {s : CS} {H : Heap} {j : Nat} (h : va_P G vwCl (FW cI cL cZ cR cE A s) H) (hj : j < s.n) : va_P G vwCl (WRr cI cL cZ cR cE A j (s.ru j)) H := h.mem (fun x hx => List.mem_append_right _ (List.mem_append_right _ (fam_mem hj (fun j => WRr cI cL cZ cR cE A j (s.ru j)) hx)))
theorem FW_pE {cI cL cZ cR cE : ClassId} {A : CAd} {s : CS} {e : Nat} (he : e < 6) : (FW cI cL cZ cR cE A s).Perm ((WH cI cL cZ cR cE A s ++ WEe cI cL cZ cR cE A e (s.ed e)) ++ (famX 6 e (fun e => WEe cI cL cZ cR cE A e (s.ed e)) ++ FR cI cL cZ cR cE A s)) := pm_E he _ _
theorem FW_pR {cI cL cZ cR cE : ClassId} {A : CAd} {s : CS} {j : Nat} (hj : j < s.n) : (FW cI cL cZ cR cE A s).Perm ((WH cI cL cZ cR cE A s ++ WRr cI cL cZ cR cE A j (s.ru j)) ++ (FE cI cL cZ cR cE A s ++ famX s.n j (fun j => WRr cI cL cZ cR cE A j (s.ru j)))) := pm_R hj _
theorem FW_pRE {cI cL cZ cR cE : ClassId} {A : CAd} {s : CS} {e j : Nat} (he : e < 6) (hj : j < s.n) : (FW cI cL cZ cR cE A s).Perm (((WH cI cL cZ cR cE A s ++ WRr cI cL cZ cR cE A j (s.ru j)) ++ WEe cI cL cZ cR cE A e (s.ed e)) ++ (famX 6 e (fun e => WEe cI cL cZ cR cE A e (s.ed e)) ++ famX s.n j (fun j => WRr cI cL cZ cR cE A j (s.ru j)))) := pm_RE he hj _ _
/-- an edition put back changed -/
theorem FW_bE {cI cL cZ cR cE : ClassId} {A : CAd} {s : CS} {e : Nat} (he : e < 6) (x : EdS) : ((WH cI cL cZ cR cE A s ++ WEe cI cL cZ cR cE A e x) ++ (famX 6 e (fun e => WEe cI cL cZ cR cE A e (s.ed e)) ++ FR cI cL cZ cR cE A s)).Perm (FW cI cL cZ cR cE A (CS.mk s.steps s.n s.days s.facts s.stack s.hf s.gv s.gg s.hc s.ht s.pos s.fault s.cell s.av s.ag s.fn s.fh s.fc (setF s.ed e x) s.ru)) := by
  have h : (FW cI cL cZ cR cE A (CS.mk s.steps s.n s.days s.facts s.stack s.hf s.gv s.gg s.hc s.ht s.pos s.fault s.cell s.av s.ag s.fn s.fh s.fc (setF s.ed e x) s.ru)).Perm ((WH cI cL cZ cR cE A s ++ WEe cI cL cZ cR cE A e (setF s.ed e x e)) ++ (famX 6 e (fun i => WEe cI cL cZ cR cE A i (setF s.ed e x i)) ++ FR cI cL cZ cR cE A s)) := FW_pE (cI := cI) (cL := cL) (cZ := cZ) (cR := cR) (cE := cE) (A := A) (s := (CS.mk s.steps s.n s.days s.facts s.stack s.hf s.gv s.gg s.hc s.ht s.pos s.fault s.cell s.av s.ag s.fn s.fh s.fc (setF s.ed e x) s.ru)) he
  have e1 : famX 6 e (fun i => WEe cI cL cZ cR cE A i (setF s.ed e x i)) = famX 6 e (fun i => WEe cI cL cZ cR cE A i (s.ed i)) := famX_congr (fun i _ hi => by simp only [setF_ne _ _ hi])
  rw [setF_eq, e1] at h
  exact h.symm
theorem FW_bR {cI cL cZ cR cE : ClassId} {A : CAd} {s : CS} {j : Nat} (hj : j < s.n) (r : RuS) : ((WH cI cL cZ cR cE A s ++ WRr cI cL cZ cR cE A j r) ++ (FE cI cL cZ cR cE A s ++ famX s.n j (fun j => WRr cI cL cZ cR cE A j (s.ru j)))).Perm (FW cI cL cZ cR cE A (CS.mk s.steps s.n s.days s.facts s.stack s.hf s.gv s.gg s.hc s.ht s.pos s.fault s.cell s.av s.ag s.fn s.fh s.fc s.ed (setF s.ru j r))) := by
  have h : (FW cI cL cZ cR cE A (CS.mk s.steps s.n s.days s.facts s.stack s.hf s.gv s.gg s.hc s.ht s.pos s.fault s.cell s.av s.ag s.fn s.fh s.fc s.ed (setF s.ru j r))).Perm ((WH cI cL cZ cR cE A s ++ WRr cI cL cZ cR cE A j (setF s.ru j r j)) ++ (FE cI cL cZ cR cE A s ++ famX s.n j (fun i => WRr cI cL cZ cR cE A i (setF s.ru j r i)))) := FW_pR (cI := cI) (cL := cL) (cZ := cZ) (cR := cR) (cE := cE) (A := A) (s := (CS.mk s.steps s.n s.days s.facts s.stack s.hf s.gv s.gg s.hc s.ht s.pos s.fault s.cell s.av s.ag s.fn s.fh s.fc s.ed (setF s.ru j r))) hj
  have e1 : famX s.n j (fun i => WRr cI cL cZ cR cE A i (setF s.ru j r i)) = famX s.n j (fun i => WRr cI cL cZ cR cE A i (s.ru i)) := famX_congr (fun i _ hi => by simp only [setF_ne _ _ hi])
  rw [setF_eq, e1] at h
  exact h.symm
theorem FW_bRE {cI cL cZ cR cE : ClassId} {A : CAd} {s : CS} {e j : Nat} (he : e < 6) (hj : j < s.n) (r : RuS) : (((WH cI cL cZ cR cE A s ++ WRr cI cL cZ cR cE A j r) ++ WEe cI cL cZ cR cE A e (s.ed e)) ++ (famX 6 e (fun e => WEe cI cL cZ cR cE A e (s.ed e)) ++ famX s.n j (fun j => WRr cI cL cZ cR cE A j (s.ru j)))).Perm (FW cI cL cZ cR cE A (CS.mk s.steps s.n s.days s.facts s.stack s.hf s.gv s.gg s.hc s.ht s.pos s.fault s.cell s.av s.ag s.fn s.fh s.fc s.ed (setF s.ru j r))) := by
  have h : (FW cI cL cZ cR cE A (CS.mk s.steps s.n s.days s.facts s.stack s.hf s.gv s.gg s.hc s.ht s.pos s.fault s.cell s.av s.ag s.fn s.fh s.fc s.ed (setF s.ru j r))).Perm (((WH cI cL cZ cR cE A s ++ WRr cI cL cZ cR cE A j (setF s.ru j r j)) ++ WEe cI cL cZ cR cE A e (s.ed e)) ++ (famX 6 e (fun e => WEe cI cL cZ cR cE A e (s.ed e)) ++ famX s.n j (fun i => WRr cI cL cZ cR cE A i (setF s.ru j r i)))) := FW_pRE (cI := cI) (cL := cL) (cZ := cZ) (cR := cR) (cE := cE) (A := A) (s := (CS.mk s.steps s.n s.days s.facts s.stack s.hf s.gv s.gg s.hc s.ht s.pos s.fault s.cell s.av s.ag s.fn s.fh s.fc s.ed (setF s.ru j r))) he hj
  have e1 : famX s.n j (fun i => WRr cI cL cZ cR cE A i (setF s.ru j r i)) = famX s.n j (fun i => WRr cI cL cZ cR cE A i (s.ru i)) := famX_congr (fun i _ hi => by simp only [setF_ne _ _ hi])
  rw [setF_eq, e1] at h
  exact h.symm
-- rooms, frames, read-only contracts
theorem hasRoom_le {s : State} {pl : Platform} {r r' : Jvm.Room} (h : s.hasRoom pl r' = true) (h1 : r.frames ≤ r'.frames) (h2 : r.cells ≤ r'.cells) (h3 : r.slots ≤ r'.slots) (h4 : r.locals ≤ r'.locals) : s.hasRoom pl r = true := by
  unfold State.hasRoom at h ⊢
  simp only [Bool.and_eq_true, decide_eq_true_eq] at h ⊢
  obtain ⟨⟨⟨⟨a1, a2, a3, a4, a5, a6⟩, a7⟩, a8⟩, a9⟩ := h
  exact ⟨⟨⟨⟨by omega, by omega, by omega, by omega, by omega, a6⟩, by omega⟩, by omega⟩, a9⟩
theorem Met.room {l : Launch} {y : MethodName} {ws : List Cond} {rm rm' : Jvm.Room} {Pc : Array Value → State → Prop} {Qc : Array Value → State → Outcome → State → Prop} {mc ms : Nat} {free : Addr → Prop} (h : Met l y ws rm Pc Qc mc ms free) (h1 : rm.frames ≤ rm'.frames) (h2 : rm.cells ≤ rm'.cells) (h3 : rm.slots ≤ rm'.slots) (h4 : rm.locals ≤ rm'.locals) : Met l y ws rm' Pc Qc mc ms free := by
  intro p e ha hc hk s m args below hfr happ hP hK
  refine h p e ha hc hk s m args below hfr ?_ hP hK
  unfold Spec.appliesLoose at happ ⊢
  rw [hfr] at happ ⊢
  simp only [Bool.and_eq_true] at happ ⊢
  exact ⟨⟨happ.1.1, hasRoom_le happ.1.2 h1 h2 h3 h4⟩, happ.2⟩
theorem preW_foc {G : va_G} {tys : List (ClassId × FieldType)} {av : List Value} {sz : Nat} {W0 wc R : va_W} (hp : W0.Perm (wc ++ R)) {a : Array Value} {U : State} (h : preW G tys av sz W0 a U) : preW G tys av sz wc a U := by
  obtain ⟨q0, qs, qP, qK, qD, qN⟩ := h
  have hD := qD.perm hp
  rw [va_D_iff, List.map_append] at hD
  exact ⟨q0, qs, qP.mem (fun x hx => hp.mem_iff.mpr (List.mem_append_left _ hx)), qK, va_D_iff.mpr ⟨(List.nodup_append.mp hD.1).1, fun _ _ => trivial⟩, qN⟩
theorem va_A_foc {W0 wc R : va_W} {sz q : Nat} (hp : W0.Perm (wc ++ R)) (h : va_A wc sz q) : va_A W0 sz q := by
  rw [va_A_mem] at h ⊢
  rcases h with h | h
  · exact Or.inl ((hp.map Prod.fst).mem_iff.mpr (by rw [List.map_append]; exact List.mem_append_left _ h))
  · exact Or.inr h
theorem Met.foc_i {S S' : Type} {l : Launch} {y : MethodName} {ws : List Cond} {rm : Jvm.Room} {G : va_G} {tys : List (ClassId × FieldType)} {av : List Value} {sz : Nat} {W0 wc R : va_W} {post : Int32 → S → Prop} {WS : S → va_W} {post' : Int32 → S' → Prop} {WS' : S' → va_W} {mc ms : Nat} (h : Met l y ws rm (preW G tys av sz wc) (va_Qi post (fun u t => va_P G vwCl (WS u) t.heap ∧ va_K G vwCl tys t ∧ va_D (va_A wc sz) (WS u)) (va_A wc sz)) mc ms (va_A wc sz)) (hp : W0.Perm (wc ++ R)) (hb : ∀ ans u, post ans u → ∃ u', post' ans u' ∧ (WS u ++ R).Perm (WS' u')) : Met l y ws rm (preW G tys av sz W0) (va_Qi post' (fun u t => va_P G vwCl (WS' u) t.heap ∧ va_K G vwCl tys t ∧ va_D (va_A W0 sz) (WS' u)) (va_A W0 sz)) mc ms (va_A W0 sz) := by
  refine h.cons (fun a U q => preW_foc hp q) (fun a U oc t q hQ => ?_) (fun q hq => va_A_foc hp hq)
  obtain ⟨q0, qs, qP, qK, qD, qN⟩ := q
  obtain ⟨⟨r, u, ho, hpost, hP1, hK1, hD1⟩, hF⟩ := hQ
  obtain ⟨u', hu', hperm⟩ := hb r u hpost
  obtain ⟨g1, g2, g3⟩ := frame_full hp qP qD qs hF hP1 hD1
  exact ⟨⟨r, u', ho, hu', g1.perm hperm, hK1, g2.perm hperm⟩, g3⟩
theorem Met.foc_l {S S' : Type} {l : Launch} {y : MethodName} {ws : List Cond} {rm : Jvm.Room} {G : va_G} {tys : List (ClassId × FieldType)} {av : List Value} {sz : Nat} {W0 wc R : va_W} {post : Int64 → S → Prop} {WS : S → va_W} {post' : Int64 → S' → Prop} {WS' : S' → va_W} {mc ms : Nat} (h : Met l y ws rm (preW G tys av sz wc) (va_Ql post (fun u t => va_P G vwCl (WS u) t.heap ∧ va_K G vwCl tys t ∧ va_D (va_A wc sz) (WS u)) (va_A wc sz)) mc ms (va_A wc sz)) (hp : W0.Perm (wc ++ R)) (hb : ∀ ans u, post ans u → ∃ u', post' ans u' ∧ (WS u ++ R).Perm (WS' u')) : Met l y ws rm (preW G tys av sz W0) (va_Ql post' (fun u t => va_P G vwCl (WS' u) t.heap ∧ va_K G vwCl tys t ∧ va_D (va_A W0 sz) (WS' u)) (va_A W0 sz)) mc ms (va_A W0 sz) := by
  refine h.cons (fun a U q => preW_foc hp q) (fun a U oc t q hQ => ?_) (fun q hq => va_A_foc hp hq)
  obtain ⟨q0, qs, qP, qK, qD, qN⟩ := q
  obtain ⟨⟨r, u, ho, hpost, hP1, hK1, hD1⟩, hF⟩ := hQ
  obtain ⟨u', hu', hperm⟩ := hb r u hpost
  obtain ⟨g1, g2, g3⟩ := frame_full hp qP qD qs hF hP1 hD1
  exact ⟨⟨r, u', ho, hu', g1.perm hperm, hK1, g2.perm hperm⟩, g3⟩
theorem Met.foc_v {S S' : Type} {l : Launch} {y : MethodName} {ws : List Cond} {rm : Jvm.Room} {G : va_G} {tys : List (ClassId × FieldType)} {av : List Value} {sz : Nat} {W0 wc R : va_W} {post : S → Prop} {WS : S → va_W} {post' : S' → Prop} {WS' : S' → va_W} {mc ms : Nat} (h : Met l y ws rm (preW G tys av sz wc) (va_Qv post (fun u t => va_P G vwCl (WS u) t.heap ∧ va_K G vwCl tys t ∧ va_D (va_A wc sz) (WS u)) (va_A wc sz)) mc ms (va_A wc sz)) (hp : W0.Perm (wc ++ R)) (hb : ∀ u, post u → ∃ u', post' u' ∧ (WS u ++ R).Perm (WS' u')) : Met l y ws rm (preW G tys av sz W0) (va_Qv post' (fun u t => va_P G vwCl (WS' u) t.heap ∧ va_K G vwCl tys t ∧ va_D (va_A W0 sz) (WS' u)) (va_A W0 sz)) mc ms (va_A W0 sz) := by
  refine h.cons (fun a U q => preW_foc hp q) (fun a U oc t q hQ => ?_) (fun q hq => va_A_foc hp hq)
  obtain ⟨q0, qs, qP, qK, qD, qN⟩ := q
  obtain ⟨⟨u, ho, hpost, hP1, hK1, hD1⟩, hF⟩ := hQ
  obtain ⟨u', hu', hperm⟩ := hb u hpost
  obtain ⟨g1, g2, g3⟩ := frame_full hp qP qD qs hF hP1 hD1
  exact ⟨⟨u', ho, hu', g1.perm hperm, hK1, g2.perm hperm⟩, g3⟩
/-- a contract that only reads, over a larger world -/
theorem Met.foc_r {l : Launch} {y : MethodName} {ws : List Cond} {rm : Jvm.Room} {G : va_G} {tys : List (ClassId × FieldType)} {av : List Value} {W0 wc : va_W} {Qc : Array Value → State → Outcome → State → Prop} (h : Met l y ws rm (preR G tys av wc) Qc 0 0 (fun _ => False)) (hp : ∀ H, va_P G vwCl W0 H → va_P G vwCl wc H) : Met l y ws rm (preR G tys av W0) Qc 0 0 (fun _ => False) :=
  h.cons (fun a U q => ⟨q.1, hp _ q.2.1, q.2.2⟩) (fun a U oc t q hQ => hQ) (fun q hq => hq)
/-- consequence, with what a call leaves of the tables -/
theorem Met.consK {l : Launch} {y : MethodName} {ws : List Cond} {rm : Jvm.Room} {Pc Pc' : Array Value → State → Prop} {Qc Qc' : Array Value → State → Outcome → State → Prop} {mc ms : Nat} {free free' : Addr → Prop} (h : Met l y ws rm Pc Qc mc ms free) (hp : ∀ a s, Pc' a s → Pc a s) (hq : ∀ a s o t, Pc' a s → s.WarmedH t.vm → Qc a s o t → Qc' a s o t) (hf : ∀ q, free q → free' q) : Met l y ws rm Pc' Qc' mc ms free' := by
  intro p e ha hc hk s m args below hfr happ hP hK
  obtain ⟨n, o, h1, h2, h3, hQ, L, hF, hL⟩ := h p e ha hc hk s m args below hfr happ (hp _ _ hP) hK
  exact ⟨n, o, h1, h2, h3, hq _ _ _ _ hP hF.2.1 hQ, L, hF, fun q hq => hf _ (hL q hq)⟩
/-- a contract that only reads, as one that may write -/
theorem Met.ro_i {S' : Type} {l : Launch} {y : MethodName} {ws : List Cond} {rm : Jvm.Room} {G : va_G} {tys : List (ClassId × FieldType)} {av : List Value} {sz : Nat} {W0 wc : va_W} {post : Int32 → Prop} {post' : Int32 → S' → Prop} {WS' : S' → va_W} (u' : S') (h : Met l y ws rm (preR G tys av wc) (vp_Si post) 0 0 (fun _ => False)) (hp : ∀ H, va_P G vwCl W0 H → va_P G vwCl wc H) (hW : WS' u' = W0) (hb : ∀ ans, post ans → post' ans u') : Met l y ws rm (preW G tys av sz W0) (va_Qi post' (fun u t => va_P G vwCl (WS' u) t.heap ∧ va_K G vwCl tys t ∧ va_D (va_A W0 sz) (WS' u)) (va_A W0 sz)) 0 0 (va_A W0 sz) := by
  refine h.consK (fun a U q => ⟨q.1, hp _ q.2.2.1, q.2.2.2.1, q.2.2.2.2.2⟩) (fun a U oc t q hWm hQ => ?_) (fun q hq => hq.elim)
  obtain ⟨q0, qs, qP, qK, qD, qN⟩ := q
  obtain ⟨r, ho, hpost, hh⟩ := hQ
  refine ⟨⟨r, u', ho, hb r hpost, ?_, va_K.moved hWm.alike qK, ?_⟩, by rw [hh]; exact Nat.le_refl _, fun q _ _ => by rw [hh]⟩
  · rw [hW, hh]; exact qP
  · rw [hW]; exact qD.self
theorem x_fact (l : Launch) (G : va_G) (cI cL cZ cR cE : ClassId) (sz : Nat) (A : CAd) (s : CS) (k : Int32) (w : Int64) : Met l y_Hr_fact w_Hr_fact ({ frames := 1, cells := 0, slots := 0, locals := 25 }) (preW G (TYS cI cL cZ cR cE) [.ref (A.h 0), .int k, .long w] sz (FW cI cL cZ cR cE A s)) (va_Qi (S := CS) (fun ans u => (ans, u) = F_fact s k w) (fun u t => va_P G vwCl (FW cI cL cZ cR cE A u) t.heap ∧ va_K G vwCl (TYS cI cL cZ cR cE) t ∧ va_D (va_A (FW cI cL cZ cR cE A s) sz) (FW cI cL cZ cR cE A u)) (va_A (FW cI cL cZ cR cE A s) sz)) 0 0 (va_A (FW cI cL cZ cR cE A s) sz) :=
  (c_fact l G cI cL cZ cR cE sz (A.h 0) (A.h 1) (A.h 2) (A.h 3) (A.h 4) (A.h 5) (A.h 6) (A.h 7) (A.h 8) (A.h 9) (A.h 10) (A.h 11) (A.h 12) (A.h 13) (A.h 14) (A.h 15) s.steps (edsF A) (rulF A s.n) (nI s.n) s.days s.facts s.stack s.hf s.gv s.gg s.hc s.ht s.pos s.fault s.cell s.av s.ag s.fn s.fh s.fc k w).foc_i (R := (FE cI cL cZ cR cE A s ++ FR cI cL cZ cR cE A s)) (List.Perm.refl _) (fun ans u hu => ⟨(CS.mk s.steps s.n s.days (u) s.stack s.hf s.gv s.gg s.hc s.ht s.pos s.fault s.cell s.av s.ag s.fn s.fh s.fc s.ed s.ru), by unfold F_fact; rw [← hu], List.Perm.refl _⟩)
theorem x_forget (l : Launch) (G : va_G) (cI cL cZ cR cE : ClassId) (sz : Nat) (A : CAd) (s : CS) : Met l y_Hr_forgetLatestRun w_Hr_forgetLatestRun ({ frames := 0, cells := 0, slots := 0, locals := 0 }) (preW G (TYS cI cL cZ cR cE) [.ref (A.h 0)] sz (FW cI cL cZ cR cE A s)) (va_Qv (S := CS) (fun u => u = (CS.mk s.steps s.n s.days s.facts s.stack s.hf s.gv s.gg (0) s.ht s.pos s.fault s.cell s.av s.ag s.fn s.fh (0) s.ed s.ru)) (fun u t => va_P G vwCl (FW cI cL cZ cR cE A u) t.heap ∧ va_K G vwCl (TYS cI cL cZ cR cE) t ∧ va_D (va_A (FW cI cL cZ cR cE A s) sz) (FW cI cL cZ cR cE A u)) (va_A (FW cI cL cZ cR cE A s) sz)) 0 0 (va_A (FW cI cL cZ cR cE A s) sz) :=
  (c_forget l G cI cL cZ cR cE sz (A.h 0) (A.h 1) (A.h 2) (A.h 3) (A.h 4) (A.h 5) (A.h 6) (A.h 7) (A.h 8) (A.h 9) (A.h 10) (A.h 11) (A.h 12) (A.h 13) (A.h 14) (A.h 15) s.steps (edsF A) (rulF A s.n) (nI s.n) s.days s.facts s.stack s.hf s.gv s.gg s.hc s.ht s.pos s.fault s.cell s.av s.ag s.fn s.fh s.fc).foc_v (R := (FE cI cL cZ cR cE A s ++ FR cI cL cZ cR cE A s)) (List.Perm.refl _) (fun u hu => ⟨(CS.mk s.steps s.n s.days s.facts s.stack s.hf s.gv s.gg (0) s.ht s.pos s.fault s.cell s.av s.ag s.fn s.fh (0) s.ed s.ru), rfl, by rw [hu]; exact List.Perm.refl _⟩)
theorem x_doRule (l : Launch) (G : va_G) (cI cL cZ cR cE : ClassId) (sz : Nat) (A : CAd) (s : CS) (j : Nat) (hj : j < s.n) (hst : s.steps.toInt ≤ 100) (hfc : ¬ s.fc < 0) : Met l y_Hr_doRule w_Hr_doRule ({ frames := 5, cells := 0, slots := 0, locals := 122 }) (preW G (TYS cI cL cZ cR cE) [.ref (A.h 0), .ref (A.ra j)] sz (FW cI cL cZ cR cE A s)) (va_Qi (S := CS) (fun ans u => ans = (doX s j).1 ∧ u = doS s j) (fun u t => va_P G vwCl (FW cI cL cZ cR cE A u) t.heap ∧ va_K G vwCl (TYS cI cL cZ cR cE) t ∧ va_D (va_A (FW cI cL cZ cR cE A s) sz) (FW cI cL cZ cR cE A u)) (va_A (FW cI cL cZ cR cE A s) sz)) 0 0 (va_A (FW cI cL cZ cR cE A s) sz) :=
  (c_doRule l G cI cL cZ cR cE sz (A.h 0) (A.h 1) (A.h 2) (A.h 3) (A.h 4) (A.h 5) (A.h 6) (A.h 7) (A.h 8) (A.h 9) (A.h 10) (A.h 11) (A.h 12) (A.h 13) (A.h 14) (A.h 15) (A.ra j) (A.rb j) (A.rc j) s.steps (edsF A) (rulF A s.n) (nI s.n) s.days s.facts s.stack s.hf s.gv s.gg s.hc s.ht s.pos s.fault s.cell s.av s.ag s.fn s.fh s.fc (nI j) (A.ea (s.ru j).ho) (s.ru j).rank (s.ru j).name (s.ru j).ops (s.ru j).nums (s.ru j).len (s.ru j).cell (s.ru j).fk (s.ru j).fv hst hfc).foc_i (FW_pR hj) (fun ans u hu => ⟨putX s (ans, u), ⟨by unfold doX; rw [← hu], by unfold doS doX; rw [← hu]⟩, (FW_pR (s := putX s (ans, u)) hj).symm⟩)
theorem x_settle (l : Launch) (G : va_G) (cI cL cZ cR cE : ClassId) (sz : Nat) (A : CAd) (s : CS) (j : Nat) (hj : j < s.n) : Met l y_Hr_settle w_Hr_settle ({ frames := 3, cells := 0, slots := 0, locals := 72 }) (preW G (TYS cI cL cZ cR cE) [.ref (A.h 0), .ref (A.ra j)] sz (FW cI cL cZ cR cE A s)) (va_Qv (S := CS) (fun u => u = settleS s j) (fun u t => va_P G vwCl (FW cI cL cZ cR cE A u) t.heap ∧ va_K G vwCl (TYS cI cL cZ cR cE) t ∧ va_D (va_A (FW cI cL cZ cR cE A s) sz) (FW cI cL cZ cR cE A u)) (va_A (FW cI cL cZ cR cE A s) sz)) 0 0 (va_A (FW cI cL cZ cR cE A s) sz) :=
  (c_settle l G cI cL cZ cR cE sz (A.h 0) (A.h 1) (A.h 2) (A.h 3) (A.h 4) (A.h 5) (A.h 6) (A.h 7) (A.h 8) (A.h 9) (A.h 10) (A.h 11) (A.h 12) (A.h 13) (A.h 14) (A.h 15) (A.ra j) (A.rb j) (A.rc j) s.steps (edsF A) (rulF A s.n) (nI s.n) s.days s.facts s.stack s.hf s.gv s.gg s.hc s.ht s.pos s.fault s.cell s.av s.ag s.fn s.fh s.fc (nI j) (A.ea (s.ru j).ho) (s.ru j).rank (s.ru j).name (s.ru j).ops (s.ru j).nums (s.ru j).len (s.ru j).cell (s.ru j).fk (s.ru j).fv).foc_v (FW_pR hj) (fun u hu => ⟨(CS.mk s.steps s.n s.days s.facts s.stack s.hf s.gv s.gg s.hc s.ht s.pos s.fault s.cell (u.1) (u.2.1) s.fn s.fh s.fc s.ed (setF s.ru j (RuS.mk (s.ru j).ho (s.ru j).rank (s.ru j).name (s.ru j).ops (s.ru j).nums (s.ru j).len (u.2.2) (s.ru j).fk (s.ru j).fv))), by unfold settleS stX; rw [← hu], FW_bR (s := (CS.mk s.steps s.n s.days s.facts s.stack s.hf s.gv s.gg s.hc s.ht s.pos s.fault s.cell (u.1) (u.2.1) s.fn s.fh s.fc s.ed s.ru)) hj (RuS.mk (s.ru j).ho (s.ru j).rank (s.ru j).name (s.ru j).ops (s.ru j).nums (s.ru j).len (u.2.2) (s.ru j).fk (s.ru j).fv)⟩)
theorem x_code (l : Launch) (G : va_G) (cI cL cZ cR cE : ClassId) (sz : Nat) (A : CAd) (s : CS) (hn : s.n ≤ 40) (hho : ∀ j, j < s.n → (s.ru j).ho < 6) (hl : ∀ j, j < s.n → ¬ (s.ru j).len < 0) (k op : Int32) (n : Int64) : Met l y_Hr_code w_Hr_code ({ frames := 2, cells := 0, slots := 0, locals := 47 }) (preW G (TYS cI cL cZ cR cE) [.ref (A.h 0), .int k, .int op, .long n] sz (FW cI cL cZ cR cE A s)) (va_Qi (S := CS) (fun ans u => (ans, u) = F_code s k op n) (fun u t => va_P G vwCl (FW cI cL cZ cR cE A u) t.heap ∧ va_K G vwCl (TYS cI cL cZ cR cE) t ∧ va_D (va_A (FW cI cL cZ cR cE A s) sz) (FW cI cL cZ cR cE A u)) (va_A (FW cI cL cZ cR cE A s) sz)) 0 0 (va_A (FW cI cL cZ cR cE A s) sz) := by
  by_cases c : vp_in k s.n
  · obtain ⟨j, hj, rfl⟩ := vp_in_of c (by omega)
    have hq : f_ruleAt (rulF A s.n) (nI s.n) (nI j) = some (A.ra j) := by rw [ruleAt_iff hn, in_pos c, nI_clamp (by omega)]; exact if_pos hj
    refine Met.room (rm := { frames := 2, cells := 0, slots := 0, locals := 47 }) ((c_codeS l G cI cL cZ cR cE sz (A.h 0) (A.h 1) (A.h 2) (A.h 3) (A.h 4) (A.h 5) (A.h 6) (A.h 7) (A.h 8) (A.h 9) (A.h 10) (A.h 11) (A.h 12) (A.h 13) (A.h 14) (A.h 15) (A.ra j) (A.rb j) (A.rc j) (A.ea (s.ru j).ho) (A.eb (s.ru j).ho) s.steps (edsF A) (rulF A s.n) (nI s.n) s.days s.facts s.stack s.hf s.gv s.gg s.hc s.ht s.pos s.fault s.cell s.av s.ag s.fn s.fh s.fc (nI j) (s.ru j).rank (s.ru j).name (s.ru j).ops (s.ru j).nums (s.ru j).len (s.ru j).cell (s.ru j).fk (s.ru j).fv (s.ed (s.ru j).ho).state (nI (s.ed (s.ru j).ho).cnt) (s.ed (s.ru j).ho).fr (s.ed (s.ru j).ho).told (ordF A (s.ed (s.ru j).ho)) (nI j) op n hq (hl j hj)).foc_i (FW_pRE (hho j hj) hj) (fun ans u hu => ⟨(CS.mk s.steps s.n s.days s.facts s.stack s.hf s.gv s.gg s.hc s.ht s.pos s.fault s.cell s.av s.ag s.fn s.fh s.fc s.ed (setF s.ru j (RuS.mk (s.ru j).ho (s.ru j).rank (s.ru j).name (u.1) (u.2.1) (u.2.2) (s.ru j).cell (s.ru j).fk (s.ru j).fv))), ?_, FW_bRE (hho j hj) hj (RuS.mk (s.ru j).ho (s.ru j).rank (s.ru j).name (u.1) (u.2.1) (u.2.2) (s.ru j).cell (s.ru j).fk (s.ru j).fv)⟩)) (by decide) (by decide) (by decide) (by decide)
    unfold F_code
    rw [in_pos c, nI_clamp (by omega), ← hu]
  · have hq : f_ruleAt (rulF A s.n) (nI s.n) k = none := by rw [ruleAt_iff hn, in_neg c]
    refine Met.room (rm := { frames := 1, cells := 0, slots := 0, locals := 21 }) (Met.ro_i s (c_codeN l G cI cL cZ cR cE (A.h 0) (A.h 1) (A.h 2) (A.h 3) (A.h 4) (A.h 5) (A.h 6) (A.h 7) (A.h 8) (A.h 9) (A.h 10) (A.h 11) (A.h 12) (A.h 13) (A.h 14) (A.h 15) s.steps (edsF A) (rulF A s.n) (nI s.n) s.days s.facts s.stack s.hf s.gv s.gg s.hc s.ht s.pos s.fault s.cell s.av s.ag s.fn s.fh s.fc k op n hq) (fun H h => FW_hr h) rfl (fun ans ha => ?_)) (by decide) (by decide) (by decide) (by decide)
    unfold F_code
    rw [in_neg c, ha]
    rfl
theorem x_fallback (l : Launch) (G : va_G) (cI cL cZ cR cE : ClassId) (sz : Nat) (A : CAd) (s : CS) (hn : s.n ≤ 40) (hho : ∀ j, j < s.n → (s.ru j).ho < 6) (k kind : Int32) (w : Int64) : Met l y_Hr_fallback w_Hr_fallback ({ frames := 1, cells := 0, slots := 0, locals := 25 }) (preW G (TYS cI cL cZ cR cE) [.ref (A.h 0), .int k, .int kind, .long w] sz (FW cI cL cZ cR cE A s)) (va_Qi (S := CS) (fun ans u => (ans, u) = F_fallback s k kind w) (fun u t => va_P G vwCl (FW cI cL cZ cR cE A u) t.heap ∧ va_K G vwCl (TYS cI cL cZ cR cE) t ∧ va_D (va_A (FW cI cL cZ cR cE A s) sz) (FW cI cL cZ cR cE A u)) (va_A (FW cI cL cZ cR cE A s) sz)) 0 0 (va_A (FW cI cL cZ cR cE A s) sz) := by
  by_cases c : vp_in k s.n
  · obtain ⟨j, hj, rfl⟩ := vp_in_of c (by omega)
    have hq : f_ruleAt (rulF A s.n) (nI s.n) (nI j) = some (A.ra j) := by rw [ruleAt_iff hn, in_pos c, nI_clamp (by omega)]; exact if_pos hj
    refine Met.room (rm := { frames := 1, cells := 0, slots := 0, locals := 25 }) ((c_fallbackS l G cI cL cZ cR cE sz (A.h 0) (A.h 1) (A.h 2) (A.h 3) (A.h 4) (A.h 5) (A.h 6) (A.h 7) (A.h 8) (A.h 9) (A.h 10) (A.h 11) (A.h 12) (A.h 13) (A.h 14) (A.h 15) (A.ra j) (A.rb j) (A.rc j) (A.ea (s.ru j).ho) (A.eb (s.ru j).ho) s.steps (edsF A) (rulF A s.n) (nI s.n) s.days s.facts s.stack s.hf s.gv s.gg s.hc s.ht s.pos s.fault s.cell s.av s.ag s.fn s.fh s.fc (nI j) (s.ru j).rank (s.ru j).name (s.ru j).ops (s.ru j).nums (s.ru j).len (s.ru j).cell (s.ru j).fk (s.ru j).fv (s.ed (s.ru j).ho).state (nI (s.ed (s.ru j).ho).cnt) (s.ed (s.ru j).ho).fr (s.ed (s.ru j).ho).told (ordF A (s.ed (s.ru j).ho)) (nI j) kind w hq).foc_i (FW_pRE (hho j hj) hj) (fun ans u hu => ⟨(CS.mk s.steps s.n s.days s.facts s.stack s.hf s.gv s.gg s.hc s.ht s.pos s.fault s.cell s.av s.ag s.fn s.fh s.fc s.ed (setF s.ru j (RuS.mk (s.ru j).ho (s.ru j).rank (s.ru j).name (s.ru j).ops (s.ru j).nums (s.ru j).len (s.ru j).cell (u.1) (u.2)))), ?_, FW_bRE (hho j hj) hj (RuS.mk (s.ru j).ho (s.ru j).rank (s.ru j).name (s.ru j).ops (s.ru j).nums (s.ru j).len (s.ru j).cell (u.1) (u.2))⟩)) (by decide) (by decide) (by decide) (by decide)
    unfold F_fallback
    rw [in_pos c, nI_clamp (by omega), ← hu]
  · have hq : f_ruleAt (rulF A s.n) (nI s.n) k = none := by rw [ruleAt_iff hn, in_neg c]
    refine Met.room (rm := { frames := 1, cells := 0, slots := 0, locals := 21 }) (Met.ro_i s (c_fallbackN l G cI cL cZ cR cE (A.h 0) (A.h 1) (A.h 2) (A.h 3) (A.h 4) (A.h 5) (A.h 6) (A.h 7) (A.h 8) (A.h 9) (A.h 10) (A.h 11) (A.h 12) (A.h 13) (A.h 14) (A.h 15) s.steps (edsF A) (rulF A s.n) (nI s.n) s.days s.facts s.stack s.hf s.gv s.gg s.hc s.ht s.pos s.fault s.cell s.av s.ag s.fn s.fh s.fc k kind w hq) (fun H h => FW_hr h) rfl (fun ans ha => ?_)) (by decide) (by decide) (by decide) (by decide)
    unfold F_fallback
    rw [in_neg c, ha]
    rfl
theorem x_day (l : Launch) (G : va_G) (cI cL cZ cR cE : ClassId) (sz : Nat) (A : CAd) (s : CS) (k fr : Int32) : Met l y_Hr_day w_Hr_day ({ frames := 1, cells := 0, slots := 0, locals := 25 }) (preW G (TYS cI cL cZ cR cE) [.ref (A.h 0), .int k, .int fr] sz (FW cI cL cZ cR cE A s)) (va_Qi (S := CS) (fun ans u => (ans, u) = F_day s k fr) (fun u t => va_P G vwCl (FW cI cL cZ cR cE A u) t.heap ∧ va_K G vwCl (TYS cI cL cZ cR cE) t ∧ va_D (va_A (FW cI cL cZ cR cE A s) sz) (FW cI cL cZ cR cE A u)) (va_A (FW cI cL cZ cR cE A s) sz)) 0 0 (va_A (FW cI cL cZ cR cE A s) sz) := by
  by_cases c : vp_in k 6
  · obtain ⟨e, he, rfl⟩ := vp_in_of c (by omega)
    have hq : f_editionAt (edsF A) (nI e) = some (A.ea e) := by rw [edAt_iff, in_pos c, nI_clamp (by omega)]; exact if_pos he
    refine Met.room (rm := { frames := 1, cells := 0, slots := 0, locals := 25 }) ((c_dayS l G cI cL cZ cR cE sz (A.h 0) (A.h 1) (A.h 2) (A.h 3) (A.h 4) (A.h 5) (A.h 6) (A.h 7) (A.h 8) (A.h 9) (A.h 10) (A.h 11) (A.h 12) (A.h 13) (A.h 14) (A.h 15) (A.ea e) (A.eb e) s.steps (edsF A) (rulF A s.n) (nI s.n) s.days s.facts s.stack s.hf s.gv s.gg s.hc s.ht s.pos s.fault s.cell s.av s.ag s.fn s.fh s.fc (s.ed e).state (nI (s.ed e).cnt) (s.ed e).fr (s.ed e).told (ordF A (s.ed e)) (nI e) fr hq).foc_i (FW_pE he) (fun ans u hu => ⟨(CS.mk s.steps s.n (u.1) s.facts s.stack s.hf s.gv s.gg s.hc s.ht s.pos s.fault s.cell s.av s.ag s.fn s.fh s.fc (setF s.ed e (EdS.mk (s.ed e).state (u.2.1) (u.2.2) (s.ed e).cnt (s.ed e).ord)) s.ru), ?_, FW_bE (s := (CS.mk s.steps s.n (u.1) s.facts s.stack s.hf s.gv s.gg s.hc s.ht s.pos s.fault s.cell s.av s.ag s.fn s.fh s.fc s.ed s.ru)) he (EdS.mk (s.ed e).state (u.2.1) (u.2.2) (s.ed e).cnt (s.ed e).ord)⟩)) (by decide) (by decide) (by decide) (by decide)
    unfold F_day
    rw [in_pos c, nI_clamp (by omega), ← hu]
  · have hq : f_editionAt (edsF A) k = none := by rw [edAt_iff, in_neg c]
    refine Met.room (rm := { frames := 1, cells := 0, slots := 0, locals := 21 }) (Met.ro_i s (c_dayN l G cI cL cZ cR cE (A.h 0) (A.h 1) (A.h 2) (A.h 3) (A.h 4) (A.h 5) (A.h 6) (A.h 7) (A.h 8) (A.h 9) (A.h 10) (A.h 11) (A.h 12) (A.h 13) (A.h 14) (A.h 15) s.steps (edsF A) (rulF A s.n) (nI s.n) s.days s.facts s.stack s.hf s.gv s.gg s.hc s.ht s.pos s.fault s.cell s.av s.ag s.fn s.fh s.fc k fr hq) (fun H h => FW_hr h) rfl (fun ans ha => ?_)) (by decide) (by decide) (by decide) (by decide)
    unfold F_day
    rw [in_neg c, ha]
    rfl
theorem x_answer (l : Launch) (G : va_G) (cI cL cZ cR cE : ClassId) (A : CAd) (s : CS) (k : Int32) : Met l y_Hr_answer w_Hr_answer ({ frames := 1, cells := 0, slots := 0, locals := 21 }) (preR G (TYS cI cL cZ cR cE) [.ref (A.h 0), .int k] (FW cI cL cZ cR cE A s)) (vp_Sl (fun ans => ans = f_answer s.av k)) 0 0 (fun _ => False) :=
  (c_answer l G cI cL cZ cR cE (A.h 0) (A.h 1) (A.h 2) (A.h 3) (A.h 4) (A.h 5) (A.h 6) (A.h 7) (A.h 8) (A.h 9) (A.h 10) (A.h 11) (A.h 12) (A.h 13) (A.h 14) (A.h 15) s.steps (edsF A) (rulF A s.n) (nI s.n) s.days s.facts s.stack s.hf s.gv s.gg s.hc s.ht s.pos s.fault s.cell s.av s.ag s.fn s.fh s.fc k).foc_r (fun H h => FW_hr h)
theorem x_by (l : Launch) (G : va_G) (cI cL cZ cR cE : ClassId) (A : CAd) (s : CS) (k : Int32) : Met l y_Hr_by w_Hr_by ({ frames := 1, cells := 0, slots := 0, locals := 21 }) (preR G (TYS cI cL cZ cR cE) [.ref (A.h 0), .int k] (FW cI cL cZ cR cE A s)) (vp_Si (fun ans => ans = f_by s.ag k)) 0 0 (fun _ => False) :=
  (c_by l G cI cL cZ cR cE (A.h 0) (A.h 1) (A.h 2) (A.h 3) (A.h 4) (A.h 5) (A.h 6) (A.h 7) (A.h 8) (A.h 9) (A.h 10) (A.h 11) (A.h 12) (A.h 13) (A.h 14) (A.h 15) s.steps (edsF A) (rulF A s.n) (nI s.n) s.days s.facts s.stack s.hf s.gv s.gg s.hc s.ht s.pos s.fault s.cell s.av s.ag s.fn s.fh s.fc k).foc_r (fun H h => FW_hr h)
theorem x_failed (l : Launch) (G : va_G) (cI cL cZ cR cE : ClassId) (A : CAd) (s : CS) (i what : Int32) : Met l y_Hr_failed w_Hr_failed ({ frames := 1, cells := 0, slots := 0, locals := 21 }) (preR G (TYS cI cL cZ cR cE) [.ref (A.h 0), .int i, .int what] (FW cI cL cZ cR cE A s)) (vp_Si (fun ans => ans = f_failed s.fn s.fh s.fc i what)) 0 0 (fun _ => False) :=
  (c_failed l G cI cL cZ cR cE (A.h 0) (A.h 1) (A.h 2) (A.h 3) (A.h 4) (A.h 5) (A.h 6) (A.h 7) (A.h 8) (A.h 9) (A.h 10) (A.h 11) (A.h 12) (A.h 13) (A.h 14) (A.h 15) s.steps (edsF A) (rulF A s.n) (nI s.n) s.days s.facts s.stack s.hf s.gv s.gg s.hc s.ht s.pos s.fault s.cell s.av s.ag s.fn s.fh s.fc i what).foc_r (fun H h => FW_hr h)
theorem x_editionAt (l : Launch) (G : va_G) (cI cL cZ cR cE : ClassId) (A : CAd) (s : CS) (k : Int32) : Met l y_Hr_editionAt w_Hr_editionAt ({ frames := 0, cells := 0, slots := 0, locals := 0 }) (preR G (TYS cI cL cZ cR cE) [.ref (A.h 0), .int k] (FW cI cL cZ cR cE A s)) (va_Sq (fun ans => ans = f_editionAt (edsF A) k)) 0 0 (fun _ => False) :=
  (c_editionAt l G cI cL cZ cR cE (A.h 0) (A.h 1) (A.h 2) (A.h 3) (A.h 4) (A.h 5) (A.h 6) (A.h 7) (A.h 8) (A.h 9) (A.h 10) (A.h 11) (A.h 12) (A.h 13) (A.h 14) (A.h 15) s.steps (edsF A) (rulF A s.n) (nI s.n) s.days s.facts s.stack s.hf s.gv s.gg s.hc s.ht s.pos s.fault s.cell s.av s.ag s.fn s.fh s.fc k).foc_r (fun H h => FW_hr h)
theorem x_ruleAt (l : Launch) (G : va_G) (cI cL cZ cR cE : ClassId) (A : CAd) (s : CS) (k : Int32) : Met l y_Hr_ruleAt w_Hr_ruleAt ({ frames := 0, cells := 0, slots := 0, locals := 0 }) (preR G (TYS cI cL cZ cR cE) [.ref (A.h 0), .int k] (FW cI cL cZ cR cE A s)) (va_Sq (fun ans => ans = f_ruleAt (rulF A s.n) (nI s.n) k)) 0 0 (fun _ => False) :=
  (c_ruleAt l G cI cL cZ cR cE (A.h 0) (A.h 1) (A.h 2) (A.h 3) (A.h 4) (A.h 5) (A.h 6) (A.h 7) (A.h 8) (A.h 9) (A.h 10) (A.h 11) (A.h 12) (A.h 13) (A.h 14) (A.h 15) s.steps (edsF A) (rulF A s.n) (nI s.n) s.days s.facts s.stack s.hf s.gv s.gg s.hc s.ht s.pos s.fault s.cell s.av s.ag s.fn s.fh s.fc k).foc_r (fun H h => FW_hr h)
theorem x_cell (l : Launch) (G : va_G) (cI cL cZ cR cE : ClassId) (A : CAd) (s : CS) (hn : s.n ≤ 40) (k : Int32) : Met l y_Hr_cell w_Hr_cell ({ frames := 1, cells := 0, slots := 0, locals := 21 }) (preR G (TYS cI cL cZ cR cE) [.ref (A.h 0), .int k] (FW cI cL cZ cR cE A s)) (vp_Sl (fun ans => ans = F_cell s k)) 0 0 (fun _ => False) := by
  by_cases c : vp_in k s.n
  · obtain ⟨j, hj, rfl⟩ := vp_in_of c (by omega)
    have hq : f_ruleAt (rulF A s.n) (nI s.n) (nI j) = some (A.ra j) := by rw [ruleAt_iff hn, in_pos c, nI_clamp (by omega)]; exact if_pos hj
    have hF : F_cell s (nI j) = (s.ru j).cell := by unfold F_cell; rw [in_pos c, nI_clamp (by omega)]
    rw [hF]
    exact Met.room (rm := { frames := 1, cells := 0, slots := 0, locals := 21 }) ((c_cellS l G cI cL cZ cR cE (A.h 0) (A.h 1) (A.h 2) (A.h 3) (A.h 4) (A.h 5) (A.h 6) (A.h 7) (A.h 8) (A.h 9) (A.h 10) (A.h 11) (A.h 12) (A.h 13) (A.h 14) (A.h 15) (A.ra j) (A.rb j) (A.rc j) s.steps (edsF A) (rulF A s.n) (nI s.n) s.days s.facts s.stack s.hf s.gv s.gg s.hc s.ht s.pos s.fault s.cell s.av s.ag s.fn s.fh s.fc (nI j) (A.ea (s.ru j).ho) (s.ru j).rank (s.ru j).name (s.ru j).ops (s.ru j).nums (s.ru j).len (s.ru j).cell (s.ru j).fk (s.ru j).fv (nI j) hq).foc_r (fun H h => (FW_hr h).app (FW_ru h hj))) (by decide) (by decide) (by decide) (by decide)
  · have hq : f_ruleAt (rulF A s.n) (nI s.n) k = none := by rw [ruleAt_iff hn, in_neg c]
    have hF : F_cell s k = 0 := by unfold F_cell; rw [in_neg c]
    rw [hF]
    exact Met.room (rm := { frames := 1, cells := 0, slots := 0, locals := 21 }) ((c_cellN l G cI cL cZ cR cE (A.h 0) (A.h 1) (A.h 2) (A.h 3) (A.h 4) (A.h 5) (A.h 6) (A.h 7) (A.h 8) (A.h 9) (A.h 10) (A.h 11) (A.h 12) (A.h 13) (A.h 14) (A.h 15) s.steps (edsF A) (rulF A s.n) (nI s.n) s.days s.facts s.stack s.hf s.gv s.gg s.hc s.ht s.pos s.fault s.cell s.av s.ag s.fn s.fh s.fc k hq).foc_r (fun H h => FW_hr h)) (by decide) (by decide) (by decide) (by decide)
theorem x_edition (l : Launch) (G : va_G) (cI cL cZ cR cE : ClassId) (A : CAd) (s : CS) (k what : Int32) : Met l y_Hr_edition w_Hr_edition ({ frames := 1, cells := 0, slots := 0, locals := 21 }) (preR G (TYS cI cL cZ cR cE) [.ref (A.h 0), .int k, .int what] (FW cI cL cZ cR cE A s)) (vp_Si (fun ans => ans = F_edition s k what)) 0 0 (fun _ => False) := by
  by_cases c : vp_in k 6
  · obtain ⟨e, he, rfl⟩ := vp_in_of c (by omega)
    have hq : f_editionAt (edsF A) (nI e) = some (A.ea e) := by rw [edAt_iff, in_pos c, nI_clamp (by omega)]; exact if_pos he
    have hF : F_edition s (nI e) what = f_editionS (s.ed e).state (nI (s.ed e).cnt) (s.ed e).fr what := by unfold F_edition; rw [in_pos c, nI_clamp (by omega)]
    rw [hF]
    exact Met.room (rm := { frames := 1, cells := 0, slots := 0, locals := 21 }) ((c_editionS l G cI cL cZ cR cE (A.h 0) (A.h 1) (A.h 2) (A.h 3) (A.h 4) (A.h 5) (A.h 6) (A.h 7) (A.h 8) (A.h 9) (A.h 10) (A.h 11) (A.h 12) (A.h 13) (A.h 14) (A.h 15) (A.ea e) (A.eb e) s.steps (edsF A) (rulF A s.n) (nI s.n) s.days s.facts s.stack s.hf s.gv s.gg s.hc s.ht s.pos s.fault s.cell s.av s.ag s.fn s.fh s.fc (s.ed e).state (nI (s.ed e).cnt) (s.ed e).fr (s.ed e).told (ordF A (s.ed e)) (nI e) what hq).foc_r (fun H h => (FW_hr h).app (FW_ed h he))) (by decide) (by decide) (by decide) (by decide)
  · have hq : f_editionAt (edsF A) k = none := by rw [edAt_iff, in_neg c]
    have hF : F_edition s k what = -102 := by unfold F_edition; rw [in_neg c]
    rw [hF]
    exact Met.room (rm := { frames := 1, cells := 0, slots := 0, locals := 21 }) ((c_editionN l G cI cL cZ cR cE (A.h 0) (A.h 1) (A.h 2) (A.h 3) (A.h 4) (A.h 5) (A.h 6) (A.h 7) (A.h 8) (A.h 9) (A.h 10) (A.h 11) (A.h 12) (A.h 13) (A.h 14) (A.h 15) s.steps (edsF A) (rulF A s.n) (nI s.n) s.days s.facts s.stack s.hf s.gv s.gg s.hc s.ht s.pos s.fault s.cell s.av s.ag s.fn s.fh s.fc k what hq).foc_r (fun H h => FW_hr h)) (by decide) (by decide) (by decide) (by decide)
theorem x_same (l : Launch) (G : va_G) (cI cL cZ cR cE : ClassId) (A : CAd) (s : CS) (hn : s.n ≤ 40) (k k2 : Int32) : Met l y_Hr_same w_Hr_same ({ frames := 1, cells := 0, slots := 0, locals := 22 }) (preR G (TYS cI cL cZ cR cE) [.ref (A.h 0), .int k, .int k2] (FW cI cL cZ cR cE A s)) (vp_Si (fun ans => ans = F_same s k k2)) 0 0 (fun _ => False) := by
  by_cases c : vp_in k s.n
  · obtain ⟨j, hj, rfl⟩ := vp_in_of c (by omega)
    have hq : f_ruleAt (rulF A s.n) (nI s.n) (nI j) = some (A.ra j) := by rw [ruleAt_iff hn, in_pos c, nI_clamp (by omega)]; exact if_pos hj
    by_cases c2 : vp_in k2 s.n
    · obtain ⟨i, hi, rfl⟩ := vp_in_of c2 (by omega)
      have hq2 : f_ruleAt (rulF A s.n) (nI s.n) (nI i) = some (A.ra i) := by rw [ruleAt_iff hn, in_pos c2, nI_clamp (by omega)]; exact if_pos hi
      have hF : F_same s (nI j) (nI i) = f_sameSS (s.ru j).ops (s.ru j).nums (s.ru j).len (s.ru i).ops (s.ru i).nums (s.ru i).len := by unfold F_same; rw [in_pos c, in_pos c2, nI_clamp (show j < 2 ^ 31 by omega), nI_clamp (show i < 2 ^ 31 by omega)]
      rw [hF]
      exact Met.room (rm := { frames := 1, cells := 0, slots := 0, locals := 22 }) ((c_sameSS l G cI cL cZ cR cE (A.h 0) (A.h 1) (A.h 2) (A.h 3) (A.h 4) (A.h 5) (A.h 6) (A.h 7) (A.h 8) (A.h 9) (A.h 10) (A.h 11) (A.h 12) (A.h 13) (A.h 14) (A.h 15) (A.ra j) (A.rb j) (A.rc j) (A.ra i) (A.rb i) (A.rc i) s.steps (edsF A) (rulF A s.n) (nI s.n) s.days s.facts s.stack s.hf s.gv s.gg s.hc s.ht s.pos s.fault s.cell s.av s.ag s.fn s.fh s.fc (nI j) (A.ea (s.ru j).ho) (s.ru j).rank (s.ru j).name (s.ru j).ops (s.ru j).nums (s.ru j).len (s.ru j).cell (s.ru j).fk (s.ru j).fv (nI i) (A.ea (s.ru i).ho) (s.ru i).rank (s.ru i).name (s.ru i).ops (s.ru i).nums (s.ru i).len (s.ru i).cell (s.ru i).fk (s.ru i).fv (nI j) (nI i) hq hq2).foc_r (fun H h => ((FW_hr h).app (FW_ru h hj)).app (FW_ru h hi))) (by decide) (by decide) (by decide) (by decide)
    · have hq2 : f_ruleAt (rulF A s.n) (nI s.n) k2 = none := by rw [ruleAt_iff hn, in_neg c2]
      have hF : F_same s (nI j) k2 = 0 := by unfold F_same; rw [in_pos c, in_neg c2]
      rw [hF]
      exact Met.room (rm := { frames := 1, cells := 0, slots := 0, locals := 21 }) ((c_sameSN l G cI cL cZ cR cE (A.h 0) (A.h 1) (A.h 2) (A.h 3) (A.h 4) (A.h 5) (A.h 6) (A.h 7) (A.h 8) (A.h 9) (A.h 10) (A.h 11) (A.h 12) (A.h 13) (A.h 14) (A.h 15) (A.ra j) (A.rb j) (A.rc j) s.steps (edsF A) (rulF A s.n) (nI s.n) s.days s.facts s.stack s.hf s.gv s.gg s.hc s.ht s.pos s.fault s.cell s.av s.ag s.fn s.fh s.fc (nI j) (A.ea (s.ru j).ho) (s.ru j).rank (s.ru j).name (s.ru j).ops (s.ru j).nums (s.ru j).len (s.ru j).cell (s.ru j).fk (s.ru j).fv (nI j) k2 hq hq2).foc_r (fun H h => (FW_hr h).app (FW_ru h hj))) (by decide) (by decide) (by decide) (by decide)
  · have hq : f_ruleAt (rulF A s.n) (nI s.n) k = none := by rw [ruleAt_iff hn, in_neg c]
    have hF : F_same s k k2 = f_sameN (rulF A s.n) (nI s.n) k2 := by unfold F_same f_sameN; rw [in_neg c]; cases f_ruleAt (rulF A s.n) (nI s.n) k2 <;> rfl
    rw [hF]
    exact Met.room (rm := { frames := 1, cells := 0, slots := 0, locals := 21 }) ((c_sameN l G cI cL cZ cR cE (A.h 0) (A.h 1) (A.h 2) (A.h 3) (A.h 4) (A.h 5) (A.h 6) (A.h 7) (A.h 8) (A.h 9) (A.h 10) (A.h 11) (A.h 12) (A.h 13) (A.h 14) (A.h 15) s.steps (edsF A) (rulF A s.n) (nI s.n) s.days s.facts s.stack s.hf s.gv s.gg s.hc s.ht s.pos s.fault s.cell s.av s.ag s.fn s.fh s.fc k k2 hq).foc_r (fun H h => FW_hr h)) (by decide) (by decide) (by decide) (by decide)
-- calls over a whole world
section LIBW
variable {p : Program} {l : Launch} {e : Env} {R : Room} {s : State} {m : MethodId} {args : Array Value} {below : List Frame} {meth : Method} {c : Code} {H : Heap} {locs : List Loc} {cells slots : Nat} {Q : State → Prop}
variable {pc : Nat} {ls : Array Slot} {rest st0 : List Value} {a : Array Value} {A0 : Nat → Prop} {H0 : Heap} {mc ms : Nat}
variable {G : va_G} {tys : List (ClassId × FieldType)} {X cx R0 : va_W}
theorem free_p (hp : X.Perm (cx ++ R0)) (hD : va_D A0 X) (hS : va_S A0 H0 H locs) (hA : ∀ q, H0.size ≤ q → A0 q) : ∀ q, va_A cx H.size q → A0 q := fun q h => by
  rw [va_A_mem] at h
  rw [va_D_iff] at hD
  rcases h with h | h
  · obtain ⟨x, hx, rfl⟩ := List.mem_map.mp h
    exact hD.2 x (hp.mem_iff.mpr (List.mem_append_left _ hx))
  · exact hA q (Nat.le_trans hS.1 h)
theorem join_p {w1 : va_W} {H1 : Heap} (hp : X.Perm (cx ++ R0)) (hP : va_P G vwCl X H) (hD : va_D A0 X) (hk : ∀ q : Nat, q < H.size → ¬ va_A cx H.size q → H1[q]? = H[q]?) (hF : ∀ q, va_A cx H.size q → A0 q) (hP1 : va_P G vwCl w1 H1) (hD1 : va_D (va_A cx H.size) w1) : va_P G vwCl (w1 ++ R0) H1 ∧ va_D A0 (w1 ++ R0) := by
  have hP0 := hP.perm hp
  have hD0 := hD.perm hp
  rw [va_D_iff, List.map_append] at hD0
  have hnd := List.nodup_append.mp hD0.1
  have hRlt : ∀ x ∈ R0, x.1 < H.size ∧ ¬ va_A cx H.size x.1 := fun x hx => by
    obtain ⟨i, hi⟩ := List.getElem?_of_mem (List.mem_append_right cx hx)
    have hlt := (hP0 i x hi).lt
    refine ⟨hlt, fun h => ?_⟩
    rw [va_A_mem] at h
    rcases h with h | h
    · exact hnd.2.2 _ h _ (List.mem_map.mpr ⟨x, hx, rfl⟩) rfl
    · omega
  refine ⟨va_P.app hP1 (fun k x hk' => ?_), ?_⟩
  · have hx := List.mem_of_getElem? hk'
    obtain ⟨i, hi⟩ := List.getElem?_of_mem (List.mem_append_right cx hx)
    exact (hP0 i x hi).kept (hk x.1 (hRlt x hx).1 (hRlt x hx).2)
  · rw [va_D_iff] at hD1
    rw [va_D_iff, List.map_append]
    refine ⟨List.nodup_append.mpr ⟨hD1.1, hnd.2.1, fun a ha b hb hab => ?_⟩, fun q hq => ?_⟩
    · obtain ⟨x, hx, rfl⟩ := List.mem_map.mp ha
      obtain ⟨y, hy, rfl⟩ := List.mem_map.mp hb
      exact (hRlt y hy).2 (by rw [← hab]; exact hD1.2 x hx)
    · rcases List.mem_append.mp hq with h | h
      · exact hF _ (hD1.2 q h)
      · exact hD0.2 q (List.mem_append_right _ h)
theorem cl_iP {S : Type} {post : Int32 → S → Prop} {WS : S → va_W} (hp : X.Perm (cx ++ R0)) (hK : va_K G vwCl tys s) (hP : va_P G vwCl X H) (hD : va_D A0 X) (hS : va_S A0 H0 H locs) (hA : ∀ q, H0.size ≤ q → A0 q)
    (hr : va_Run p l e R s m args below meth c H locs cells slots mc ms (F0 m pc ls st0) rest (va_Qi post (fun u t => va_P G vwCl (WS u) t.heap ∧ va_K G vwCl tys t ∧ va_D (va_A cx H.size) (WS u)) (va_A cx H.size) a) (va_A cx H.size))
    (kk : ∀ (r : Int32) (u : S) (H1 : Heap) (locs1 : List Loc), post r u → va_P G vwCl (WS u ++ R0) H1 → va_D A0 (WS u ++ R0) → va_S A0 H0 H1 locs1 → W p l e R s m args below meth c H1 locs1 (cells + mc) (slots + ms) Q (F0 m (pc + 3) ls (.int r :: rest))) : W p l e R s m args below meth c H locs cells slots Q (F0 m pc ls st0) := by
  have hF := free_p hp hD hS hA
  refine va_calli hr hS (fun q _ h => hF q h) hF (fun r u t H1 locs1 ht hvm hw hB hz1 hk1 hS1 => ?_)
  obtain ⟨hP1, -, hD1⟩ := hB
  rw [ht] at hP1
  obtain ⟨hP2, hD2⟩ := join_p hp hP hD hk1 hF hP1 hD1
  exact kk r u H1 locs1 hw hP2 hD2 hS1
theorem cl_iW {S : Type} {post : Int32 → S → Prop} {WS : S → va_W} (hK : va_K G vwCl tys s) (hP : va_P G vwCl X H) (hD : va_D A0 X) (hS : va_S A0 H0 H locs) (hA : ∀ q, H0.size ≤ q → A0 q)
    (hr : va_Run p l e R s m args below meth c H locs cells slots mc ms (F0 m pc ls st0) rest (va_Qi post (fun u t => va_P G vwCl (WS u) t.heap ∧ va_K G vwCl tys t ∧ va_D (va_A X H.size) (WS u)) (va_A X H.size) a) (va_A X H.size))
    (kk : ∀ (r : Int32) (u : S) (H1 : Heap) (locs1 : List Loc), post r u → va_P G vwCl (WS u) H1 → va_D A0 (WS u) → va_S A0 H0 H1 locs1 → W p l e R s m args below meth c H1 locs1 (cells + mc) (slots + ms) Q (F0 m (pc + 3) ls (.int r :: rest))) : W p l e R s m args below meth c H locs cells slots Q (F0 m pc ls st0) :=
  cl_iP (R0 := []) (List.Perm.of_eq (List.append_nil X).symm) hK hP hD hS hA hr (fun r u H1 locs1 h1 h2 h3 h4 => kk r u H1 locs1 h1 (by rw [List.append_nil] at h2; exact h2) (by rw [List.append_nil] at h3; exact h3) h4)
theorem cl_lP {S : Type} {post : Int64 → S → Prop} {WS : S → va_W} (hp : X.Perm (cx ++ R0)) (hK : va_K G vwCl tys s) (hP : va_P G vwCl X H) (hD : va_D A0 X) (hS : va_S A0 H0 H locs) (hA : ∀ q, H0.size ≤ q → A0 q)
    (hr : va_Run p l e R s m args below meth c H locs cells slots mc ms (F0 m pc ls st0) rest (va_Ql post (fun u t => va_P G vwCl (WS u) t.heap ∧ va_K G vwCl tys t ∧ va_D (va_A cx H.size) (WS u)) (va_A cx H.size) a) (va_A cx H.size))
    (kk : ∀ (r : Int64) (u : S) (H1 : Heap) (locs1 : List Loc), post r u → va_P G vwCl (WS u ++ R0) H1 → va_D A0 (WS u ++ R0) → va_S A0 H0 H1 locs1 → W p l e R s m args below meth c H1 locs1 (cells + mc) (slots + ms) Q (F0 m (pc + 3) ls (.long r :: rest))) : W p l e R s m args below meth c H locs cells slots Q (F0 m pc ls st0) := by
  have hF := free_p hp hD hS hA
  refine va_calll hr hS (fun q _ h => hF q h) hF (fun r u t H1 locs1 ht hvm hw hB hz1 hk1 hS1 => ?_)
  obtain ⟨hP1, -, hD1⟩ := hB
  rw [ht] at hP1
  obtain ⟨hP2, hD2⟩ := join_p hp hP hD hk1 hF hP1 hD1
  exact kk r u H1 locs1 hw hP2 hD2 hS1
theorem cl_lW {S : Type} {post : Int64 → S → Prop} {WS : S → va_W} (hK : va_K G vwCl tys s) (hP : va_P G vwCl X H) (hD : va_D A0 X) (hS : va_S A0 H0 H locs) (hA : ∀ q, H0.size ≤ q → A0 q)
    (hr : va_Run p l e R s m args below meth c H locs cells slots mc ms (F0 m pc ls st0) rest (va_Ql post (fun u t => va_P G vwCl (WS u) t.heap ∧ va_K G vwCl tys t ∧ va_D (va_A X H.size) (WS u)) (va_A X H.size) a) (va_A X H.size))
    (kk : ∀ (r : Int64) (u : S) (H1 : Heap) (locs1 : List Loc), post r u → va_P G vwCl (WS u) H1 → va_D A0 (WS u) → va_S A0 H0 H1 locs1 → W p l e R s m args below meth c H1 locs1 (cells + mc) (slots + ms) Q (F0 m (pc + 3) ls (.long r :: rest))) : W p l e R s m args below meth c H locs cells slots Q (F0 m pc ls st0) :=
  cl_lP (R0 := []) (List.Perm.of_eq (List.append_nil X).symm) hK hP hD hS hA hr (fun r u H1 locs1 h1 h2 h3 h4 => kk r u H1 locs1 h1 (by rw [List.append_nil] at h2; exact h2) (by rw [List.append_nil] at h3; exact h3) h4)
theorem cl_vP {S : Type} {post : S → Prop} {WS : S → va_W} (hp : X.Perm (cx ++ R0)) (hK : va_K G vwCl tys s) (hP : va_P G vwCl X H) (hD : va_D A0 X) (hS : va_S A0 H0 H locs) (hA : ∀ q, H0.size ≤ q → A0 q)
    (hr : va_Run p l e R s m args below meth c H locs cells slots mc ms (F0 m pc ls st0) rest (va_Qv post (fun u t => va_P G vwCl (WS u) t.heap ∧ va_K G vwCl tys t ∧ va_D (va_A cx H.size) (WS u)) (va_A cx H.size) a) (va_A cx H.size))
    (kk : ∀ (u : S) (H1 : Heap) (locs1 : List Loc), post u → va_P G vwCl (WS u ++ R0) H1 → va_D A0 (WS u ++ R0) → va_S A0 H0 H1 locs1 → W p l e R s m args below meth c H1 locs1 (cells + mc) (slots + ms) Q (F0 m (pc + 3) ls (rest))) : W p l e R s m args below meth c H locs cells slots Q (F0 m pc ls st0) := by
  have hF := free_p hp hD hS hA
  refine va_callv hr hS (fun q _ h => hF q h) hF (fun u t H1 locs1 ht hvm hw hB hz1 hk1 hS1 => ?_)
  obtain ⟨hP1, -, hD1⟩ := hB
  rw [ht] at hP1
  obtain ⟨hP2, hD2⟩ := join_p hp hP hD hk1 hF hP1 hD1
  exact kk u H1 locs1 hw hP2 hD2 hS1
theorem cl_vW {S : Type} {post : S → Prop} {WS : S → va_W} (hK : va_K G vwCl tys s) (hP : va_P G vwCl X H) (hD : va_D A0 X) (hS : va_S A0 H0 H locs) (hA : ∀ q, H0.size ≤ q → A0 q)
    (hr : va_Run p l e R s m args below meth c H locs cells slots mc ms (F0 m pc ls st0) rest (va_Qv post (fun u t => va_P G vwCl (WS u) t.heap ∧ va_K G vwCl tys t ∧ va_D (va_A X H.size) (WS u)) (va_A X H.size) a) (va_A X H.size))
    (kk : ∀ (u : S) (H1 : Heap) (locs1 : List Loc), post u → va_P G vwCl (WS u) H1 → va_D A0 (WS u) → va_S A0 H0 H1 locs1 → W p l e R s m args below meth c H1 locs1 (cells + mc) (slots + ms) Q (F0 m (pc + 3) ls (rest))) : W p l e R s m args below meth c H locs cells slots Q (F0 m pc ls st0) :=
  cl_vP (R0 := []) (List.Perm.of_eq (List.append_nil X).symm) hK hP hD hS hA hr (fun u H1 locs1 h1 h2 h3 h4 => kk u H1 locs1 h1 (by rw [List.append_nil] at h2; exact h2) (by rw [List.append_nil] at h3; exact h3) h4)
end LIBW
theorem preWV_w {G : va_G} {tys : List (ClassId × FieldType)} {s : State} {H : Heap} {A : Nat → Prop} {ws wr : va_W} {As : List Value} {b ci : Nat} {q : vw_C} {fs : List Value} (hN : NW s) (hK : va_K G vwCl tys s) (hP : va_P G vwCl ws H) (hD : va_D A ws) (hPr : va_P G vwCl wr H) (hc : vwCl[ci]? = some q) (he : wr[0]? = some (b, .inr (ci, fs))) : PreV s H q.1 b (preW G tys (.ref b :: As) H.size ws) As :=
  ⟨preW_blind, va_recv hK hPr hc he, fun U hU hW => ⟨rfl, by rw [hU], by rw [hU]; exact hP, va_K.moved hW.alike hK, hD.weaken (fun _ _ _ _ => trivial), hN.warm hW⟩⟩
theorem preWV_p {G : va_G} {tys : List (ClassId × FieldType)} {s : State} {H : Heap} {A : Nat → Prop} {X cx R0 wr : va_W} {As : List Value} {b ci : Nat} {q : vw_C} {fs : List Value} (hp : X.Perm (cx ++ R0)) (hN : NW s) (hK : va_K G vwCl tys s) (hP : va_P G vwCl X H) (hD : va_D A X) (hPr : va_P G vwCl wr H) (hc : vwCl[ci]? = some q) (he : wr[0]? = some (b, .inr (ci, fs))) : PreV s H q.1 b (preW G tys (.ref b :: As) H.size cx) As := by
  have hP0 := hP.perm hp
  have hD0 := hD.perm hp
  rw [va_D_iff, List.map_append] at hD0
  exact preWV_w hN hK (hP0.mem (fun x hx => List.mem_append_left _ hx)) (A := fun _ => True) (va_D_iff.mpr ⟨(List.nodup_append.mp hD0.1).1, fun _ _ => trivial⟩) hPr hc he
theorem preWS_p {G : va_G} {tys : List (ClassId × FieldType)} {s : State} {H : Heap} {A : Nat → Prop} {X cx R0 : va_W} {As : List Value} (hp : X.Perm (cx ++ R0)) (hN : NW s) (hK : va_K G vwCl tys s) (hP : va_P G vwCl X H) (hD : va_D A X) : PreS s H (preW G tys As H.size cx) As := by
  have hP0 := hP.perm hp
  have hD0 := hD.perm hp
  rw [va_D_iff, List.map_append] at hD0
  exact ⟨preW_blind, fun U hU hW => ⟨rfl, by rw [hU], by rw [hU]; exact hP0.mem (fun x hx => List.mem_append_left _ hx), va_K.moved hW.alike hK, va_D_iff.mpr ⟨(List.nodup_append.mp hD0.1).1, fun _ _ => trivial⟩, hN.warm hW⟩⟩
theorem preRV_w {G : va_G} {tys : List (ClassId × FieldType)} {s : State} {H : Heap} {cx wr : va_W} {As : List Value} {b ci : Nat} {q : vw_C} {fs : List Value} (hN : NW s) (hK : va_K G vwCl tys s) (hP : va_P G vwCl cx H) (hPr : va_P G vwCl wr H) (hc : vwCl[ci]? = some q) (he : wr[0]? = some (b, .inr (ci, fs))) : PreV s H q.1 b (preR G tys (.ref b :: As) cx) As :=
  ⟨preR_blind, va_recv hK hPr hc he, fun U hU hW => ⟨rfl, by rw [hU]; exact hP, va_K.moved hW.alike hK, hN.warm hW⟩⟩
def CInv (s : CS) : Prop := (s.n ≤ 40) ∧ (s.steps.toInt ≤ 100) ∧ (∀ e, e < 6 → (s.ed e).cnt ≤ 8) ∧ (∀ e, e < 6 → ∀ i, i < (s.ed e).cnt → (s.ed e).ord i < s.n) ∧ (∀ j, j < s.n → (s.ru j).ho < 6) ∧ (∀ j, j < s.n → ¬ (s.ru j).len < 0)
theorem CInv.n40 {s : CS} (h : CInv s) : s.n ≤ 40 := h.1
theorem CInv.st {s : CS} (h : CInv s) : s.steps.toInt ≤ 100 := h.2.1
theorem CInv.c8 {s : CS} (h : CInv s) : ∀ e, e < 6 → (s.ed e).cnt ≤ 8 := h.2.2.1
theorem CInv.od {s : CS} (h : CInv s) : ∀ e, e < 6 → ∀ i, i < (s.ed e).cnt → (s.ed e).ord i < s.n := h.2.2.2.1
theorem CInv.ho {s : CS} (h : CInv s) : ∀ j, j < s.n → (s.ru j).ho < 6 := h.2.2.2.2.1
theorem CInv.ln {s : CS} (h : CInv s) : ∀ j, j < s.n → ¬ (s.ru j).len < 0 := h.2.2.2.2.2
theorem Rel.cinv {s : CS} {t : MS} (h : Rel s t) : CInv s := by
  obtain ⟨L, L1, L2, L3, L4⟩ := h.st
  refine ⟨h.hn, by rw [L3, nI_toInt (by omega)]; omega, fun e he => (h.ed e he).c8, fun e he i hi => ((h.so e he).ofE i hi).1, fun j hj => (h.ru j hj).ho6, fun j hj => ?_⟩
  obtain ⟨len, l1, l2, l3⟩ := (h.ru j hj).pr
  have := l3.1
  rw [l1]; exact nI_pos (by omega)
def fcR (z : CS) : Prop := 0 ≤ z.fc.toInt ∧ z.fc.toInt ≤ 8
theorem fcR.nn {z : CS} (h : fcR z) : ¬ z.fc < 0 := by
  rw [Int32.lt_iff_toInt_lt]
  have h0 : (0 : Int32).toInt = 0 := rfl
  have := h.1
  omega
theorem fcR_do {z : CS} {j : Nat} (h : fcR z) : fcR (doS z j) := by
  show 0 ≤ (doX z j).2.2.2.2.2.2.2.2.2.2.2.2.toInt ∧ (doX z j).2.2.2.2.2.2.2.2.2.2.2.2.toInt ≤ 8
  unfold doX f_doRule
  rcases f_run z.facts z.stack z.hf z.gv z.gg z.hc (nI j) (z.ru j).ops (z.ru j).nums (z.ru j).len (z.ru j).cell z.steps with ⟨a1, a2, a3, a4, a5, a6, a7, a8, a9, a10⟩
  by_cases c : a9 = 0
  · simp only [if_pos c]; exact h
  · simp only [if_neg c]
    unfold f_addFail
    by_cases d : 8 ≤ z.fc
    · simp only [if_pos d]; exact h
    · simp only [if_neg d]
      rw [Int32.le_iff_toInt_le] at d
      have h8 : (8 : Int32).toInt = 8 := rfl
      have h1 := h.1
      have h2 := h.2
      rw [i32_inc (by omega)]
      omega
theorem fcR_st {z : CS} {j : Nat} (h : fcR z) : fcR (settleS z j) := h
theorem inOrd_ok {A : CAd} {x : EdS} {i : Nat} (hi : i < x.cnt) (h8 : x.cnt ≤ 8) : f_inOrder (nI x.cnt) (ordF A x) (nI i) = some (A.ra (x.ord i)) := by
  unfold f_inOrder
  rw [if_neg (nI_pos (by omega)), if_neg (nI_ge hi (by omega)), if_neg (show ¬ (8 : Int32) ≤ nI i from nI_ge (a := i) (b := 8) (by omega) (by omega)), nI_clamp (by omega)]
  exact if_pos hi
theorem pm_mid {L1 M L2 F : va_W} : ((L1 ++ (M ++ L2)) ++ F).Perm (M ++ ((L1 ++ L2) ++ F)) := by
  have h := (List.perm_append_comm_assoc L1 M L2).append_right F
  rw [List.append_assoc M] at h
  exact h
theorem FW_fE {cI cL cZ cR cE : ClassId} {A : CAd} {s : CS} {e : Nat} (he : e < 6) : (FW cI cL cZ cR cE A s).Perm (WEe cI cL cZ cR cE A e (s.ed e) ++ (WH cI cL cZ cR cE A s ++ (famX 6 e (fun e => WEe cI cL cZ cR cE A e (s.ed e)) ++ FR cI cL cZ cR cE A s))) := by
  have h := (FW_pE (cI := cI) (cL := cL) (cZ := cZ) (cR := cR) (cE := cE) (A := A) (s := s) he).trans ((List.perm_append_comm).append_right _)
  rw [List.append_assoc] at h
  exact h
theorem FW_gE {cI cL cZ cR cE : ClassId} {A : CAd} {s : CS} {e : Nat} (he : e < 6) (x : EdS) : (WEe cI cL cZ cR cE A e x ++ (WH cI cL cZ cR cE A s ++ (famX 6 e (fun e => WEe cI cL cZ cR cE A e (s.ed e)) ++ FR cI cL cZ cR cE A s))).Perm (FW cI cL cZ cR cE A (CS.mk s.steps s.n s.days s.facts s.stack s.hf s.gv s.gg s.hc s.ht s.pos s.fault s.cell s.av s.ag s.fn s.fh s.fc (setF s.ed e x) s.ru)) := by
  have h := FW_bE (cI := cI) (cL := cL) (cZ := cZ) (cR := cR) (cE := cE) (A := A) (s := s) he x
  refine List.Perm.trans ?_ h
  rw [← List.append_assoc]
  exact (List.perm_append_comm).append_right _
theorem x_clear (l : Launch) (G : va_G) (cI cL cZ cR cE : ClassId)  (sz : Nat) (A : CAd) (s : CS) : Met l y_An_clear w_An_clear ({ frames := 0, cells := 0, slots := 0, locals := 0 }) (preW G (TYS cI cL cZ cR cE) [.ref (A.h 10)] sz (FW cI cL cZ cR cE A s)) (va_Qv (S := CS) (fun u => u = (CS.mk s.steps s.n s.days s.facts s.stack s.hf s.gv s.gg s.hc s.ht s.pos s.fault s.cell ((f_clear s.av s.ag).1) ((f_clear s.av s.ag).2) s.fn s.fh s.fc s.ed s.ru)) (fun u t => va_P G vwCl (FW cI cL cZ cR cE A u) t.heap ∧ va_K G vwCl (TYS cI cL cZ cR cE) t ∧ va_D (va_A (FW cI cL cZ cR cE A s) sz) (FW cI cL cZ cR cE A u)) (va_A (FW cI cL cZ cR cE A s) sz)) 0 0 (va_A (FW cI cL cZ cR cE A s) sz) :=
  (c_clear l G cI cL cZ cR cE sz (A.h 10) (A.h 11) (A.h 12) s.av s.ag).foc_v (pm_mid (L1 := (WH cI cL cZ cR cE A s).take 10) (M := W_Ans cI cL cZ cR cE (A.h 10) (A.h 11) (A.h 12) s.av s.ag) (L2 := (WH cI cL cZ cR cE A s).drop 13) (F := FE cI cL cZ cR cE A s ++ FR cI cL cZ cR cE A s)) (fun u hu => ⟨_, rfl, by rw [← hu]; exact (pm_mid (L1 := (WH cI cL cZ cR cE A s).take 10) (M := W_Ans cI cL cZ cR cE (A.h 10) (A.h 11) (A.h 12) u.1 u.2) (L2 := (WH cI cL cZ cR cE A s).drop 13) (F := FE cI cL cZ cR cE A s ++ FR cI cL cZ cR cE A s)).symm⟩)
