-- contracts weakened, and framed
theorem Met.cons {l : Launch} {y : MethodName} {ws : List Cond} {rm : Room} {Pc Pc' : Array Value → State → Prop} {Qc Qc' : Array Value → State → Outcome → State → Prop} {mc ms : Nat} {free free' : Addr → Prop} (h : Met l y ws rm Pc Qc mc ms free) (hp : ∀ a s, Pc' a s → Pc a s) (hq : ∀ a s o t, Pc' a s → Qc a s o t → Qc' a s o t) (hf : ∀ q, free q → free' q) : Met l y ws rm Pc' Qc' mc ms free' := by
  intro p e ha hc hk s m args below hfr happ hP hK
  obtain ⟨n, o, h1, h2, h3, hQ, L, hF, hL⟩ := h p e ha hc hk s m args below hfr happ (hp _ _ hP) hK
  exact ⟨n, o, h1, h2, h3, hq _ _ _ _ hP hQ, L, hF, fun q hq => hf _ (hL q hq)⟩
theorem va_A_mem {ws : va_W} {sz q : Nat} : va_A ws sz q ↔ (q ∈ ws.map Prod.fst ∨ sz ≤ q) := by
  unfold va_A
  constructor
  · rintro (⟨k, e, h⟩ | h)
    · exact Or.inl (List.mem_map.mpr ⟨(q, e), List.mem_of_getElem? h, rfl⟩)
    · exact Or.inr h
  · rintro (h | h)
    · obtain ⟨x, hx, rfl⟩ := List.mem_map.mp h
      obtain ⟨i, hi⟩ := List.getElem?_of_mem hx
      exact Or.inl ⟨i, x.2, hi⟩
    · exact Or.inr h
theorem frame_full {D : va_G} {cl : List vw_C} {W wc R w1 : va_W} {st t : State} {sz : Nat} (hperm : W.Perm (wc ++ R)) (hP : va_P D cl W st.heap) (hD : va_D (fun _ => True) W) (hsz : st.heap.size = sz) (hF : va_F (va_A wc sz) st t) (hP1 : va_P D cl w1 t.heap) (hD1 : va_D (va_A wc sz) w1) : va_P D cl (w1 ++ R) t.heap ∧ va_D (va_A W sz) (w1 ++ R) ∧ va_F (va_A W sz) st t := by
  have hP0 := hP.perm hperm
  have hD0 := hD.perm hperm
  rw [va_D_iff, List.map_append] at hD0
  have hnd := List.nodup_append.mp hD0.1
  have hsub : ∀ q, va_A wc sz q → va_A W sz q := fun q h => by
    rw [va_A_mem] at h ⊢
    rcases h with h | h
    · exact Or.inl ((hperm.map Prod.fst).mem_iff.mpr (by rw [List.map_append]; exact List.mem_append_left _ h))
    · exact Or.inr h
  have hRlt : ∀ x ∈ R, x.1 < sz ∧ ¬ va_A wc sz x.1 := fun x hx => by
    obtain ⟨i, hi⟩ := List.getElem?_of_mem (List.mem_append_right wc hx)
    have hlt := (hP0 i x hi).lt
    rw [hsz] at hlt
    refine ⟨hlt, fun h => ?_⟩
    rw [va_A_mem] at h
    rcases h with h | h
    · exact hnd.2.2 _ h _ (List.mem_map.mpr ⟨x, hx, rfl⟩) rfl
    · omega
  refine ⟨va_P.app hP1 (fun k x hk => ?_), ?_, hF.1, fun q h1 h2 => hF.2 q h1 (fun h => h2 (hsub q h))⟩
  · have hx := List.mem_of_getElem? hk
    obtain ⟨i, hi⟩ := List.getElem?_of_mem (List.mem_append_right wc hx)
    exact (hP0 i x hi).kept (hF.2 x.1 (by rw [hsz]; exact (hRlt x hx).1) (hRlt x hx).2)
  · rw [va_D_iff] at hD1
    rw [va_D_iff, List.map_append]
    refine ⟨List.nodup_append.mpr ⟨hD1.1, hnd.2.1, fun a ha b hb hab => ?_⟩, fun q hq => ?_⟩
    · obtain ⟨x, hx, rfl⟩ := List.mem_map.mp ha
      obtain ⟨y, hy, rfl⟩ := List.mem_map.mp hb
      exact (hRlt y hy).2 (by rw [← hab]; exact hD1.2 x hx)
    · rcases List.mem_append.mp hq with h | h
      · exact hsub _ (hD1.2 q h)
      · rw [va_A_mem]
        exact Or.inl ((hperm.map Prod.fst).mem_iff.mpr (by rw [List.map_append]; exact List.mem_append_right _ (List.mem_map.mpr ⟨q, h, rfl⟩)))
