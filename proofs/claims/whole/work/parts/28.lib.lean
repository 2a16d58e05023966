-- worlds up to order: a family of objects, one of them in the light
theorem va_P.mem {D : va_G} {cl : List vw_C} {ws ws' : va_W} {H : Heap} (h : va_P D cl ws H) (hp : ∀ x ∈ ws', x ∈ ws) : va_P D cl ws' H := by
  intro k q hk
  obtain ⟨i, hi⟩ := List.getElem?_of_mem (hp q (List.mem_of_getElem? hk))
  exact h i q hi
theorem va_D_iff {A : Nat → Prop} {ws : va_W} : va_D A ws ↔ (ws.map Prod.fst).Nodup ∧ ∀ q ∈ ws, A q.1 := by
  constructor
  · intro h
    refine ⟨?_, fun q hq => ?_⟩
    · rw [List.nodup_iff_getElem?_ne_getElem?]
      intro i j hij hj he
      rw [List.length_map] at hj
      have hi : i < ws.length := by omega
      rw [List.getElem?_map, List.getElem?_map, List.getElem?_eq_getElem hi, List.getElem?_eq_getElem hj] at he
      have h2 : ws[i].1 = ws[j].1 := Option.some.inj he
      have := h.1 i j ws[i] ws[j] (List.getElem?_eq_getElem hi) (List.getElem?_eq_getElem hj) h2
      omega
    · obtain ⟨i, hi⟩ := List.getElem?_of_mem hq
      exact h.2 i q hi
  · intro h
    refine ⟨fun i j x y hx hy hxy => ?_, fun k q hk => h.2 q (List.mem_of_getElem? hk)⟩
    have h1 := List.nodup_iff_getElem?_ne_getElem?.mp h.1
    have hi := (List.getElem?_eq_some_iff.mp hx).1
    have hj := (List.getElem?_eq_some_iff.mp hy).1
    rcases Nat.lt_trichotomy i j with hl | hl | hl
    · exact absurd (by rw [List.getElem?_map, List.getElem?_map, hx, hy]; exact congrArg some hxy) (h1 i j hl (by rw [List.length_map]; exact hj))
    · exact hl
    · exact absurd (by rw [List.getElem?_map, List.getElem?_map, hx, hy]; exact congrArg some hxy.symm) (h1 j i hl (by rw [List.length_map]; exact hi))
theorem va_D.perm {A : Nat → Prop} {ws ws' : va_W} (h : va_D A ws) (hp : ws.Perm ws') : va_D A ws' := by
  rw [va_D_iff] at h ⊢
  exact ⟨(hp.map Prod.fst).nodup_iff.mp h.1, fun q hq => h.2 q (hp.mem_iff.mpr hq)⟩
theorem va_P.perm {D : va_G} {cl : List vw_C} {ws ws' : va_W} {H : Heap} (h : va_P D cl ws H) (hp : ws.Perm ws') : va_P D cl ws' H := h.mem (fun x hx => hp.mem_iff.mpr hx)
/-- n objects, each with its cells -/
def fam (n : Nat) (g : Nat → va_W) : va_W := (List.range n).flatMap g
def famX (n i : Nat) (g : Nat → va_W) : va_W := ((List.range n).erase i).flatMap g
theorem fam_foc {n i : Nat} (hi : i < n) (g : Nat → va_W) : (fam n g).Perm (g i ++ famX n i g) := by
  have h := (List.perm_cons_erase (List.mem_range.mpr hi)).flatMap_right g
  rw [List.flatMap_cons] at h
  exact h
theorem famX_congr {n i : Nat} {g g' : Nat → va_W} (h : ∀ j, j < n → j ≠ i → g j = g' j) : famX n i g = famX n i g' := by
  unfold famX
  rw [List.flatMap_def, List.flatMap_def]
  congr 1
  apply List.map_congr_left
  intro j hj
  rw [List.nodup_range.mem_erase_iff] at hj
  exact h j (List.mem_range.mp hj.2) hj.1
theorem fam_succ (n : Nat) (g : Nat → va_W) : fam (n + 1) g = fam n g ++ g n := by
  unfold fam
  rw [List.range_succ, List.flatMap_append, List.flatMap_singleton]
section LIBQ
variable {p : Program} {l : Launch} {e : Env} {R : Room} {s : State} {m : MethodId} {args : Array Value} {below : List Frame} {meth : Method} {c : Code} {H : Heap} {locs : List Loc} {cells slots : Nat} {Q : State → Prop}
theorem W_seq {α : Type} {Post : α → Heap → List Loc → Array Slot → Prop} {pcE : Nat} {g : JFrame} (hh : (∀ x H1 locs1 ls1, Post x H1 locs1 ls1 → W p l e R s m args below meth c H1 locs1 cells slots Q (F0 m pcE ls1 [])) → W p l e R s m args below meth c H locs cells slots Q g) (kk : ∀ x H1 locs1 ls1, Post x H1 locs1 ls1 → W p l e R s m args below meth c H1 locs1 cells slots Q (F0 m pcE ls1 [])) : W p l e R s m args below meth c H locs cells slots Q g := hh kk
theorem W_seqR {α : Type} {Post : α → Array Slot → Prop} {pcE : Nat} {g : JFrame} (hh : (∀ x ls1, Post x ls1 → W p l e R s m args below meth c H locs cells slots Q (F0 m pcE ls1 [])) → W p l e R s m args below meth c H locs cells slots Q g) (kk : ∀ x ls1, Post x ls1 → W p l e R s m args below meth c H locs cells slots Q (F0 m pcE ls1 [])) : W p l e R s m args below meth c H locs cells slots Q g := hh kk
end LIBQ
