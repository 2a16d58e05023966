-- worlds up to order: a family of objects, one of them in the light
theorem va_P.mem {D : va_G} {cl : List vw_C} {ws ws' : va_W} {H : Heap} (h : va_P D cl ws H) (hp : ∀ x ∈ ws', x ∈ ws) : va_P D cl ws' H := by
  intro k q hk
  obtain ⟨i, hi⟩ := List.getElem?_of_mem (hp q (List.mem_of_getElem? hk))
  exact h i q hi
theorem va_D_iff {A : Nat → Prop} {ws : va_W} : va_D A ws ↔ (ws.map Prod.fst).Nodup ∧ ∀ q ∈ ws, A q.1 := by
  constructor
  · intro h
    refine ⟨?_, fun q hq => ?_⟩
    · unfold List.Nodup
      rw [List.pairwise_iff_getElem]
      intro i j hi hj hij he
      rw [List.length_map] at hi hj
      rw [List.getElem_map, List.getElem_map] at he
      have := h.1 i j ws[i] ws[j] (List.getElem?_eq_getElem hi) (List.getElem?_eq_getElem hj) he
      omega
    · obtain ⟨i, hi⟩ := List.getElem?_of_mem hq
      exact h.2 i q hi
  · intro h
    refine ⟨fun i j x y hx hy hxy => ?_, fun k q hk => h.2 q (List.mem_of_getElem? hk)⟩
    have h1 := h.1
    unfold List.Nodup at h1
    rw [List.pairwise_iff_getElem] at h1
    obtain ⟨hi, ei⟩ := List.getElem?_eq_some_iff.mp hx
    obtain ⟨hj, ej⟩ := List.getElem?_eq_some_iff.mp hy
    rcases Nat.lt_trichotomy i j with hl | hl | hl
    · exact absurd (by rw [List.getElem_map, List.getElem_map, ei, ej]; exact hxy) (h1 i j (by rw [List.length_map]; exact hi) (by rw [List.length_map]; exact hj) hl)
    · exact hl
    · exact absurd (by rw [List.getElem_map, List.getElem_map, ei, ej]; exact hxy.symm) (h1 j i (by rw [List.length_map]; exact hj) (by rw [List.length_map]; exact hi) hl)
theorem va_D.perm {A : Nat → Prop} {ws ws' : va_W} (h : va_D A ws) (hp : ws.Perm ws') : va_D A ws' := by
  rw [va_D_iff] at h ⊢
  exact ⟨(hp.map Prod.fst).nodup_iff.mp h.1, fun q hq => h.2 q (hp.mem_iff.mpr hq)⟩
theorem va_P.perm {D : va_G} {cl : List vw_C} {ws ws' : va_W} {H : Heap} (h : va_P D cl ws H) (hp : ws.Perm ws') : va_P D cl ws' H := h.mem (fun x hx => hp.mem_iff.mpr hx)
/-- n objects, each with its cells -/
def fam (n : Nat) (g : Nat → va_W) : va_W := (List.range n).flatMap g
def famX (n i : Nat) (g : Nat → va_W) : va_W := ((List.range n).erase i).flatMap g
theorem fam_foc {n i : Nat} (hi : i < n) (g : Nat → va_W) : (fam n g).Perm (g i ++ famX n i g) := by
  have h := (List.perm_cons_erase (List.mem_range.mpr hi)).flatMap_right g
  rw [List.flatMap_cons] at h
  exact h
theorem famX_congr {n i : Nat} {g g' : Nat → va_W} (h : ∀ j, j < n → j ≠ i → g j = g' j) : famX n i g = famX n i g' := by
  unfold famX
  rw [List.flatMap_def, List.flatMap_def]
  congr 1
  apply List.map_congr_left
  intro j hj
  rw [List.nodup_range.mem_erase_iff] at hj
  exact h j (List.mem_range.mp hj.2) hj.1
theorem fam_succ (n : Nat) (g : Nat → va_W) : fam (n + 1) g = fam n g ++ g n := by
  unfold fam
  rw [List.range_succ, List.flatMap_append, List.flatMap_singleton]
section LIBQ
variable {p : Program} {l : Launch} {e : Env} {R : Room} {s : State} {m : MethodId} {args : Array Value} {below : List Frame} {meth : Method} {c : Code} {H : Heap} {locs : List Loc} {cells slots : Nat} {Q : State → Prop}
theorem W_seq {α : Type} {Post : α → Heap → List Loc → Array Slot → Prop} {pcE : Nat} {g : JFrame} (hh : (∀ x H1 locs1 ls1, Post x H1 locs1 ls1 → W p l e R s m args below meth c H1 locs1 cells slots Q (F0 m pcE ls1 [])) → W p l e R s m args below meth c H locs cells slots Q g) (kk : ∀ x H1 locs1 ls1, Post x H1 locs1 ls1 → W p l e R s m args below meth c H1 locs1 cells slots Q (F0 m pcE ls1 [])) : W p l e R s m args below meth c H locs cells slots Q g := hh kk
theorem W_seqR {α : Type} {Post : α → Array Slot → Prop} {pcE : Nat} {g : JFrame} (hh : (∀ x ls1, Post x ls1 → W p l e R s m args below meth c H locs cells slots Q (F0 m pcE ls1 [])) → W p l e R s m args below meth c H locs cells slots Q g) (kk : ∀ x ls1, Post x ls1 → W p l e R s m args below meth c H locs cells slots Q (F0 m pcE ls1 [])) : W p l e R s m args below meth c H locs cells slots Q g := hh kk
end LIBQ
theorem ka_int {G : va_G} {cI cL cZ cR cE cA : ClassId} {s : State} (hK : va_K G vwCl (TYS cI cL cZ cR cE) s) (h : va_K G vwCl (TYS cI cL cZ cR cE ++ [(cA, .int)]) s) : cI = cA := by
  have h1 : s.vm.findClass ("[" ++ FieldType.int.toString) = some cI := (hK.2 0 _ rfl).2
  have h2 : s.vm.findClass ("[" ++ FieldType.int.toString) = some cA := (h.2 5 _ rfl).2
  exact Option.some.inj (h1.symm.trans h2)
theorem ka_long {G : va_G} {cI cL cZ cR cE cA : ClassId} {s : State} (hK : va_K G vwCl (TYS cI cL cZ cR cE) s) (h : va_K G vwCl (TYS cI cL cZ cR cE ++ [(cA, .long)]) s) : cL = cA := by
  have h1 : s.vm.findClass ("[" ++ FieldType.long.toString) = some cL := (hK.2 1 _ rfl).2
  have h2 : s.vm.findClass ("[" ++ FieldType.long.toString) = some cA := (h.2 5 _ rfl).2
  exact Option.some.inj (h1.symm.trans h2)
theorem ka_bool {G : va_G} {cI cL cZ cR cE cA : ClassId} {s : State} (hK : va_K G vwCl (TYS cI cL cZ cR cE) s) (h : va_K G vwCl (TYS cI cL cZ cR cE ++ [(cA, .boolean)]) s) : cZ = cA := by
  have h1 : s.vm.findClass ("[" ++ FieldType.boolean.toString) = some cZ := (hK.2 2 _ rfl).2
  have h2 : s.vm.findClass ("[" ++ FieldType.boolean.toString) = some cA := (h.2 5 _ rfl).2
  exact Option.some.inj (h1.symm.trans h2)
theorem ka_rul {G : va_G} {cI cL cZ cR cE cA : ClassId} {s : State} (hK : va_K G vwCl (TYS cI cL cZ cR cE) s) (h : va_K G vwCl (TYS cI cL cZ cR cE ++ [(cA, .object R_Ru)]) s) : cR = cA := by
  obtain ⟨_, _, _, _, _, h1⟩ := (hK.2 3 _ rfl).2
  obtain ⟨_, _, _, _, _, h2⟩ := (h.2 5 _ rfl).2
  exact Option.some.inj (h1.symm.trans h2)
theorem ka_edi {G : va_G} {cI cL cZ cR cE cA : ClassId} {s : State} (hK : va_K G vwCl (TYS cI cL cZ cR cE) s) (h : va_K G vwCl (TYS cI cL cZ cR cE ++ [(cA, .object R_Ed)]) s) : cE = cA := by
  obtain ⟨_, _, _, _, _, h1⟩ := (hK.2 4 _ rfl).2
  obtain ⟨_, _, _, _, _, h2⟩ := (h.2 5 _ rfl).2
  exact Option.some.inj (h1.symm.trans h2)
