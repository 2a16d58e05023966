-- what the reference's doAll leaves
set_option maxHeartbeats 4000000 in
theorem L_mdoAll_inv {most : Int32} {sizes ops : Nat → Int32} {numbers facts : Nat → Int64} {r : Int32} (hZ : ∀ j, 0 ≤ (sizes j).toInt ∧ (sizes j).toInt ≤ 12) (hm : 0 ≤ most.toInt ∧ most.toInt ≤ 100) (hV : ∀ j, okN (ops j) (numbers j)) : ∀ (n : Nat) (at_ hd : Int32) (hf : Nat → Int32) (st : Nat → Int64) (hi sp ho : Int32) (ce : Int64) (ow : Nat → Int64) (ha : Nat → Int32), InvD n most at_ hf hd hi sp ho → (0 ≤ (L_mdoAll most sizes ops numbers facts r n at_ hd hf st hi sp ho ce ow ha).2.1.toInt ∧ (L_mdoAll most sizes ops numbers facts r n at_ hd hf st hi sp ho ce ow ha).2.1.toInt ≤ 16) ∧ (∀ j, vp_in ((L_mdoAll most sizes ops numbers facts r n at_ hd hf st hi sp ho ce ow ha).2.2.1 j) 8) ∧ (0 ≤ (L_mdoAll most sizes ops numbers facts r n at_ hd hf st hi sp ho ce ow ha).2.2.2.2.2.1.toInt ∧ (L_mdoAll most sizes ops numbers facts r n at_ hd hf st hi sp ho ce ow ha).2.2.2.2.2.1.toInt ≤ 100) := by
  intro n
  induction n with
  | zero =>
    intro at_ hd hf st hi sp ho ce ow ha h
    exact absurd h.2.2.2.2.2.2 (by decide)
  | succ n ih =>
    intro at_ hd hf st hi sp ho ce ow ha h
    have hsp : 0 ≤ sp.toInt ∧ sp.toInt ≤ 100 := ⟨h.2.2.2.2.1.1, Int.le_trans h.2.2.2.2.1.2 hm.2⟩
    unfold L_mdoAll
    by_cases c1 : ho = 0
    · rw [if_pos c1]
      by_cases c2 : sizes r.toNatClampNeg ≤ at_
      · rw [if_pos c2]; exact ⟨h.2.1, h.2.2.1, hsp⟩
      · rw [if_neg c2]
        by_cases c3 : sp = most
        · rw [if_pos c3]; exact ih _ _ _ _ _ _ _ _ _ _ (InvD_cut h hm c1 c3)
        · rw [if_neg c3]
          have hx := mperform_inv (facts := facts) (stack := st) (how := ho) (cellNow := ce) (own := ow) (has := ha) (r := r) (at_ := at_) (hV _) (at_lt h.1 (hZ _) c2) h.2.2.2.1 h.2.1 h.2.2.1
          revert hx
          rcases f_mperform ops numbers facts hd hf st hi ho ce ow ha r at_ with ⟨a1, a2, a3, a4, a5, a6, a7, a8, a9⟩
          intro hx
          exact ih _ _ _ _ _ _ _ _ _ _ (InvD_step (x := (a1, a2, a3, a4, a5, a6, a7, a8, a9)) h hm c1 c3 hx)
    · rw [if_neg c1]; exact ⟨h.2.1, h.2.2.1, hsp⟩
theorem f_mdoAll_inv {most : Int32} {sizes ops : Nat → Int32} {numbers cells facts : Nat → Int64} {handles : Int32} {handleFacts : Nat → Int32} {failures : Int32} {failedRule failedHow : Nat → Int32} {stack own : Nat → Int64} {has : Nat → Int32} {r : Int32} (hZ : ∀ j, 0 ≤ (sizes j).toInt ∧ (sizes j).toInt ≤ 12) (hm : 0 ≤ most.toInt ∧ most.toInt ≤ 100) (hV : ∀ j, okN (ops j) (numbers j)) (hc : 0 ≤ handles.toInt ∧ handles.toInt ≤ 16) (hhf : ∀ j, vp_in (handleFacts j) 8) :
    (0 ≤ (f_mdoAll most sizes ops numbers cells facts handles handleFacts failures failedRule failedHow stack own has r).1.toInt ∧ (f_mdoAll most sizes ops numbers cells facts handles handleFacts failures failedRule failedHow stack own has r).1.toInt ≤ 16) ∧ (∀ j, vp_in ((f_mdoAll most sizes ops numbers cells facts handles handleFacts failures failedRule failedHow stack own has r).2.1 j) 8) ∧ ((f_mdoAll most sizes ops numbers cells facts handles handleFacts failures failedRule failedHow stack own has r).2.2.1 = failures ∨ (f_mdoAll most sizes ops numbers cells facts handles handleFacts failures failedRule failedHow stack own has r).2.2.1 = failures + 1) := by
  unfold f_mdoAll
  have h := L_mdoAll_inv (facts := facts) (r := r) hZ hm hV 103 0 handles handleFacts stack 0 0 0 (cells r.toNatClampNeg) own (upd (upd (upd (upd has (0 : Int32).toNatClampNeg 0) (1 : Int32).toNatClampNeg 0) (2 : Int32).toNatClampNeg 0) (3 : Int32).toNatClampNeg 0) ⟨by decide, hc, hhf, by decide, ⟨by decide, hm.1⟩, fun _ => by decide, by decide⟩
  revert h
  rcases L_mdoAll most sizes ops numbers facts r 103 0 handles handleFacts stack 0 0 0 (cells r.toNatClampNeg) own (upd (upd (upd (upd has (0 : Int32).toNatClampNeg 0) (1 : Int32).toNatClampNeg 0) (2 : Int32).toNatClampNeg 0) (3 : Int32).toNatClampNeg 0) with ⟨b0, b1, b2, b3, b4, b5, b6, b7, b8, b9⟩
  intro h
  by_cases c : b6 ≤ 0
  · simp only [if_pos c]
    exact ⟨h.1, h.2.1, Or.inl trivial⟩
  · simp only [if_neg c]
    exact ⟨h.1, h.2.1, Or.inr trivial⟩
/-- the rules of an edition as the reference comes to them: o 0, .., o (cnt - 1) -/
def GH (rules : Int32) (editions orders : Nat → Int32) (ed : Int32) (o : Nat → Int32) (cnt : Nat) : Prop := cnt ≤ 8 ∧ f_mbehind rules editions orders ed (-1) = o 0 ∧ (∀ j, j < cnt → f_mbehind rules editions orders ed (o j) = o (j + 1)) ∧ (∀ j, j < cnt → vp_in (o j) 40) ∧ o cnt = -1
/-- at the head of the loop over them: the j-th is next -/
def InvT (n cnt : Nat) (o : Nat → Int32) (rule failures handles : Int32) (hf : Nat → Int32) : Prop := ∃ j : Nat, j ≤ cnt ∧ rule = o j ∧ (0 ≤ failures.toInt ∧ failures.toInt ≤ j) ∧ cnt + 1 ≤ j + n ∧ (0 ≤ handles.toInt ∧ handles.toInt ≤ 16) ∧ ∀ i, vp_in (hf i) 8
theorem GH_lt {rules : Int32} {editions orders : Nat → Int32} {ed : Int32} {o : Nat → Int32} {cnt n : Nat} {rule failures handles : Int32} {hf : Nat → Int32} (g : GH rules editions orders ed o cnt) (h : InvT n cnt o rule failures handles hf) (hne : ¬ rule = (-1)) : vp_in rule 40 ∧ vp_in failures 8 := by
  obtain ⟨j, h1, h2, h3, h4, h5, h6⟩ := h
  have hj : j < cnt := by
    rcases Nat.lt_or_ge j cnt with q | q
    · exact q
    · exact absurd (by rw [h2, show j = cnt by omega]; exact g.2.2.2.2) hne
  refine ⟨by rw [h2]; exact g.2.2.2.1 j hj, ?_⟩
  rw [vp_in_iff]
  have := g.1
  omega
theorem InvT_step {rules : Int32} {editions orders : Nat → Int32} {ed : Int32} {o : Nat → Int32} {cnt n : Nat} {rule failures handles : Int32} {hf : Nat → Int32} {failures' handles' : Int32} {hf' : Nat → Int32} (g : GH rules editions orders ed o cnt) (h : InvT (n + 1) cnt o rule failures handles hf) (hne : ¬ rule = (-1)) (hx : (0 ≤ handles'.toInt ∧ handles'.toInt ≤ 16) ∧ (∀ j, vp_in (hf' j) 8) ∧ (failures' = failures ∨ failures' = failures + 1)) : InvT n cnt o (f_mbehind rules editions orders ed rule) failures' handles' hf' := by
  obtain ⟨j, h1, h2, h3, h4, h5, h6⟩ := h
  have hj : j < cnt := by
    rcases Nat.lt_or_ge j cnt with q | q
    · exact q
    · exact absurd (by rw [h2, show j = cnt by omega]; exact g.2.2.2.2) hne
  refine ⟨j + 1, hj, by rw [h2]; exact g.2.2.1 j hj, ?_, by omega, hx.1, hx.2.1⟩
  have := g.1
  rcases hx.2.2 with e | e
  · rw [e]; omega
  · rw [e, i32_inc (by omega)]; omega
theorem InvT_0 {rules : Int32} {editions orders : Nat → Int32} {ed : Int32} {o : Nat → Int32} {cnt : Nat} {hf : Nat → Int32} (g : GH rules editions orders ed o cnt) (hhf : ∀ j, vp_in (hf j) 8) : InvT 9 cnt o (f_mbehind rules editions orders ed (-1)) 0 0 hf := ⟨0, Nat.zero_le _, g.2.1, by decide, by have := g.1; omega, by decide, hhf⟩
theorem InvT_z {cnt : Nat} {o : Nat → Int32} {rule failures handles : Int32} {hf : Nat → Int32} : ¬ InvT 0 cnt o rule failures handles hf := fun h => by
  obtain ⟨j, h1, h2, h3, h4, h5, h6⟩ := h
  omega
theorem InvT_h {n cnt : Nat} {o : Nat → Int32} {rule failures handles : Int32} {hf : Nat → Int32} (h : InvT n cnt o rule failures handles hf) : (0 ≤ handles.toInt ∧ handles.toInt ≤ 16) ∧ ∀ i, vp_in (hf i) 8 := by
  obtain ⟨j, h1, h2, h3, h4, h5, h6⟩ := h
  exact ⟨h5, h6⟩
theorem k_lt12 {k z : Int32} {b : Prop} (hI : 0 ≤ k.toInt ∧ k.toInt ≤ 12 ∧ b) (hz : 0 ≤ z.toInt ∧ z.toInt ≤ 12) (c : ¬ z ≤ k) : 0 ≤ k.toInt ∧ k.toInt < 12 := by
  rw [Int32.le_iff_toInt_le] at c
  omega
theorem k_step12 {k z : Int32} {n : Nat} (hI : 0 ≤ k.toInt ∧ k.toInt ≤ 12 ∧ 13 ≤ k.toInt + ((n + 1 : Nat) : Int)) (hz : 0 ≤ z.toInt ∧ z.toInt ≤ 12) (c : ¬ z ≤ k) : 0 ≤ (k + 1).toInt ∧ (k + 1).toInt ≤ 12 ∧ 13 ≤ (k + 1).toInt + (n : Int) := by
  rw [Int32.le_iff_toInt_le] at c
  rw [i32_inc (by omega)]
  omega
theorem k_lt4 {k : Int32} {b : Prop} (hI : 0 ≤ k.toInt ∧ k.toInt ≤ 4 ∧ b) (c : ¬ 4 ≤ k) : vp_in k 4 := by
  rw [Int32.le_iff_toInt_le] at c
  have h4 : (4 : Int32).toInt = 4 := rfl
  rw [vp_in_iff]
  omega
theorem e_lt6 {k : Int32} {b d : Prop} (hI : 0 ≤ k.toInt ∧ k.toInt ≤ 6 ∧ b ∧ d) (c : ¬ 6 ≤ k) : vp_in k 6 := by
  rw [Int32.le_iff_toInt_le] at c
  have h4 : (6 : Int32).toInt = 6 := rfl
  rw [vp_in_iff]
  omega
theorem e_step {k best2 : Int32} {n : Nat} {d : Prop} (hI : 0 ≤ k.toInt ∧ k.toInt ≤ 6 ∧ 7 ≤ k.toInt + ((n + 1 : Nat) : Int) ∧ d) (c : ¬ 6 ≤ k) (hb : best2 = (-1) ∨ vp_in best2 6) : 0 ≤ (k + 1).toInt ∧ (k + 1).toInt ≤ 6 ∧ 7 ≤ (k + 1).toInt + (n : Int) ∧ (best2 = (-1) ∨ vp_in best2 6) := by
  rw [Int32.le_iff_toInt_le] at c
  have h4 : (6 : Int32).toInt = 6 := rfl
  obtain ⟨h1, h2, h3, -⟩ := hI
  rw [i32_inc (by omega)]
  exact ⟨by omega, by omega, by omega, hb⟩
theorem med_of {ed : Int32} (h : vp_in ed 6) : ¬ f_misEdition ed = 0 := by
  rw [vp_in_iff] at h
  refine (f_mwithin_iff _ _ _).mpr ?_
  rw [Int32.toInt_toInt64]
  have h0 : (0 : Int64).toInt = 0 := rfl
  have h5 : (5 : Int64).toInt = 5 := rfl
  omega
