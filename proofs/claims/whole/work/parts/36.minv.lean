-- what one instruction of the reference leaves: its numbers stay in their ranges
def okN (op : Int32) (n : Int64) : Prop := (op = 1 → vp_in n.toInt32 8) ∧ (op = 10 → vp_in n.toInt32 4) ∧ (op = 13 → vp_in n.toInt32 8) ∧ (op = 9 → -12 ≤ n.toInt32.toInt ∧ n.toInt32.toInt ≤ 12)
def rg (lo hi : Int) (x : Int32) : Prop := lo ≤ x.toInt ∧ x.toInt ≤ hi
theorem mpush_high {stack : Nat → Int64} {high how : Int32} {w : Int64} (hh : 0 ≤ high.toInt ∧ high.toInt ≤ 8) : 0 ≤ (f_mpush stack high how w).2.1.toInt ∧ (f_mpush stack high how w).2.1.toInt ≤ 8 := by
  unfold f_mpush
  by_cases c : high = 8
  · rw [if_pos c]; exact hh
  · rw [if_neg c]
    have h1 : high.toInt ≠ (8 : Int32).toInt := fun q => c (Int32.toInt_inj.mp q)
    have h2 : (8 : Int32).toInt = 8 := rfl
    show 0 ≤ (high + 1).toInt ∧ (high + 1).toInt ≤ 8
    rw [i32_inc (by omega)]
    omega
def PI (x : Int32 × Int32 × (Nat → Int32) × (Nat → Int64) × Int32 × Int32 × Int64 × (Nat → Int64) × (Nat → Int32)) : Prop := (0 ≤ x.1.toInt ∧ x.1.toInt ≤ 24) ∧ (0 ≤ x.2.1.toInt ∧ x.2.1.toInt ≤ 16) ∧ (∀ j, vp_in (x.2.2.1 j) 8) ∧ (0 ≤ x.2.2.2.2.1.toInt ∧ x.2.2.2.2.1.toInt ≤ 8)
theorem mkeep_inv {handles : Int32} {handleFacts : Nat → Int32} {stack : Nat → Int64} {high how k : Int32} (hc : 0 ≤ handles.toInt ∧ handles.toInt ≤ 16) (hhf : ∀ j, vp_in (handleFacts j) 8) (hh : 0 ≤ high.toInt ∧ high.toInt ≤ 8) (hk : vp_in k 8) :
    (0 ≤ (f_mkeep handles handleFacts stack high how k).1.toInt ∧ (f_mkeep handles handleFacts stack high how k).1.toInt ≤ 16) ∧ (∀ j, vp_in ((f_mkeep handles handleFacts stack high how k).2.1 j) 8) ∧ (0 ≤ (f_mkeep handles handleFacts stack high how k).2.2.2.1.toInt ∧ (f_mkeep handles handleFacts stack high how k).2.2.2.1.toInt ≤ 8) := by
  unfold f_mkeep
  by_cases c1 : high = 8
  · rw [if_pos c1]; exact ⟨hc, hhf, hh⟩
  · rw [if_neg c1]
    by_cases c2 : handles = 16
    · rw [if_pos c2]; exact ⟨hc, hhf, hh⟩
    · rw [if_neg c2]
      have h1 : handles.toInt ≠ (16 : Int32).toInt := fun q => c2 (Int32.toInt_inj.mp q)
      have h2 : (16 : Int32).toInt = 16 := rfl
      have h3 := mpush_high (stack := stack) (how := how) (w := handles.toInt64) hh
      revert h3
      rcases f_mpush stack high how handles.toInt64 with ⟨s1, h1', w1⟩
      intro h3
      refine ⟨?_, fun j => ?_, h3⟩
      · show 0 ≤ (handles + 1).toInt ∧ (handles + 1).toInt ≤ 16
        rw [i32_inc (by omega)]
        omega
      · show vp_in (upd handleFacts handles.toNatClampNeg k j) 8
        unfold upd
        split
        · exact hk
        · exact hhf j
set_option maxHeartbeats 4000000 in
theorem mperform_inv {ops : Nat → Int32} {numbers : Nat → Int64} {facts : Nat → Int64} {handles : Int32} {handleFacts : Nat → Int32} {stack : Nat → Int64} {high how : Int32} {cellNow : Int64} {own : Nat → Int64} {has : Nat → Int32} {r at_ : Int32} (hok : okN (ops (12 * r + at_).toNatClampNeg) (numbers (12 * r + at_).toNatClampNeg)) (hat : 0 ≤ at_.toInt ∧ at_.toInt ≤ 11) (hh : 0 ≤ high.toInt ∧ high.toInt ≤ 8) (hc : 0 ≤ handles.toInt ∧ handles.toInt ≤ 16) (hhf : ∀ j, vp_in (handleFacts j) 8) : PI (f_mperform ops numbers facts handles handleFacts stack high how cellNow own has r at_) := by
  unfold f_mperform
  generalize ops (12 * r + at_).toNatClampNeg = op at hok ⊢
  generalize numbers (12 * r + at_).toNatClampNeg = n at hok ⊢
  have hat1 : 0 ≤ (at_ + 1).toInt ∧ (at_ + 1).toInt ≤ 24 := by rw [i32_inc (by omega)]; omega
  have hat0 : 0 ≤ at_.toInt ∧ at_.toInt ≤ 24 := by omega
  have z0 : 0 ≤ (0 : Int32).toInt ∧ (0 : Int32).toInt ≤ 24 := by decide
  have z12 : 0 ≤ (12 : Int32).toInt ∧ (12 : Int32).toInt ≤ 24 := by decide
  by_cases hle : f_mneeds op ≤ high
  · rw [if_pos hle]
    have hh' := hn_le hh (mneeds_02 op) hle
    generalize high - f_mneeds op = h at hh' ⊢
    generalize (if 8 ≤ h then (0 : Int64) else stack h.toNatClampNeg) = a
    generalize (if 8 ≤ h + 1 then (0 : Int64) else stack (h + 1).toNatClampNeg) = b
    have pp : ∀ w : Int64, PI (match f_mpush stack h how w with | (a, b, c) => (at_ + 1, (handles, handleFacts, a, b, c, cellNow, own, has))) := by
      intro w
      have h3 := mpush_high (stack := stack) (how := how) (w := w) hh'
      revert h3
      rcases f_mpush stack h how w with ⟨a, b, c⟩
      intro h3
      exact ⟨hat1, hc, hhf, h3⟩
    have p9 : op = 9 → (0 ≤ (at_ + n.toInt32).toInt → (at_ + n.toInt32).toInt ≤ 24) := by
      intro h9 _
      have := hok.2.2.2 h9
      rw [i32_add (by omega) (by omega)]
      omega
    have pk : op = 13 → PI (match f_mkeep handles handleFacts stack h how n.toInt32 with | (a, b, c, d, e) => (at_ + 1, (a, b, c, d, e, cellNow, own, has))) := by
      intro h13
      have h3 := mkeep_inv (stack := stack) (how := how) hc hhf hh' (hok.2.2.1 h13)
      revert h3
      rcases f_mkeep handles handleFacts stack h how n.toInt32 with ⟨a, b, c, d, e⟩
      intro h3
      exact ⟨hat1, h3.1, h3.2.1, h3.2.2⟩
    by_cases c0 : op = 0
    · rw [if_pos c0]; exact pp _
    rw [if_neg c0]
    by_cases c1 : op = 1
    · rw [if_pos c1]; exact pp _
    rw [if_neg c1]
    by_cases c5 : op = 5
    · rw [if_pos c5]
      by_cases d : b = 0
      · rw [if_pos d]; exact ⟨hat1, hc, hhf, hh'⟩
      · rw [if_neg d]; exact pp _
    rw [if_neg c5]
    by_cases c8 : op = 8
    · rw [if_pos c8]
      by_cases d : a = 0
      · rw [if_pos d]; exact pp _
      · rw [if_neg d]; exact pp _
    rw [if_neg c8]
    by_cases c9 : op = 9
    · rw [if_pos c9]
      by_cases d : a = 0
      · rw [if_pos d]
        by_cases hx : 0 ≤ at_ + n.toInt32
        · rw [if_pos hx]
          rw [Int32.le_iff_toInt_le] at hx
          have h0 : (0 : Int32).toInt = 0 := rfl
          rw [h0] at hx
          exact ⟨⟨hx, p9 c9 hx⟩, hc, hhf, hh'⟩
        · rw [if_neg hx]; exact ⟨z0, hc, hhf, hh'⟩
      · rw [if_neg d]; exact ⟨hat1, hc, hhf, hh'⟩
    rw [if_neg c9]
    by_cases c10 : op = 10
    · rw [if_pos c10]; exact ⟨hat1, hc, hhf, hh'⟩
    rw [if_neg c10]
    by_cases c11 : op = 11
    · rw [if_pos c11]; exact ⟨hat1, hc, hhf, hh'⟩
    rw [if_neg c11]
    by_cases c12 : op = 12
    · rw [if_pos c12]; exact pp _
    rw [if_neg c12]
    by_cases c13 : op = 13
    · rw [if_pos c13]; exact pk c13
    rw [if_neg c13]
    by_cases c14 : op = 14
    · rw [if_pos c14]
      by_cases d : f_mwithin a 0 (handles - 1).toInt64 = 0
      · rw [if_pos d]; exact ⟨hat1, hc, hhf, hh'⟩
      · rw [if_neg d]; exact pp _
    rw [if_neg c14]
    by_cases c15 : op = 15
    · rw [if_pos c15]; exact ⟨z12, hc, hhf, hh'⟩
    rw [if_neg c15]
    exact pp _
  · rw [if_neg hle]
    exact ⟨hat0, hc, hhf, hh⟩
-- the loop of doAll
def InvD (n : Nat) (most at_ : Int32) (hf : Nat → Int32) (handles high steps how : Int32) : Prop := (0 ≤ at_.toInt ∧ at_.toInt ≤ 24) ∧ (0 ≤ handles.toInt ∧ handles.toInt ≤ 16) ∧ (∀ j, vp_in (hf j) 8) ∧ (0 ≤ high.toInt ∧ high.toInt ≤ 8) ∧ (0 ≤ steps.toInt ∧ steps.toInt ≤ most.toInt) ∧ (how = 0 → 102 ≤ steps.toInt + (n : Int)) ∧ 1 ≤ n
theorem InvD_cut {n : Nat} {most at_ : Int32} {hf : Nat → Int32} {handles high steps how : Int32} (h : InvD (n + 1) most at_ hf handles high steps how) (hm : 0 ≤ most.toInt ∧ most.toInt ≤ 100) (h0 : how = 0) (he : steps = most) : InvD n most at_ hf handles high steps 1 := by
  obtain ⟨h1, h2, h3, h4, h5, h6, h7⟩ := h
  have h8 := h6 h0
  rw [he] at h8 h5 ⊢
  refine ⟨h1, h2, h3, h4, h5, fun q => absurd q (by decide), by omega⟩
theorem InvD_step {n : Nat} {most at_ : Int32} {hf : Nat → Int32} {handles high steps how : Int32} {x : Int32 × Int32 × (Nat → Int32) × (Nat → Int64) × Int32 × Int32 × Int64 × (Nat → Int64) × (Nat → Int32)} (h : InvD (n + 1) most at_ hf handles high steps how) (hm : 0 ≤ most.toInt ∧ most.toInt ≤ 100) (h0 : how = 0) (hne : ¬ steps = most) (hx : PI x) : InvD n most x.1 x.2.2.1 x.2.1 x.2.2.2.2.1 (steps + 1) x.2.2.2.2.2.1 := by
  obtain ⟨h1, h2, h3, h4, h5, h6, h7⟩ := h
  have h8 := h6 h0
  have h9 : steps.toInt ≠ most.toInt := fun q => hne (Int32.toInt_inj.mp q)
  obtain ⟨g1, g2, g3, g4⟩ := hx
  have e := i32_inc (x := steps) (by omega)
  refine ⟨g1, g2, g3, g4, by rw [e]; omega, fun _ => by rw [e]; omega, by omega⟩
theorem at_lt {at_ z : Int32} (h : 0 ≤ at_.toInt ∧ at_.toInt ≤ 24) (hz : 0 ≤ z.toInt ∧ z.toInt ≤ 12) (c : ¬ z ≤ at_) : 0 ≤ at_.toInt ∧ at_.toInt ≤ 11 := by
  rw [Int32.le_iff_toInt_le] at c
  omega
theorem at_lt12 {at_ : Int32} (h : 0 ≤ at_.toInt ∧ at_.toInt ≤ 11) : 0 ≤ at_.toInt ∧ at_.toInt < 12 := by omega
