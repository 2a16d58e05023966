-- one instruction: the class and the reference side by side
def HS (c : Nat) (hf hf2 : Nat → Int32) : Prop := c ≤ 16 ∧ ∀ i, i < c → hf i = hf2 i ∧ vp_in (hf2 i) 8
def SS (k : Nat) (st st2 : Nat → Int64) : Prop := k ≤ 8 ∧ ∀ i, i < k → st i = st2 i
def OS (num : Int32) (gv : Nat → Int64) (gg : Nat → Int32) (own : Nat → Int64) (has : Nat → Int32) : Prop := ∀ i, i < 4 → (has i = 0 ∧ gg i = -1) ∨ (has i = 1 ∧ gg i = num ∧ gv i = own i)
def okL (op : Int32) (n : Int64) : Prop := (op = 1 → 0 ≤ n.toInt ∧ n.toInt ≤ 7) ∧ (op = 10 → 0 ≤ n.toInt ∧ n.toInt ≤ 3) ∧ (op = 13 → 0 ≤ n.toInt ∧ n.toInt ≤ 7) ∧ (op = 9 → -12 ≤ n.toInt ∧ n.toInt ≤ 12)
/-- after an instruction: class (left), reference (right) -/
def StepR (num : Int32) (len : Nat) (x : (Nat → Int64) × (Nat → Int32) × (Nat → Int64) × (Nat → Int32) × Int32 × Int32 × Int32 × Int32 × Int64) (y : Int32 × Int32 × (Nat → Int32) × (Nat → Int64) × Int32 × Int32 × Int64 × (Nat → Int64) × (Nat → Int32)) : Prop :=
  ∃ c : Nat, x.2.2.2.2.1 = nI c ∧ y.2.1 = nI c ∧ HS c x.2.1 y.2.2.1 ∧ x.2.2.2.2.2.2.2.1 = y.2.2.2.2.2.1 ∧ 0 ≤ y.2.2.2.2.2.1.toInt ∧ (y.2.2.2.2.2.1 = 0 → (∃ k : Nat, x.2.2.2.2.2.1 = nI k ∧ y.2.2.2.2.1 = nI k ∧ SS k x.1 y.2.2.2.1) ∧ x.2.2.2.2.2.2.2.2 = y.2.2.2.2.2.2.1 ∧ OS num x.2.2.1 x.2.2.2.1 y.2.2.2.2.2.2.2.1 y.2.2.2.2.2.2.2.2 ∧ ∃ p : Nat, y.1 = nI p ∧ p ≤ 24 ∧ x.2.2.2.2.2.2.1 = nI (min p len))
theorem SS_put {k : Nat} {st st2 : Nat → Int64} {j : Nat} {w w2 : Int64} (h : SS k st st2) (hj : j ≤ k) (hj8 : j < 8) (hw : w = w2) : SS (j + 1) (vp_updL st j w) (vp_updL st2 j w2) := by
  refine ⟨by omega, fun i hi => ?_⟩
  unfold vp_updL
  by_cases c : i = j
  · rw [if_pos c, if_pos c]; exact hw
  · rw [if_neg c, if_neg c]; exact h.2 i (by omega)
theorem SS_le {k j : Nat} {st st2 : Nat → Int64} (h : SS k st st2) (hj : j ≤ k) : SS j st st2 := ⟨by have := h.1; omega, fun i hi => h.2 i (by omega)⟩
theorem ab_ok {st : Nat → Int64} {k : Nat} (h : k < 8) : (if (8 : Int32) ≤ nI k then (0 : Int64) else st (nI k).toNatClampNeg) = st k := by
  rw [if_neg (show ¬ (8 : Int32) ≤ nI k from nI_ge (a := k) (b := 8) h (by omega)), nI_clamp (by omega)]
theorem within_eq (v lo hi : Int64) : f_isWithin v lo hi = f_mwithin v lo hi := rfl
theorem l2i_lt {n : Int64} {m : Nat} (h : 0 ≤ n.toInt ∧ n.toInt ≤ (m : Int)) (hm : m < 2147483647) : vp_in n.toInt32 (m + 1) := by
  rw [vp_in_iff, l2i_small h.1 (by omega)]
  omega
theorem i2l_clamp {n : Int32} : n.toInt64.toInt32 = n := by simp
theorem factOf_ok {facts facts2 : Nat → Int64} {n : Int64} (hf : ∀ i, i < 8 → facts i = facts2 i) (h : 0 ≤ n.toInt ∧ n.toInt ≤ 7) : f_factOf facts n = facts2 n.toInt32.toNatClampNeg := by
  unfold f_factOf
  have h0 : (0 : Int64).toInt = 0 := rfl
  have h7 : (7 : Int64).toInt = 7 := rfl
  rw [if_neg ((f_isWithin_iff n 0 7).mpr (by omega))]
  obtain ⟨j, hj, e⟩ := vp_in_of (l2i_lt (m := 7) h (by omega)) (by omega)
  rw [e, nI_clamp (by omega)]
  exact hf j hj
section SIM
variable {facts facts2 st st2 : Nat → Int64} {hf hf2 : Nat → Int32} {gv own : Nat → Int64} {gg has : Nat → Int32} {c k p len : Nat} {cell : Int64} {num r at_ : Int32} {n n2 : Int64} {ops : Nat → Int32} {numbers : Nat → Int64}
/-- the reference's instruction with its op and number taken out -/
theorem StepR_fault {x1 : Nat → Int64} {x2 : Nat → Int32} {x3 : Nat → Int64} {x4 : Nat → Int32} {x6 x7 x8 : Int32} {x9 : Int64} {y1 : Int32} {y3 : Nat → Int32} {y4 : Nat → Int64} {y5 : Int32} {y7 : Int64} {y8 : Nat → Int64} {y9 : Nat → Int32} {f : Int32} (hH : HS c x2 y3) (h8 : x8 = f) (hf : ¬ f = 0 ∧ 0 ≤ f.toInt) : StepR num len (x1, x2, x3, x4, nI c, x6, x7, x8, x9) (y1, nI c, y3, y4, y5, f, y7, y8, y9) :=
  ⟨c, rfl, rfl, hH, h8, hf.2, fun q => absurd q hf.1⟩
theorem StepR_go {x1 : Nat → Int64} {x2 : Nat → Int32} {x3 : Nat → Int64} {x4 : Nat → Int32} {x7 : Int32} {x9 : Int64} {y3 : Nat → Int32} {y4 : Nat → Int64} {y7 : Int64} {y8 : Nat → Int64} {y9 : Nat → Int32} {j q : Nat} (hH : HS c x2 y3) (hS : SS j x1 y4) (hC : x9 = y7) (hO : OS num x3 x4 y8 y9) (hq : q ≤ 24) (h7 : x7 = nI (min q len)) : StepR num len (x1, x2, x3, x4, nI c, nI j, x7, 0, x9) (nI q, nI c, y3, y4, nI j, 0, y7, y8, y9) :=
  ⟨c, rfl, rfl, hH, rfl, (show 0 ≤ (0 : Int32).toInt by decide), fun _ => ⟨⟨j, rfl, rfl, hS⟩, hC, hO, q, rfl, hq, h7⟩⟩
theorem pos_next (h : p < len) (hl : len ≤ 12) : nI p + 1 = nI (min (p + 1) len) := by
  rw [nI_1, Nat.min_eq_left (by omega)]
theorem HS_hi (h : HS c hf hf2) : c < 2 ^ 30 := by have := h.1; omega
theorem hi_toInt {c : Nat} (hc : c ≤ 16) : ((nI c - 1).toInt64).toInt = (c : Int) - 1 := by
  rw [Int32.toInt_toInt64]
  exact pk_sub_toInt (a := c) (b := 1) (by omega) (by omega)
theorem fault_plain {op : Int32} {t p : Nat} (ht : f_takes op = nI t) (hp : f_puts op = nI p) (hk : k ≤ 8) (ht2 : t ≤ 2) (hp2 : p ≤ 1) (hc : c ≤ 16) (h5 : ¬ op = 5) (h13 : ¬ op = 13) (h14 : ¬ op = 14) : f_faultOf st (nI c) (nI k) op = if k < t then 3 else if 8 < k - t + p then 3 else 0 := by
  rw [faultOf_nI ht hp hk ht2 hp2 hc, if_neg (show ¬ (op = 5 ∧ f_top st (nI k) = 0) from fun q => h5 q.1), if_neg (show ¬ (op = 13 ∧ 16 ≤ c) from fun q => h13 q.1), if_neg (show ¬ (op = 14 ∧ f_isWithin (f_top st (nI k)) 0 ((nI c - 1).toInt64) = 0) from fun q => h14 q.1)]
theorem needs_ok {t : Nat} (h : t ≤ k) (hk : k ≤ 8) : nI t ≤ nI k := nI_le h (by omega)
theorem needs_no {t : Nat} (h : k < t) (ht : t ≤ 2) : ¬ nI t ≤ nI k := nI_ge h (by omega)
theorem give_ok (h : 0 ≤ n.toInt ∧ n.toInt ≤ 3) {w : Int64} : f_give gv gg n w num = (vp_updL gv n.toInt32.toNatClampNeg w, upd gg n.toInt32.toNatClampNeg num) := by
  unfold f_give
  have h0 : (0 : Int64).toInt = 0 := rfl
  have h3 : (3 : Int64).toInt = 3 := rfl
  rw [if_neg ((f_isWithin_iff n 0 3).mpr (by omega))]
theorem OS_put {j : Nat} {w w2 : Int64} (hO : OS num gv gg own has) (hw : w = w2) : OS num (vp_updL gv j w) (upd gg j num) (vp_updL own j w2) (upd has j 1) := by
  intro i hi
  unfold vp_updL upd
  by_cases c : i = j
  · simp only [if_pos c]; exact Or.inr ⟨trivial, trivial, hw⟩
  · simp only [if_neg c]; exact hO i hi
theorem HS_put {w w2 : Int32} (hH : HS c hf hf2) (hc : c < 16) (hw : w = w2) (hv : vp_in w2 8) : HS (c + 1) (upd hf c w) (upd hf2 c w2) := by
  refine ⟨by omega, fun i hi => ?_⟩
  unfold upd
  by_cases e : i = c
  · simp only [if_pos e]; exact ⟨hw, hv⟩
  · simp only [if_neg e]; exact hH.2 i (by omega)
theorem behind_ok {w : Int64} (hH : HS c hf hf2) (hfa : ∀ i, i < 8 → facts i = facts2 i) (h : ¬ f_mwithin w 0 ((nI c - 1).toInt64) = 0) : f_factBehind facts hf (nI c) w = facts2 (hf2 w.toInt32.toNatClampNeg).toNatClampNeg := by
  have h' := (f_isWithin_iff w 0 _).mp (show ¬ f_isWithin w 0 ((nI c - 1).toInt64) = 0 from h)
  rw [hi_toInt hH.1] at h'
  have h0 : (0 : Int64).toInt = 0 := rfl
  have h16 : (16 : Int64).toInt = 16 := rfl
  have hc := hH.1
  unfold f_factBehind
  rw [if_neg (show ¬ f_isWithin w 0 ((nI c - 1).toInt64) = 0 from h), if_neg (by rw [Int64.le_iff_toInt_le]; omega)]
  obtain ⟨j, hj, e⟩ := vp_in_of (l2i_lt (n := w) (m := c - 1) (by omega) (by omega)) (by omega)
  have hj2 : j < c := by omega
  rw [e, nI_clamp (by omega)]
  obtain ⟨g1, g2⟩ := hH.2 j hj2
  rw [g1]
  rw [factOf_ok hfa (by rw [Int32.toInt_toInt64]; rw [vp_in_iff] at g2; omega), i2l_clamp]
theorem go_ok (hp : p < len) (hl : len ≤ 12) (hn : -12 ≤ n.toInt ∧ n.toInt ≤ 12) : ∃ q : Nat, q ≤ 24 ∧ (if 0 ≤ nI p + n.toInt32 then nI p + n.toInt32 else 0) = nI q ∧ (if (if ((nI p).toInt64 + n) < (nI len).toInt64 then (nI p).toInt64 + n else (nI len).toInt64) < 0 then 0 else (if ((nI p).toInt64 + n) < (nI len).toInt64 then (nI p).toInt64 + n else (nI len).toInt64)).toInt32 = nI (min q len) := by
  have hn32 : n.toInt32.toInt = n.toInt := by
    rw [Int64.toInt_toInt32]
    exact Int.bmod_eq_of_le (by omega) (by omega)
  have hpI : (nI p).toInt = (p : Int) := nI_toInt (by omega)
  have hlI : (nI len).toInt = (len : Int) := nI_toInt (by omega)
  have hs : (nI p + n.toInt32).toInt = (p : Int) + n.toInt := by
    rw [i32_add (by omega) (by omega), hn32, hpI]
  have hL : ((nI p).toInt64 + n).toInt = (p : Int) + n.toInt := by
    rw [Int64.toInt_add, Int32.toInt_toInt64, hpI]
    exact Int.bmod_eq_of_le (by omega) (by omega)
  have hLl : ((nI len).toInt64).toInt = (len : Int) := by rw [Int32.toInt_toInt64, hlI]
  have h0 : (0 : Int32).toInt = 0 := rfl
  have h00 : (0 : Int64).toInt = 0 := rfl
  generalize hA : (nI p).toInt64 + n = A at hL ⊢
  generalize hB : (nI len).toInt64 = B at hLl ⊢
  refine ⟨((p : Int) + n.toInt).toNat, by omega, ?_, ?_⟩
  · by_cases c1 : 0 ≤ nI p + n.toInt32
    · rw [if_pos c1]
      rw [Int32.le_iff_toInt_le] at c1
      rw [← Int32.toInt_inj, hs, nI_toInt (by omega)]
      omega
    · rw [if_neg c1]
      rw [Int32.le_iff_toInt_le] at c1
      rw [← Int32.toInt_inj, nI_toInt (by omega)]
      omega
  · by_cases c1 : A < B
    · rw [if_pos c1]
      rw [Int64.lt_iff_toInt_lt] at c1
      by_cases c2 : A < 0
      · rw [if_pos c2]
        rw [Int64.lt_iff_toInt_lt] at c2
        rw [show min ((p : Int) + n.toInt).toNat len = 0 by omega]
        rfl
      · rw [if_neg c2]
        rw [Int64.lt_iff_toInt_lt] at c2
        rw [← Int32.toInt_inj, l2i_small (by omega) (by omega), nI_toInt (by omega)]
        omega
    · rw [if_neg c1]
      rw [Int64.lt_iff_toInt_lt] at c1
      rw [if_neg (by rw [Int64.lt_iff_toInt_lt]; omega)]
      rw [← Int32.toInt_inj, l2i_small (by omega) (by omega), nI_toInt (by omega)]
      omega
set_option maxHeartbeats 2000000 in
theorem sim_0 (hH : HS c hf hf2) (hS : SS k st st2) (hO : OS num gv gg own has) (hp : p < len) (hl : len ≤ 12) (hfa : ∀ i, i < 8 → facts i = facts2 i) (eo : ops (12 * r + nI p).toNatClampNeg = 0) (en : numbers (12 * r + nI p).toNatClampNeg = n2) (hn : n = n2) : StepR num len (f_perform facts st hf gv gg (nI c) (nI k) (nI p) cell num (nI len) 0 n) (f_mperform ops numbers facts2 (nI c) hf2 st2 (nI k) 0 cell own has r (nI p)) := by
  have hk := hS.1
  have hF := fault_plain (st := st) (c := c) (k := k) (op := 0) (t := 0) (p := 1) rfl rfl hk (by decide) (by decide) hH.1 (by decide) (by decide) (by decide)
  have e1 : f_takesTwo 0 = 0 := rfl
  have e2 : f_mneeds 0 = nI 0 := rfl
  unfold f_perform f_mperform
  rw [eo, en, e1, e2]
  have hne_t : ¬ (1 : Int32) = 0 := by decide
  rw [if_pos (needs_ok (Nat.zero_le k) hk), pk_sub (Nat.zero_le k), Nat.sub_zero]
  by_cases h8 : k < 8
  · rw [if_neg (by omega), if_neg (by omega)] at hF
    rw [hF]
    simp only [reduceIte, push_ok h8, mpush_ok h8]
    rw [nI_1 p]
    exact StepR_go hH (SS_put hS (Nat.le_refl k) h8 hn) rfl hO (by omega) (by rw [← nI_1]; exact pos_next hp hl)
  · have h9 : k = 8 := by omega
    subst h9
    rw [if_neg (by omega), if_pos (by omega)] at hF
    rw [hF]
    simp only [reduceIte, mpush_full]
    exact StepR_fault hH rfl (by decide)
set_option maxHeartbeats 2000000 in
theorem sim_1 (hH : HS c hf hf2) (hS : SS k st st2) (hO : OS num gv gg own has) (hp : p < len) (hl : len ≤ 12) (hfa : ∀ i, i < 8 → facts i = facts2 i) (eo : ops (12 * r + nI p).toNatClampNeg = 1) (en : numbers (12 * r + nI p).toNatClampNeg = n2) (hn : n = n2) (hk1 : 0 ≤ n.toInt ∧ n.toInt ≤ 7) : StepR num len (f_perform facts st hf gv gg (nI c) (nI k) (nI p) cell num (nI len) 1 n) (f_mperform ops numbers facts2 (nI c) hf2 st2 (nI k) 0 cell own has r (nI p)) := by
  have hk := hS.1
  have hF := fault_plain (st := st) (c := c) (k := k) (op := 1) (t := 0) (p := 1) rfl rfl hk (by decide) (by decide) hH.1 (by decide) (by decide) (by decide)
  have e1 : f_takesTwo 1 = 0 := rfl
  have e2 : f_mneeds 1 = nI 0 := rfl
  unfold f_perform f_mperform
  rw [eo, en, e1, e2]
  have hne_0 : ¬ (1 : Int32) = 0 := by decide
  have hne_t : ¬ (1 : Int32) = 0 := by decide
  rw [if_pos (needs_ok (Nat.zero_le k) hk), pk_sub (Nat.zero_le k), Nat.sub_zero]
  by_cases h8 : k < 8
  · rw [if_neg (by omega), if_neg (by omega)] at hF
    rw [hF]
    simp only [reduceIte, hne_0, push_ok h8, mpush_ok h8]
    rw [nI_1 p]
    exact StepR_go hH (SS_put hS (Nat.le_refl k) h8 (by rw [← hn]; exact factOf_ok hfa hk1)) rfl hO (by omega) (by rw [← nI_1]; exact pos_next hp hl)
  · have h9 : k = 8 := by omega
    subst h9
    rw [if_neg (by omega), if_pos (by omega)] at hF
    rw [hF]
    simp only [reduceIte, hne_0, mpush_full]
    exact StepR_fault hH rfl (by decide)
set_option maxHeartbeats 2000000 in
theorem sim_12 (hH : HS c hf hf2) (hS : SS k st st2) (hO : OS num gv gg own has) (hp : p < len) (hl : len ≤ 12) (hfa : ∀ i, i < 8 → facts i = facts2 i) (eo : ops (12 * r + nI p).toNatClampNeg = 12) (en : numbers (12 * r + nI p).toNatClampNeg = n2) : StepR num len (f_perform facts st hf gv gg (nI c) (nI k) (nI p) cell num (nI len) 12 n) (f_mperform ops numbers facts2 (nI c) hf2 st2 (nI k) 0 cell own has r (nI p)) := by
  have hk := hS.1
  have hF := fault_plain (st := st) (c := c) (k := k) (op := 12) (t := 0) (p := 1) rfl rfl hk (by decide) (by decide) hH.1 (by decide) (by decide) (by decide)
  have e1 : f_takesTwo 12 = 0 := rfl
  have e2 : f_mneeds 12 = nI 0 := rfl
  unfold f_perform f_mperform
  rw [eo, en, e1, e2]
  have hne_0 : ¬ (12 : Int32) = 0 := by decide
  have hne_1 : ¬ (12 : Int32) = 1 := by decide
  have hne_5 : ¬ (12 : Int32) = 5 := by decide
  have hne_8 : ¬ (12 : Int32) = 8 := by decide
  have hne_9 : ¬ (12 : Int32) = 9 := by decide
  have hne_10 : ¬ (12 : Int32) = 10 := by decide
  have hne_11 : ¬ (12 : Int32) = 11 := by decide
  have hne_t : ¬ (1 : Int32) = 0 := by decide
  rw [if_pos (needs_ok (Nat.zero_le k) hk), pk_sub (Nat.zero_le k), Nat.sub_zero]
  by_cases h8 : k < 8
  · rw [if_neg (by omega), if_neg (by omega)] at hF
    rw [hF]
    simp only [reduceIte, hne_0, hne_1, hne_5, hne_8, hne_9, hne_10, hne_11, push_ok h8, mpush_ok h8]
    rw [nI_1 p]
    exact StepR_go hH (SS_put hS (Nat.le_refl k) h8 rfl) rfl hO (by omega) (by rw [← nI_1]; exact pos_next hp hl)
  · have h9 : k = 8 := by omega
    subst h9
    rw [if_neg (by omega), if_pos (by omega)] at hF
    rw [hF]
    simp only [reduceIte, hne_0, hne_1, hne_5, hne_8, hne_9, hne_10, hne_11, mpush_full]
    exact StepR_fault hH rfl (by decide)
set_option maxHeartbeats 2000000 in
theorem sim_2 (hH : HS c hf hf2) (hS : SS k st st2) (hO : OS num gv gg own has) (hp : p < len) (hl : len ≤ 12) (hfa : ∀ i, i < 8 → facts i = facts2 i) (eo : ops (12 * r + nI p).toNatClampNeg = 2) (en : numbers (12 * r + nI p).toNatClampNeg = n2) : StepR num len (f_perform facts st hf gv gg (nI c) (nI k) (nI p) cell num (nI len) 2 n) (f_mperform ops numbers facts2 (nI c) hf2 st2 (nI k) 0 cell own has r (nI p)) := by
  have hk := hS.1
  have hF := fault_plain (st := st) (c := c) (k := k) (op := 2) (t := 2) (p := 1) rfl rfl hk (by decide) (by decide) hH.1 (by decide) (by decide) (by decide)
  have e1 : f_takesTwo 2 = 1 := rfl
  have e2 : f_mneeds 2 = nI 2 := rfl
  unfold f_perform f_mperform
  rw [eo, en, e1, e2]
  have hne_0 : ¬ (2 : Int32) = 0 := by decide
  have hne_1 : ¬ (2 : Int32) = 1 := by decide
  have hne_5 : ¬ (2 : Int32) = 5 := by decide
  have hne_8 : ¬ (2 : Int32) = 8 := by decide
  have hne_9 : ¬ (2 : Int32) = 9 := by decide
  have hne_10 : ¬ (2 : Int32) = 10 := by decide
  have hne_11 : ¬ (2 : Int32) = 11 := by decide
  have hne_12 : ¬ (2 : Int32) = 12 := by decide
  have hne_13 : ¬ (2 : Int32) = 13 := by decide
  have hne_14 : ¬ (2 : Int32) = 14 := by decide
  have hne_15 : ¬ (2 : Int32) = 15 := by decide
  have hne_t : ¬ (1 : Int32) = 0 := by decide
  by_cases h2 : 2 ≤ k
  · obtain ⟨j, rfl⟩ : ∃ j, k = j + 2 := ⟨k - 2, by omega⟩
    rw [if_neg (by omega), if_neg (by omega)] at hF
    rw [hF, if_pos (needs_ok h2 hk), pk_sub h2, Nat.add_sub_cancel, nI_1 j, ab_ok (st := st2) (show j < 8 by omega), ab_ok (st := st2) (show j + 1 < 8 by omega)]
    simp only [reduceIte, hne_0, hne_1, hne_5, hne_8, hne_9, hne_10, hne_11, hne_12, hne_13, hne_14, hne_15, hne_t, pop_ok (st := st) (show j + 1 < 8 by omega), pop_ok (st := st) (show j < 8 by omega), push_ok (st := st) (show j < 8 by omega), mpush_ok (st := st2) (show j < 8 by omega)]
    rw [nI_1 p]
    refine StepR_go hH (SS_put hS (by omega) (by omega) ?_) rfl hO (by omega) (by rw [← nI_1]; exact pos_next hp hl)
    rw [hS.2 j (by omega), hS.2 (j + 1) (by omega)]
    rfl
  · rw [if_pos (by omega)] at hF
    rw [hF, if_neg (needs_no (by omega) (by decide))]
    exact StepR_fault hH rfl (by decide)
set_option maxHeartbeats 2000000 in
theorem sim_3 (hH : HS c hf hf2) (hS : SS k st st2) (hO : OS num gv gg own has) (hp : p < len) (hl : len ≤ 12) (hfa : ∀ i, i < 8 → facts i = facts2 i) (eo : ops (12 * r + nI p).toNatClampNeg = 3) (en : numbers (12 * r + nI p).toNatClampNeg = n2) : StepR num len (f_perform facts st hf gv gg (nI c) (nI k) (nI p) cell num (nI len) 3 n) (f_mperform ops numbers facts2 (nI c) hf2 st2 (nI k) 0 cell own has r (nI p)) := by
  have hk := hS.1
  have hF := fault_plain (st := st) (c := c) (k := k) (op := 3) (t := 2) (p := 1) rfl rfl hk (by decide) (by decide) hH.1 (by decide) (by decide) (by decide)
  have e1 : f_takesTwo 3 = 1 := rfl
  have e2 : f_mneeds 3 = nI 2 := rfl
  unfold f_perform f_mperform
  rw [eo, en, e1, e2]
  have hne_0 : ¬ (3 : Int32) = 0 := by decide
  have hne_1 : ¬ (3 : Int32) = 1 := by decide
  have hne_5 : ¬ (3 : Int32) = 5 := by decide
  have hne_8 : ¬ (3 : Int32) = 8 := by decide
  have hne_9 : ¬ (3 : Int32) = 9 := by decide
  have hne_10 : ¬ (3 : Int32) = 10 := by decide
  have hne_11 : ¬ (3 : Int32) = 11 := by decide
  have hne_12 : ¬ (3 : Int32) = 12 := by decide
  have hne_13 : ¬ (3 : Int32) = 13 := by decide
  have hne_14 : ¬ (3 : Int32) = 14 := by decide
  have hne_15 : ¬ (3 : Int32) = 15 := by decide
  have hne_t : ¬ (1 : Int32) = 0 := by decide
  by_cases h2 : 2 ≤ k
  · obtain ⟨j, rfl⟩ : ∃ j, k = j + 2 := ⟨k - 2, by omega⟩
    rw [if_neg (by omega), if_neg (by omega)] at hF
    rw [hF, if_pos (needs_ok h2 hk), pk_sub h2, Nat.add_sub_cancel, nI_1 j, ab_ok (st := st2) (show j < 8 by omega), ab_ok (st := st2) (show j + 1 < 8 by omega)]
    simp only [reduceIte, hne_0, hne_1, hne_5, hne_8, hne_9, hne_10, hne_11, hne_12, hne_13, hne_14, hne_15, hne_t, pop_ok (st := st) (show j + 1 < 8 by omega), pop_ok (st := st) (show j < 8 by omega), push_ok (st := st) (show j < 8 by omega), mpush_ok (st := st2) (show j < 8 by omega)]
    rw [nI_1 p]
    refine StepR_go hH (SS_put hS (by omega) (by omega) ?_) rfl hO (by omega) (by rw [← nI_1]; exact pos_next hp hl)
    rw [hS.2 j (by omega), hS.2 (j + 1) (by omega)]
    rfl
  · rw [if_pos (by omega)] at hF
    rw [hF, if_neg (needs_no (by omega) (by decide))]
    exact StepR_fault hH rfl (by decide)
set_option maxHeartbeats 2000000 in
theorem sim_4 (hH : HS c hf hf2) (hS : SS k st st2) (hO : OS num gv gg own has) (hp : p < len) (hl : len ≤ 12) (hfa : ∀ i, i < 8 → facts i = facts2 i) (eo : ops (12 * r + nI p).toNatClampNeg = 4) (en : numbers (12 * r + nI p).toNatClampNeg = n2) : StepR num len (f_perform facts st hf gv gg (nI c) (nI k) (nI p) cell num (nI len) 4 n) (f_mperform ops numbers facts2 (nI c) hf2 st2 (nI k) 0 cell own has r (nI p)) := by
  have hk := hS.1
  have hF := fault_plain (st := st) (c := c) (k := k) (op := 4) (t := 2) (p := 1) rfl rfl hk (by decide) (by decide) hH.1 (by decide) (by decide) (by decide)
  have e1 : f_takesTwo 4 = 1 := rfl
  have e2 : f_mneeds 4 = nI 2 := rfl
  unfold f_perform f_mperform
  rw [eo, en, e1, e2]
  have hne_0 : ¬ (4 : Int32) = 0 := by decide
  have hne_1 : ¬ (4 : Int32) = 1 := by decide
  have hne_5 : ¬ (4 : Int32) = 5 := by decide
  have hne_8 : ¬ (4 : Int32) = 8 := by decide
  have hne_9 : ¬ (4 : Int32) = 9 := by decide
  have hne_10 : ¬ (4 : Int32) = 10 := by decide
  have hne_11 : ¬ (4 : Int32) = 11 := by decide
  have hne_12 : ¬ (4 : Int32) = 12 := by decide
  have hne_13 : ¬ (4 : Int32) = 13 := by decide
  have hne_14 : ¬ (4 : Int32) = 14 := by decide
  have hne_15 : ¬ (4 : Int32) = 15 := by decide
  have hne_t : ¬ (1 : Int32) = 0 := by decide
  by_cases h2 : 2 ≤ k
  · obtain ⟨j, rfl⟩ : ∃ j, k = j + 2 := ⟨k - 2, by omega⟩
    rw [if_neg (by omega), if_neg (by omega)] at hF
    rw [hF, if_pos (needs_ok h2 hk), pk_sub h2, Nat.add_sub_cancel, nI_1 j, ab_ok (st := st2) (show j < 8 by omega), ab_ok (st := st2) (show j + 1 < 8 by omega)]
    simp only [reduceIte, hne_0, hne_1, hne_5, hne_8, hne_9, hne_10, hne_11, hne_12, hne_13, hne_14, hne_15, hne_t, pop_ok (st := st) (show j + 1 < 8 by omega), pop_ok (st := st) (show j < 8 by omega), push_ok (st := st) (show j < 8 by omega), mpush_ok (st := st2) (show j < 8 by omega)]
    rw [nI_1 p]
    refine StepR_go hH (SS_put hS (by omega) (by omega) ?_) rfl hO (by omega) (by rw [← nI_1]; exact pos_next hp hl)
    rw [hS.2 j (by omega), hS.2 (j + 1) (by omega)]
    rfl
  · rw [if_pos (by omega)] at hF
    rw [hF, if_neg (needs_no (by omega) (by decide))]
    exact StepR_fault hH rfl (by decide)
set_option maxHeartbeats 2000000 in
theorem sim_6 (hH : HS c hf hf2) (hS : SS k st st2) (hO : OS num gv gg own has) (hp : p < len) (hl : len ≤ 12) (hfa : ∀ i, i < 8 → facts i = facts2 i) (eo : ops (12 * r + nI p).toNatClampNeg = 6) (en : numbers (12 * r + nI p).toNatClampNeg = n2) : StepR num len (f_perform facts st hf gv gg (nI c) (nI k) (nI p) cell num (nI len) 6 n) (f_mperform ops numbers facts2 (nI c) hf2 st2 (nI k) 0 cell own has r (nI p)) := by
  have hk := hS.1
  have hF := fault_plain (st := st) (c := c) (k := k) (op := 6) (t := 2) (p := 1) rfl rfl hk (by decide) (by decide) hH.1 (by decide) (by decide) (by decide)
  have e1 : f_takesTwo 6 = 1 := rfl
  have e2 : f_mneeds 6 = nI 2 := rfl
  unfold f_perform f_mperform
  rw [eo, en, e1, e2]
  have hne_0 : ¬ (6 : Int32) = 0 := by decide
  have hne_1 : ¬ (6 : Int32) = 1 := by decide
  have hne_5 : ¬ (6 : Int32) = 5 := by decide
  have hne_8 : ¬ (6 : Int32) = 8 := by decide
  have hne_9 : ¬ (6 : Int32) = 9 := by decide
  have hne_10 : ¬ (6 : Int32) = 10 := by decide
  have hne_11 : ¬ (6 : Int32) = 11 := by decide
  have hne_12 : ¬ (6 : Int32) = 12 := by decide
  have hne_13 : ¬ (6 : Int32) = 13 := by decide
  have hne_14 : ¬ (6 : Int32) = 14 := by decide
  have hne_15 : ¬ (6 : Int32) = 15 := by decide
  have hne_t : ¬ (1 : Int32) = 0 := by decide
  by_cases h2 : 2 ≤ k
  · obtain ⟨j, rfl⟩ : ∃ j, k = j + 2 := ⟨k - 2, by omega⟩
    rw [if_neg (by omega), if_neg (by omega)] at hF
    rw [hF, if_pos (needs_ok h2 hk), pk_sub h2, Nat.add_sub_cancel, nI_1 j, ab_ok (st := st2) (show j < 8 by omega), ab_ok (st := st2) (show j + 1 < 8 by omega)]
    simp only [reduceIte, hne_0, hne_1, hne_5, hne_8, hne_9, hne_10, hne_11, hne_12, hne_13, hne_14, hne_15, hne_t, pop_ok (st := st) (show j + 1 < 8 by omega), pop_ok (st := st) (show j < 8 by omega), push_ok (st := st) (show j < 8 by omega), mpush_ok (st := st2) (show j < 8 by omega)]
    rw [nI_1 p]
    refine StepR_go hH (SS_put hS (by omega) (by omega) ?_) rfl hO (by omega) (by rw [← nI_1]; exact pos_next hp hl)
    rw [hS.2 j (by omega), hS.2 (j + 1) (by omega)]
    rfl
  · rw [if_pos (by omega)] at hF
    rw [hF, if_neg (needs_no (by omega) (by decide))]
    exact StepR_fault hH rfl (by decide)
set_option maxHeartbeats 2000000 in
theorem sim_7 (hH : HS c hf hf2) (hS : SS k st st2) (hO : OS num gv gg own has) (hp : p < len) (hl : len ≤ 12) (hfa : ∀ i, i < 8 → facts i = facts2 i) (eo : ops (12 * r + nI p).toNatClampNeg = 7) (en : numbers (12 * r + nI p).toNatClampNeg = n2) : StepR num len (f_perform facts st hf gv gg (nI c) (nI k) (nI p) cell num (nI len) 7 n) (f_mperform ops numbers facts2 (nI c) hf2 st2 (nI k) 0 cell own has r (nI p)) := by
  have hk := hS.1
  have hF := fault_plain (st := st) (c := c) (k := k) (op := 7) (t := 2) (p := 1) rfl rfl hk (by decide) (by decide) hH.1 (by decide) (by decide) (by decide)
  have e1 : f_takesTwo 7 = 1 := rfl
  have e2 : f_mneeds 7 = nI 2 := rfl
  unfold f_perform f_mperform
  rw [eo, en, e1, e2]
  have hne_0 : ¬ (7 : Int32) = 0 := by decide
  have hne_1 : ¬ (7 : Int32) = 1 := by decide
  have hne_5 : ¬ (7 : Int32) = 5 := by decide
  have hne_8 : ¬ (7 : Int32) = 8 := by decide
  have hne_9 : ¬ (7 : Int32) = 9 := by decide
  have hne_10 : ¬ (7 : Int32) = 10 := by decide
  have hne_11 : ¬ (7 : Int32) = 11 := by decide
  have hne_12 : ¬ (7 : Int32) = 12 := by decide
  have hne_13 : ¬ (7 : Int32) = 13 := by decide
  have hne_14 : ¬ (7 : Int32) = 14 := by decide
  have hne_15 : ¬ (7 : Int32) = 15 := by decide
  have hne_t : ¬ (1 : Int32) = 0 := by decide
  by_cases h2 : 2 ≤ k
  · obtain ⟨j, rfl⟩ : ∃ j, k = j + 2 := ⟨k - 2, by omega⟩
    rw [if_neg (by omega), if_neg (by omega)] at hF
    rw [hF, if_pos (needs_ok h2 hk), pk_sub h2, Nat.add_sub_cancel, nI_1 j, ab_ok (st := st2) (show j < 8 by omega), ab_ok (st := st2) (show j + 1 < 8 by omega)]
    simp only [reduceIte, hne_0, hne_1, hne_5, hne_8, hne_9, hne_10, hne_11, hne_12, hne_13, hne_14, hne_15, hne_t, pop_ok (st := st) (show j + 1 < 8 by omega), pop_ok (st := st) (show j < 8 by omega), push_ok (st := st) (show j < 8 by omega), mpush_ok (st := st2) (show j < 8 by omega)]
    rw [nI_1 p]
    refine StepR_go hH (SS_put hS (by omega) (by omega) ?_) rfl hO (by omega) (by rw [← nI_1]; exact pos_next hp hl)
    rw [hS.2 j (by omega), hS.2 (j + 1) (by omega)]
    rfl
  · rw [if_pos (by omega)] at hF
    rw [hF, if_neg (needs_no (by omega) (by decide))]
    exact StepR_fault hH rfl (by decide)
set_option maxHeartbeats 2000000 in
theorem sim_5 (hH : HS c hf hf2) (hS : SS k st st2) (hO : OS num gv gg own has) (hp : p < len) (hl : len ≤ 12) (hfa : ∀ i, i < 8 → facts i = facts2 i) (eo : ops (12 * r + nI p).toNatClampNeg = 5) (en : numbers (12 * r + nI p).toNatClampNeg = n2) : StepR num len (f_perform facts st hf gv gg (nI c) (nI k) (nI p) cell num (nI len) 5 n) (f_mperform ops numbers facts2 (nI c) hf2 st2 (nI k) 0 cell own has r (nI p)) := by
  have hk := hS.1
  have hF := faultOf_nI (st := st) (c := c) (k := k) (op := 5) (t := 2) (p := 1) rfl rfl hk (by decide) (by decide) hH.1
  have e1 : f_takesTwo 5 = 1 := rfl
  have e2 : f_mneeds 5 = nI 2 := rfl
  unfold f_perform f_mperform
  rw [eo, en, e1, e2]
  have hne_0 : ¬ (5 : Int32) = 0 := by decide
  have hne_1 : ¬ (5 : Int32) = 1 := by decide
  have hne_t : ¬ (1 : Int32) = 0 := by decide
  by_cases h2 : 2 ≤ k
  · obtain ⟨j, rfl⟩ : ∃ j, k = j + 2 := ⟨k - 2, by omega⟩
    rw [top_ok (k := j + 1) (by omega), hS.2 (j + 1) (by omega), if_neg (show ¬ j + 2 < 2 by omega), if_neg (show ¬ 8 < j + 2 - 2 + 1 by omega)] at hF
    rw [if_pos (needs_ok h2 hk), pk_sub h2, Nat.add_sub_cancel, nI_1 j, ab_ok (st := st2) (show j < 8 by omega), ab_ok (st := st2) (show j + 1 < 8 by omega)]
    by_cases h0 : st2 (j + 1) = 0
    · rw [if_pos ⟨rfl, h0⟩] at hF
      rw [hF]
      simp only [reduceIte, hne_0, hne_1, hne_t, h0]
      exact StepR_fault hH rfl (by decide)
    · rw [if_neg (show ¬ ((5 : Int32) = 5 ∧ st2 (j + 1) = 0) from fun q => h0 q.2), if_neg (fun q => absurd q.1 (by decide)), if_neg (fun q => absurd q.1 (by decide))] at hF
      rw [hF]
      simp only [reduceIte, hne_0, hne_1, hne_t, h0, pop_ok (st := st) (show j + 1 < 8 by omega), pop_ok (st := st) (show j < 8 by omega), push_ok (st := st) (show j < 8 by omega), mpush_ok (st := st2) (show j < 8 by omega)]
      rw [nI_1 p]
      refine StepR_go hH (SS_put hS (by omega) (by omega) ?_) rfl hO (by omega) (by rw [← nI_1]; exact pos_next hp hl)
      rw [hS.2 j (by omega), hS.2 (j + 1) (by omega)]
      show (if st2 (j + 1) = 0 then (0 : Int64) else st2 j / st2 (j + 1)) = st2 j / st2 (j + 1)
      rw [if_neg h0]
  · rw [if_pos (by omega)] at hF
    rw [hF, if_neg (needs_no (by omega) (by decide))]
    exact StepR_fault hH rfl (by decide)
set_option maxHeartbeats 2000000 in
theorem sim_8 (hH : HS c hf hf2) (hS : SS k st st2) (hO : OS num gv gg own has) (hp : p < len) (hl : len ≤ 12) (hfa : ∀ i, i < 8 → facts i = facts2 i) (eo : ops (12 * r + nI p).toNatClampNeg = 8) (en : numbers (12 * r + nI p).toNatClampNeg = n2) : StepR num len (f_perform facts st hf gv gg (nI c) (nI k) (nI p) cell num (nI len) 8 n) (f_mperform ops numbers facts2 (nI c) hf2 st2 (nI k) 0 cell own has r (nI p)) := by
  have hk := hS.1
  have hF := fault_plain (st := st) (c := c) (k := k) (op := 8) (t := 1) (p := 1) rfl rfl hk (by decide) (by decide) hH.1 (by decide) (by decide) (by decide)
  have e1 : f_takesTwo 8 = 0 := rfl
  have e2 : f_mneeds 8 = nI 1 := rfl
  unfold f_perform f_mperform
  rw [eo, en, e1, e2]
  have hne_0 : ¬ (8 : Int32) = 0 := by decide
  have hne_1 : ¬ (8 : Int32) = 1 := by decide
  have hne_5 : ¬ (8 : Int32) = 5 := by decide
  have hne_t : ¬ (1 : Int32) = 0 := by decide
  by_cases h2 : 1 ≤ k
  · obtain ⟨j, rfl⟩ : ∃ j, k = j + 1 := ⟨k - 1, by omega⟩
    rw [if_neg (by omega), if_neg (by omega)] at hF
    rw [hF, if_pos (needs_ok h2 hk), pk_sub h2, Nat.add_sub_cancel, ab_ok (st := st2) (show j < 8 by omega)]
    simp only [reduceIte, hne_0, hne_1, hne_5, pop_ok (st := st) (show j < 8 by omega), push_ok (st := st) (show j < 8 by omega), mpush_ok (st := st2) (show j < 8 by omega), hS.2 j (by omega)]
    rw [nI_1 p]
    by_cases h0 : st2 j = 0
    · simp only [h0, reduceIte]
      exact StepR_go hH (SS_put hS (by omega) (by omega) rfl) rfl hO (by omega) (by rw [← nI_1]; exact pos_next hp hl)
    · simp only [h0, reduceIte]
      exact StepR_go hH (SS_put hS (by omega) (by omega) rfl) rfl hO (by omega) (by rw [← nI_1]; exact pos_next hp hl)
  · rw [if_pos (by omega)] at hF
    rw [hF, if_neg (needs_no (by omega) (by decide))]
    exact StepR_fault hH rfl (by decide)
set_option maxHeartbeats 2000000 in
theorem sim_9 (hH : HS c hf hf2) (hS : SS k st st2) (hO : OS num gv gg own has) (hp : p < len) (hl : len ≤ 12) (hfa : ∀ i, i < 8 → facts i = facts2 i) (eo : ops (12 * r + nI p).toNatClampNeg = 9) (en : numbers (12 * r + nI p).toNatClampNeg = n2) (hn : n = n2) (hk1 : -12 ≤ n.toInt ∧ n.toInt ≤ 12) : StepR num len (f_perform facts st hf gv gg (nI c) (nI k) (nI p) cell num (nI len) 9 n) (f_mperform ops numbers facts2 (nI c) hf2 st2 (nI k) 0 cell own has r (nI p)) := by
  have hk := hS.1
  have hF := fault_plain (st := st) (c := c) (k := k) (op := 9) (t := 1) (p := 0) rfl rfl hk (by decide) (by decide) hH.1 (by decide) (by decide) (by decide)
  have e1 : f_takesTwo 9 = 0 := rfl
  have e2 : f_mneeds 9 = nI 1 := rfl
  unfold f_perform f_mperform
  rw [eo, en, e1, e2]
  have hne_0 : ¬ (9 : Int32) = 0 := by decide
  have hne_1 : ¬ (9 : Int32) = 1 := by decide
  have hne_5 : ¬ (9 : Int32) = 5 := by decide
  have hne_8 : ¬ (9 : Int32) = 8 := by decide
  have hne_t : ¬ (1 : Int32) = 0 := by decide
  by_cases h2 : 1 ≤ k
  · obtain ⟨j, rfl⟩ : ∃ j, k = j + 1 := ⟨k - 1, by omega⟩
    rw [if_neg (by omega), if_neg (by omega)] at hF
    rw [hF, if_pos (needs_ok h2 hk), pk_sub h2, Nat.add_sub_cancel, ab_ok (st := st2) (show j < 8 by omega)]
    simp only [reduceIte, hne_0, hne_1, hne_5, hne_8, pop_ok (st := st) (show j < 8 by omega), hS.2 j (by omega)]
    subst hn
    obtain ⟨q, hq, g1, g2⟩ := go_ok hp hl hk1
    have hSj := SS_le hS (show j ≤ j + 1 by omega)
    by_cases h0 : st2 j = 0
    · simp only [h0, reduceIte]
      rw [g2]
      by_cases c1 : 0 ≤ nI p + n.toInt32
      · rw [if_pos c1] at g1 ⊢
        rw [g1]
        exact StepR_go hH hSj rfl hO hq rfl
      · rw [if_neg c1] at g1 ⊢
        have z := StepR_go (len := len) (q := q) (x9 := cell) hH hSj rfl hO hq rfl
        rw [← g1] at z
        exact z
    · simp only [h0, reduceIte]
      rw [nI_1 p]
      exact StepR_go hH hSj rfl hO (by omega) (by rw [← nI_1]; exact pos_next hp hl)
  · rw [if_pos (by omega)] at hF
    rw [hF, if_neg (needs_no (by omega) (by decide))]
    exact StepR_fault hH rfl (by decide)
set_option maxHeartbeats 2000000 in
theorem sim_10 (hH : HS c hf hf2) (hS : SS k st st2) (hO : OS num gv gg own has) (hp : p < len) (hl : len ≤ 12) (hfa : ∀ i, i < 8 → facts i = facts2 i) (eo : ops (12 * r + nI p).toNatClampNeg = 10) (en : numbers (12 * r + nI p).toNatClampNeg = n2) (hn : n = n2) (hk1 : 0 ≤ n.toInt ∧ n.toInt ≤ 3) : StepR num len (f_perform facts st hf gv gg (nI c) (nI k) (nI p) cell num (nI len) 10 n) (f_mperform ops numbers facts2 (nI c) hf2 st2 (nI k) 0 cell own has r (nI p)) := by
  have hk := hS.1
  have hF := fault_plain (st := st) (c := c) (k := k) (op := 10) (t := 1) (p := 0) rfl rfl hk (by decide) (by decide) hH.1 (by decide) (by decide) (by decide)
  have e1 : f_takesTwo 10 = 0 := rfl
  have e2 : f_mneeds 10 = nI 1 := rfl
  unfold f_perform f_mperform
  rw [eo, en, e1, e2]
  have hne_0 : ¬ (10 : Int32) = 0 := by decide
  have hne_1 : ¬ (10 : Int32) = 1 := by decide
  have hne_5 : ¬ (10 : Int32) = 5 := by decide
  have hne_8 : ¬ (10 : Int32) = 8 := by decide
  have hne_9 : ¬ (10 : Int32) = 9 := by decide
  have hne_t : ¬ (1 : Int32) = 0 := by decide
  by_cases h2 : 1 ≤ k
  · obtain ⟨j, rfl⟩ : ∃ j, k = j + 1 := ⟨k - 1, by omega⟩
    rw [if_neg (by omega), if_neg (by omega)] at hF
    subst hn
    rw [hF, if_pos (needs_ok h2 hk), pk_sub h2, Nat.add_sub_cancel, ab_ok (st := st2) (show j < 8 by omega)]
    simp only [reduceIte, hne_0, hne_1, hne_5, hne_8, hne_9, pop_ok (st := st) (show j < 8 by omega), give_ok hk1]
    rw [nI_1 p]
    exact StepR_go hH (SS_le hS (by omega)) rfl (OS_put hO (hS.2 j (by omega))) (by omega) (by rw [← nI_1]; exact pos_next hp hl)
  · rw [if_pos (by omega)] at hF
    rw [hF, if_neg (needs_no (by omega) (by decide))]
    exact StepR_fault hH rfl (by decide)
set_option maxHeartbeats 2000000 in
theorem sim_11 (hH : HS c hf hf2) (hS : SS k st st2) (hO : OS num gv gg own has) (hp : p < len) (hl : len ≤ 12) (hfa : ∀ i, i < 8 → facts i = facts2 i) (eo : ops (12 * r + nI p).toNatClampNeg = 11) (en : numbers (12 * r + nI p).toNatClampNeg = n2) : StepR num len (f_perform facts st hf gv gg (nI c) (nI k) (nI p) cell num (nI len) 11 n) (f_mperform ops numbers facts2 (nI c) hf2 st2 (nI k) 0 cell own has r (nI p)) := by
  have hk := hS.1
  have hF := fault_plain (st := st) (c := c) (k := k) (op := 11) (t := 1) (p := 0) rfl rfl hk (by decide) (by decide) hH.1 (by decide) (by decide) (by decide)
  have e1 : f_takesTwo 11 = 0 := rfl
  have e2 : f_mneeds 11 = nI 1 := rfl
  unfold f_perform f_mperform
  rw [eo, en, e1, e2]
  have hne_0 : ¬ (11 : Int32) = 0 := by decide
  have hne_1 : ¬ (11 : Int32) = 1 := by decide
  have hne_5 : ¬ (11 : Int32) = 5 := by decide
  have hne_8 : ¬ (11 : Int32) = 8 := by decide
  have hne_9 : ¬ (11 : Int32) = 9 := by decide
  have hne_10 : ¬ (11 : Int32) = 10 := by decide
  have hne_t : ¬ (1 : Int32) = 0 := by decide
  by_cases h2 : 1 ≤ k
  · obtain ⟨j, rfl⟩ : ∃ j, k = j + 1 := ⟨k - 1, by omega⟩
    rw [if_neg (by omega), if_neg (by omega)] at hF
    rw [hF, if_pos (needs_ok h2 hk), pk_sub h2, Nat.add_sub_cancel, ab_ok (st := st2) (show j < 8 by omega)]
    simp only [reduceIte, hne_0, hne_1, hne_5, hne_8, hne_9, hne_10, pop_ok (st := st) (show j < 8 by omega)]
    rw [nI_1 p]
    exact StepR_go hH (SS_le hS (by omega)) (by rw [hS.2 j (by omega)]) hO (by omega) (by rw [← nI_1]; exact pos_next hp hl)
  · rw [if_pos (by omega)] at hF
    rw [hF, if_neg (needs_no (by omega) (by decide))]
    exact StepR_fault hH rfl (by decide)
set_option maxHeartbeats 2000000 in
theorem sim_13 (hH : HS c hf hf2) (hS : SS k st st2) (hO : OS num gv gg own has) (hp : p < len) (hl : len ≤ 12) (hfa : ∀ i, i < 8 → facts i = facts2 i) (eo : ops (12 * r + nI p).toNatClampNeg = 13) (en : numbers (12 * r + nI p).toNatClampNeg = n2) (hn : n = n2) (hk1 : 0 ≤ n.toInt ∧ n.toInt ≤ 7) : StepR num len (f_perform facts st hf gv gg (nI c) (nI k) (nI p) cell num (nI len) 13 n) (f_mperform ops numbers facts2 (nI c) hf2 st2 (nI k) 0 cell own has r (nI p)) := by
  have hk := hS.1
  have hF := faultOf_nI (st := st) (c := c) (k := k) (op := 13) (t := 0) (p := 1) rfl rfl hk (by decide) (by decide) hH.1
  have e1 : f_takesTwo 13 = 0 := rfl
  have e2 : f_mneeds 13 = nI 0 := rfl
  unfold f_perform f_mperform
  rw [eo, en, e1, e2]
  have hne_0 : ¬ (13 : Int32) = 0 := by decide
  have hne_1 : ¬ (13 : Int32) = 1 := by decide
  have hne_5 : ¬ (13 : Int32) = 5 := by decide
  have hne_8 : ¬ (13 : Int32) = 8 := by decide
  have hne_9 : ¬ (13 : Int32) = 9 := by decide
  have hne_10 : ¬ (13 : Int32) = 10 := by decide
  have hne_11 : ¬ (13 : Int32) = 11 := by decide
  have hne_12 : ¬ (13 : Int32) = 12 := by decide
  have hne_t : ¬ (1 : Int32) = 0 := by decide
  rw [if_pos (needs_ok (Nat.zero_le k) hk), pk_sub (Nat.zero_le k), Nat.sub_zero]
  subst hn
  by_cases h8 : k < 8
  · rw [if_neg (show ¬ k < 0 by omega), if_neg (show ¬ 8 < k - 0 + 1 by omega), if_neg (fun q => absurd q.1 (by decide))] at hF
    by_cases h16 : c < 16
    · rw [if_neg (fun q => by omega), if_neg (fun q => absurd q.1 (by decide))] at hF
      rw [hF]
      simp only [reduceIte, hne_0, hne_1, hne_5, hne_8, hne_9, hne_10, hne_11, hne_12, keep_ok h16, push_ok h8, mkeep_ok h8 h16]
      rw [nI_1 p]
      exact StepR_go (HS_put hH h16 rfl (l2i_lt (m := 7) hk1 (by decide))) (SS_put hS (Nat.le_refl k) h8 rfl) rfl hO (by omega) (by rw [← nI_1]; exact pos_next hp hl)
    · have hc : c = 16 := by have := hH.1; omega
      subst hc
      rw [if_pos ⟨rfl, by omega⟩] at hF
      rw [hF]
      simp only [reduceIte, hne_0, hne_1, hne_5, hne_8, hne_9, hne_10, hne_11, hne_12, f_mkeep]
      rw [if_neg (show ¬ nI k = (8 : Int32) from fun q => by have := (nI_eq (a := k) (b := 8) (by omega) (by omega)).mp q; omega), if_pos (show nI 16 = (16 : Int32) from rfl)]
      exact StepR_fault hH rfl (show ¬ (4 : Int32) = 0 ∧ 0 ≤ (4 : Int32).toInt by decide)
  · have h9 : k = 8 := by omega
    subst h9
    rw [if_neg (show ¬ 8 < 0 by omega), if_pos (show 8 < 8 - 0 + 1 by omega)] at hF
    rw [hF]
    simp only [reduceIte, hne_0, hne_1, hne_5, hne_8, hne_9, hne_10, hne_11, hne_12, f_mkeep]
    rw [if_pos (show nI 8 = (8 : Int32) from rfl)]
    exact StepR_fault hH rfl (show ¬ (3 : Int32) = 0 ∧ 0 ≤ (3 : Int32).toInt by decide)
set_option maxHeartbeats 2000000 in
theorem sim_14 (hH : HS c hf hf2) (hS : SS k st st2) (hO : OS num gv gg own has) (hp : p < len) (hl : len ≤ 12) (hfa : ∀ i, i < 8 → facts i = facts2 i) (eo : ops (12 * r + nI p).toNatClampNeg = 14) (en : numbers (12 * r + nI p).toNatClampNeg = n2) : StepR num len (f_perform facts st hf gv gg (nI c) (nI k) (nI p) cell num (nI len) 14 n) (f_mperform ops numbers facts2 (nI c) hf2 st2 (nI k) 0 cell own has r (nI p)) := by
  have hk := hS.1
  have hF := faultOf_nI (st := st) (c := c) (k := k) (op := 14) (t := 1) (p := 1) rfl rfl hk (by decide) (by decide) hH.1
  have e1 : f_takesTwo 14 = 0 := rfl
  have e2 : f_mneeds 14 = nI 1 := rfl
  unfold f_perform f_mperform
  rw [eo, en, e1, e2]
  have hne_0 : ¬ (14 : Int32) = 0 := by decide
  have hne_1 : ¬ (14 : Int32) = 1 := by decide
  have hne_5 : ¬ (14 : Int32) = 5 := by decide
  have hne_8 : ¬ (14 : Int32) = 8 := by decide
  have hne_9 : ¬ (14 : Int32) = 9 := by decide
  have hne_10 : ¬ (14 : Int32) = 10 := by decide
  have hne_11 : ¬ (14 : Int32) = 11 := by decide
  have hne_12 : ¬ (14 : Int32) = 12 := by decide
  have hne_13 : ¬ (14 : Int32) = 13 := by decide
  have hne_t : ¬ (1 : Int32) = 0 := by decide
  by_cases h2 : 1 ≤ k
  · obtain ⟨j, rfl⟩ : ∃ j, k = j + 1 := ⟨k - 1, by omega⟩
    rw [top_ok (k := j) (by omega), hS.2 j (by omega), if_neg (show ¬ j + 1 < 1 by omega), if_neg (show ¬ 8 < j + 1 - 1 + 1 by omega), if_neg (fun q => absurd q.1 (by decide)), if_neg (fun q => absurd q.1 (by decide))] at hF
    rw [if_pos (needs_ok h2 hk), pk_sub h2, Nat.add_sub_cancel, ab_ok (st := st2) (show j < 8 by omega)]
    by_cases h0 : f_mwithin (st2 j) 0 ((nI c - 1).toInt64) = 0
    · rw [if_pos ⟨rfl, h0⟩] at hF
      rw [hF]
      simp only [reduceIte, hne_0, hne_1, hne_5, hne_8, hne_9, hne_10, hne_11, hne_12, hne_13, h0]
      exact StepR_fault hH rfl (by decide)
    · rw [if_neg (fun q => h0 q.2)] at hF
      rw [hF]
      simp only [reduceIte, hne_0, hne_1, hne_5, hne_8, hne_9, hne_10, hne_11, hne_12, hne_13, h0, pop_ok (st := st) (show j < 8 by omega), push_ok (st := st) (show j < 8 by omega), mpush_ok (st := st2) (show j < 8 by omega)]
      rw [nI_1 p, hS.2 j (by omega)]
      exact StepR_go hH (SS_put hS (by omega) (by omega) (behind_ok hH hfa h0)) rfl hO (by omega) (by rw [← nI_1]; exact pos_next hp hl)
  · rw [if_pos (by omega)] at hF
    rw [hF, if_neg (needs_no (by omega) (by decide))]
    exact StepR_fault hH rfl (by decide)
set_option maxHeartbeats 2000000 in
theorem sim_15 (hH : HS c hf hf2) (hS : SS k st st2) (hO : OS num gv gg own has) (hp : p < len) (hl : len ≤ 12) (hfa : ∀ i, i < 8 → facts i = facts2 i) (eo : ops (12 * r + nI p).toNatClampNeg = 15) (en : numbers (12 * r + nI p).toNatClampNeg = n2) : StepR num len (f_perform facts st hf gv gg (nI c) (nI k) (nI p) cell num (nI len) 15 n) (f_mperform ops numbers facts2 (nI c) hf2 st2 (nI k) 0 cell own has r (nI p)) := by
  have hk := hS.1
  have hF := fault_plain (st := st) (c := c) (k := k) (op := 15) (t := 0) (p := 0) rfl rfl hk (by decide) (by decide) hH.1 (by decide) (by decide) (by decide)
  have e1 : f_takesTwo 15 = 0 := rfl
  have e2 : f_mneeds 15 = nI 0 := rfl
  unfold f_perform f_mperform
  rw [eo, en, e1, e2]
  have hne_0 : ¬ (15 : Int32) = 0 := by decide
  have hne_1 : ¬ (15 : Int32) = 1 := by decide
  have hne_5 : ¬ (15 : Int32) = 5 := by decide
  have hne_8 : ¬ (15 : Int32) = 8 := by decide
  have hne_9 : ¬ (15 : Int32) = 9 := by decide
  have hne_10 : ¬ (15 : Int32) = 10 := by decide
  have hne_11 : ¬ (15 : Int32) = 11 := by decide
  have hne_12 : ¬ (15 : Int32) = 12 := by decide
  have hne_13 : ¬ (15 : Int32) = 13 := by decide
  have hne_14 : ¬ (15 : Int32) = 14 := by decide
  have hne_t : ¬ (1 : Int32) = 0 := by decide
  rw [if_pos (needs_ok (Nat.zero_le k) hk), pk_sub (Nat.zero_le k), Nat.sub_zero]
  rw [if_neg (by omega), if_neg (by omega)] at hF
  rw [hF]
  simp only [reduceIte, hne_0, hne_1, hne_5, hne_8, hne_9, hne_10, hne_11, hne_12, hne_13, hne_14]
  exact StepR_go (q := 12) hH hS rfl hO (by decide) (by rw [Nat.min_eq_right hl])
theorem op_16 {op : Int32} (h : vp_in op 16) : op = 0 ∨ op = 1 ∨ op = 2 ∨ op = 3 ∨ op = 4 ∨ op = 5 ∨ op = 6 ∨ op = 7 ∨ op = 8 ∨ op = 9 ∨ op = 10 ∨ op = 11 ∨ op = 12 ∨ op = 13 ∨ op = 14 ∨ op = 15 := by
  obtain ⟨j, hj, rfl⟩ := vp_in_of h (by decide)
  clear h
  revert j
  decide +kernel
/-- one instruction of class and reference -/
theorem sim_step {op : Int32} (hH : HS c hf hf2) (hS : SS k st st2) (hO : OS num gv gg own has) (hp : p < len) (hl : len ≤ 12) (hfa : ∀ i, i < 8 → facts i = facts2 i) (eo : ops (12 * r + nI p).toNatClampNeg = op) (en : numbers (12 * r + nI p).toNatClampNeg = n2) (ho : vp_in op 16) (hok : okL op n2) (hnn : ¬ f_hasNumber op = 0 → n = n2) : StepR num len (f_perform facts st hf gv gg (nI c) (nI k) (nI p) cell num (nI len) op n) (f_mperform ops numbers facts2 (nI c) hf2 st2 (nI k) 0 cell own has r (nI p)) := by
  obtain ⟨k1, k2, k3, k4⟩ := hok
  rcases op_16 ho with h | h | h | h | h | h | h | h | h | h | h | h | h | h | h | h <;> subst h
  · exact sim_0 hH hS hO hp hl hfa eo en (hnn (by decide))
  · have e := hnn (by decide); exact sim_1 hH hS hO hp hl hfa eo en e (by rw [e]; exact k1 rfl)
  · exact sim_2 hH hS hO hp hl hfa eo en
  · exact sim_3 hH hS hO hp hl hfa eo en
  · exact sim_4 hH hS hO hp hl hfa eo en
  · exact sim_5 hH hS hO hp hl hfa eo en
  · exact sim_6 hH hS hO hp hl hfa eo en
  · exact sim_7 hH hS hO hp hl hfa eo en
  · exact sim_8 hH hS hO hp hl hfa eo en
  · have e := hnn (by decide); exact sim_9 hH hS hO hp hl hfa eo en e (by rw [e]; exact k4 rfl)
  · have e := hnn (by decide); exact sim_10 hH hS hO hp hl hfa eo en e (by rw [e]; exact k2 rfl)
  · exact sim_11 hH hS hO hp hl hfa eo en
  · exact sim_12 hH hS hO hp hl hfa eo en
  · have e := hnn (by decide); exact sim_13 hH hS hO hp hl hfa eo en e (by rw [e]; exact k3 rfl)
  · exact sim_14 hH hS hO hp hl hfa eo en
  · exact sim_15 hH hS hO hp hl hfa eo en
end SIM
section RUN
variable {facts facts2 : Nat → Int64} {num r : Int32} {len L : Nat} {zops : Nat → Int32} {znumbers : Nat → Int64} {sizes ops : Nat → Int32} {numbers : Nat → Int64}
/-- a rule's program in the class and in the reference -/
def ProgR (r : Nat) (len : Nat) (zops : Nat → Int32) (znumbers : Nat → Int64) (ops : Nat → Int32) (numbers : Nat → Int64) : Prop := len ≤ 12 ∧ ∀ i, i < len → ops (12 * r + i) = zops i ∧ vp_in (zops i) 16 ∧ okL (zops i) (numbers (12 * r + i)) ∧ znumbers i = (if f_hasNumber (zops i) = 0 then 0 else numbers (12 * r + i))
/-- what a run leaves -/
def RunR (num : Int32) (L : Nat) (x : Int32 × (Nat → Int64) × (Nat → Int32) × (Nat → Int64) × (Nat → Int32) × Int32 × Int32 × Int32 × Int32 × Int64) (y : Int32 × Int32 × (Nat → Int32) × (Nat → Int64) × Int32 × Int32 × Int32 × Int64 × (Nat → Int64) × (Nat → Int32)) : Prop :=
  x.1 = y.2.2.2.2.2.1 ∧ (∃ m : Nat, m ≤ L ∧ x.1 = nI m) ∧ x.2.2.2.2.2.2.2.2.1 = y.2.2.2.2.2.2.1 ∧ 0 ≤ y.2.2.2.2.2.2.1.toInt ∧ (∃ c : Nat, x.2.2.2.2.2.1 = nI c ∧ y.2.1 = nI c ∧ HS c x.2.2.1 y.2.2.1) ∧ (y.2.2.2.2.2.2.1 = 0 → x.2.2.2.2.2.2.2.2.2 = y.2.2.2.2.2.2.2.1 ∧ OS num x.2.2.2.1 x.2.2.2.2.1 y.2.2.2.2.2.2.2.2.1 y.2.2.2.2.2.2.2.2.2)
/-- at the head of the two loops -/
def HeadR (num : Int32) (len : Nat) (x1 : Nat → Int64) (x2 : Nat → Int32) (x3 : Nat → Int64) (x4 : Nat → Int32) (x5 x6 x7 x8 : Int32) (x9 : Int64) (y1 y2 : Int32) (y3 : Nat → Int32) (y4 : Nat → Int64) (y5 y6 : Int32) (y7 : Int64) (y8 : Nat → Int64) (y9 : Nat → Int32) : Prop := StepR num len (x1, x2, x3, x4, x5, x6, x7, x8, x9) (y1, y2, y3, y4, y5, y6, y7, y8, y9)
theorem inside_iff {p len : Nat} (hl : len ≤ 12) (hp : p ≤ 24) : (f_isInside (nI (min p len)) (nI len) = 0) ↔ len ≤ p := by
  unfold f_isInside
  rw [if_neg (nI_pos (by omega))]
  by_cases c : len ≤ p
  · rw [Nat.min_eq_right c, if_pos (nI_le (Nat.le_refl _) (by omega))]
    exact ⟨fun _ => c, fun _ => rfl⟩
  · rw [Nat.min_eq_left (by omega), if_neg (nI_ge (by omega) (by omega)), if_neg (show ¬ (12 : Int32) ≤ nI p from nI_ge (a := p) (b := 12) (by omega) (by omega))]
    exact ⟨fun q => absurd q (by decide), fun q => absurd q c⟩
theorem ix12 {r p : Nat} (hr : r < 40) (hp : p < 12) : (12 * nI r + nI p).toNatClampNeg = 12 * r + p := by
  rw [show (12 : Int32) = nI 12 from rfl, pk_mul, nI_add, nI_clamp (by omega)]
set_option maxHeartbeats 2000000 in
theorem run_sim {r : Nat} (hr : r < 40) (hfa : ∀ i, i < 8 → facts i = facts2 i) (hP : ProgR r len zops znumbers ops numbers) (hz : sizes r = nI len) (hL : L ≤ 100) : ∀ (n1 n2 m : Nat) (x1 : Nat → Int64) (x2 : Nat → Int32) (x3 : Nat → Int64) (x4 : Nat → Int32) (x5 x6 x7 x8 : Int32) (x9 : Int64) (y1 y2 : Int32) (y3 : Nat → Int32) (y4 : Nat → Int64) (y5 y6 : Int32) (y7 : Int64) (y8 : Nat → Int64) (y9 : Nat → Int32), m ≤ L → L + 1 ≤ m + n1 → L + 3 ≤ m + n2 → StepR num len (x1, x2, x3, x4, x5, x6, x7, x8, x9) (y1, y2, y3, y4, y5, y6, y7, y8, y9) → RunR num L (L_run facts num zops znumbers (nI len) (nI L) n1 (nI m) x1 x2 x3 x4 x5 x6 x7 x8 x9) (L_mdoAll (nI L) sizes ops numbers facts2 (nI r) n2 y1 y2 y3 y4 y5 (nI m) y6 y7 y8 y9) := by
  intro n1
  induction n1 with
  | zero => intros; omega
  | succ n1 ih =>
    intro n2 m x1 x2 x3 x4 x5 x6 x7 x8 x9 y1 y2 y3 y4 y5 y6 y7 y8 y9 hm h1 h2 hS
    obtain ⟨n2, rfl⟩ : ∃ j, n2 = j + 2 := ⟨n2 - 2, by omega⟩
    obtain ⟨c, hc1, hc2, hH, hF, hF0, hgo⟩ := hS
    simp only at hc1 hc2 hH hF hF0 hgo
    subst hc1 hc2 hF
    rw [L_run, L_mdoAll]
    by_cases c0 : x8 = 0
    · obtain ⟨⟨k, hk1, hk2, hSS⟩, hC, hO, p, hp1, hp2, hp3⟩ := hgo c0
      subst hk1 hk2 hC hp1 hp3 c0
      have hin := inside_iff (p := p) hP.1 hp2
      rw [nI_clamp (show r < 2 ^ 31 by omega), hz]
      rw [if_pos (rfl : (0 : Int32) = 0), if_pos (rfl : (0 : Int32) = 0), if_pos (rfl : (0 : Int32) = 0)]
      by_cases c1 : len ≤ p
      · rw [if_pos (show nI len ≤ nI p from nI_le c1 (by omega))]
        have hR : RunR num L (nI m, x1, x2, x3, x4, nI c, nI k, nI (min p len), 0, x9) (nI p, nI c, y3, y4, nI k, nI m, 0, x9, y8, y9) := ⟨rfl, ⟨m, hm, rfl⟩, rfl, (show 0 ≤ (0 : Int32).toInt by decide), ⟨c, rfl, rfl, hH⟩, fun _ => ⟨rfl, hO⟩⟩
        by_cases c2 : nI L ≤ nI m
        · rw [if_pos c2, if_pos (hin.mpr c1)]; exact hR
        · rw [if_neg c2, if_pos (hin.mpr c1)]; exact hR
      · rw [if_neg (show ¬ nI len ≤ nI p from nI_ge (by omega) (by have := hP.1; omega))]
        by_cases c2 : nI L ≤ nI m
        · have e : m = L := by rw [nI_leI (by omega) (by omega)] at c2; omega
          subst e
          rw [if_pos c2, if_neg (fun q => c1 (hin.mp q)), if_pos rfl]
          rw [L_mdoAll, if_neg (show ¬ (1 : Int32) = 0 by decide)]
          exact ⟨rfl, ⟨m, hm, rfl⟩, rfl, (show 0 ≤ (1 : Int32).toInt by decide), ⟨c, rfl, rfl, hH⟩, fun q => absurd q (show ¬ (1 : Int32) = 0 by decide)⟩
        · have hlt : m < L := by rw [nI_leI (by omega) (by omega)] at c2; omega
          have hp12 : p < len := by omega
          have hle := hP.1
          rw [if_neg c2, if_neg (fun q => c1 (hin.mp q)), if_neg (show ¬ nI m = nI L from fun q => by have := (nI_eq (a := m) (b := L) (by omega) (by omega)).mp q; omega)]
          rw [Nat.min_eq_left (show p ≤ len by omega), nI_clamp (show p < 2 ^ 31 by omega)]
          obtain ⟨g1, g2, g3, g4⟩ := hP.2 p hp12
          have hs := sim_step (num := num) (r := nI r) (cell := x9) (n := znumbers p) (ops := ops) (numbers := numbers) hH hSS hO hp12 hle hfa (by rw [ix12 hr (by omega)]; exact g1) (by rw [ix12 hr (by omega)]) g2 g3 (fun q => by rw [g4, if_neg q])
          revert hs
          rcases f_perform facts x1 x2 x3 x4 (nI c) (nI k) (nI p) x9 num (nI len) (zops p) (znumbers p) with ⟨a1, a2, a3, a4, a5, a6, a7, a8, a9⟩
          rcases f_mperform ops numbers facts2 (nI c) y3 y4 (nI k) 0 x9 y8 y9 (nI r) (nI p) with ⟨b1, b2, b3, b4, b5, b6, b7, b8, b9⟩
          intro hs
          simp only [nI_1 m]
          exact ih (n2 + 1) (m + 1) a1 a2 a3 a4 a5 a6 a7 a8 a9 b1 b2 b3 b4 b5 b6 b7 b8 b9 (by omega) (by omega) (by omega) hs
    · have hR : RunR num L (nI m, x1, x2, x3, x4, nI c, x6, x7, x8, x9) (y1, nI c, y3, y4, y5, nI m, x8, y7, y8, y9) := ⟨rfl, ⟨m, hm, rfl⟩, rfl, hF0, ⟨c, rfl, rfl, hH⟩, fun q => absurd q c0⟩
      rw [if_neg c0, if_neg c0, if_neg c0]
      by_cases c2 : nI L ≤ nI m
      · rw [if_pos c2]; exact hR
      · rw [if_neg c2]; exact hR
end RUN
section DOR
variable {facts facts2 : Nat → Int64} {num : Int32} {len L : Nat} {zops : Nat → Int32} {znumbers : Nat → Int64} {sizes ops : Nat → Int32} {numbers : Nat → Int64}
/-- the failures: as many, and the same -/
def FS (f : Nat) (fn fh fr fw : Nat → Int32) : Prop := f ≤ 8 ∧ ∀ i, i < f → fn i = fr i ∧ fh i = fw i
theorem c4 : (0 : Int32).toNatClampNeg = 0 ∧ (1 : Int32).toNatClampNeg = 1 ∧ (2 : Int32).toNatClampNeg = 2 ∧ (3 : Int32).toNatClampNeg = 3 := by decide
theorem lt4 {i : Nat} (h : i < 4) : i = 0 ∨ i = 1 ∨ i = 2 ∨ i = 3 := by omega
theorem OS_0 {gv own : Nat → Int64} {gg has : Nat → Int32} : OS num (f_clear gv gg).1 (f_clear gv gg).2 own (upd (upd (upd (upd has (0 : Int32).toNatClampNeg 0) (1 : Int32).toNatClampNeg 0) (2 : Int32).toNatClampNeg 0) (3 : Int32).toNatClampNeg 0) := by
  intro i hi
  left
  obtain ⟨e0, e1, e2, e3⟩ := c4
  unfold f_clear
  rw [e0, e1, e2, e3]
  rcases lt4 hi with h | h | h | h <;> subst h <;> exact ⟨rfl, rfl⟩
theorem FS_put {f : Nat} {fn fh fr fw : Nat → Int32} {a b : Int32} (h : FS f fn fh fr fw) (hf : f < 8) : FS (f + 1) (upd fn f a) (upd fh f b) (upd fr f a) (upd fw f b) := by
  refine ⟨by omega, fun i hi => ?_⟩
  unfold upd
  by_cases c : i = f
  · simp only [if_pos c]; exact ⟨trivial, trivial⟩
  · simp only [if_neg c]; exact h.2 i (by omega)
/-- what doing one rule leaves: class (made, stack, handleFacts, given, handleCount, height, position, fault, cell, failures), reference -/
def DoR (num : Int32) (L f : Nat) (x : Int32 × (Nat → Int64) × (Nat → Int32) × (Nat → Int64) × (Nat → Int32) × Int32 × Int32 × Int32 × Int32 × Int64 × (Nat → Int32) × (Nat → Int32) × Int32) (y : Int32 × (Nat → Int32) × Int32 × (Nat → Int32) × (Nat → Int32) × (Nat → Int64) × Int32 × Int32 × Int32 × Int64 × (Nat → Int64) × (Nat → Int32)) : Prop :=
  x.1 = y.2.2.2.2.2.2.2.1 ∧ (∃ m : Nat, m ≤ L ∧ x.1 = nI m) ∧ x.2.2.2.2.2.2.2.2.1 = y.2.2.2.2.2.2.2.2.1 ∧ 0 ≤ y.2.2.2.2.2.2.2.2.1.toInt ∧ (∃ c : Nat, x.2.2.2.2.2.1 = nI c ∧ y.1 = nI c ∧ HS c x.2.2.1 y.2.1) ∧ (y.2.2.2.2.2.2.2.2.1 = 0 → x.2.2.2.2.2.2.2.2.2.1 = y.2.2.2.2.2.2.2.2.2.1 ∧ OS num x.2.2.2.1 x.2.2.2.2.1 y.2.2.2.2.2.2.2.2.2.2.1 y.2.2.2.2.2.2.2.2.2.2.2) ∧ (∃ g : Nat, g ≤ f + 1 ∧ f ≤ g ∧ (g = f ↔ y.2.2.2.2.2.2.2.2.1 = 0) ∧ x.2.2.2.2.2.2.2.2.2.2.2.2 = nI g ∧ y.2.2.1 = nI g ∧ FS g x.2.2.2.2.2.2.2.2.2.2.1 x.2.2.2.2.2.2.2.2.2.2.2.1 y.2.2.2.1 y.2.2.2.2.1)
set_option maxHeartbeats 2000000 in
theorem do_sim {r c f : Nat} (hr : r < 40) (hfa : ∀ i, i < 8 → facts i = facts2 i) (hP : ProgR r len zops znumbers ops numbers) (hz : sizes r = nI len) (hL : L ≤ 100) {stack stack2 : Nat → Int64} {hf hf2 : Nat → Int32} {gv own : Nat → Int64} {gg has : Nat → Int32} {fn fh fr fw : Nat → Int32} {cells : Nat → Int64} {zcell : Int64} (hce : zcell = cells r) (hH : HS c hf hf2) (hFS : FS f fn fh fr fw) (hf8 : f < 8) :
    DoR (nI r) L f (f_doRule (nI L) facts stack hf gv gg (nI c) fn fh (nI f) (nI r) zops znumbers (nI len) zcell) (f_mdoAll (nI L) sizes ops numbers cells facts2 (nI c) hf2 (nI f) fr fw stack2 own has (nI r)) := by
  have hrc : (nI r).toNatClampNeg = r := nI_clamp (by omega)
  have hfc : (nI f).toNatClampNeg = f := nI_clamp (by omega)
  have hrun := run_sim (num := nI r) (len := len) (zops := zops) (znumbers := znumbers) (sizes := sizes) (ops := ops) (numbers := numbers) (L := L) hr hfa hP hz hL 101 103 0 stack hf (f_clear gv gg).1 (f_clear gv gg).2 (nI c) 0 0 0 zcell 0 (nI c) hf2 stack2 0 0 zcell own (upd (upd (upd (upd has (0 : Int32).toNatClampNeg 0) (1 : Int32).toNatClampNeg 0) (2 : Int32).toNatClampNeg 0) (3 : Int32).toNatClampNeg 0) (by omega) (by omega) (by omega) (StepR_go (j := 0) (q := 0) hH ⟨by omega, fun i hi => absurd hi (by omega)⟩ rfl OS_0 (by omega) (by rw [Nat.zero_min]; rfl))
  rw [nI_0] at hrun
  unfold f_doRule f_run f_begin f_mdoAll
  rw [hrc, ← hce]
  revert hrun
  rcases f_clear gv gg with ⟨g1, g2⟩
  simp only
  rcases L_run facts (nI r) zops znumbers (nI len) (nI L) 101 0 stack hf g1 g2 (nI c) 0 0 0 zcell with ⟨a1, a2, a3, a4, a5, a6, a7, a8, a9, a10⟩
  rcases L_mdoAll (nI L) sizes ops numbers facts2 (nI r) 103 0 (nI c) hf2 stack2 0 0 0 zcell own (upd (upd (upd (upd has (0 : Int32).toNatClampNeg 0) (1 : Int32).toNatClampNeg 0) (2 : Int32).toNatClampNeg 0) (3 : Int32).toNatClampNeg 0) with ⟨b1, b2, b3, b4, b5, b6, b7, b8, b9, b10⟩
  rintro ⟨q1, q2, q3, q4, q5, q6⟩
  simp only at q1 q2 q3 q4 q5 q6 ⊢
  subst q3
  have h0 : (0 : Int32).toInt = 0 := rfl
  by_cases c0 : a9 = 0
  · rw [if_pos c0, if_pos (show a9 ≤ 0 by rw [c0]; decide)]
    exact ⟨q1, q2, rfl, q4, q5, q6, f, by omega, by omega, ⟨fun _ => c0, fun _ => rfl⟩, rfl, rfl, hFS⟩
  · have c1 : ¬ a9 ≤ 0 := fun h => by
      rw [Int32.le_iff_toInt_le] at h
      exact c0 (Int32.toInt_inj.mp (by omega))
    have ha : f_addFail fn fh (nI f) (nI r) a9 = (upd fn f (nI r), upd fh f a9, nI (f + 1)) := by
      unfold f_addFail
      rw [if_neg (show ¬ (8 : Int32) ≤ nI f from nI_ge (a := f) (b := 8) hf8 (by omega)), hfc, nI_1]
    rw [if_neg c0, if_neg c1, ha, hfc, nI_1]
    exact ⟨q1, q2, rfl, q4, q5, q6, f + 1, by omega, by omega, ⟨fun h => by omega, fun h => absurd h c0⟩, rfl, rfl, FS_put hFS hf8⟩
end DOR
