-- the order of an edition's rules
def klt (key : Nat → Int) (a b : Nat) : Prop := key a < key b ∨ (key a = key b ∧ a < b)
theorem klt_trans {key : Nat → Int} {a b c : Nat} (h1 : klt key a b) (h2 : klt key b c) : klt key a c := by unfold klt at *; omega
theorem klt_irr {key : Nat → Int} {a : Nat} : ¬ klt key a a := by unfold klt; omega
theorem klt_tri {key : Nat → Int} (a b : Nat) : a = b ∨ klt key a b ∨ klt key b a := by unfold klt; omega
/-- ord 0, .., ord (c - 1): the rules of edition e, in their order -/
def SortE (n : Nat) (ho : Nat → Nat) (key : Nat → Int) (e c : Nat) (ord : Nat → Nat) : Prop := (∀ i, i < c → ord i < n ∧ ho (ord i) = e) ∧ (∀ i j, i < j → j < c → klt key (ord i) (ord j)) ∧ (∀ k, k < n → ho k = e → ∃ i, i < c ∧ ord i = k)
theorem SortE.ofE {n : Nat} {ho : Nat → Nat} {key : Nat → Int} {e c : Nat} {ord : Nat → Nat} (h : SortE n ho key e c ord) : ∀ i, i < c → ord i < n ∧ ho (ord i) = e := h.1
theorem SortE.inc {n : Nat} {ho : Nat → Nat} {key : Nat → Int} {e c : Nat} {ord : Nat → Nat} (h : SortE n ho key e c ord) : ∀ i j, i < j → j < c → klt key (ord i) (ord j) := h.2.1
theorem SortE.all {n : Nat} {ho : Nat → Nat} {key : Nat → Int} {e c : Nat} {ord : Nat → Nat} (h : SortE n ho key e c ord) : ∀ k, k < n → ho k = e → ∃ i, i < c ∧ ord i = k := h.2.2
/-- a rule that comes behind r (or any, at the beginning) -/
def cnd (ho : Nat → Nat) (key : Nat → Int) (e : Nat) (r : Option Nat) (k : Nat) : Prop := ho k = e ∧ (∀ q, r = some q → klt key q k)
def rI (r : Option Nat) : Int32 := match r with | none => -1 | some q => nI q
def InvB (ho : Nat → Nat) (key : Nat → Int) (e : Nat) (r : Option Nat) (k : Nat) (best : Int32) : Prop := (best = -1 ∧ ∀ j, j < k → ¬ cnd ho key e r j) ∨ ∃ b, b < k ∧ best = nI b ∧ cnd ho key e r b ∧ ∀ j, j < k → cnd ho key e r j → j = b ∨ klt key b j
theorem nI_m1 {b : Nat} (h : b < 2 ^ 31) : ¬ nI b = (-1 : Int32) := fun q => by
  have h1 := congrArg Int32.toInt q
  rw [nI_toInt h] at h1
  have h2 : (-1 : Int32).toInt = -1 := by decide
  omega
set_option maxHeartbeats 1000000 in
theorem L_behind_sim {n e : Nat} {ho : Nat → Nat} {key : Nat → Int} {editions orders : Nat → Int32} {r : Option Nat} (hn : n ≤ 40) (he : e < 6) (hE : ∀ j, j < n → editions j = nI (ho j) ∧ ho j < 6) (hK : ∀ j, j < n → (orders j).toInt = key j) (hr : ∀ q, r = some q → q < n) : ∀ (m k : Nat) (best : Int32), k ≤ n → n + 1 ≤ k + m → InvB ho key e r k best → InvB ho key e r n (L_mbehind (nI n) editions orders (nI e) (rI r) m best (nI k)).1 := by
  intro m
  induction m with
  | zero => intros; omega
  | succ m ih =>
    intro k best hk hm hI
    rw [L_mbehind]
    by_cases c0 : n ≤ k
    · rw [if_pos (nI_le c0 (by omega))]
      have : k = n := by omega
      rw [this] at hI; exact hI
    · rw [if_neg (nI_ge (by omega) (by omega)), nI_clamp (by omega), nI_1]
      obtain ⟨e1, e2⟩ := hE k (by omega)
      have hKk := hK k (by omega)
      rw [e1]
      have keep : ¬ cnd ho key e r k → InvB ho key e r (k + 1) best := by
        intro hc
        rcases hI with ⟨b1, b2⟩ | ⟨b, b1, b2, b3, b4⟩
        · exact Or.inl ⟨b1, fun j hj => by
            rcases Nat.lt_or_ge j k with q | q
            · exact b2 j q
            · rw [show j = k by omega]; exact hc⟩
        · exact Or.inr ⟨b, by omega, b2, b3, fun j hj hcj => by
            rcases Nat.lt_or_ge j k with q | q
            · exact b4 j q hcj
            · rw [show j = k by omega] at hcj; exact absurd hcj hc⟩
      by_cases c1 : ho k = e
      · rw [if_pos (by rw [c1])]
        -- the candidate's test
        have hcond : ((if rI r = (-1) then (1 : Int32) else (if (orders (rI r).toNatClampNeg) < (orders k) then (1 : Int32) else (if (orders k) = (orders (rI r).toNatClampNeg) then ((if nI k ≤ rI r then (0 : Int32) else 1) : Int32) else 0))) = 0) ↔ ¬ cnd ho key e r k := by
          cases r with
          | none =>
            rw [if_pos (show rI none = -1 from rfl)]
            exact ⟨fun h => absurd h (by decide), fun h => absurd ⟨c1, fun q hq => by cases hq⟩ h⟩
          | some q =>
            have hq := hr q rfl
            have hKq := hK q hq
            show ((if nI q = (-1) then (1 : Int32) else _) = 0) ↔ _
            rw [if_neg (nI_m1 (by omega))]
            show ((if (orders (nI q).toNatClampNeg) < (orders k) then (1 : Int32) else (if (orders k) = (orders (nI q).toNatClampNeg) then ((if nI k ≤ nI q then (0 : Int32) else 1) : Int32) else 0)) = 0) ↔ _
            rw [nI_clamp (by omega)]
            have hx : cnd ho key e (some q) k ↔ klt key q k := ⟨fun h => h.2 q rfl, fun h => ⟨c1, fun q' hq' => by cases hq'; exact h⟩⟩
            rw [hx]
            unfold klt
            by_cases d1 : orders q < orders k
            · rw [if_pos d1]
              rw [Int32.lt_iff_toInt_lt] at d1
              exact ⟨fun h => absurd h (by decide), fun h => absurd (Or.inl (by omega)) h⟩
            · rw [if_neg d1]
              rw [Int32.lt_iff_toInt_lt] at d1
              by_cases d2 : orders k = orders q
              · rw [if_pos d2]
                have d2' := congrArg Int32.toInt d2
                by_cases d3 : nI k ≤ nI q
                · rw [if_pos d3]
                  rw [nI_leI (by omega) (by omega)] at d3
                  exact ⟨fun _ => by omega, fun _ => rfl⟩
                · rw [if_neg d3]
                  rw [nI_leI (by omega) (by omega)] at d3
                  exact ⟨fun h => absurd h (by decide), fun h => absurd (Or.inr ⟨by omega, by omega⟩) h⟩
              · rw [if_neg d2]
                have d2' : (orders k).toInt ≠ (orders q).toInt := fun h => d2 (Int32.toInt_inj.mp h)
                exact ⟨fun _ => by omega, fun _ => rfl⟩
        by_cases c2 : cnd ho key e r k
        · rw [if_neg (fun h => hcond.mp h c2)]
          rcases hI with ⟨b1, b2⟩ | ⟨b, b1, b2, b3, b4⟩
          · rw [if_pos b1]
            exact ih (k + 1) (nI k) (by omega) (by omega) (Or.inr ⟨k, by omega, rfl, c2, fun j hj hcj => by
              rcases Nat.lt_or_ge j k with q | q
              · exact absurd hcj (b2 j q)
              · exact Or.inl (by omega)⟩)
          · have hKb := hK b (by omega)
            subst b2
            rw [if_neg (nI_m1 (by omega)), nI_clamp (show b < 2 ^ 31 by omega)]
            by_cases d1 : orders b ≤ orders k
            · rw [if_pos d1]
              rw [Int32.le_iff_toInt_le] at d1
              exact ih (k + 1) (nI b) (by omega) (by omega) (Or.inr ⟨b, by omega, rfl, b3, fun j hj hcj => by
                rcases Nat.lt_or_ge j k with q | q
                · exact b4 j q hcj
                · right
                  rw [show j = k by omega]
                  unfold klt
                  omega⟩)
            · rw [if_neg d1]
              rw [Int32.le_iff_toInt_le] at d1
              exact ih (k + 1) (nI k) (by omega) (by omega) (Or.inr ⟨k, by omega, rfl, c2, fun j hj hcj => by
                rcases Nat.lt_or_ge j k with q | q
                · right
                  rcases b4 j q hcj with h | h
                  · rw [h]; unfold klt; omega
                  · exact klt_trans (b := b) (by unfold klt; omega) h
                · exact Or.inl (by omega)⟩)
        · rw [if_pos (hcond.mpr c2)]
          exact ih (k + 1) best (by omega) (by omega) (keep c2)
      · rw [if_neg (fun h => c1 ((nI_eq (by omega) (by omega)).mp h))]
        exact ih (k + 1) best (by omega) (by omega) (keep (fun h => c1 h.1))
theorem behind_sim {n e : Nat} {ho : Nat → Nat} {key : Nat → Int} {editions orders : Nat → Int32} {r : Option Nat} (hn : n ≤ 40) (he : e < 6) (hE : ∀ j, j < n → editions j = nI (ho j) ∧ ho j < 6) (hK : ∀ j, j < n → (orders j).toInt = key j) (hr : ∀ q, r = some q → q < n) : InvB ho key e r n (f_mbehind (nI n) editions orders (nI e) (rI r)) := by
  have h := L_behind_sim hn he hE hK hr 41 0 (-1) (by omega) (by omega) (Or.inl ⟨rfl, fun j hj => absurd hj (by omega)⟩)
  unfold f_mbehind
  rw [nI_0] at h
  revert h
  rcases L_mbehind (nI n) editions orders (nI e) (rI r) 41 (-1) 0 with ⟨x, y⟩
  exact id
def oI (c : Nat) (ord : Nat → Nat) (i : Nat) : Int32 := if i < c then nI (ord i) else -1
theorem SortE_next {n e c : Nat} {ho : Nat → Nat} {key : Nat → Int} {editions orders : Nat → Int32} {ord : Nat → Nat} (hn : n ≤ 40) (he : e < 6) (hE : ∀ j, j < n → editions j = nI (ho j) ∧ ho j < 6) (hK : ∀ j, j < n → (orders j).toInt = key j) (hS : SortE n ho key e c ord) (r : Option Nat) (i : Nat) (hi : i ≤ c) (hr : ∀ q, r = some q → q < n) (h1 : ∀ j, j < c → (cnd ho key e r (ord j) ↔ i ≤ j)) : f_mbehind (nI n) editions orders (nI e) (rI r) = oI c ord i := by
  have h := behind_sim hn he hE hK hr
  unfold oI
  rcases h with ⟨b1, b2⟩ | ⟨b, b1, b2, b3, b4⟩
  · by_cases d : i < c
    · exact absurd ((h1 i d).mpr (Nat.le_refl i)) (b2 _ (hS.ofE i d).1)
    · rw [if_neg d]; exact b1
  · obtain ⟨j, hj, rfl⟩ := hS.all b b1 b3.1
    have hij := (h1 j hj).mp b3
    rw [if_pos (by omega), b2]
    rcases b4 (ord i) (hS.ofE i (by omega)).1 ((h1 i (by omega)).mpr (Nat.le_refl i)) with g | g
    · rw [g]
    · rcases Nat.lt_or_ge i j with q | q
      · exact absurd (klt_trans g (hS.inc i j q hj)) klt_irr
      · rw [show i = j by omega]
theorem SortE_GH {n e c : Nat} {ho : Nat → Nat} {key : Nat → Int} {editions orders : Nat → Int32} {ord : Nat → Nat} (hn : n ≤ 40) (hc : c ≤ 8) (he : e < 6) (hE : ∀ j, j < n → editions j = nI (ho j) ∧ ho j < 6) (hK : ∀ j, j < n → (orders j).toInt = key j) (hS : SortE n ho key e c ord) : GH (nI n) editions orders (nI e) (oI c ord) c := by
  refine ⟨hc, ?_, fun j hj => ?_, fun j hj => ?_, if_neg (by omega)⟩
  · exact SortE_next hn he hE hK hS none 0 (by omega) (fun q hq => by cases hq) (fun j hj => ⟨fun _ => by omega, fun _ => ⟨(hS.ofE j hj).2, fun q hq => by cases hq⟩⟩)
  · have h := SortE_next hn he hE hK hS (some (ord j)) (j + 1) (by omega) (fun q hq => by cases hq; exact (hS.ofE j hj).1) (fun i hi => ⟨fun h => by
      have h2 := h.2 (ord j) rfl
      rcases Nat.lt_or_ge j i with q | q
      · omega
      · rcases Nat.lt_or_ge i j with q2 | q2
        · exact absurd (klt_trans h2 (hS.inc i j q2 hj)) klt_irr
        · rw [show i = j by omega] at h2; exact absurd h2 klt_irr, fun h => ⟨(hS.ofE i hi).2, fun q hq => by cases hq; exact hS.inc j i (by omega) hi⟩⟩)
    rw [← h]
    unfold oI rI
    rw [if_pos hj]
  · unfold oI
    rw [if_pos hj]
    exact vp_in_nI (by have := (hS.ofE j hj).1; omega) (by omega)
-- the states of class and reference, and what ties them
def EdS : Type := Int32 × Int32 × Int32 × Nat × (Nat → Nat)
abbrev EdS.mk (state_ : Int32) (fr_ : Int32) (told_ : Int32) (cnt_ : Nat) (ord_ : Nat → Nat) : EdS := (state_, fr_, told_, cnt_, ord_)
abbrev EdS.state (x : EdS) : Int32 := x.1
abbrev EdS.fr (x : EdS) : Int32 := x.2.1
abbrev EdS.told (x : EdS) : Int32 := x.2.2.1
abbrev EdS.cnt (x : EdS) : Nat := x.2.2.2.1
abbrev EdS.ord (x : EdS) : Nat → Nat := x.2.2.2.2
def RuS : Type := Nat × Int32 × Int32 × (Nat → Int32) × (Nat → Int64) × Int32 × Int64 × Int32 × Int64
abbrev RuS.mk (ho_ : Nat) (rank_ : Int32) (name_ : Int32) (ops_ : Nat → Int32) (nums_ : Nat → Int64) (len_ : Int32) (cell_ : Int64) (fk_ : Int32) (fv_ : Int64) : RuS := (ho_, rank_, name_, ops_, nums_, len_, cell_, fk_, fv_)
abbrev RuS.ho (x : RuS) : Nat := x.1
abbrev RuS.rank (x : RuS) : Int32 := x.2.1
abbrev RuS.name (x : RuS) : Int32 := x.2.2.1
abbrev RuS.ops (x : RuS) : Nat → Int32 := x.2.2.2.1
abbrev RuS.nums (x : RuS) : Nat → Int64 := x.2.2.2.2.1
abbrev RuS.len (x : RuS) : Int32 := x.2.2.2.2.2.1
abbrev RuS.cell (x : RuS) : Int64 := x.2.2.2.2.2.2.1
abbrev RuS.fk (x : RuS) : Int32 := x.2.2.2.2.2.2.2.1
abbrev RuS.fv (x : RuS) : Int64 := x.2.2.2.2.2.2.2.2
def CS : Type := Int32 × Nat × Int32 × (Nat → Int64) × (Nat → Int64) × (Nat → Int32) × (Nat → Int64) × (Nat → Int32) × Int32 × Int32 × Int32 × Int32 × Int64 × (Nat → Int64) × (Nat → Int32) × (Nat → Int32) × (Nat → Int32) × Int32 × (Nat → EdS) × (Nat → RuS)
abbrev CS.mk (steps_ : Int32) (n_ : Nat) (days_ : Int32) (facts_ : Nat → Int64) (stack_ : Nat → Int64) (hf_ : Nat → Int32) (gv_ : Nat → Int64) (gg_ : Nat → Int32) (hc_ : Int32) (ht_ : Int32) (pos_ : Int32) (fault_ : Int32) (cell_ : Int64) (av_ : Nat → Int64) (ag_ : Nat → Int32) (fn_ : Nat → Int32) (fh_ : Nat → Int32) (fc_ : Int32) (ed_ : Nat → EdS) (ru_ : Nat → RuS) : CS := (steps_, n_, days_, facts_, stack_, hf_, gv_, gg_, hc_, ht_, pos_, fault_, cell_, av_, ag_, fn_, fh_, fc_, ed_, ru_)
abbrev CS.steps (x : CS) : Int32 := x.1
abbrev CS.n (x : CS) : Nat := x.2.1
abbrev CS.days (x : CS) : Int32 := x.2.2.1
abbrev CS.facts (x : CS) : Nat → Int64 := x.2.2.2.1
abbrev CS.stack (x : CS) : Nat → Int64 := x.2.2.2.2.1
abbrev CS.hf (x : CS) : Nat → Int32 := x.2.2.2.2.2.1
abbrev CS.gv (x : CS) : Nat → Int64 := x.2.2.2.2.2.2.1
abbrev CS.gg (x : CS) : Nat → Int32 := x.2.2.2.2.2.2.2.1
abbrev CS.hc (x : CS) : Int32 := x.2.2.2.2.2.2.2.2.1
abbrev CS.ht (x : CS) : Int32 := x.2.2.2.2.2.2.2.2.2.1
abbrev CS.pos (x : CS) : Int32 := x.2.2.2.2.2.2.2.2.2.2.1
abbrev CS.fault (x : CS) : Int32 := x.2.2.2.2.2.2.2.2.2.2.2.1
abbrev CS.cell (x : CS) : Int64 := x.2.2.2.2.2.2.2.2.2.2.2.2.1
abbrev CS.av (x : CS) : Nat → Int64 := x.2.2.2.2.2.2.2.2.2.2.2.2.2.1
abbrev CS.ag (x : CS) : Nat → Int32 := x.2.2.2.2.2.2.2.2.2.2.2.2.2.2.1
abbrev CS.fn (x : CS) : Nat → Int32 := x.2.2.2.2.2.2.2.2.2.2.2.2.2.2.2.1
abbrev CS.fh (x : CS) : Nat → Int32 := x.2.2.2.2.2.2.2.2.2.2.2.2.2.2.2.2.1
abbrev CS.fc (x : CS) : Int32 := x.2.2.2.2.2.2.2.2.2.2.2.2.2.2.2.2.2.1
abbrev CS.ed (x : CS) : Nat → EdS := x.2.2.2.2.2.2.2.2.2.2.2.2.2.2.2.2.2.2.1
abbrev CS.ru (x : CS) : Nat → RuS := x.2.2.2.2.2.2.2.2.2.2.2.2.2.2.2.2.2.2.2
def MS : Type := Int32 × Int32 × Int32 × (Nat → Int32) × (Nat → Int32) × (Nat → Int32) × (Nat → Int32) × (Nat → Int64) × (Nat → Int64) × (Nat → Int32) × (Nat → Int32) × (Nat → Int64) × (Nat → Int64) × (Nat → Int32) × (Nat → Int32) × (Nat → Int32) × (Nat → Int32) × Int32 × Int32 × (Nat → Int32) × Int32 × (Nat → Int32) × (Nat → Int32) × (Nat → Int64) × (Nat → Int32) × (Nat → Int64) × Int32 × Int32 × Int32 × Int64 × (Nat → Int64) × (Nat → Int32)
abbrev MS.mk (thrown_ : Int32) (most_ : Int32) (rules_ : Int32) (editions_ : Nat → Int32) (orders_ : Nat → Int32) (sizes_ : Nat → Int32) (ops_ : Nat → Int32) (numbers_ : Nat → Int64) (cells_ : Nat → Int64) (hasFallback_ : Nat → Int32) (fallbackKinds_ : Nat → Int32) (fallbacks_ : Nat → Int64) (facts_ : Nat → Int64) (states_ : Nat → Int32) (counts_ : Nat → Int32) (days_ : Nat → Int32) (toldAt_ : Nat → Int32) (tells_ : Int32) (handles_ : Int32) (handleFacts_ : Nat → Int32) (failures_ : Int32) (failedRule_ : Nat → Int32) (failedHow_ : Nat → Int32) (answers_ : Nat → Int64) (givers_ : Nat → Int32) (stack_ : Nat → Int64) (high_ : Int32) (steps_ : Int32) (how_ : Int32) (cellNow_ : Int64) (own_ : Nat → Int64) (has_ : Nat → Int32) : MS := (thrown_, most_, rules_, editions_, orders_, sizes_, ops_, numbers_, cells_, hasFallback_, fallbackKinds_, fallbacks_, facts_, states_, counts_, days_, toldAt_, tells_, handles_, handleFacts_, failures_, failedRule_, failedHow_, answers_, givers_, stack_, high_, steps_, how_, cellNow_, own_, has_)
abbrev MS.thrown (x : MS) : Int32 := x.1
abbrev MS.most (x : MS) : Int32 := x.2.1
abbrev MS.rules (x : MS) : Int32 := x.2.2.1
abbrev MS.editions (x : MS) : Nat → Int32 := x.2.2.2.1
abbrev MS.orders (x : MS) : Nat → Int32 := x.2.2.2.2.1
abbrev MS.sizes (x : MS) : Nat → Int32 := x.2.2.2.2.2.1
abbrev MS.ops (x : MS) : Nat → Int32 := x.2.2.2.2.2.2.1
abbrev MS.numbers (x : MS) : Nat → Int64 := x.2.2.2.2.2.2.2.1
abbrev MS.cells (x : MS) : Nat → Int64 := x.2.2.2.2.2.2.2.2.1
abbrev MS.hasFallback (x : MS) : Nat → Int32 := x.2.2.2.2.2.2.2.2.2.1
abbrev MS.fallbackKinds (x : MS) : Nat → Int32 := x.2.2.2.2.2.2.2.2.2.2.1
abbrev MS.fallbacks (x : MS) : Nat → Int64 := x.2.2.2.2.2.2.2.2.2.2.2.1
abbrev MS.facts (x : MS) : Nat → Int64 := x.2.2.2.2.2.2.2.2.2.2.2.2.1
abbrev MS.states (x : MS) : Nat → Int32 := x.2.2.2.2.2.2.2.2.2.2.2.2.2.1
abbrev MS.counts (x : MS) : Nat → Int32 := x.2.2.2.2.2.2.2.2.2.2.2.2.2.2.1
abbrev MS.days (x : MS) : Nat → Int32 := x.2.2.2.2.2.2.2.2.2.2.2.2.2.2.2.1
abbrev MS.toldAt (x : MS) : Nat → Int32 := x.2.2.2.2.2.2.2.2.2.2.2.2.2.2.2.2.1
abbrev MS.tells (x : MS) : Int32 := x.2.2.2.2.2.2.2.2.2.2.2.2.2.2.2.2.2.1
abbrev MS.handles (x : MS) : Int32 := x.2.2.2.2.2.2.2.2.2.2.2.2.2.2.2.2.2.2.1
abbrev MS.handleFacts (x : MS) : Nat → Int32 := x.2.2.2.2.2.2.2.2.2.2.2.2.2.2.2.2.2.2.2.1
abbrev MS.failures (x : MS) : Int32 := x.2.2.2.2.2.2.2.2.2.2.2.2.2.2.2.2.2.2.2.2.1
abbrev MS.failedRule (x : MS) : Nat → Int32 := x.2.2.2.2.2.2.2.2.2.2.2.2.2.2.2.2.2.2.2.2.2.1
abbrev MS.failedHow (x : MS) : Nat → Int32 := x.2.2.2.2.2.2.2.2.2.2.2.2.2.2.2.2.2.2.2.2.2.2.1
abbrev MS.answers (x : MS) : Nat → Int64 := x.2.2.2.2.2.2.2.2.2.2.2.2.2.2.2.2.2.2.2.2.2.2.2.1
abbrev MS.givers (x : MS) : Nat → Int32 := x.2.2.2.2.2.2.2.2.2.2.2.2.2.2.2.2.2.2.2.2.2.2.2.2.1
abbrev MS.stack (x : MS) : Nat → Int64 := x.2.2.2.2.2.2.2.2.2.2.2.2.2.2.2.2.2.2.2.2.2.2.2.2.2.1
abbrev MS.high (x : MS) : Int32 := x.2.2.2.2.2.2.2.2.2.2.2.2.2.2.2.2.2.2.2.2.2.2.2.2.2.2.1
abbrev MS.steps (x : MS) : Int32 := x.2.2.2.2.2.2.2.2.2.2.2.2.2.2.2.2.2.2.2.2.2.2.2.2.2.2.2.1
abbrev MS.how (x : MS) : Int32 := x.2.2.2.2.2.2.2.2.2.2.2.2.2.2.2.2.2.2.2.2.2.2.2.2.2.2.2.2.1
abbrev MS.cellNow (x : MS) : Int64 := x.2.2.2.2.2.2.2.2.2.2.2.2.2.2.2.2.2.2.2.2.2.2.2.2.2.2.2.2.2.1
abbrev MS.own (x : MS) : Nat → Int64 := x.2.2.2.2.2.2.2.2.2.2.2.2.2.2.2.2.2.2.2.2.2.2.2.2.2.2.2.2.2.2.1
abbrev MS.has (x : MS) : Nat → Int32 := x.2.2.2.2.2.2.2.2.2.2.2.2.2.2.2.2.2.2.2.2.2.2.2.2.2.2.2.2.2.2.2
abbrev CS.setEd (s : CS) (x : Nat → EdS) : CS := CS.mk s.steps s.n s.days s.facts s.stack s.hf s.gv s.gg s.hc s.ht s.pos s.fault s.cell s.av s.ag s.fn s.fh s.fc x s.ru
abbrev MS.setAns (t : MS) (c a : Nat → Int64) (g : Nat → Int32) : MS := MS.mk t.thrown t.most t.rules t.editions t.orders t.sizes t.ops t.numbers c t.hasFallback t.fallbackKinds t.fallbacks t.facts t.states t.counts t.days t.toldAt t.tells t.handles t.handleFacts t.failures t.failedRule t.failedHow a g t.stack t.high t.steps t.how t.cellNow t.own t.has
theorem in_pos {α : Type} {k : Int32} {n : Nat} {x y : α} (h : vp_in k n) : (if ¬ (k < 0 ∨ n ≤ k.toNatClampNeg) then x else y) = x := if_pos h
theorem in_neg {α : Type} {k : Int32} {n : Nat} {x y : α} (h : ¬ vp_in k n) : (if ¬ (k < 0 ∨ n ≤ k.toNatClampNeg) then x else y) = y := if_neg h
def setF {α : Type} (f : Nat → α) (k : Nat) (x : α) : Nat → α := fun j => if j = k then x else f j
theorem setF_eq {α : Type} (f : Nat → α) (k : Nat) (x : α) : setF f k x k = x := if_pos rfl
theorem setF_ne {α : Type} (f : Nat → α) {k j : Nat} (x : α) (h : j ≠ k) : setF f k x j = f j := if_neg h
theorem upd_eq (f : Nat → Int32) (k : Nat) (x : Int32) : upd f k x k = x := if_pos rfl
theorem upd_ne (f : Nat → Int32) {k j : Nat} (x : Int32) (h : j ≠ k) : upd f k x j = f j := if_neg h
theorem updL_eq (f : Nat → Int64) (k : Nat) (x : Int64) : vp_updL f k x k = x := if_pos rfl
theorem updL_ne (f : Nat → Int64) {k j : Nat} (x : Int64) (h : j ≠ k) : vp_updL f k x j = f j := if_neg h
/-- one rule: class and reference -/
def RuR (t : MS) (j : Nat) (r : RuS) : Prop := (r.ho < 6) ∧ (t.editions j = nI r.ho) ∧ (0 ≤ r.rank.toInt ∧ r.rank.toInt ≤ 9) ∧ (0 ≤ r.name.toInt ∧ r.name.toInt ≤ 99) ∧ ((t.orders j).toInt = 100 * r.rank.toInt + r.name.toInt) ∧ (∃ len : Nat, r.len = nI len ∧ t.sizes j = nI len ∧ ProgR j len r.ops r.nums t.ops t.numbers) ∧ (r.cell = t.cells j) ∧ ((t.hasFallback j = 0 ∧ r.fk = -1) ∨ (t.hasFallback j = 1 ∧ r.fk = t.fallbackKinds j ∧ vp_in r.fk 4 ∧ r.fv = t.fallbacks j))
theorem RuR.ho6 {t : MS} {j : Nat} {r : RuS} (h : RuR t j r) : r.ho < 6 := h.1
theorem RuR.ed {t : MS} {j : Nat} {r : RuS} (h : RuR t j r) : t.editions j = nI r.ho := h.2.1
theorem RuR.rk {t : MS} {j : Nat} {r : RuS} (h : RuR t j r) : 0 ≤ r.rank.toInt ∧ r.rank.toInt ≤ 9 := h.2.2.1
theorem RuR.nm {t : MS} {j : Nat} {r : RuS} (h : RuR t j r) : 0 ≤ r.name.toInt ∧ r.name.toInt ≤ 99 := h.2.2.2.1
theorem RuR.od {t : MS} {j : Nat} {r : RuS} (h : RuR t j r) : (t.orders j).toInt = 100 * r.rank.toInt + r.name.toInt := h.2.2.2.2.1
theorem RuR.pr {t : MS} {j : Nat} {r : RuS} (h : RuR t j r) : ∃ len : Nat, r.len = nI len ∧ t.sizes j = nI len ∧ ProgR j len r.ops r.nums t.ops t.numbers := h.2.2.2.2.2.1
theorem RuR.ce {t : MS} {j : Nat} {r : RuS} (h : RuR t j r) : r.cell = t.cells j := h.2.2.2.2.2.2.1
theorem RuR.fb {t : MS} {j : Nat} {r : RuS} (h : RuR t j r) : (t.hasFallback j = 0 ∧ r.fk = -1) ∨ (t.hasFallback j = 1 ∧ r.fk = t.fallbackKinds j ∧ vp_in r.fk 4 ∧ r.fv = t.fallbacks j) := h.2.2.2.2.2.2.2
/-- one edition -/
def EdR (t : MS) (e : Nat) (x : EdS) : Prop := (x.state = t.states e) ∧ (vp_in x.state 4) ∧ (t.counts e = nI x.cnt) ∧ (x.cnt ≤ 8) ∧ (x.fr = t.days e) ∧ (x.told = t.toldAt e)
theorem EdR.st {t : MS} {e : Nat} {x : EdS} (h : EdR t e x) : x.state = t.states e := h.1
theorem EdR.st4 {t : MS} {e : Nat} {x : EdS} (h : EdR t e x) : vp_in x.state 4 := h.2.1
theorem EdR.ct {t : MS} {e : Nat} {x : EdS} (h : EdR t e x) : t.counts e = nI x.cnt := h.2.2.1
theorem EdR.c8 {t : MS} {e : Nat} {x : EdS} (h : EdR t e x) : x.cnt ≤ 8 := h.2.2.2.1
theorem EdR.fr {t : MS} {e : Nat} {x : EdS} (h : EdR t e x) : x.fr = t.days e := h.2.2.2.2.1
theorem EdR.td {t : MS} {e : Nat} {x : EdS} (h : EdR t e x) : x.told = t.toldAt e := h.2.2.2.2.2
/-- what the reference keeps to by itself -/
def MOk (t : MS) : Prop := (∀ j, vp_in (t.editions j) 6) ∧ (∀ j, 0 ≤ (t.sizes j).toInt ∧ (t.sizes j).toInt ≤ 12) ∧ (∀ j, okN (t.ops j) (t.numbers j)) ∧ (∀ j, vp_in (t.handleFacts j) 8) ∧ (∀ j, vp_in (t.fallbackKinds j) 4)
theorem MOk.mE {t : MS} (h : MOk t) : ∀ j, vp_in (t.editions j) 6 := h.1
theorem MOk.mZ {t : MS} (h : MOk t) : ∀ j, 0 ≤ (t.sizes j).toInt ∧ (t.sizes j).toInt ≤ 12 := h.2.1
theorem MOk.mV {t : MS} (h : MOk t) : ∀ j, okN (t.ops j) (t.numbers j) := h.2.2.1
theorem MOk.mH {t : MS} (h : MOk t) : ∀ j, vp_in (t.handleFacts j) 8 := h.2.2.2.1
theorem MOk.mK {t : MS} (h : MOk t) : ∀ j, vp_in (t.fallbackKinds j) 4 := h.2.2.2.2
def Rel (s : CS) (t : MS) : Prop := (∃ L : Nat, 1 ≤ L ∧ L ≤ 100 ∧ s.steps = nI L ∧ t.most = nI L) ∧ (s.n ≤ 40) ∧ (t.rules = nI s.n) ∧ (∀ e, e < 6 → EdR t e (s.ed e)) ∧ (∀ e, e < 6 → SortE s.n (fun j => (s.ru j).ho) (fun j => (t.orders j).toInt) e (s.ed e).cnt (s.ed e).ord) ∧ (s.days = t.tells) ∧ (∀ j, j < s.n → RuR t j (s.ru j)) ∧ (∀ j, s.n ≤ j → t.sizes j = 0 ∧ t.cells j = 0 ∧ t.hasFallback j = 0) ∧ (∀ i, i < 8 → s.facts i = t.facts i) ∧ (∃ c : Nat, s.hc = nI c ∧ t.handles = nI c ∧ HS c s.hf t.handleFacts) ∧ (∃ f : Nat, s.fc = nI f ∧ t.failures = nI f ∧ FS f s.fn s.fh t.failedRule t.failedHow) ∧ (∀ i, i < 4 → s.av i = t.answers i ∧ s.ag i = t.givers i) ∧ (MOk t)
theorem Rel.st {s : CS} {t : MS} (h : Rel s t) : ∃ L : Nat, 1 ≤ L ∧ L ≤ 100 ∧ s.steps = nI L ∧ t.most = nI L := h.1
theorem Rel.hn {s : CS} {t : MS} (h : Rel s t) : s.n ≤ 40 := h.2.1
theorem Rel.rc {s : CS} {t : MS} (h : Rel s t) : t.rules = nI s.n := h.2.2.1
theorem Rel.ed {s : CS} {t : MS} (h : Rel s t) : ∀ e, e < 6 → EdR t e (s.ed e) := h.2.2.2.1
theorem Rel.so {s : CS} {t : MS} (h : Rel s t) : ∀ e, e < 6 → SortE s.n (fun j => (s.ru j).ho) (fun j => (t.orders j).toInt) e (s.ed e).cnt (s.ed e).ord := h.2.2.2.2.1
theorem Rel.dy {s : CS} {t : MS} (h : Rel s t) : s.days = t.tells := h.2.2.2.2.2.1
theorem Rel.ru {s : CS} {t : MS} (h : Rel s t) : ∀ j, j < s.n → RuR t j (s.ru j) := h.2.2.2.2.2.2.1
theorem Rel.un {s : CS} {t : MS} (h : Rel s t) : ∀ j, s.n ≤ j → t.sizes j = 0 ∧ t.cells j = 0 ∧ t.hasFallback j = 0 := h.2.2.2.2.2.2.2.1
theorem Rel.fa {s : CS} {t : MS} (h : Rel s t) : ∀ i, i < 8 → s.facts i = t.facts i := h.2.2.2.2.2.2.2.2.1
theorem Rel.ha {s : CS} {t : MS} (h : Rel s t) : ∃ c : Nat, s.hc = nI c ∧ t.handles = nI c ∧ HS c s.hf t.handleFacts := h.2.2.2.2.2.2.2.2.2.1
theorem Rel.fl {s : CS} {t : MS} (h : Rel s t) : ∃ f : Nat, s.fc = nI f ∧ t.failures = nI f ∧ FS f s.fn s.fh t.failedRule t.failedHow := h.2.2.2.2.2.2.2.2.2.2.1
theorem Rel.an {s : CS} {t : MS} (h : Rel s t) : ∀ i, i < 4 → s.av i = t.answers i ∧ s.ag i = t.givers i := h.2.2.2.2.2.2.2.2.2.2.2.1
theorem Rel.ok {s : CS} {t : MS} (h : Rel s t) : MOk t := h.2.2.2.2.2.2.2.2.2.2.2.2
theorem isRule_iff {n : Nat} {k : Int32} (hn : n ≤ 40) : (f_misRule (nI n) k = 0) ↔ ¬ vp_in k n := by
  have h : ((nI n - 1).toInt64).toInt = (n : Int) - 1 := by
    rw [Int32.toInt_toInt64]
    exact pk_sub_toInt (a := n) (b := 1) (by omega) (by omega)
  have h2 := f_isWithin_iff k.toInt64 0 ((nI n - 1).toInt64)
  rw [h, Int32.toInt_toInt64] at h2
  have h0 : (0 : Int64).toInt = 0 := rfl
  rw [vp_in_iff]
  constructor
  · intro g q
    exact (h2.mpr (by omega)) g
  · intro g
    apply Classical.byContradiction
    intro g2
    have := h2.mp g2
    omega
theorem ruleAt_iff {n : Nat} {k : Int32} {rules : Nat → Option Nat} (hn : n ≤ 40) : f_ruleAt rules (nI n) k = if ¬ (k < 0 ∨ n ≤ k.toNatClampNeg) then rules k.toNatClampNeg else none := by
  unfold f_ruleAt
  by_cases c0 : k < 0
  · rw [if_pos c0, in_neg (fun h => h (Or.inl c0))]
  · obtain ⟨j, hj, rfl⟩ := nI_of c0
    rw [if_neg c0]
    by_cases c1 : nI n ≤ nI j
    · rw [if_pos c1, in_neg (fun h => by
        rw [vp_in_iff, nI_toInt hj] at h
        rw [nI_leI (by omega) hj] at c1
        omega)]
    · rw [if_neg c1]
      rw [nI_leI (by omega) hj] at c1
      rw [if_neg (show ¬ (40 : Int32) ≤ nI j from nI_ge (a := j) (b := 40) (by omega) (by omega)), in_pos (vp_in_nI (by omega) (by omega))]
theorem isEd_iff {k : Int32} : (f_misEdition k = 0) ↔ ¬ vp_in k 6 := by
  have h2 := f_isWithin_iff k.toInt64 0 5
  rw [Int32.toInt_toInt64] at h2
  have h0 : (0 : Int64).toInt = 0 := rfl
  have h5 : (5 : Int64).toInt = 5 := rfl
  rw [vp_in_iff]
  constructor
  · intro g q
    exact (h2.mpr (by omega)) g
  · intro g
    apply Classical.byContradiction
    intro g2
    have := h2.mp g2
    omega
theorem edAt_iff {k : Int32} {editions : Nat → Option Nat} : f_editionAt editions k = if ¬ (k < 0 ∨ 6 ≤ k.toNatClampNeg) then editions k.toNatClampNeg else none := by
  unfold f_editionAt
  by_cases c0 : k < 0
  · rw [if_pos c0, in_neg (fun h => h (Or.inl c0))]
  · obtain ⟨j, hj, rfl⟩ := nI_of c0
    rw [if_neg c0]
    by_cases c1 : (6 : Int32) ≤ nI j
    · rw [if_pos c1, in_neg (fun h => by
        rw [vp_in_iff, nI_toInt hj] at h
        rw [show (6 : Int32) = nI 6 from rfl, nI_leI (by omega) hj] at c1
        omega)]
    · rw [if_neg c1]
      rw [show (6 : Int32) = nI 6 from rfl, nI_leI (by omega) hj] at c1
      rw [in_pos (vp_in_nI (by omega) (by omega))]
theorem w_iff {k : Int32} {m : Nat} (hm : m < 1000000) : (f_mwithin k.toInt64 0 (lN m) = 0) ↔ ¬ vp_in k (m + 1) := by
  have h2 := f_isWithin_iff k.toInt64 0 (lN m)
  rw [Int32.toInt_toInt64, lN_toInt (by omega)] at h2
  have h0 : (0 : Int64).toInt = 0 := rfl
  rw [vp_in_iff]
  constructor
  · intro g q
    exact (h2.mpr (by omega)) g
  · intro g
    apply Classical.byContradiction
    intro g2
    have := h2.mp g2
    omega
-- code, fallback, fact
theorem okN_of {op : Int32} {n : Int64} (h : okL op n) : okN op n := by
  obtain ⟨h1, h2, h3, h4⟩ := h
  refine ⟨fun e => l2i_lt (m := 7) (h1 e) (by decide), fun e => l2i_lt (m := 3) (h2 e) (by decide), fun e => l2i_lt (m := 7) (h3 e) (by decide), fun e => ?_⟩
  have h5 := h4 e
  have : n.toInt32.toInt = n.toInt := by
    rw [Int64.toInt_toInt32]
    exact Int.bmod_eq_of_le (by omega) (by omega)
  omega
theorem isIns_iff {op : Int32} {n : Int64} : (f_isInstruction op n = 0) ↔ (f_mwithin op.toInt64 0 15 = 0 ∨ f_misNumber op n = 0) := by
  unfold f_isInstruction f_misNumber
  by_cases c1 : op = 1
  · subst c1; simp only [reduceIte, within_eq]; exact ⟨Or.inr, fun h => h.resolve_left (by decide)⟩
  by_cases c9 : op = 9
  · subst c9
    rw [if_neg c1, if_neg c1, if_pos rfl, if_pos rfl]
    by_cases d1 : n = 0
    · rw [if_pos d1, if_pos d1]
      refine ⟨fun _ => Or.inr ?_, fun _ => rfl⟩
      split <;> rfl
    · rw [if_neg d1, if_neg d1, within_eq]
      by_cases d2 : f_mwithin n (-12) 12 = 0
      · rw [if_pos d2]; exact ⟨fun _ => Or.inr rfl, fun _ => rfl⟩
      · rw [if_neg d2]; exact ⟨fun h => absurd h (by decide), fun h => absurd h (by decide)⟩
  by_cases c10 : op = 10
  · subst c10
    rw [if_neg c1, if_neg c1, if_neg c9, if_neg c9, if_pos rfl, if_pos rfl, within_eq]
    exact ⟨Or.inr, fun h => h.resolve_left (by decide)⟩
  by_cases c13 : op = 13
  · subst c13
    rw [if_neg c1, if_neg c1, if_neg c9, if_neg c9, if_neg c10, if_neg c10, if_pos rfl, if_pos rfl, within_eq]
    exact ⟨Or.inr, fun h => h.resolve_left (by decide)⟩
  rw [if_neg c1, if_neg c1, if_neg c9, if_neg c9, if_neg c10, if_neg c10, if_neg c13, if_neg c13, within_eq]
  exact ⟨Or.inl, fun h => h.resolve_right (by decide)⟩
theorem ins_ok {op : Int32} {n : Int64} (h1 : ¬ f_mwithin op.toInt64 0 15 = 0) (h2 : ¬ f_misNumber op n = 0) : vp_in op 16 ∧ okL op n := by
  have h0 : (0 : Int64).toInt = 0 := rfl
  have h7 : (7 : Int64).toInt = 7 := rfl
  have h3 : (3 : Int64).toInt = 3 := rfl
  have h12 : (12 : Int64).toInt = 12 := rfl
  have hm12 : (-12 : Int64).toInt = -12 := by decide
  refine ⟨?_, ?_⟩
  · exact Classical.byContradiction fun q => h1 ((w_iff (m := 15) (by decide)).mpr q)
  · refine ⟨fun e => ?_, fun e => ?_, fun e => ?_, fun e => ?_⟩ <;> subst e
    · have := (f_isWithin_iff n 0 7).mp h2
      omega
    · have := (f_isWithin_iff n 0 3).mp h2
      omega
    · have := (f_isWithin_iff n 0 7).mp h2
      omega
    · have q : ¬ f_isWithin n (-12) 12 = 0 := by
        intro q
        apply h2
        show (if f_mwithin n (-12) 12 = 0 then (0 : Int32) else if n = 0 then 0 else 1) = 0
        rw [if_pos (show f_mwithin n (-12) 12 = 0 from q)]
      have := (f_isWithin_iff n (-12) 12).mp q
      omega
def F_code (s : CS) (k op : Int32) (n : Int64) : Int32 × CS :=
  if ¬ (k < 0 ∨ s.n ≤ k.toNatClampNeg) then
    ((f_codeS (s.ru k.toNatClampNeg).ops (s.ru k.toNatClampNeg).nums (s.ru k.toNatClampNeg).len (s.ed (s.ru k.toNatClampNeg).ho).state op n).1,
     (CS.mk s.steps s.n s.days s.facts s.stack s.hf s.gv s.gg s.hc s.ht s.pos s.fault s.cell s.av s.ag s.fn s.fh s.fc s.ed (setF s.ru k.toNatClampNeg (RuS.mk (s.ru k.toNatClampNeg).ho (s.ru k.toNatClampNeg).rank (s.ru k.toNatClampNeg).name ((f_codeS (s.ru k.toNatClampNeg).ops (s.ru k.toNatClampNeg).nums (s.ru k.toNatClampNeg).len (s.ed (s.ru k.toNatClampNeg).ho).state op n).2.1) ((f_codeS (s.ru k.toNatClampNeg).ops (s.ru k.toNatClampNeg).nums (s.ru k.toNatClampNeg).len (s.ed (s.ru k.toNatClampNeg).ho).state op n).2.2.1) ((f_codeS (s.ru k.toNatClampNeg).ops (s.ru k.toNatClampNeg).nums (s.ru k.toNatClampNeg).len (s.ed (s.ru k.toNatClampNeg).ho).state op n).2.2.2) (s.ru k.toNatClampNeg).cell (s.ru k.toNatClampNeg).fk (s.ru k.toNatClampNeg).fv))))
  else (-101, s)
theorem setF_self {α : Type} (f : Nat → α) (k : Nat) : setF f k (f k) = f := by
  funext j
  unfold setF
  split
  · next h => rw [h]
  · rfl
/-- a rule changed, the rest as it was -/
theorem Rel.setRu {s : CS} {t t' : MS} {j : Nat} {r : RuS} (h : Rel s t) (hj : j < s.n) (hho : r.ho = (s.ru j).ho) (hr : RuR t' j r) (ho : ∀ i, i < s.n → i ≠ j → RuR t i (s.ru i) → RuR t' i (s.ru i)) (hun : ∀ i, s.n ≤ i → t'.sizes i = t.sizes i ∧ t'.cells i = t.cells i ∧ t'.hasFallback i = t.hasFallback i) (hok : MOk t')
    (e1 : t'.most = t.most) (e2 : t'.rules = t.rules) (e3 : t'.orders = t.orders) (e4 : t'.states = t.states) (e5 : t'.counts = t.counts) (e6 : t'.days = t.days) (e7 : t'.toldAt = t.toldAt) (e8 : t'.tells = t.tells) (e9 : t'.facts = t.facts) (e10 : t'.handles = t.handles) (e11 : t'.handleFacts = t.handleFacts) (e12 : t'.failures = t.failures) (e13 : t'.failedRule = t.failedRule) (e14 : t'.failedHow = t.failedHow) (e15 : t'.answers = t.answers) (e16 : t'.givers = t.givers) : Rel (CS.mk s.steps s.n s.days s.facts s.stack s.hf s.gv s.gg s.hc s.ht s.pos s.fault s.cell s.av s.ag s.fn s.fh s.fc s.ed (setF s.ru j r)) t' := by
  refine ⟨by rw [e1]; exact h.st, h.hn, by rw [e2]; exact h.rc, fun e he => ?_, fun e he => ?_, by rw [e8]; exact h.dy, fun i hi => ?_, fun i hi => ?_, by rw [e9]; exact h.fa, by rw [e10, e11]; exact h.ha, by rw [e12, e13, e14]; exact h.fl, by rw [e15, e16]; exact h.an, hok⟩
  · have q := h.ed e he
    exact ⟨by rw [e4]; exact q.st, q.st4, by rw [e5]; exact q.ct, q.c8, by rw [e6]; exact q.fr, by rw [e7]; exact q.td⟩
  · have q := h.so e he
    rw [e3]
    have hf : (fun i => (setF s.ru j r i).ho) = (fun i => (s.ru i).ho) := by
      funext i
      unfold setF
      split
      · next g => rw [g, hho]
      · rfl
    show SortE s.n (fun i => (setF s.ru j r i).ho) _ e _ _
    rw [hf]
    exact q
  · by_cases c : i = j
    · subst c
      show RuR t' i (setF s.ru i r i)
      rw [setF_eq]; exact hr
    · show RuR t' i (setF s.ru j r i)
      rw [setF_ne _ _ c]; exact ho i hi c (h.ru i hi)
  · obtain ⟨g1, g2, g3⟩ := hun i hi
    rw [g1, g2, g3]; exact h.un i hi
theorem Rel.same_ru {s : CS} {t : MS} {j : Nat} {r : RuS} (h : Rel s t) (hr : r = s.ru j) : Rel (CS.mk s.steps s.n s.days s.facts s.stack s.hf s.gv s.gg s.hc s.ht s.pos s.fault s.cell s.av s.ag s.fn s.fh s.fc s.ed (setF s.ru j r)) t := by
  rw [hr, setF_self]; exact h
theorem Rel.thr {s : CS} {t : MS} {x : Int32} (h : Rel s t) : Rel s (MS.mk (x) t.most t.rules t.editions t.orders t.sizes t.ops t.numbers t.cells t.hasFallback t.fallbackKinds t.fallbacks t.facts t.states t.counts t.days t.toldAt t.tells t.handles t.handleFacts t.failures t.failedRule t.failedHow t.answers t.givers t.stack t.high t.steps t.how t.cellNow t.own t.has) := by
  obtain ⟨h1, h2, h3, h4, h5, h6, h7, h8, h9, h10, h11, h12, h13⟩ := h
  exact ⟨h1, h2, h3, fun e he => by have q := h4 e he; exact ⟨q.st, q.st4, q.ct, q.c8, q.fr, q.td⟩, h5, h6, fun j hj => by have q := h7 j hj; exact ⟨q.ho6, q.ed, q.rk, q.nm, q.od, q.pr, q.ce, q.fb⟩, h8, h9, h10, h11, h12, ⟨h13.mE, h13.mZ, h13.mV, h13.mH, h13.mK⟩⟩
def M_code (t : MS) (r op : Int32) (n : Int64) : Int32 × MS :=
  ((f_mcode t.rules t.editions t.sizes t.ops t.numbers t.states r op n).1, (MS.mk ((f_mcode t.rules t.editions t.sizes t.ops t.numbers t.states r op n).2.1) t.most t.rules t.editions t.orders ((f_mcode t.rules t.editions t.sizes t.ops t.numbers t.states r op n).2.2.1) ((f_mcode t.rules t.editions t.sizes t.ops t.numbers t.states r op n).2.2.2.1) ((f_mcode t.rules t.editions t.sizes t.ops t.numbers t.states r op n).2.2.2.2) t.cells t.hasFallback t.fallbackKinds t.fallbacks t.facts t.states t.counts t.days t.toldAt t.tells t.handles t.handleFacts t.failures t.failedRule t.failedHow t.answers t.givers t.stack t.high t.steps t.how t.cellNow t.own t.has))
set_option maxHeartbeats 1000000 in
theorem sim_code {s : CS} {t : MS} (h : Rel s t) (k op : Int32) (n : Int64) : (F_code s k op n).1 = (M_code t k op n).1 ∧ Rel (F_code s k op n).2 (M_code t k op n).2 := by
  unfold F_code M_code
  have hir := isRule_iff (k := k) h.hn
  generalize hy : f_mcode t.rules t.editions t.sizes t.ops t.numbers t.states k op n = y
  unfold f_mcode at hy
  rw [h.rc] at hy
  by_cases c0 : vp_in k s.n
  · obtain ⟨j, hj, rfl⟩ := vp_in_of c0 (by have := h.hn; omega)
    rw [in_pos c0, nI_clamp (by have := h.hn; omega)]
    rw [if_neg (fun q => hir.mp q c0), nI_clamp (by have := h.hn; omega)] at hy
    generalize hx : f_codeS (s.ru j).ops (s.ru j).nums (s.ru j).len (s.ed (s.ru j).ho).state op n = x
    have hj40 : j < 40 := by have := h.hn; omega
    have q := h.ru j hj
    obtain ⟨len, hl1, hl2, hP⟩ := q.pr
    have hl12 := hP.1
    have hst : (s.ed (s.ru j).ho).state = t.states (s.ru j).ho := (h.ed _ q.ho6).st
    rw [hl2, q.ed, nI_clamp (by have := q.ho6; omega)] at hy
    rw [hst, hl1] at hx
    have hsame : Rel (CS.mk s.steps s.n s.days s.facts s.stack s.hf s.gv s.gg s.hc s.ht s.pos s.fault s.cell s.av s.ag s.fn s.fh s.fc s.ed (setF s.ru j (RuS.mk (s.ru j).ho (s.ru j).rank (s.ru j).name ((s.ru j).ops) ((s.ru j).nums) (nI len) (s.ru j).cell (s.ru j).fk (s.ru j).fv))) t := h.same_ru (by rw [← hl1]; try rfl)
    unfold f_codeS at hx
    by_cases c1 : f_isInstruction op n = 0
    · rw [if_pos c1] at hx
      rcases isIns_iff.mp c1 with d | d
      · rw [if_pos d] at hy
        subst hx hy
        exact ⟨rfl, hsame.thr⟩
      · by_cases d0 : f_mwithin op.toInt64 0 15 = 0
        · rw [if_pos d0] at hy
          subst hx hy
          exact ⟨rfl, hsame.thr⟩
        · rw [if_neg d0, if_pos d] at hy
          subst hx hy
          exact ⟨rfl, hsame.thr⟩
    · have d0 : ¬ f_mwithin op.toInt64 0 15 = 0 := fun g => c1 (isIns_iff.mpr (Or.inl g))
      have d1 : ¬ f_misNumber op n = 0 := fun g => c1 (isIns_iff.mpr (Or.inr g))
      obtain ⟨hop, hok⟩ := ins_ok d0 d1
      rw [if_neg c1] at hx
      rw [if_neg d0, if_neg d1] at hy
      by_cases c2 : t.states (s.ru j).ho = 1
      · rw [if_pos c2] at hx hy
        by_cases c3 : len < 12
        · rw [if_pos (show nI len < (12 : Int32) from nI_lt (a := len) (b := 12) c3 (by omega))] at hx
          have hix : (12 * nI j + nI len).toNatClampNeg = 12 * j + len := ix12 hj40 c3
          rw [if_neg (show ¬ nI len = (12 : Int32) from fun g => by have := (nI_eq (a := len) (b := 12) (by omega) (by omega)).mp g; omega), hix] at hy
          have happ : ∀ w : Int64, f_append (s.ru j).ops (s.ru j).nums (nI len) op w = (upd (s.ru j).ops len op, vp_updL (s.ru j).nums len w, nI (len + 1)) := by
            intro w
            unfold f_append
            rw [if_neg (show ¬ (12 : Int32) ≤ nI len from nI_ge (a := len) (b := 12) c3 (by omega)), nI_clamp (by omega), nI_1]
          have key : ∀ w : Int64, w = (if f_hasNumber op = 0 then 0 else n) → (nI (len + 1) = upd t.sizes j (nI len + 1) j) ∧ Rel (CS.mk s.steps s.n s.days s.facts s.stack s.hf s.gv s.gg s.hc s.ht s.pos s.fault s.cell s.av s.ag s.fn s.fh s.fc s.ed (setF s.ru j (RuS.mk (s.ru j).ho (s.ru j).rank (s.ru j).name (upd (s.ru j).ops len op) (vp_updL (s.ru j).nums len w) (nI (len + 1)) (s.ru j).cell (s.ru j).fk (s.ru j).fv))) (MS.mk (0) t.most t.rules t.editions t.orders (upd t.sizes j (nI len + 1)) (upd t.ops (12 * j + len) op) (vp_updL t.numbers (12 * j + len) n) t.cells t.hasFallback t.fallbackKinds t.fallbacks t.facts t.states t.counts t.days t.toldAt t.tells t.handles t.handleFacts t.failures t.failedRule t.failedHow t.answers t.givers t.stack t.high t.steps t.how t.cellNow t.own t.has) := by
            intro w hw
            refine ⟨by rw [upd_eq, nI_1], ?_⟩
            refine h.setRu hj rfl ⟨q.ho6, q.ed, q.rk, q.nm, q.od, ⟨len + 1, rfl, by rw [← nI_1]; exact upd_eq _ _ _, by omega, fun i hi => ?_⟩, q.ce, q.fb⟩ (fun i hi hij g => ?_) (fun i hi => ?_) ⟨h.ok.mE, fun i => ?_, fun i => ?_, h.ok.mH, h.ok.mK⟩ rfl rfl rfl rfl rfl rfl rfl rfl rfl rfl rfl rfl rfl rfl rfl rfl
            · show upd t.ops (12 * j + len) op (12 * j + i) = upd (s.ru j).ops len op i ∧ vp_in (upd (s.ru j).ops len op i) 16 ∧ okL (upd (s.ru j).ops len op i) (vp_updL t.numbers (12 * j + len) n (12 * j + i)) ∧ vp_updL (s.ru j).nums len w i = (if f_hasNumber (upd (s.ru j).ops len op i) = 0 then 0 else vp_updL t.numbers (12 * j + len) n (12 * j + i))
              by_cases c : i = len
              · subst c
                rw [upd_eq, upd_eq, updL_eq, updL_eq]
                exact ⟨rfl, hop, hok, hw⟩
              · rw [upd_ne _ _ (show 12 * j + i ≠ 12 * j + len by omega), upd_ne _ _ c, updL_ne _ _ (show 12 * j + i ≠ 12 * j + len by omega), updL_ne _ _ c]
                exact hP.2 i (by omega)
            · obtain ⟨len2, g1, g2, g3⟩ := g.pr
              refine ⟨g.ho6, g.ed, g.rk, g.nm, g.od, ⟨len2, g1, by rw [← g2]; exact upd_ne _ _ hij, g3.1, fun u hu => ?_⟩, g.ce, g.fb⟩
              have hne : 12 * i + u ≠ 12 * j + len := by have := g3.1; omega
              have g4 := g3.2 u hu
              show upd t.ops (12 * j + len) op (12 * i + u) = (s.ru i).ops u ∧ vp_in ((s.ru i).ops u) 16 ∧ okL ((s.ru i).ops u) (vp_updL t.numbers (12 * j + len) n (12 * i + u)) ∧ (s.ru i).nums u = (if f_hasNumber ((s.ru i).ops u) = 0 then 0 else vp_updL t.numbers (12 * j + len) n (12 * i + u))
              rw [upd_ne _ _ hne, updL_ne _ _ hne]
              exact g4
            · exact ⟨upd_ne _ _ (by omega), rfl, rfl⟩
            · show 0 ≤ (upd t.sizes j (nI len + 1) i).toInt ∧ (upd t.sizes j (nI len + 1) i).toInt ≤ 12
              by_cases c : i = j
              · subst c
                rw [upd_eq, nI_1, nI_toInt (by omega)]
                omega
              · rw [upd_ne _ _ c]; exact h.ok.mZ i
            · show okN (upd t.ops (12 * j + len) op i) (vp_updL t.numbers (12 * j + len) n i)
              by_cases c : i = 12 * j + len
              · rw [c, upd_eq, updL_eq]; exact okN_of hok
              · rw [upd_ne _ _ c, updL_ne _ _ c]; exact h.ok.mV i
          by_cases c4 : f_hasNumber op = 0
          · rw [if_pos c4, happ] at hx
            subst hx hy
            exact key 0 (by rw [if_pos c4])
          · rw [if_neg c4, happ] at hx
            subst hx hy
            exact key n (by rw [if_neg c4])
        · have hl : len = 12 := by omega
          rw [if_neg (show ¬ nI len < (12 : Int32) from nI_nlt (a := len) (b := 12) (by omega) (by omega))] at hx
          rw [if_pos (show nI len = (12 : Int32) by rw [hl]; rfl)] at hy
          subst hx hy
          exact ⟨rfl, hsame.thr⟩
      · rw [if_neg c2] at hx hy
        subst hx hy
        exact ⟨rfl, hsame.thr⟩
  · rw [in_neg c0]
    rw [if_pos (hir.mpr c0)] at hy
    subst hy
    exact ⟨rfl, h.thr⟩
def F_fallback (s : CS) (k kind : Int32) (w : Int64) : Int32 × CS :=
  if ¬ (k < 0 ∨ s.n ≤ k.toNatClampNeg) then
    ((f_fallbackS (s.ru k.toNatClampNeg).fk (s.ru k.toNatClampNeg).fv (s.ed (s.ru k.toNatClampNeg).ho).state kind w).1,
     (CS.mk s.steps s.n s.days s.facts s.stack s.hf s.gv s.gg s.hc s.ht s.pos s.fault s.cell s.av s.ag s.fn s.fh s.fc s.ed (setF s.ru k.toNatClampNeg (RuS.mk (s.ru k.toNatClampNeg).ho (s.ru k.toNatClampNeg).rank (s.ru k.toNatClampNeg).name (s.ru k.toNatClampNeg).ops (s.ru k.toNatClampNeg).nums (s.ru k.toNatClampNeg).len (s.ru k.toNatClampNeg).cell ((f_fallbackS (s.ru k.toNatClampNeg).fk (s.ru k.toNatClampNeg).fv (s.ed (s.ru k.toNatClampNeg).ho).state kind w).2.1) ((f_fallbackS (s.ru k.toNatClampNeg).fk (s.ru k.toNatClampNeg).fv (s.ed (s.ru k.toNatClampNeg).ho).state kind w).2.2)))))
  else (-101, s)
def M_fallback (t : MS) (r k : Int32) (w : Int64) : Int32 × MS :=
  ((f_mfallback t.rules t.editions t.hasFallback t.fallbackKinds t.fallbacks t.states r k w).1, (MS.mk ((f_mfallback t.rules t.editions t.hasFallback t.fallbackKinds t.fallbacks t.states r k w).2.1) t.most t.rules t.editions t.orders t.sizes t.ops t.numbers t.cells ((f_mfallback t.rules t.editions t.hasFallback t.fallbackKinds t.fallbacks t.states r k w).2.2.1) ((f_mfallback t.rules t.editions t.hasFallback t.fallbackKinds t.fallbacks t.states r k w).2.2.2.1) ((f_mfallback t.rules t.editions t.hasFallback t.fallbackKinds t.fallbacks t.states r k w).2.2.2.2) t.facts t.states t.counts t.days t.toldAt t.tells t.handles t.handleFacts t.failures t.failedRule t.failedHow t.answers t.givers t.stack t.high t.steps t.how t.cellNow t.own t.has))
set_option maxHeartbeats 1000000 in
theorem sim_fallback {s : CS} {t : MS} (h : Rel s t) (k kind : Int32) (w : Int64) : (F_fallback s k kind w).1 = (M_fallback t k kind w).1 ∧ Rel (F_fallback s k kind w).2 (M_fallback t k kind w).2 := by
  unfold F_fallback M_fallback
  have hir := isRule_iff (k := k) h.hn
  generalize hy : f_mfallback t.rules t.editions t.hasFallback t.fallbackKinds t.fallbacks t.states k kind w = y
  unfold f_mfallback at hy
  rw [h.rc] at hy
  by_cases c0 : vp_in k s.n
  · obtain ⟨j, hj, rfl⟩ := vp_in_of c0 (by have := h.hn; omega)
    rw [in_pos c0, nI_clamp (by have := h.hn; omega)]
    rw [if_neg (fun q => hir.mp q c0), nI_clamp (by have := h.hn; omega)] at hy
    generalize hx : f_fallbackS (s.ru j).fk (s.ru j).fv (s.ed (s.ru j).ho).state kind w = x
    have q := h.ru j hj
    have hst : (s.ed (s.ru j).ho).state = t.states (s.ru j).ho := (h.ed _ q.ho6).st
    rw [q.ed, nI_clamp (by have := q.ho6; omega)] at hy
    rw [hst] at hx
    have hsame : Rel (CS.mk s.steps s.n s.days s.facts s.stack s.hf s.gv s.gg s.hc s.ht s.pos s.fault s.cell s.av s.ag s.fn s.fh s.fc s.ed (setF s.ru j (RuS.mk (s.ru j).ho (s.ru j).rank (s.ru j).name (s.ru j).ops (s.ru j).nums (s.ru j).len (s.ru j).cell ((s.ru j).fk) ((s.ru j).fv)))) t := h.same_ru rfl
    unfold f_fallbackS at hx
    rw [within_eq] at hx
    have hw := w_iff (k := kind) (m := 3) (by decide)
    by_cases c1 : f_mwithin kind.toInt64 0 3 = 0
    · rw [if_pos c1] at hx hy
      subst hx hy
      exact ⟨rfl, hsame.thr⟩
    · have hk4 : vp_in kind 4 := Classical.byContradiction fun g => c1 (hw.mpr g)
      rw [if_neg c1] at hx hy
      by_cases c2 : t.states (s.ru j).ho = 1
      · rw [if_pos c2] at hx hy
        subst hx hy
        refine ⟨rfl, ?_⟩
        refine h.setRu hj rfl ⟨q.ho6, q.ed, q.rk, q.nm, q.od, q.pr, q.ce, Or.inr ⟨upd_eq _ _ _, (upd_eq _ _ _).symm, hk4, (updL_eq _ _ _).symm⟩⟩ (fun i hi hij g => ?_) (fun i hi => ⟨rfl, rfl, upd_ne _ _ (by omega)⟩) ⟨h.ok.mE, h.ok.mZ, h.ok.mV, h.ok.mH, fun i => ?_⟩ rfl rfl rfl rfl rfl rfl rfl rfl rfl rfl rfl rfl rfl rfl rfl rfl
        · refine ⟨g.ho6, g.ed, g.rk, g.nm, g.od, g.pr, g.ce, ?_⟩
          have g1 := g.fb
          show (upd t.hasFallback j 1 i = 0 ∧ _) ∨ (upd t.hasFallback j 1 i = 1 ∧ _ = upd t.fallbackKinds j kind i ∧ _ ∧ _ = vp_updL t.fallbacks j w i)
          rw [upd_ne _ _ hij, upd_ne _ _ hij, updL_ne _ _ hij]
          exact g1
        · show vp_in (upd t.fallbackKinds j kind i) 4
          by_cases c : i = j
          · rw [c, upd_eq]; exact hk4
          · rw [upd_ne _ _ c]; exact h.ok.mK i
      · rw [if_neg c2] at hx hy
        subst hx hy
        exact ⟨rfl, hsame.thr⟩
  · rw [in_neg c0]
    rw [if_pos (hir.mpr c0)] at hy
    subst hy
    exact ⟨rfl, h.thr⟩
def F_fact (s : CS) (k : Int32) (w : Int64) : Int32 × CS := ((f_fact s.facts k w).1, (CS.mk s.steps s.n s.days ((f_fact s.facts k w).2) s.stack s.hf s.gv s.gg s.hc s.ht s.pos s.fault s.cell s.av s.ag s.fn s.fh s.fc s.ed s.ru))
def M_fact (t : MS) (k : Int32) (w : Int64) : Int32 × MS := ((f_mfact t.facts k w).1, (MS.mk ((f_mfact t.facts k w).2.1) t.most t.rules t.editions t.orders t.sizes t.ops t.numbers t.cells t.hasFallback t.fallbackKinds t.fallbacks ((f_mfact t.facts k w).2.2) t.states t.counts t.days t.toldAt t.tells t.handles t.handleFacts t.failures t.failedRule t.failedHow t.answers t.givers t.stack t.high t.steps t.how t.cellNow t.own t.has))
theorem Rel.set_facts {s : CS} {t : MS} {x : Int32} {f g : Nat → Int64} (h : Rel s t) (hfg : ∀ i, i < 8 → f i = g i) : Rel (CS.mk s.steps s.n s.days (f) s.stack s.hf s.gv s.gg s.hc s.ht s.pos s.fault s.cell s.av s.ag s.fn s.fh s.fc s.ed s.ru) (MS.mk (x) t.most t.rules t.editions t.orders t.sizes t.ops t.numbers t.cells t.hasFallback t.fallbackKinds t.fallbacks (g) t.states t.counts t.days t.toldAt t.tells t.handles t.handleFacts t.failures t.failedRule t.failedHow t.answers t.givers t.stack t.high t.steps t.how t.cellNow t.own t.has) := by
  obtain ⟨h1, h2, h3, h4, h5, h6, h7, h8, h9, h10, h11, h12, h13⟩ := h
  exact ⟨h1, h2, h3, fun e he => by have q := h4 e he; exact ⟨q.st, q.st4, q.ct, q.c8, q.fr, q.td⟩, h5, h6, fun j hj => by have q := h7 j hj; exact ⟨q.ho6, q.ed, q.rk, q.nm, q.od, q.pr, q.ce, q.fb⟩, h8, hfg, h10, h11, h12, ⟨h13.mE, h13.mZ, h13.mV, h13.mH, h13.mK⟩⟩
theorem sim_fact {s : CS} {t : MS} (h : Rel s t) (k : Int32) (w : Int64) : (F_fact s k w).1 = (M_fact t k w).1 ∧ Rel (F_fact s k w).2 (M_fact t k w).2 := by
  unfold F_fact M_fact
  generalize hx : f_fact s.facts k w = x
  generalize hy : f_mfact t.facts k w = y
  unfold f_fact at hx
  unfold f_mfact at hy
  rw [within_eq] at hx
  by_cases c : f_mwithin k.toInt64 0 7 = 0
  · rw [if_pos c] at hx hy
    subst hx hy
    exact ⟨rfl, h.set_facts h.fa⟩
  · have hk : vp_in k 8 := Classical.byContradiction fun g => c ((w_iff (k := k) (m := 7) (by decide)).mpr g)
    obtain ⟨j, hj, rfl⟩ := vp_in_of hk (by decide)
    have hf : f_setFact s.facts (nI j) w = vp_updL s.facts j w := by
      unfold f_setFact
      rw [if_neg (nI_pos (by omega)), if_neg (show ¬ (8 : Int32) ≤ nI j from nI_ge (a := j) (b := 8) hj (by omega)), nI_clamp (by omega)]
    rw [if_neg c] at hx hy
    rw [hf] at hx
    rw [nI_clamp (by omega)] at hy
    subst hx hy
    refine ⟨rfl, h.set_facts (fun i hi => ?_)⟩
    show vp_updL s.facts j w i = vp_updL t.facts j w i
    by_cases d : i = j
    · rw [d, updL_eq, updL_eq]
    · rw [updL_ne _ _ d, updL_ne _ _ d]; exact h.fa i hi
def F_day (s : CS) (k fr : Int32) : Int32 × CS :=
  if ¬ (k < 0 ∨ 6 ≤ k.toNatClampNeg) then
    ((f_dayS s.days (s.ed k.toNatClampNeg).state (s.ed k.toNatClampNeg).fr (s.ed k.toNatClampNeg).told fr).1,
     (CS.mk s.steps s.n ((f_dayS s.days (s.ed k.toNatClampNeg).state (s.ed k.toNatClampNeg).fr (s.ed k.toNatClampNeg).told fr).2.1) s.facts s.stack s.hf s.gv s.gg s.hc s.ht s.pos s.fault s.cell s.av s.ag s.fn s.fh s.fc (setF s.ed k.toNatClampNeg (EdS.mk (s.ed k.toNatClampNeg).state ((f_dayS s.days (s.ed k.toNatClampNeg).state (s.ed k.toNatClampNeg).fr (s.ed k.toNatClampNeg).told fr).2.2.1) ((f_dayS s.days (s.ed k.toNatClampNeg).state (s.ed k.toNatClampNeg).fr (s.ed k.toNatClampNeg).told fr).2.2.2) (s.ed k.toNatClampNeg).cnt (s.ed k.toNatClampNeg).ord)) s.ru))
  else (-102, s)
def M_day (t : MS) (k fr : Int32) : Int32 × MS :=
  ((f_mday t.states t.days t.toldAt t.tells k fr).1, (MS.mk ((f_mday t.states t.days t.toldAt t.tells k fr).2.1) t.most t.rules t.editions t.orders t.sizes t.ops t.numbers t.cells t.hasFallback t.fallbackKinds t.fallbacks t.facts t.states t.counts ((f_mday t.states t.days t.toldAt t.tells k fr).2.2.1) ((f_mday t.states t.days t.toldAt t.tells k fr).2.2.2.1) ((f_mday t.states t.days t.toldAt t.tells k fr).2.2.2.2) t.handles t.handleFacts t.failures t.failedRule t.failedHow t.answers t.givers t.stack t.high t.steps t.how t.cellNow t.own t.has))
/-- one edition changed, not its rules -/
theorem Rel.set_ed {s : CS} {t : MS} {x : Int32} {j : Nat} {q : EdS} {d : Int32} {st dd tt : Nat → Int32} (h : Rel s t) (hj : j < 6) (hc : q.cnt = (s.ed j).cnt) (ho : q.ord = (s.ed j).ord) (h4 : vp_in q.state 4) (hs : q.state = st j) (hd : q.fr = dd j) (ht : q.told = tt j) (hr : ∀ i, i ≠ j → st i = t.states i ∧ dd i = t.days i ∧ tt i = t.toldAt i) : Rel (CS.mk s.steps s.n (d) s.facts s.stack s.hf s.gv s.gg s.hc s.ht s.pos s.fault s.cell s.av s.ag s.fn s.fh s.fc (setF s.ed j q) s.ru) (MS.mk (x) t.most t.rules t.editions t.orders t.sizes t.ops t.numbers t.cells t.hasFallback t.fallbackKinds t.fallbacks t.facts (st) t.counts (dd) (tt) (d) t.handles t.handleFacts t.failures t.failedRule t.failedHow t.answers t.givers t.stack t.high t.steps t.how t.cellNow t.own t.has) := by
  refine ⟨h.st, h.hn, h.rc, fun e he => ?_, fun e he => ?_, rfl, fun i hi => by have g := h.ru i hi; exact ⟨g.ho6, g.ed, g.rk, g.nm, g.od, g.pr, g.ce, g.fb⟩, h.un, h.fa, h.ha, h.fl, h.an, ⟨h.ok.mE, h.ok.mZ, h.ok.mV, h.ok.mH, h.ok.mK⟩⟩
  · have g := h.ed e he
    by_cases c : e = j
    · subst c
      show EdR _ e (setF s.ed e q e)
      rw [setF_eq]
      exact ⟨hs, h4, by rw [hc]; exact g.ct, by rw [hc]; exact g.c8, hd, ht⟩
    · show EdR _ e (setF s.ed j q e)
      rw [setF_ne _ _ c]
      obtain ⟨r1, r2, r3⟩ := hr e c
      exact ⟨g.st.trans r1.symm, g.st4, g.ct, g.c8, g.fr.trans r2.symm, g.td.trans r3.symm⟩
  · have g := h.so e he
    show SortE s.n (fun i => (s.ru i).ho) _ e (setF s.ed j q e).cnt (setF s.ed j q e).ord
    by_cases c : e = j
    · subst c
      rw [setF_eq, hc, ho]; exact g
    · rw [setF_ne _ _ c]; exact g
theorem sim_day {s : CS} {t : MS} (h : Rel s t) (k fr : Int32) : (F_day s k fr).1 = (M_day t k fr).1 ∧ Rel (F_day s k fr).2 (M_day t k fr).2 := by
  unfold F_day M_day
  generalize hy : f_mday t.states t.days t.toldAt t.tells k fr = y
  unfold f_mday at hy
  have hie := isEd_iff (k := k)
  by_cases c0 : vp_in k 6
  · obtain ⟨j, hj, rfl⟩ := vp_in_of c0 (by decide)
    rw [in_pos c0, nI_clamp (by omega)]
    rw [if_neg (fun q => hie.mp q c0), nI_clamp (by omega)] at hy
    generalize hx : f_dayS s.days (s.ed j).state (s.ed j).fr (s.ed j).told fr = x
    unfold f_dayS at hx
    rw [within_eq] at hx
    have g := h.ed j hj
    rw [g.st] at hx
    have hno : ∀ a : Int32, Rel (CS.mk s.steps s.n (s.days) s.facts s.stack s.hf s.gv s.gg s.hc s.ht s.pos s.fault s.cell s.av s.ag s.fn s.fh s.fc (setF s.ed j (EdS.mk (s.ed j).state ((s.ed j).fr) ((s.ed j).told) (s.ed j).cnt (s.ed j).ord)) s.ru) (MS.mk (a) t.most t.rules t.editions t.orders t.sizes t.ops t.numbers t.cells t.hasFallback t.fallbackKinds t.fallbacks t.facts t.states t.counts (t.days) (t.toldAt) (t.tells) t.handles t.handleFacts t.failures t.failedRule t.failedHow t.answers t.givers t.stack t.high t.steps t.how t.cellNow t.own t.has) := fun a => by
      have := h.set_ed (x := a) (d := s.days) (st := t.states) (dd := t.days) (tt := t.toldAt) (q := s.ed j) hj rfl rfl g.st4 g.st g.fr g.td (fun i _ => ⟨rfl, rfl, rfl⟩)
      rw [h.dy] at this
      rw [h.dy]
      exact this
    by_cases c1 : f_mwithin fr.toInt64 0 100000 = 0
    · rw [if_pos c1] at hx hy
      subst hx hy
      exact ⟨rfl, hno 0⟩
    · rw [if_neg c1] at hx hy
      by_cases c2 : t.states j = 2
      · rw [if_pos c2] at hx hy
        subst hx hy
        rw [h.dy]
        refine ⟨rfl, ?_⟩
        exact h.set_ed hj rfl rfl g.st4 g.st (upd_eq _ _ _).symm (upd_eq _ _ _).symm (fun i hi => ⟨rfl, upd_ne _ _ hi, upd_ne _ _ hi⟩)
      · rw [if_neg c2] at hx hy
        subst hx hy
        exact ⟨rfl, hno 0⟩
  · rw [in_neg c0]
    rw [if_pos (hie.mpr c0)] at hy
    subst hy
    exact ⟨rfl, h.thr⟩
theorem sim_answer {s : CS} {t : MS} (h : Rel s t) (k : Int32) : f_answer s.av k = (f_manswer t.answers k).1 := by
  unfold f_answer f_valueOf f_manswer
  have hw := w_iff (k := k) (m := 3) (by decide)
  by_cases c : vp_in k 4
  · obtain ⟨j, hj, rfl⟩ := vp_in_of c (by decide)
    rw [if_neg (show ¬ f_mwithin (nI j).toInt64 0 3 = 0 from fun g => hw.mp g c), if_neg (nI_pos (by omega)), if_neg (show ¬ (4 : Int32) ≤ nI j from nI_ge (a := j) (b := 4) hj (by omega)), nI_clamp (by omega)]
    exact (h.an j hj).1
  · rw [if_pos (show f_mwithin k.toInt64 0 3 = 0 from hw.mpr c)]
    by_cases c0 : k < 0
    · rw [if_pos c0]
    · obtain ⟨j, hj, rfl⟩ := nI_of c0
      rw [if_neg c0, if_pos (show (4 : Int32) ≤ nI j from nI_le (a := 4) (b := j) (Classical.byContradiction fun g => c (vp_in_nI (by omega) (by omega))) hj)]
theorem sim_by {s : CS} {t : MS} (h : Rel s t) (k : Int32) : f_by s.ag k = (f_mby t.givers k).1 := by
  unfold f_by f_giverOf f_mby
  have hw := w_iff (k := k) (m := 3) (by decide)
  by_cases c : vp_in k 4
  · obtain ⟨j, hj, rfl⟩ := vp_in_of c (by decide)
    rw [if_neg (show ¬ f_mwithin (nI j).toInt64 0 3 = 0 from fun g => hw.mp g c), if_neg (nI_pos (by omega)), if_neg (show ¬ (4 : Int32) ≤ nI j from nI_ge (a := j) (b := 4) hj (by omega)), nI_clamp (by omega)]
    exact (h.an j hj).2
  · rw [if_pos (show f_mwithin k.toInt64 0 3 = 0 from hw.mpr c)]
    by_cases c0 : k < 0
    · rw [if_pos c0]
    · obtain ⟨j, hj, rfl⟩ := nI_of c0
      rw [if_neg c0, if_pos (show (4 : Int32) ≤ nI j from nI_le (a := 4) (b := j) (Classical.byContradiction fun g => c (vp_in_nI (by omega) (by omega))) hj)]
theorem wn_iff {k : Int32} {n : Nat} (hn : n ≤ 40) : (f_mwithin k.toInt64 0 ((nI n - 1).toInt64) = 0) ↔ ¬ vp_in k n := isRule_iff hn
theorem sim_failed {s : CS} {t : MS} (h : Rel s t) (i what : Int32) : f_failed s.fn s.fh s.fc i what = (f_mfailed t.failures t.failedRule t.failedHow i what).1 := by
  unfold f_failed f_numberAt f_howAt f_mfailed
  obtain ⟨f, h1, h2, h3⟩ := h.fl
  have h8 := h3.1
  rw [h1, h2]
  have hw := wn_iff (k := i) (n := f) (by omega)
  have hq := w_iff (k := what) (m := 1) (by decide)
  by_cases c : vp_in i f
  · obtain ⟨j, hj, rfl⟩ := vp_in_of c (by omega)
    obtain ⟨g1, g2⟩ := h3.2 j hj
    rw [if_neg (show ¬ f_mwithin (nI j).toInt64 0 ((nI f - 1).toInt64) = 0 from fun g => hw.mp g c), if_neg (nI_pos (show j < 2 ^ 31 by omega)), if_neg (show ¬ nI f ≤ nI j from nI_ge hj (by omega)), if_neg (show ¬ (8 : Int32) ≤ nI j from nI_ge (a := j) (b := 8) (by omega) (by omega)), if_neg (nI_pos (show j < 2 ^ 31 by omega)), if_neg (show ¬ nI f ≤ nI j from nI_ge hj (by omega)), if_neg (show ¬ (8 : Int32) ≤ nI j from nI_ge (a := j) (b := 8) (by omega) (by omega)), nI_clamp (by omega)]
    by_cases c0 : what = 0
    · subst c0
      rw [if_pos rfl, if_neg (show ¬ f_mwithin (0 : Int32).toInt64 0 1 = 0 by decide), if_pos rfl]
      exact g1
    · by_cases c1 : what = 1
      · subst c1
        rw [if_neg c0, if_pos rfl, if_neg (show ¬ f_mwithin (1 : Int32).toInt64 0 1 = 0 by decide), if_neg c0]
        exact g2
      · rw [if_neg c0, if_neg c1, if_pos (show f_mwithin what.toInt64 0 1 = 0 from hq.mpr (fun g => by
          obtain ⟨a, ha, rfl⟩ := vp_in_of g (by decide)
          rcases (show a = 0 ∨ a = 1 by omega) with e | e <;> subst e
          · exact c0 rfl
          · exact c1 rfl))]
  · have e1 : (if i < 0 then (-1 : Int32) else if nI f ≤ i then -1 else if 8 ≤ i then -1 else s.fn i.toNatClampNeg) = -1 := by
      by_cases c0 : i < 0
      · rw [if_pos c0]
      · obtain ⟨j, hj, rfl⟩ := nI_of c0
        rw [if_neg c0, if_pos (nI_le (Classical.byContradiction fun g => c (vp_in_nI (by omega) (by omega))) hj)]
    have e2 : (if i < 0 then (-1 : Int32) else if nI f ≤ i then -1 else if 8 ≤ i then -1 else s.fh i.toNatClampNeg) = -1 := by
      by_cases c0 : i < 0
      · rw [if_pos c0]
      · obtain ⟨j, hj, rfl⟩ := nI_of c0
        rw [if_neg c0, if_pos (nI_le (Classical.byContradiction fun g => c (vp_in_nI (by omega) (by omega))) hj)]
    rw [e1, e2, if_pos (show f_mwithin i.toInt64 0 ((nI f - 1).toInt64) = 0 from hw.mpr c)]
    by_cases c0 : what = 0
    · rw [if_pos c0]
    · rw [if_neg c0]
      by_cases c1 : what = 1
      · rw [if_pos c1]
      · rw [if_neg c1]
def F_cell (s : CS) (k : Int32) : Int64 := if ¬ (k < 0 ∨ s.n ≤ k.toNatClampNeg) then (s.ru k.toNatClampNeg).cell else 0
theorem sim_cell {s : CS} {t : MS} (h : Rel s t) (k : Int32) : F_cell s k = (f_mcell t.rules t.cells k).1 := by
  unfold F_cell f_mcell
  rw [h.rc]
  have hir := isRule_iff (k := k) h.hn
  by_cases c0 : vp_in k s.n
  · obtain ⟨j, hj, rfl⟩ := vp_in_of c0 (by have := h.hn; omega)
    rw [in_pos c0, if_neg (fun q => hir.mp q c0), nI_clamp (by have := h.hn; omega)]
    exact (h.ru j hj).ce
  · rw [in_neg c0, if_pos (hir.mpr c0)]
def F_edition (s : CS) (k what : Int32) : Int32 := if ¬ (k < 0 ∨ 6 ≤ k.toNatClampNeg) then f_editionS (s.ed k.toNatClampNeg).state (nI (s.ed k.toNatClampNeg).cnt) (s.ed k.toNatClampNeg).fr what else -102
theorem sim_edition {s : CS} {t : MS} (h : Rel s t) (k what : Int32) : F_edition s k what = (f_medition t.states t.counts t.days k what).1 := by
  unfold F_edition f_medition
  have hie := isEd_iff (k := k)
  have hq := w_iff (k := what) (m := 2) (by decide)
  by_cases c0 : vp_in k 6
  · obtain ⟨j, hj, rfl⟩ := vp_in_of c0 (by decide)
    have g := h.ed j hj
    rw [in_pos c0, if_neg (fun q => hie.mp q c0), nI_clamp (by omega)]
    unfold f_editionS
    rw [g.st, g.fr, g.ct]
    by_cases d0 : what = 0
    · subst d0
      rw [if_pos rfl, if_neg (show ¬ f_mwithin (0 : Int32).toInt64 0 2 = 0 by decide), if_pos rfl]
    · by_cases d1 : what = 1
      · subst d1
        rw [if_neg d0, if_pos rfl, if_neg (show ¬ f_mwithin (1 : Int32).toInt64 0 2 = 0 by decide), if_neg d0, if_pos rfl]
      · by_cases d2 : what = 2
        · subst d2
          rw [if_neg d0, if_neg d1, if_pos rfl, if_neg (show ¬ f_mwithin (2 : Int32).toInt64 0 2 = 0 by decide), if_neg d0, if_neg d1]
        · rw [if_neg d0, if_neg d1, if_neg d2, if_pos (show f_mwithin what.toInt64 0 2 = 0 from hq.mpr (fun g => by
            obtain ⟨a, ha, rfl⟩ := vp_in_of g (by decide)
            rcases (show a = 0 ∨ a = 1 ∨ a = 2 by omega) with e | e | e <;> subst e
            · exact d0 rfl
            · exact d1 rfl
            · exact d2 rfl))]
  · rw [in_neg c0, if_pos (hie.mpr c0)]
