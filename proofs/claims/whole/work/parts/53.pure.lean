-- same
theorem hasN_eq {op : Int32} (h : vp_in op 16) : f_mhasNumber op = f_hasNumber op := by
  rcases op_16 h with e | e | e | e | e | e | e | e | e | e | e | e | e | e | e | e <;> subst e <;> decide
def eqP (opsA opsB : Nat → Int32) (nA nB : Nat → Int64) (u : Nat) : Prop := opsA u = opsB u ∧ nA u = nB u
theorem L_prog_sim {opsA opsB : Nat → Int32} {nA nB : Nat → Int64} {len : Nat} (hl : len ≤ 12) : ∀ (m i : Nat), i ≤ len → len + 1 ≤ i + m → (L_hasProgramOf opsA nA (nI len) opsB nB m (nI i) = 1 ∧ ∀ u, i ≤ u → u < len → eqP opsA opsB nA nB u) ∨ (L_hasProgramOf opsA nA (nI len) opsB nB m (nI i) = 0 ∧ ∃ u, i ≤ u ∧ u < len ∧ ¬ eqP opsA opsB nA nB u) := by
  intro m
  induction m with
  | zero => intros; omega
  | succ m ih =>
    intro i hi hm
    rw [L_hasProgramOf]
    by_cases c0 : len ≤ i
    · rw [if_pos (nI_le c0 (by omega))]
      exact Or.inl ⟨rfl, fun u h1 h2 => by omega⟩
    · rw [if_neg (nI_ge (by omega) (by omega)), if_neg (show ¬ (12 : Int32) ≤ nI i from nI_ge (a := i) (b := 12) (by omega) (by omega)), nI_clamp (by omega)]
      by_cases c1 : opsA i = opsB i
      · rw [if_pos c1]
        by_cases c2 : nA i = nB i
        · rw [if_pos c2, nI_1]
          rcases ih (i + 1) (by omega) (by omega) with ⟨g1, g2⟩ | ⟨g1, u, g2, g3, g4⟩
          · exact Or.inl ⟨g1, fun u h1 h2 => by
              by_cases d : u = i
              · subst d; exact ⟨c1, c2⟩
              · exact g2 u (by omega) h2⟩
          · exact Or.inr ⟨g1, u, by omega, g3, g4⟩
        · rw [if_neg c2]
          exact Or.inr ⟨rfl, i, Nat.le_refl i, by omega, fun g => c2 g.2⟩
      · rw [if_neg c1]
        exact Or.inr ⟨rfl, i, Nat.le_refl i, by omega, fun g => c1 g.1⟩
theorem L_same_sim {sizes ops : Nat → Int32} {numbers : Nat → Int64} {a b len : Nat} {eqQ : Nat → Prop} (ha : a < 40) (hb : b < 40) (hl : len ≤ 12) (hz : sizes a = nI len)
    (hc : ∀ k, k < len → ((if (ops (12 * a + k)) = (ops (12 * b + k)) then ((if (f_mhasNumber (ops (12 * a + k))) = 0 then (1 : Int32) else (if (numbers (12 * a + k)) = (numbers (12 * b + k)) then (1 : Int32) else 0)) : Int32) else 0) = 1 ∧ eqQ k) ∨ ((if (ops (12 * a + k)) = (ops (12 * b + k)) then ((if (f_mhasNumber (ops (12 * a + k))) = 0 then (1 : Int32) else (if (numbers (12 * a + k)) = (numbers (12 * b + k)) then (1 : Int32) else 0)) : Int32) else 0) = 0 ∧ ¬ eqQ k)) :
    ∀ (m i : Nat) (x : Int32), i ≤ len → len + 1 ≤ i + m → (x = 1 ∨ x = 0) → ((L_msame sizes ops numbers (nI a) (nI b) m x (nI i)).1 = 1 ∧ x = 1 ∧ ∀ u, i ≤ u → u < len → eqQ u) ∨ ((L_msame sizes ops numbers (nI a) (nI b) m x (nI i)).1 = 0 ∧ (x = 0 ∨ ∃ u, i ≤ u ∧ u < len ∧ ¬ eqQ u)) := by
  intro m
  induction m with
  | zero => intros; omega
  | succ m ih =>
    intro i x hi hm hx
    rw [L_msame, nI_clamp (show a < 2 ^ 31 by omega), hz]
    by_cases c0 : len ≤ i
    · rw [if_pos (nI_le c0 (by omega))]
      rcases hx with e | e
      · exact Or.inl ⟨e, e, fun u h1 h2 => by omega⟩
      · exact Or.inr ⟨e, Or.inl e⟩
    · rw [if_neg (nI_ge (by omega) (by omega)), ix12 ha (by omega), ix12 hb (by omega), nI_1]
      rcases hx with e | e
      · subst e
        rw [if_neg (show ¬ (1 : Int32) = 0 by decide)]
        rcases hc i (by omega) with ⟨g1, g2⟩ | ⟨g1, g2⟩
        · rw [g1]
          rcases ih (i + 1) 1 (by omega) (by omega) (Or.inl rfl) with ⟨q1, q2, q3⟩ | ⟨q1, q2⟩
          · exact Or.inl ⟨q1, rfl, fun u h1 h2 => by
              by_cases d : u = i
              · subst d; exact g2
              · exact q3 u (by omega) h2⟩
          · rcases q2 with q2 | ⟨u, u1, u2, u3⟩
            · exact absurd q2 (by decide)
            · exact Or.inr ⟨q1, Or.inr ⟨u, by omega, u2, u3⟩⟩
        · rw [g1]
          rcases ih (i + 1) 0 (by omega) (by omega) (Or.inr rfl) with ⟨q1, q2, q3⟩ | ⟨q1, q2⟩
          · exact absurd q2 (by decide)
          · exact Or.inr ⟨q1, Or.inr ⟨i, Nat.le_refl i, by omega, g2⟩⟩
      · subst e
        rw [if_pos rfl]
        rcases ih (i + 1) 0 (by omega) (by omega) (Or.inr rfl) with ⟨q1, q2, q3⟩ | ⟨q1, q2⟩
        · exact absurd q2 (by decide)
        · exact Or.inr ⟨q1, Or.inl rfl⟩
def F_same (s : CS) (a b : Int32) : Int32 := if ¬ (a < 0 ∨ s.n ≤ a.toNatClampNeg) then (if ¬ (b < 0 ∨ s.n ≤ b.toNatClampNeg) then f_sameSS (s.ru a.toNatClampNeg).ops (s.ru a.toNatClampNeg).nums (s.ru a.toNatClampNeg).len (s.ru b.toNatClampNeg).ops (s.ru b.toNatClampNeg).nums (s.ru b.toNatClampNeg).len else 0) else 0
theorem sim_same {s : CS} {t : MS} (h : Rel s t) (a b : Int32) : F_same s a b = (f_msame t.rules t.sizes t.ops t.numbers a b).1 := by
  unfold F_same f_msame
  rw [h.rc]
  have hia := isRule_iff (k := a) h.hn
  have hib := isRule_iff (k := b) h.hn
  have hn := h.hn
  by_cases c0 : vp_in a s.n
  · rw [in_pos c0, if_neg (fun q => hia.mp q c0)]
    by_cases c1 : vp_in b s.n
    · rw [in_pos c1, if_neg (fun q => hib.mp q c1)]
      obtain ⟨i, hi, rfl⟩ := vp_in_of c0 (by omega)
      obtain ⟨j, hj, rfl⟩ := vp_in_of c1 (by omega)
      rw [nI_clamp (show i < 2 ^ 31 by omega), nI_clamp (show j < 2 ^ 31 by omega)]
      obtain ⟨len, l1, l2, lP⟩ := (h.ru i hi).pr
      obtain ⟨len', m1, m2, mP⟩ := (h.ru j hj).pr
      have b1 := lP.1
      have b2 := mP.1
      unfold f_sameSS f_hasProgramOf
      rw [l1, m1, l2, m2]
      by_cases c2 : nI len = nI len'
      · have c3 : len = len' := (nI_eq (by omega) (by omega)).mp c2
        subst c3
        rw [if_pos rfl, if_pos rfl]
        have hA := L_prog_sim (opsA := (s.ru i).ops) (opsB := (s.ru j).ops) (nA := (s.ru i).nums) (nB := (s.ru j).nums) b1 13 0 (by omega) (by omega)
        have hB := L_same_sim (sizes := t.sizes) (ops := t.ops) (numbers := t.numbers) (a := i) (b := j) (eqQ := eqP (s.ru i).ops (s.ru j).ops (s.ru i).nums (s.ru j).nums) (by omega) (by omega) b1 l2 (fun k hk => by
          obtain ⟨g1, g2, g3, g4⟩ := lP.2 k hk
          obtain ⟨k1, k2, k3, k4⟩ := mP.2 k hk
          rw [g1, k1]
          unfold eqP
          rw [g4, k4, hasN_eq g2]
          by_cases d1 : (s.ru i).ops k = (s.ru j).ops k
          · rw [if_pos d1, ← d1]
            by_cases d2 : f_hasNumber ((s.ru i).ops k) = 0
            · rw [if_pos d2, if_pos d2, if_pos d2]; exact Or.inl ⟨rfl, rfl, rfl⟩
            · rw [if_neg d2, if_neg d2, if_neg d2]
              by_cases d3 : t.numbers (12 * i + k) = t.numbers (12 * j + k)
              · rw [if_pos d3]; exact Or.inl ⟨rfl, rfl, d3⟩
              · rw [if_neg d3]; exact Or.inr ⟨rfl, fun g => d3 g.2⟩
          · rw [if_neg d1]; exact Or.inr ⟨rfl, fun g => d1 g.1⟩) 13 0 1 (by omega) (by omega) (Or.inl rfl)
        rw [nI_0] at hA hB
        revert hB
        rcases L_msame t.sizes t.ops t.numbers (nI i) (nI j) 13 1 0 with ⟨x, y⟩
        intro hB
        rcases hA with ⟨p1, p2⟩ | ⟨p1, u, p2, p3, p4⟩ <;> rcases hB with ⟨q1, q2, q3⟩ | ⟨q1, q2⟩ <;> simp only at q1
        · rw [p1, q1]; rfl
        · rcases q2 with q2 | ⟨v, v1, v2, v3⟩
          · exact absurd q2 (by decide)
          · exact absurd (p2 v v1 v2) v3
        · exact absurd (q3 u p2 p3) p4
        · rw [p1, q1]; rfl
      · rw [if_neg c2, if_neg c2]; rfl
    · rw [in_neg c1, if_pos (hib.mpr c1)]
  · rw [in_neg c0, if_pos (hia.mpr c0)]
-- a rule told
def plc (b : Nat → Int32) : Nat → Nat
  | 0 => 0
  | i + 1 => if b i = 0 then plc b i else i + 1
theorem plc_spec (b : Nat → Int32) (c : Nat) : plc b c ≤ c ∧ (∀ i, plc b c ≤ i → i < c → b i = 0) ∧ (∀ p, plc b c = p + 1 → ¬ b p = 0) := by
  induction c with
  | zero => exact ⟨Nat.le_refl 0, fun i h1 h2 => by omega, fun p hp => by cases hp⟩
  | succ c ih =>
    show (if b c = 0 then plc b c else c + 1) ≤ c + 1 ∧ (∀ i, (if b c = 0 then plc b c else c + 1) ≤ i → i < c + 1 → b i = 0) ∧ (∀ p, (if b c = 0 then plc b c else c + 1) = p + 1 → ¬ b p = 0)
    by_cases d : b c = 0
    · rw [if_pos d]
      refine ⟨by omega, fun i h1 h2 => ?_, ih.2.2⟩
      by_cases e : i = c
      · rw [e]; exact d
      · exact ih.2.1 i h1 (by omega)
    · rw [if_neg d]
      exact ⟨Nat.le_refl _, fun i h1 h2 => by omega, fun p hp => by rw [show p = c by omega]; exact d⟩
def insOrd (ord : Nat → Nat) (p n : Nat) : Nat → Nat := fun i => if i < p then ord i else if i = p then n else ord (i - 1)
theorem SortE_ins {n e c p : Nat} {ho ho' : Nat → Nat} {key key' : Nat → Int} {ord : Nat → Nat} (hS : SortE n ho key e c ord) (hp : p ≤ c) (h1 : ∀ j, j < n → ho' j = ho j ∧ key' j = key j) (h2 : ho' n = e) (h3 : ∀ i, i < p → klt key' (ord i) n) (h4 : ∀ i, p ≤ i → i < c → klt key' n (ord i)) : SortE (n + 1) ho' key' e (c + 1) (insOrd ord p n) := by
  have hk : ∀ i j, i < j → j < c → klt key' (ord i) (ord j) := fun i j hij hj => by
    have := hS.inc i j hij hj
    unfold klt at this ⊢
    rw [(h1 _ (hS.ofE i (by omega)).1).2, (h1 _ (hS.ofE j hj).1).2]
    exact this
  refine ⟨fun i hi => ?_, fun i j hij hj => ?_, fun k hkn hke => ?_⟩
  · unfold insOrd
    by_cases d1 : i < p
    · rw [if_pos d1]
      have g := hS.ofE i (by omega)
      exact ⟨by omega, by rw [(h1 _ g.1).1]; exact g.2⟩
    · rw [if_neg d1]
      by_cases d2 : i = p
      · rw [if_pos d2]; exact ⟨by omega, h2⟩
      · rw [if_neg d2]
        have g := hS.ofE (i - 1) (by omega)
        exact ⟨by omega, by rw [(h1 _ g.1).1]; exact g.2⟩
  · unfold insOrd
    by_cases d1 : j < p
    · rw [if_pos (show i < p by omega), if_pos d1]; exact hk i j hij (by omega)
    · rw [if_neg d1]
      by_cases d2 : j = p
      · rw [if_pos d2, if_pos (show i < p by omega)]; exact h3 i (by omega)
      · rw [if_neg d2]
        by_cases d3 : i < p
        · rw [if_pos d3]
          rcases Nat.lt_or_ge i (j - 1) with q | q
          · exact hk i (j - 1) q (by omega)
          · omega
        · rw [if_neg d3]
          by_cases d4 : i = p
          · rw [if_pos d4]; exact h4 (j - 1) (by omega) (by omega)
          · rw [if_neg d4]; exact hk (i - 1) (j - 1) (by omega) (by omega)
  · unfold insOrd
    by_cases d : k = n
    · refine ⟨p, by omega, ?_⟩
      rw [if_neg (by omega), if_pos rfl, d]
    · obtain ⟨i, hi, rfl⟩ := hS.all k (by omega) (by rw [← (h1 k (by omega)).1]; exact hke)
      by_cases d1 : i < p
      · exact ⟨i, by omega, if_pos d1⟩
      · refine ⟨i + 1, by omega, ?_⟩
        rw [if_neg (by omega), if_neg (by omega), Nat.add_sub_cancel]
theorem SortE_other {n e c : Nat} {ho ho' : Nat → Nat} {key key' : Nat → Int} {ord : Nat → Nat} (hS : SortE n ho key e c ord) (h1 : ∀ j, j < n → ho' j = ho j ∧ key' j = key j) (h2 : ho' n ≠ e) : SortE (n + 1) ho' key' e c ord := by
  refine ⟨fun i hi => ?_, fun i j hij hj => ?_, fun k hkn hke => ?_⟩
  · have g := hS.ofE i hi
    exact ⟨by omega, by rw [(h1 _ g.1).1]; exact g.2⟩
  · have := hS.inc i j hij hj
    unfold klt at this ⊢
    rw [(h1 _ (hS.ofE i (by omega)).1).2, (h1 _ (hS.ofE j hj).1).2]
    exact this
  · have hne : k ≠ n := fun q => h2 (by rw [← q]; exact hke)
    exact hS.all k (by omega) (by rw [← (h1 k (by omega)).1]; exact hke)
theorem before_iff {a b r1 n1 r2 n2 : Int32} : (¬ f_goesBefore a r1 n1 b r2 n2 = 0) ↔ (r1.toInt < r2.toInt ∨ (r1.toInt = r2.toInt ∧ (n1.toInt < n2.toInt ∨ (n1.toInt = n2.toInt ∧ a.toInt < b.toInt)))) := by
  unfold f_goesBefore
  by_cases c1 : r1 = r2
  · rw [if_pos c1]
    subst c1
    by_cases c2 : n1 = n2
    · rw [if_pos c2]
      subst c2
      by_cases c3 : b ≤ a
      · rw [if_pos c3]; rw [Int32.le_iff_toInt_le] at c3; exact ⟨fun h => absurd rfl h, fun h => by omega⟩
      · rw [if_neg c3]; rw [Int32.le_iff_toInt_le] at c3; exact ⟨fun _ => by omega, fun _ => by decide⟩
    · have c2' : n1.toInt ≠ n2.toInt := fun q => c2 (Int32.toInt_inj.mp q)
      rw [if_neg c2]
      by_cases c3 : n2 ≤ n1
      · rw [if_pos c3]; rw [Int32.le_iff_toInt_le] at c3; exact ⟨fun h => absurd rfl h, fun h => by omega⟩
      · rw [if_neg c3]; rw [Int32.le_iff_toInt_le] at c3; exact ⟨fun _ => by omega, fun _ => by decide⟩
  · have c1' : r1.toInt ≠ r2.toInt := fun q => c1 (Int32.toInt_inj.mp q)
    rw [if_neg c1]
    by_cases c3 : r2 ≤ r1
    · rw [if_pos c3]; rw [Int32.le_iff_toInt_le] at c3; exact ⟨fun h => absurd rfl h, fun h => by omega⟩
    · rw [if_neg c3]; rw [Int32.le_iff_toInt_le] at c3; exact ⟨fun _ => by omega, fun _ => by decide⟩
/-- does the i-th rule of edition e go before the new one -/
def befF (s : CS) (e : Nat) (rank nam : Int32) (i : Nat) : Int32 := f_goesBefore (nI ((s.ed e).ord i)) (s.ru ((s.ed e).ord i)).rank (s.ru ((s.ed e).ord i)).name (nI s.n) rank nam
def newRu (e : Nat) (rank nam : Int32) : RuS := (RuS.mk (e) (rank) (nam) (fun _ => 0) (fun _ => 0) (0) (0) (-1) (0))
def addRule (s : CS) (e : Nat) (rank nam : Int32) : CS := (CS.mk s.steps (s.n + 1) s.days s.facts s.stack s.hf s.gv s.gg s.hc s.ht s.pos s.fault s.cell s.av s.ag s.fn s.fh s.fc (setF s.ed e (EdS.mk (1) (s.ed e).fr (s.ed e).told ((s.ed e).cnt + 1) (insOrd (s.ed e).ord (plc (befF s e rank nam) (s.ed e).cnt) s.n))) (setF s.ru s.n (newRu e rank nam)))
def F_rule (s : CS) (k rank nam : Int32) : Int32 × CS :=
  if ¬ (k < 0 ∨ 6 ≤ k.toNatClampNeg) then
    if f_isWithin rank.toInt64 0 9 = 0 then (-102, s)
    else if f_isWithin nam.toInt64 0 99 = 0 then (-102, s)
    else if (s.ed k.toNatClampNeg).state = 2 ∨ (s.ed k.toNatClampNeg).state = 3 then (-103, s)
    else if 40 ≤ s.n ∨ 8 ≤ (s.ed k.toNatClampNeg).cnt then (-104, s)
    else (nI s.n, addRule s k.toNatClampNeg rank nam)
  else (-102, s)
def M_rule (t : MS) (k rank nam : Int32) : Int32 × MS :=
  ((f_mrule t.rules t.editions t.orders t.states t.counts k rank nam).1, (MS.mk ((f_mrule t.rules t.editions t.orders t.states t.counts k rank nam).2.1) t.most ((f_mrule t.rules t.editions t.orders t.states t.counts k rank nam).2.2.1) ((f_mrule t.rules t.editions t.orders t.states t.counts k rank nam).2.2.2.1) ((f_mrule t.rules t.editions t.orders t.states t.counts k rank nam).2.2.2.2.1) t.sizes t.ops t.numbers t.cells t.hasFallback t.fallbackKinds t.fallbacks t.facts ((f_mrule t.rules t.editions t.orders t.states t.counts k rank nam).2.2.2.2.2.1) ((f_mrule t.rules t.editions t.orders t.states t.counts k rank nam).2.2.2.2.2.2) t.days t.toldAt t.tells t.handles t.handleFacts t.failures t.failedRule t.failedHow t.answers t.givers t.stack t.high t.steps t.how t.cellNow t.own t.has))
set_option maxHeartbeats 1000000 in
theorem sim_rule {s : CS} {t : MS} (h : Rel s t) (k rank nam : Int32) : (F_rule s k rank nam).1 = (M_rule t k rank nam).1 ∧ Rel (F_rule s k rank nam).2 (M_rule t k rank nam).2 := by
  unfold F_rule M_rule
  generalize hy : f_mrule t.rules t.editions t.orders t.states t.counts k rank nam = y
  unfold f_mrule at hy
  rw [h.rc] at hy
  have hn := h.hn
  have hie := isEd_iff (k := k)
  have hno : Rel s (MS.mk (0) t.most (nI s.n) (t.editions) (t.orders) t.sizes t.ops t.numbers t.cells t.hasFallback t.fallbackKinds t.fallbacks t.facts (t.states) (t.counts) t.days t.toldAt t.tells t.handles t.handleFacts t.failures t.failedRule t.failedHow t.answers t.givers t.stack t.high t.steps t.how t.cellNow t.own t.has) := by
    have := h.thr (x := 0)
    rw [← h.rc]; exact this
  by_cases c0 : vp_in k 6
  · obtain ⟨e, he, rfl⟩ := vp_in_of c0 (by decide)
    have g := h.ed e he
    rw [in_pos c0, within_eq, within_eq, nI_clamp (by omega)]
    rw [if_neg (fun q => hie.mp q c0), nI_clamp (show e < 2 ^ 31 by omega)] at hy
    by_cases c1 : f_mwithin rank.toInt64 0 9 = 0
    · rw [if_pos c1] at hy ⊢; subst hy; exact ⟨rfl, hno⟩
    · rw [if_neg c1] at hy ⊢
      by_cases c2 : f_mwithin nam.toInt64 0 99 = 0
      · rw [if_pos c2] at hy ⊢; subst hy; exact ⟨rfl, hno⟩
      · rw [if_neg c2] at hy ⊢
        have hst : (¬ ((s.ed e).state = 2 ∨ (s.ed e).state = 3)) ↔ t.states e ≤ 1 := by
          rw [← g.st]
          obtain ⟨q, hq, hq2⟩ := vp_in_of g.st4 (by decide)
          rw [hq2]
          rcases (show q = 0 ∨ q = 1 ∨ q = 2 ∨ q = 3 by omega) with z | z | z | z <;> subst z <;> decide
        by_cases c3 : (s.ed e).state = 2 ∨ (s.ed e).state = 3
        · rw [if_pos c3]
          rw [if_neg (fun q => hst.mpr q c3)] at hy
          subst hy; exact ⟨rfl, hno⟩
        · rw [if_neg c3]
          rw [if_pos (hst.mp c3), g.ct] at hy
          have c8 := g.c8
          by_cases c4 : s.n = 40
          · rw [if_pos (Or.inl (by omega))]
            rw [if_pos (show nI s.n = (40 : Int32) by rw [c4]; rfl)] at hy
            subst hy; exact ⟨rfl, hno⟩
          · rw [if_neg (show ¬ nI s.n = (40 : Int32) from fun q => c4 ((nI_eq (a := s.n) (b := 40) (by omega) (by omega)).mp q))] at hy
            by_cases c5 : (s.ed e).cnt = 8
            · rw [if_pos (Or.inr (by omega))]
              rw [if_pos (show nI (s.ed e).cnt = (8 : Int32) by rw [c5]; rfl)] at hy
              subst hy; exact ⟨rfl, hno⟩
            · rw [if_neg (by omega)]
              rw [if_neg (show ¬ nI (s.ed e).cnt = (8 : Int32) from fun q => c5 ((nI_eq (a := (s.ed e).cnt) (b := 8) (by omega) (by omega)).mp q)), nI_1, nI_1, nI_clamp (show s.n < 2 ^ 31 by omega)] at hy
              have hp1 : nI (s.n + 1) - 1 = nI s.n := nI_pred s.n
              rw [hp1] at hy
              subst hy
              refine ⟨rfl, ?_⟩
              have hrk : vp_in rank 10 := Classical.byContradiction fun q => c1 ((w_iff (m := 9) (by decide)).mpr q)
              have hnm : vp_in nam 100 := Classical.byContradiction fun q => c2 ((w_iff (m := 99) (by decide)).mpr q)
              rw [vp_in_iff] at hrk hnm
              have hod : (100 * rank + nam).toInt = 100 * rank.toInt + nam.toInt := by
                have h100 : (100 : Int32).toInt = 100 := rfl
                have hm : (100 * rank).toInt = 100 * rank.toInt := by
                  rw [Int32.toInt_mul, h100]
                  exact Int.bmod_eq_of_le (by omega) (by omega)
                rw [i32_add (by omega) (by omega), hm]
              have hun := h.un s.n (Nat.le_refl _)
              have hoF : ∀ j, j < s.n → (setF s.ru s.n (newRu e rank nam) j).ho = (s.ru j).ho := fun j hj => by rw [setF_ne _ _ (show j ≠ s.n by omega)]
              have hkF : ∀ j, j < s.n → (upd t.orders s.n (100 * rank + nam) j).toInt = (t.orders j).toInt := fun j hj => by rw [upd_ne _ _ (show j ≠ s.n by omega)]
              have hnF : (setF s.ru s.n (newRu e rank nam) s.n).ho = e := by rw [setF_eq]; rfl
              refine ⟨h.st, show s.n + 1 ≤ 40 by omega, rfl, fun e' he' => ?_, fun e' he' => ?_, h.dy, fun j hj => ?_, fun j hj => h.un j (show s.n ≤ j from Nat.le_of_succ_le hj), h.fa, h.ha, h.fl, h.an, ⟨fun j => ?_, h.ok.mZ, h.ok.mV, h.ok.mH, h.ok.mK⟩⟩
              · show EdR _ e' (setF s.ed e _ e')
                by_cases d : e' = e
                · subst d
                  rw [setF_eq]
                  exact ⟨(upd_eq _ _ _).symm, (show vp_in (1 : Int32) 4 from vp_in_nI (n := 1) (by decide) (by decide)), upd_eq _ _ _, (show (s.ed e').cnt + 1 ≤ 8 by omega), g.fr, g.td⟩
                · rw [setF_ne _ _ d]
                  have g' := h.ed e' he'
                  exact ⟨g'.st.trans (upd_ne _ _ d).symm, g'.st4, (upd_ne _ _ d).trans g'.ct, g'.c8, g'.fr, g'.td⟩
              · show SortE (s.n + 1) (fun j => (setF s.ru s.n (newRu e rank nam) j).ho) (fun j => (upd t.orders s.n (100 * rank + nam) j).toInt) e' (setF s.ed e _ e').cnt (setF s.ed e _ e').ord
                have g' := h.so e' he'
                by_cases d : e' = e
                · subst d
                  rw [setF_eq]
                  obtain ⟨p1, p2, p3⟩ := plc_spec (befF s e' rank nam) (s.ed e').cnt
                  have hb : ∀ i, i < (s.ed e').cnt → ((¬ befF s e' rank nam i = 0) ↔ klt (fun j => (upd t.orders s.n (100 * rank + nam) j).toInt) ((s.ed e').ord i) s.n) := fun i hi => by
                    have hq := (g'.ofE i hi).1
                    have hr := h.ru _ hq
                    unfold befF klt
                    rw [before_iff]
                    simp only [upd_eq, upd_ne _ _ (show (s.ed e').ord i ≠ s.n by omega), hr.od, hod, nI_toInt (show (s.ed e').ord i < 2 ^ 31 by omega), nI_toInt (show s.n < 2 ^ 31 by omega)]
                    have := hr.rk
                    have := hr.nm
                    omega
                  refine SortE_ins g' p1 (fun j hj => ⟨hoF j hj, hkF j hj⟩) hnF (fun i hi => ?_) (fun i hi1 hi2 => ?_)
                  · -- before the place
                    obtain ⟨p, hp⟩ : ∃ p, plc (befF s e' rank nam) (s.ed e').cnt = p + 1 := ⟨plc (befF s e' rank nam) (s.ed e').cnt - 1, by omega⟩
                    have hlast := (hb p (by omega)).mp (p3 p hp)
                    by_cases z : i = p
                    · rw [z]; exact hlast
                    · have := g'.inc i p (by omega) (by omega)
                      refine klt_trans ?_ hlast
                      unfold klt at this ⊢
                      simp only [upd_ne _ _ (show (s.ed e').ord i ≠ s.n by have := (g'.ofE i (by omega)).1; omega), upd_ne _ _ (show (s.ed e').ord p ≠ s.n by have := (g'.ofE p (by omega)).1; omega)]
                      exact this
                  · have hq := (g'.ofE i hi2).1
                    rcases klt_tri (key := fun j => (upd t.orders s.n (100 * rank + nam) j).toInt) ((s.ed e').ord i) s.n with z | z | z
                    · omega
                    · exact absurd (p2 i hi1 hi2) ((hb i hi2).mpr z)
                    · exact z
                · rw [setF_ne _ _ d]
                  exact SortE_other g' (fun j hj => ⟨hoF j hj, hkF j hj⟩) (fun q => d (by rw [← q]; exact hnF))
              · show RuR _ j (setF s.ru s.n (newRu e rank nam) j)
                by_cases d : j = s.n
                · subst d
                  rw [setF_eq]
                  refine ⟨he, upd_eq _ _ _, ⟨hrk.1, show rank.toInt ≤ 9 by omega⟩, ⟨hnm.1, show nam.toInt ≤ 99 by omega⟩, ?_, ⟨0, rfl, hun.1, by omega, fun i hi => absurd hi (by omega)⟩, hun.2.1.symm, Or.inl ⟨hun.2.2, rfl⟩⟩
                  show (upd t.orders s.n (100 * rank + nam) s.n).toInt = _
                  rw [upd_eq]; exact hod
                · rw [setF_ne _ _ d]
                  have q := h.ru j (by have : j < s.n + 1 := hj; omega)
                  refine ⟨q.ho6, (upd_ne _ _ d).trans q.ed, q.rk, q.nm, ?_, q.pr, q.ce, q.fb⟩
                  show (upd t.orders s.n (100 * rank + nam) j).toInt = _
                  rw [upd_ne _ _ d]; exact q.od
              · show vp_in (upd t.editions s.n (nI e) j) 6
                by_cases d : j = s.n
                · rw [d, upd_eq]; exact c0
                · rw [upd_ne _ _ d]; exact h.ok.mE j
  · rw [in_neg c0]
    rw [if_pos (hie.mpr c0)] at hy
    subst hy
    exact ⟨rfl, hno⟩
-- one rule done, on the two states
def doX (s : CS) (j : Nat) : Int32 × (Nat → Int64) × (Nat → Int32) × (Nat → Int64) × (Nat → Int32) × Int32 × Int32 × Int32 × Int32 × Int64 × (Nat → Int32) × (Nat → Int32) × Int32 := f_doRule s.steps s.facts s.stack s.hf s.gv s.gg s.hc s.fn s.fh s.fc (nI j) (s.ru j).ops (s.ru j).nums (s.ru j).len (s.ru j).cell
def putX (s : CS) (x : Int32 × (Nat → Int64) × (Nat → Int32) × (Nat → Int64) × (Nat → Int32) × Int32 × Int32 × Int32 × Int32 × Int64 × (Nat → Int32) × (Nat → Int32) × Int32) : CS := (CS.mk s.steps s.n s.days s.facts (x.2.1) (x.2.2.1) (x.2.2.2.1) (x.2.2.2.2.1) (x.2.2.2.2.2.1) (x.2.2.2.2.2.2.1) (x.2.2.2.2.2.2.2.1) (x.2.2.2.2.2.2.2.2.1) (x.2.2.2.2.2.2.2.2.2.1) s.av s.ag (x.2.2.2.2.2.2.2.2.2.2.1) (x.2.2.2.2.2.2.2.2.2.2.2.1) (x.2.2.2.2.2.2.2.2.2.2.2.2) s.ed s.ru)
def doS (s : CS) (j : Nat) : CS := putX s (doX s j)
def doY (t : MS) (r : Int32) : Int32 × (Nat → Int32) × Int32 × (Nat → Int32) × (Nat → Int32) × (Nat → Int64) × Int32 × Int32 × Int32 × Int64 × (Nat → Int64) × (Nat → Int32) := f_mdoAll t.most t.sizes t.ops t.numbers t.cells t.facts t.handles t.handleFacts t.failures t.failedRule t.failedHow t.stack t.own t.has r
def putY (t : MS) (y : Int32 × (Nat → Int32) × Int32 × (Nat → Int32) × (Nat → Int32) × (Nat → Int64) × Int32 × Int32 × Int32 × Int64 × (Nat → Int64) × (Nat → Int32)) : MS := (MS.mk t.thrown t.most t.rules t.editions t.orders t.sizes t.ops t.numbers t.cells t.hasFallback t.fallbackKinds t.fallbacks t.facts t.states t.counts t.days t.toldAt t.tells (y.1) (y.2.1) (y.2.2.1) (y.2.2.2.1) (y.2.2.2.2.1) t.answers t.givers (y.2.2.2.2.2.1) (y.2.2.2.2.2.2.1) (y.2.2.2.2.2.2.2.1) (y.2.2.2.2.2.2.2.2.1) (y.2.2.2.2.2.2.2.2.2.1) (y.2.2.2.2.2.2.2.2.2.2.1) (y.2.2.2.2.2.2.2.2.2.2.2))
/-- failures of the state, as a number -/
def fcN (s : CS) (f : Nat) : Prop := s.fc = nI f
theorem Rel.put {s : CS} {t : MS} {x : Int32 × (Nat → Int64) × (Nat → Int32) × (Nat → Int64) × (Nat → Int32) × Int32 × Int32 × Int32 × Int32 × Int64 × (Nat → Int32) × (Nat → Int32) × Int32} {y : Int32 × (Nat → Int32) × Int32 × (Nat → Int32) × (Nat → Int32) × (Nat → Int64) × Int32 × Int32 × Int32 × Int64 × (Nat → Int64) × (Nat → Int32)} (h : Rel s t) (hh : ∃ c : Nat, x.2.2.2.2.2.1 = nI c ∧ y.1 = nI c ∧ HS c x.2.2.1 y.2.1) (hf : ∃ g : Nat, x.2.2.2.2.2.2.2.2.2.2.2.2 = nI g ∧ y.2.2.1 = nI g ∧ FS g x.2.2.2.2.2.2.2.2.2.2.1 x.2.2.2.2.2.2.2.2.2.2.2.1 y.2.2.2.1 y.2.2.2.2.1) (hv : ∀ j, vp_in (y.2.1 j) 8) : Rel (putX s x) (putY t y) := by
  obtain ⟨h1, h2, h3, h4, h5, h6, h7, h8, h9, h10, h11, h12, h13⟩ := h
  exact ⟨h1, h2, h3, fun e he => by have q := h4 e he; exact ⟨q.st, q.st4, q.ct, q.c8, q.fr, q.td⟩, h5, h6, fun j hj => by have q := h7 j hj; exact ⟨q.ho6, q.ed, q.rk, q.nm, q.od, q.pr, q.ce, q.fb⟩, h8, h9, hh, hf, h12, ⟨h13.mE, h13.mZ, h13.mV, hv, h13.mK⟩⟩
theorem Rel.doRule {s : CS} {t : MS} {j f : Nat} (h : Rel s t) (hj : j < s.n) (hfc : s.fc = nI f) (hf : f < 8) : Rel (doS s j) (putY t (doY t (nI j))) ∧ (∃ L : Nat, L ≤ 100 ∧ DoR (nI j) L f (doX s j) (doY t (nI j))) := by
  obtain ⟨L, hL1, hL2, hL3, hL4⟩ := h.st
  obtain ⟨c, hc1, hc2, hH⟩ := h.ha
  obtain ⟨f', hf1, hf2, hF⟩ := h.fl
  have hff : f' = f := by
    rw [hfc] at hf1
    have := hF.1
    exact ((nI_eq (by omega) (by omega)).mp hf1).symm
  subst hff
  obtain ⟨len, l1, l2, lP⟩ := (h.ru j hj).pr
  have hn := h.hn
  have hd := do_sim (facts := s.facts) (facts2 := t.facts) (sizes := t.sizes) (stack := s.stack) (stack2 := t.stack) (gv := s.gv) (own := t.own) (gg := s.gg) (has := t.has) (cells := t.cells) (zcell := (s.ru j).cell) (L := L) (show j < 40 by omega) h.fa lP l2 hL2 (h.ru j hj).ce hH hF hf
  have hin := f_mdoAll_inv (most := t.most) (sizes := t.sizes) (ops := t.ops) (numbers := t.numbers) (cells := t.cells) (facts := t.facts) (handles := t.handles) (handleFacts := t.handleFacts) (failures := t.failures) (failedRule := t.failedRule) (failedHow := t.failedHow) (stack := t.stack) (own := t.own) (has := t.has) (r := nI j) h.ok.mZ (by rw [hL4, nI_toInt (by omega)]; omega) h.ok.mV (by have := hH.1; rw [hc2, nI_toInt (by omega)]; omega) h.ok.mH
  rw [← hL3, ← hc1, ← hf1, ← l1] at hd
  rw [show (f_mdoAll (s.steps) t.sizes t.ops t.numbers t.cells t.facts s.hc t.handleFacts s.fc t.failedRule t.failedHow t.stack t.own t.has (nI j)) = doY t (nI j) from by unfold doY; rw [hL3, hL4, hc1, hc2, hf1, hf2]] at hd
  have hd2 : DoR (nI j) L f' (doX s j) (doY t (nI j)) := hd
  refine ⟨?_, L, hL2, hd2⟩
  obtain ⟨d1, d2, d3, d4, d5, d6, g, g1, g2, g3, g4, g5, g6⟩ := hd2
  exact h.put d5 ⟨g, g4, g5, g6⟩ hin.2.1
-- test
def testL (ord : Nat → Nat) : Nat → Nat → Int32 → CS → Int32 × CS
  | 0, _, made, s => (made, s)
  | m + 1, i, made, s => testL ord m (i + 1) (made + (doX s (ord i)).1) (doS s (ord i))
theorem testL_ed (ord : Nat → Nat) : ∀ (m i : Nat) (made : Int32) (s : CS), (testL ord m i made s).2.ed = s.ed ∧ (testL ord m i made s).2.ru = s.ru ∧ (testL ord m i made s).2.n = s.n := by
  intro m
  induction m with
  | zero => intros; exact ⟨rfl, rfl, rfl⟩
  | succ m ih => intro i made s; rw [testL]; exact ih (i + 1) _ (doS s (ord i))
def TstR (s : CS) (t : MS) (x : Int32 × CS) (y : Int32 × Int32 × Int32 × (Nat → Int32) × Int32 × (Nat → Int32) × (Nat → Int32) × (Nat → Int64) × Int32 × Int32 × Int32 × Int64 × (Nat → Int64) × (Nat → Int32)) : Prop := x.1 = y.1 ∧ (∃ f : Nat, f ≤ 8 ∧ x.2.fc = nI f ∧ y.2.2.2.2.1 = nI f) ∧ Rel x.2 (MS.mk t.thrown t.most t.rules t.editions t.orders t.sizes t.ops t.numbers t.cells t.hasFallback t.fallbackKinds t.fallbacks t.facts t.states t.counts t.days t.toldAt t.tells (y.2.2.1) (y.2.2.2.1) (y.2.2.2.2.1) (y.2.2.2.2.2.1) (y.2.2.2.2.2.2.1) t.answers t.givers (y.2.2.2.2.2.2.2.1) (y.2.2.2.2.2.2.2.2.1) (y.2.2.2.2.2.2.2.2.2.1) (y.2.2.2.2.2.2.2.2.2.2.1) (y.2.2.2.2.2.2.2.2.2.2.2.1) (y.2.2.2.2.2.2.2.2.2.2.2.2.1) (y.2.2.2.2.2.2.2.2.2.2.2.2.2))
theorem test_loop {ed : Int32} {cnt : Nat} {ord : Nat → Nat} (hc8 : cnt ≤ 8) : ∀ (m i fuel f : Nat) (made : Int32) (s : CS) (t : MS), Rel s t → GH t.rules t.editions t.orders ed (oI cnt ord) cnt → (∀ q, q < cnt → ord q < s.n) → i + m = cnt → m + 1 ≤ fuel → s.fc = nI f → f ≤ i → TstR s t (testL ord m i made s) (L_mtest t.most t.rules t.editions t.orders t.sizes t.ops t.numbers t.cells t.facts ed fuel made (oI cnt ord i) t.handles t.handleFacts t.failures t.failedRule t.failedHow t.stack t.high t.steps t.how t.cellNow t.own t.has) := by
  intro m
  induction m with
  | zero =>
    intro i fuel f made s t h hG ho hi hf hfc hfi
    obtain ⟨fuel, rfl⟩ : ∃ q, fuel = q + 1 := ⟨fuel - 1, by omega⟩
    rw [testL, L_mtest, if_pos (show oI cnt ord i = -1 from if_neg (by omega))]
    obtain ⟨g, g1, g2, g3⟩ := h.fl
    exact ⟨rfl, ⟨g, g3.1, g1, g2⟩, h⟩
  | succ m ih =>
    intro i fuel f made s t h hG ho hi hf hfc hfi
    obtain ⟨fuel, rfl⟩ : ∃ q, fuel = q + 1 := ⟨fuel - 1, by omega⟩
    have hoi : oI cnt ord i = nI (ord i) := if_pos (by omega)
    have hlt := ho i (by omega)
    have hn := h.hn
    rw [testL, L_mtest, hoi, if_neg (nI_m1 (show ord i < 2 ^ 31 by omega))]
    obtain ⟨hR, L, hL, hd⟩ := h.doRule hlt hfc (by omega)
    have hnx : f_mbehind t.rules t.editions t.orders ed (nI (ord i)) = oI cnt ord (i + 1) := by
      rw [← hoi]; exact hG.2.2.1 i (by omega)
    rw [hnx]
    obtain ⟨d1, d2, d3, d4, d5, d6, g, g1, g2, g3, g4, g5, g6⟩ := hd
    have hI := ih (i + 1) fuel g (made + (doX s (ord i)).1) (doS s (ord i)) (putY t (doY t (nI (ord i)))) hR hG ho (by omega) (by omega) g4 (by omega)
    have e : f_mdoAll t.most t.sizes t.ops t.numbers t.cells t.facts t.handles t.handleFacts t.failures t.failedRule t.failedHow t.stack t.own t.has (nI (ord i)) = doY t (nI (ord i)) := rfl
    rw [e]
    rw [d1] at hI ⊢
    revert hI
    clear d1 d2 d3 d4 d5 d6 g3 g4 g5 g6 hR
    rcases doY t (nI (ord i)) with ⟨y1, y2, y3, y4, y5, y6, y7, y8, y9, y10, y11, y12⟩
    exact id
def F_test (s : CS) (k : Int32) : Int32 × CS :=
  if ¬ (k < 0 ∨ 6 ≤ k.toNatClampNeg) then
    if (s.ed k.toNatClampNeg).state = 1 then
      ((testL (s.ed k.toNatClampNeg).ord (s.ed k.toNatClampNeg).cnt 0 0 (CS.mk s.steps s.n s.days s.facts s.stack s.hf s.gv s.gg (0) s.ht s.pos s.fault s.cell s.av s.ag s.fn s.fh (0) s.ed s.ru)).1,
       (CS.setEd ((testL (s.ed k.toNatClampNeg).ord (s.ed k.toNatClampNeg).cnt 0 0 (CS.mk s.steps s.n s.days s.facts s.stack s.hf s.gv s.gg (0) s.ht s.pos s.fault s.cell s.av s.ag s.fn s.fh (0) s.ed s.ru)).2) (setF s.ed k.toNatClampNeg (EdS.mk (if (testL (s.ed k.toNatClampNeg).ord (s.ed k.toNatClampNeg).cnt 0 0 (CS.mk s.steps s.n s.days s.facts s.stack s.hf s.gv s.gg (0) s.ht s.pos s.fault s.cell s.av s.ag s.fn s.fh (0) s.ed s.ru)).2.fc = 0 then 2 else 3) (s.ed k.toNatClampNeg).fr (s.ed k.toNatClampNeg).told (s.ed k.toNatClampNeg).cnt (s.ed k.toNatClampNeg).ord))))
    else (-103, s)
  else (-102, s)
def mtestOf (t : MS) (k : Int32) := f_mtest t.most t.rules t.editions t.orders t.sizes t.ops t.numbers t.cells t.facts t.states t.handles t.handleFacts t.failures t.failedRule t.failedHow t.stack t.high t.steps t.how t.cellNow t.own t.has k
def M_test (t : MS) (k : Int32) : Int32 × MS := ((mtestOf t k).1, (MS.mk ((mtestOf t k).2.1) t.most t.rules t.editions t.orders t.sizes t.ops t.numbers t.cells t.hasFallback t.fallbackKinds t.fallbacks t.facts ((mtestOf t k).2.2.1) t.counts t.days t.toldAt t.tells ((mtestOf t k).2.2.2.1) ((mtestOf t k).2.2.2.2.1) ((mtestOf t k).2.2.2.2.2.1) ((mtestOf t k).2.2.2.2.2.2.1) ((mtestOf t k).2.2.2.2.2.2.2.1) t.answers t.givers ((mtestOf t k).2.2.2.2.2.2.2.2.1) ((mtestOf t k).2.2.2.2.2.2.2.2.2.1) ((mtestOf t k).2.2.2.2.2.2.2.2.2.2.1) ((mtestOf t k).2.2.2.2.2.2.2.2.2.2.2.1) ((mtestOf t k).2.2.2.2.2.2.2.2.2.2.2.2.1) ((mtestOf t k).2.2.2.2.2.2.2.2.2.2.2.2.2.1) ((mtestOf t k).2.2.2.2.2.2.2.2.2.2.2.2.2.2)))
theorem Rel.GHof {s : CS} {t : MS} (h : Rel s t) {e : Nat} (he : e < 6) : GH t.rules t.editions t.orders (nI e) (oI (s.ed e).cnt (s.ed e).ord) (s.ed e).cnt := by
  rw [h.rc]
  exact SortE_GH h.hn (h.ed e he).c8 he (fun j hj => ⟨(h.ru j hj).ed, (h.ru j hj).ho6⟩) (fun j hj => rfl) (h.so e he)
theorem Rel.forget {s : CS} {t : MS} (h : Rel s t) : Rel (CS.mk s.steps s.n s.days s.facts s.stack s.hf s.gv s.gg (0) s.ht s.pos s.fault s.cell s.av s.ag s.fn s.fh (0) s.ed s.ru) (MS.mk t.thrown t.most t.rules t.editions t.orders t.sizes t.ops t.numbers t.cells t.hasFallback t.fallbackKinds t.fallbacks t.facts t.states t.counts t.days t.toldAt t.tells (0) t.handleFacts (0) t.failedRule t.failedHow t.answers t.givers t.stack t.high t.steps t.how t.cellNow t.own t.has) := by
  obtain ⟨h1, h2, h3, h4, h5, h6, h7, h8, h9, h10, h11, h12, h13⟩ := h
  exact ⟨h1, h2, h3, fun e he => by have q := h4 e he; exact ⟨q.st, q.st4, q.ct, q.c8, q.fr, q.td⟩, h5, h6, fun j hj => by have q := h7 j hj; exact ⟨q.ho6, q.ed, q.rk, q.nm, q.od, q.pr, q.ce, q.fb⟩, h8, h9, ⟨0, rfl, rfl, by omega, fun i hi => absurd hi (by omega)⟩, ⟨0, rfl, rfl, by omega, fun i hi => absurd hi (by omega)⟩, h12, ⟨h13.mE, h13.mZ, h13.mV, h13.mH, h13.mK⟩⟩
theorem Rel.set_state {s : CS} {t : MS} {j : Nat} {x v : Int32} (h : Rel s t) (hj : j < 6) (hv : vp_in v 4) : Rel (CS.mk s.steps s.n s.days s.facts s.stack s.hf s.gv s.gg s.hc s.ht s.pos s.fault s.cell s.av s.ag s.fn s.fh s.fc (setF s.ed j (EdS.mk (v) (s.ed j).fr (s.ed j).told (s.ed j).cnt (s.ed j).ord)) s.ru) (MS.mk (x) t.most t.rules t.editions t.orders t.sizes t.ops t.numbers t.cells t.hasFallback t.fallbackKinds t.fallbacks t.facts (upd t.states j v) t.counts t.days t.toldAt t.tells t.handles t.handleFacts t.failures t.failedRule t.failedHow t.answers t.givers t.stack t.high t.steps t.how t.cellNow t.own t.has) := by
  have g := h.ed j hj
  have := h.set_ed (x := x) (d := s.days) (st := upd t.states j v) (dd := t.days) (tt := t.toldAt) (q := (EdS.mk (v) (s.ed j).fr (s.ed j).told (s.ed j).cnt (s.ed j).ord)) hj rfl rfl hv (upd_eq _ _ _).symm g.fr g.td (fun i hi => ⟨upd_ne _ _ hi, rfl, rfl⟩)
  have e : ((MS.mk (x) t.most t.rules t.editions t.orders t.sizes t.ops t.numbers t.cells t.hasFallback t.fallbackKinds t.fallbacks t.facts (upd t.states j v) t.counts (t.days) (t.toldAt) (s.days) t.handles t.handleFacts t.failures t.failedRule t.failedHow t.answers t.givers t.stack t.high t.steps t.how t.cellNow t.own t.has) : MS) = (MS.mk (x) t.most t.rules t.editions t.orders t.sizes t.ops t.numbers t.cells t.hasFallback t.fallbackKinds t.fallbacks t.facts (upd t.states j v) t.counts t.days t.toldAt t.tells t.handles t.handleFacts t.failures t.failedRule t.failedHow t.answers t.givers t.stack t.high t.steps t.how t.cellNow t.own t.has) := by rw [h.dy]
  rw [e] at this
  exact this
set_option maxHeartbeats 1000000 in
theorem sim_test {s : CS} {t : MS} (h : Rel s t) (k : Int32) : (F_test s k).1 = (M_test t k).1 ∧ Rel (F_test s k).2 (M_test t k).2 := by
  unfold F_test M_test
  generalize hy : mtestOf t k = y
  unfold mtestOf f_mtest at hy
  have hie := isEd_iff (k := k)
  by_cases c0 : vp_in k 6
  · obtain ⟨e, he, rfl⟩ := vp_in_of c0 (by decide)
    have g := h.ed e he
    rw [in_pos c0, nI_clamp (by omega)]
    rw [if_neg (fun q => hie.mp q c0), nI_clamp (by omega)] at hy
    by_cases c1 : (s.ed e).state = 1
    · rw [if_pos c1]
      rw [if_pos (by rw [← g.st]; exact c1)] at hy
      have hG := h.GHof he
      have hl := test_loop (ed := nI e) (cnt := (s.ed e).cnt) (ord := (s.ed e).ord) g.c8 (s.ed e).cnt 0 9 0 0 (CS.mk s.steps s.n s.days s.facts s.stack s.hf s.gv s.gg (0) s.ht s.pos s.fault s.cell s.av s.ag s.fn s.fh (0) s.ed s.ru) (MS.mk t.thrown t.most t.rules t.editions t.orders t.sizes t.ops t.numbers t.cells t.hasFallback t.fallbackKinds t.fallbacks t.facts t.states t.counts t.days t.toldAt t.tells (0) t.handleFacts (0) t.failedRule t.failedHow t.answers t.givers t.stack t.high t.steps t.how t.cellNow t.own t.has) h.forget hG (fun q hq => ((h.so e he).ofE q hq).1) (by omega) (by have := g.c8; omega) rfl (by omega)
      have h0 : f_mbehind t.rules t.editions t.orders (nI e) (-1) = oI (s.ed e).cnt (s.ed e).ord 0 := hG.2.1
      rw [h0] at hy
      have hed := testL_ed (s.ed e).ord (s.ed e).cnt 0 0 (CS.mk s.steps s.n s.days s.facts s.stack s.hf s.gv s.gg (0) s.ht s.pos s.fault s.cell s.av s.ag s.fn s.fh (0) s.ed s.ru)
      revert hl hed
      generalize hz : testL (s.ed e).ord (s.ed e).cnt 0 0 (CS.mk s.steps s.n s.days s.facts s.stack s.hf s.gv s.gg (0) s.ht s.pos s.fault s.cell s.av s.ag s.fn s.fh (0) s.ed s.ru) = z
      revert hy
      simp only
      generalize L_mtest t.most t.rules t.editions t.orders t.sizes t.ops t.numbers t.cells t.facts (nI e) 9 0 (oI (s.ed e).cnt (s.ed e).ord 0) 0 t.handleFacts 0 t.failedRule t.failedHow t.stack t.high t.steps t.how t.cellNow t.own t.has = w
      obtain ⟨z1, z2⟩ := z
      obtain ⟨w1, w2, w3, w4, w5, w6, w7, w8, w9, w10, w11, w12, w13, w14⟩ := w
      simp only
      rintro rfl ⟨q1, ⟨f, f1, f2, f3⟩, q3⟩ ⟨r1, r2, r3⟩
      simp only at q1 f2 f3 q3 r1 r2 r3 ⊢
      refine ⟨q1, ?_⟩
      have hv : (if w5 ≤ 0 then (2 : Int32) else 3) = (if z2.fc = 0 then 2 else 3) := by
        rw [f2, f3]
        by_cases d : f = 0
        · subst d; rfl
        · rw [if_neg (nI_nle (by omega) (by omega)), if_neg (nI_ne0 (by omega) (by omega))]
      rw [hv, ← r1]
      exact q3.set_state he (by
        split
        · exact vp_in_nI (n := 2) (by decide) (by decide)
        · exact vp_in_nI (n := 3) (by decide) (by decide))
    · rw [if_neg c1]
      rw [if_neg (by rw [← g.st]; exact c1)] at hy
      subst hy
      exact ⟨rfl, h.thr⟩
  · rw [in_neg c0]
    rw [if_pos (hie.mpr c0)] at hy
    subst hy
    exact ⟨rfl, h.thr⟩
-- ask
def AnR (av answers : Nat → Int64) (ag givers : Nat → Int32) : Prop := ∀ i, i < 4 → av i = answers i ∧ ag i = givers i
theorem AnR_put {av answers : Nat → Int64} {ag givers : Nat → Int32} {j : Nat} {w : Int64} {r : Int32} (h : AnR av answers ag givers) : AnR (vp_updL av j w) (vp_updL answers j w) (upd ag j r) (upd givers j r) := by
  intro i hi
  unfold vp_updL upd
  by_cases c : i = j
  · simp only [if_pos c]; exact ⟨trivial, trivial⟩
  · simp only [if_neg c]; exact h i hi
theorem giver_ok {ag : Nat → Int32} {j : Nat} (h : j < 4) : f_giverOf ag (nI j) = ag j := by
  unfold f_giverOf
  rw [if_neg (nI_pos (by omega)), if_neg (show ¬ (4 : Int32) ≤ nI j from nI_ge (a := j) (b := 4) h (by omega)), nI_clamp (by omega)]
theorem value_ok {av : Nat → Int64} {j : Nat} (h : j < 4) : f_valueOf av (nI j) = av j := by
  unfold f_valueOf
  rw [if_neg (nI_pos (by omega)), if_neg (show ¬ (4 : Int32) ≤ nI j from nI_ge (a := j) (b := 4) h (by omega)), nI_clamp (by omega)]
theorem given_iff {ag : Nat → Int32} {j : Nat} (h : j < 4) : (f_isGiven ag (nI j) = 0) ↔ ag j = -1 := by
  unfold f_isGiven
  rw [giver_ok h]
  by_cases c : ag j = -1
  · rw [if_pos c]; exact ⟨fun _ => c, fun _ => rfl⟩
  · rw [if_neg c]; exact ⟨fun q => absurd q (by decide), fun q => absurd q c⟩
theorem gives_ok {av : Nat → Int64} {ag : Nat → Int32} {j : Nat} {w : Int64} {r : Int32} (h : j < 4) : f_give av ag (nI j).toInt64 w r = (vp_updL av j w, upd ag j r) := by
  rw [give_ok (n := (nI j).toInt64) (by rw [Int32.toInt_toInt64, nI_toInt (by omega)]; omega), i2l_clamp, nI_clamp (by omega)]
theorem add_sim {gv own : Nat → Int64} {gg has : Nat → Int32} {r : Nat} (hO : OS (nI r) gv gg own has) (hr : r < 40) : ∀ (m m2 i : Nat) (av answers : Nat → Int64) (ag givers : Nat → Int32), i ≤ 4 → 5 ≤ i + m → 5 ≤ i + m2 → AnR av answers ag givers → AnR (L_addMissing gv gg m (nI i) av ag).2.1 (L_maskD own has (nI r) m2 (nI i) answers givers).2.1 (L_addMissing gv gg m (nI i) av ag).2.2 (L_maskD own has (nI r) m2 (nI i) answers givers).2.2 := by
  intro m
  induction m with
  | zero => intros; omega
  | succ m ih =>
    intro m2 i av answers ag givers hi hm hm2 hA
    obtain ⟨m2, rfl⟩ : ∃ q, m2 = q + 1 := ⟨m2 - 1, by omega⟩
    rw [L_addMissing, L_maskD]
    by_cases c0 : 4 ≤ i
    · rw [if_pos (show (4 : Int32) ≤ nI i from nI_le (a := 4) (b := i) c0 (by omega)), if_pos (show (4 : Int32) ≤ nI i from nI_le (a := 4) (b := i) c0 (by omega))]
      exact hA
    · have h4 : i < 4 := by omega
      rw [if_neg (show ¬ (4 : Int32) ≤ nI i from nI_ge (a := i) (b := 4) h4 (by omega)), if_neg (show ¬ (4 : Int32) ≤ nI i from nI_ge (a := i) (b := 4) h4 (by omega)), nI_clamp (show i < 2 ^ 31 by omega), nI_1]
      obtain ⟨a1, a2⟩ := hA i h4
      rcases hO i h4 with ⟨o1, o2⟩ | ⟨o1, o2, o3⟩
      · rw [if_pos o1]
        by_cases c1 : f_isGiven ag (nI i) = 0
        · rw [if_pos c1, if_pos ((given_iff h4).mpr o2)]
          exact ih m2 (i + 1) av answers ag givers (by omega) (by omega) (by omega) hA
        · rw [if_neg c1]
          exact ih m2 (i + 1) av answers ag givers (by omega) (by omega) (by omega) hA
      · rw [if_neg (show ¬ has i = 0 by rw [o1]; decide)]
        have hmg : f_mgive answers givers (nI i) (own i) (nI r) = if givers i = -1 then (vp_updL answers i (own i), upd givers i (nI r)) else (answers, givers) := by
          unfold f_mgive
          rw [nI_clamp (by omega)]
        rw [hmg]
        by_cases c1 : f_isGiven ag (nI i) = 0
        · have c2 := (given_iff h4).mp c1
          rw [if_pos c1, if_neg (fun q => by
            have := (given_iff h4).mp q
            rw [o2] at this
            exact nI_m1 (by omega) this), if_pos (by rw [← a2]; exact c2), gives_ok h4, value_ok h4, giver_ok h4, o2, o3]
          exact ih m2 (i + 1) _ _ _ _ (by omega) (by omega) (by omega) (AnR_put hA)
        · have c2 : ¬ ag i = -1 := fun q => c1 ((given_iff h4).mpr q)
          rw [if_neg c1, if_neg (by rw [← a2]; exact c2)]
          exact ih m2 (i + 1) av answers ag givers (by omega) (by omega) (by omega) hA
theorem count_sim {ag givers : Nat → Int32} (hA : ∀ i, i < 4 → ag i = givers i) : ∀ (m m2 i : Nat) (g : Int32), i ≤ 4 → 5 ≤ i + m → 5 ≤ i + m2 → L_countGiven ag m g (nI i) = (L_maskE givers m2 g (nI i)).1 := by
  intro m
  induction m with
  | zero => intros; omega
  | succ m ih =>
    intro m2 i g hi hm hm2
    obtain ⟨m2, rfl⟩ : ∃ q, m2 = q + 1 := ⟨m2 - 1, by omega⟩
    rw [L_countGiven, L_maskE]
    by_cases c0 : 4 ≤ i
    · rw [if_pos (show (4 : Int32) ≤ nI i from nI_le (a := 4) (b := i) c0 (by omega)), if_pos (show (4 : Int32) ≤ nI i from nI_le (a := 4) (b := i) c0 (by omega))]
    · have h4 : i < 4 := by omega
      rw [if_neg (show ¬ (4 : Int32) ≤ nI i from nI_ge (a := i) (b := 4) h4 (by omega)), if_neg (show ¬ (4 : Int32) ≤ nI i from nI_ge (a := i) (b := 4) h4 (by omega)), nI_clamp (show i < 2 ^ 31 by omega), nI_1]
      by_cases c1 : ag i = -1
      · rw [if_pos ((given_iff h4).mpr c1), if_pos (by rw [← hA i h4]; exact c1), Int32.add_zero]
        exact ih m2 (i + 1) g (by omega) (by omega) (by omega)
      · rw [if_neg (fun q => c1 ((given_iff h4).mp q)), if_neg (by rw [← hA i h4]; exact c1)]
        exact ih m2 (i + 1) (g + 1) (by omega) (by omega) (by omega)
/-- the edition in force -/
def inSt (ed : Nat → EdS) (begun : Int32) (i : Nat) (best : Option Nat) : Option Nat := if f_isInForceOn (ed i).fr begun = 0 then best else match best with | none => some i | some b => if f_goesAhead (ed i).fr (ed i).told (ed b).fr (ed b).told = 0 then some b else some i
def inF (ed : Nat → EdS) (begun : Int32) : Nat → Nat → Option Nat → Option Nat
  | 0, _, best => best
  | m + 1, i, best => inF ed begun m (i + 1) (inSt ed begun i best)
theorem inF_lt {ed : Nat → EdS} {begun : Int32} : ∀ (m i : Nat) (best : Option Nat), (∀ b, best = some b → b < i) → ∀ b, inF ed begun m i best = some b → b < i + m := by
  intro m
  induction m with
  | zero => intro i best h b hb; exact h b hb
  | succ m ih =>
    intro i best h b hb
    rw [inF] at hb
    have := ih (i + 1) _ (fun b' hb' => by
      revert hb'
      unfold inSt
      by_cases c : f_isInForceOn (ed i).fr begun = 0
      · rw [if_pos c]; intro hb'; have := h b' hb'; omega
      · rw [if_neg c]
        cases best with
        | none => intro hb'; cases hb'; omega
        | some q =>
          simp only
          by_cases d : f_goesAhead (ed i).fr (ed i).told (ed q).fr (ed q).told = 0
          · rw [if_pos d]; intro hb'; cases hb'; have := h _ rfl; omega
          · rw [if_neg d]; intro hb'; cases hb'; omega) b hb
    omega
theorem inF_sim {ed : Nat → EdS} {begun : Int32} {days toldAt : Nat → Int32} (hd : ∀ e, e < 6 → (ed e).fr = days e ∧ (ed e).told = toldAt e) : ∀ (m i : Nat) (best : Option Nat), i + m = 6 → (∀ b, best = some b → b < i) → (L_maskB days toldAt begun (m + 1) (rI best) (nI i)).1 = rI (inF ed begun m i best) := by
  intro m
  induction m with
  | zero =>
    intro i best hi hb
    have : i = 6 := by omega
    subst this
    rw [L_maskB, if_pos (show (6 : Int32) ≤ nI 6 by decide)]
    rfl
  | succ m ih =>
    intro i best hi hb
    rw [L_maskB, if_neg (show ¬ (6 : Int32) ≤ nI i from nI_ge (a := i) (b := 6) (by omega) (by omega)), nI_clamp (show i < 2 ^ 31 by omega), nI_1, inF]
    unfold inSt
    obtain ⟨e1, e2⟩ := hd i (by omega)
    have hif : f_isInForceOn (ed i).fr begun = (if days i = (-1) then (0 : Int32) else (if begun < days i then (0 : Int32) else 1)) := by rw [e1]; rfl
    rw [hif]
    have hbk : ∀ b, best = some b → b < i + 1 := fun b h => by have := hb b h; omega
    by_cases c : (if days i = (-1) then (0 : Int32) else (if begun < days i then (0 : Int32) else 1)) = 0
    · rw [if_pos c, if_pos c]
      exact ih (i + 1) best (by omega) hbk
    · rw [if_neg c, if_neg c]
      have hnew : ∀ b, some i = some b → b < i + 1 := fun b h => by cases h; omega
      cases best with
      | none =>
        rw [if_pos (show rI none = -1 from rfl)]
        exact ih (i + 1) (some i) (by omega) hnew
      | some q =>
        have hq := hb q rfl
        obtain ⟨q1, q2⟩ := hd q (by omega)
        rw [if_neg (show ¬ rI (some q) = -1 from nI_m1 (show q < 2 ^ 31 by omega))]
        simp only [show (rI (some q)).toNatClampNeg = q from nI_clamp (by omega)]
        unfold f_goesAhead
        rw [e1, e2, q1, q2]
        have hA := ih (i + 1) (some i) (by omega) hnew
        have hB := ih (i + 1) (some q) (by omega) hbk
        by_cases d1 : days i = days q
        · rw [if_neg (show ¬ days q < days i by rw [d1, Int32.lt_iff_toInt_lt]; omega), if_pos d1, if_pos d1]
          by_cases d2 : toldAt i ≤ toldAt q
          · rw [if_pos d2, if_pos d2, if_pos (rfl : (0 : Int32) = 0)]; exact hB
          · rw [if_neg d2, if_neg d2, if_neg (show ¬ (1 : Int32) = 0 by decide)]; exact hA
        · have d1' : (days i).toInt ≠ (days q).toInt := fun h => d1 (Int32.toInt_inj.mp h)
          rw [if_neg d1, if_neg d1]
          by_cases d2 : days q < days i
          · rw [if_pos d2, if_neg (show ¬ days i ≤ days q by rw [Int32.le_iff_toInt_le]; rw [Int32.lt_iff_toInt_lt] at d2; omega), if_neg (show ¬ (1 : Int32) = 0 by decide)]; exact hA
          · rw [if_neg d2, if_pos (show days i ≤ days q by rw [Int32.le_iff_toInt_le]; rw [Int32.lt_iff_toInt_lt] at d2; omega), if_pos (rfl : (0 : Int32) = 0)]; exact hB
-- a rule settled
def stX (s : CS) (j : Nat) : (Nat → Int64) × (Nat → Int32) × Int64 := f_settle s.gv s.gg s.fault s.cell s.av s.ag (nI j) (s.ru j).cell (s.ru j).fk (s.ru j).fv
def settleS (s : CS) (j : Nat) : CS := (CS.mk s.steps s.n s.days s.facts s.stack s.hf s.gv s.gg s.hc s.ht s.pos s.fault s.cell ((stX s j).1) ((stX s j).2.1) s.fn s.fh s.fc s.ed (setF s.ru j (RuS.mk (s.ru j).ho (s.ru j).rank (s.ru j).name (s.ru j).ops (s.ru j).nums (s.ru j).len ((stX s j).2.2) (s.ru j).fk (s.ru j).fv)))
def askL (ord : Nat → Nat) : Nat → Nat → CS → CS
  | 0, _, s => s
  | m + 1, i, s => askL ord m (i + 1) (settleS (doS s (ord i)) (ord i))
/-- a cell and the answers changed -/
theorem Rel.set_ans {s : CS} {t : MS} {j : Nat} {av an : Nat → Int64} {ag gi : Nat → Int32} {w : Int64} {cells : Nat → Int64} (h : Rel s t) (hj : j < s.n) (hA : AnR av an ag gi) (hw : w = cells j) (hc : ∀ i, i ≠ j → cells i = t.cells i) : Rel (CS.mk s.steps s.n s.days s.facts s.stack s.hf s.gv s.gg s.hc s.ht s.pos s.fault s.cell (av) (ag) s.fn s.fh s.fc s.ed (setF s.ru j (RuS.mk (s.ru j).ho (s.ru j).rank (s.ru j).name (s.ru j).ops (s.ru j).nums (s.ru j).len (w) (s.ru j).fk (s.ru j).fv))) (MS.mk t.thrown t.most t.rules t.editions t.orders t.sizes t.ops t.numbers (cells) t.hasFallback t.fallbackKinds t.fallbacks t.facts t.states t.counts t.days t.toldAt t.tells t.handles t.handleFacts t.failures t.failedRule t.failedHow (an) (gi) t.stack t.high t.steps t.how t.cellNow t.own t.has) := by
  have q := h.ru j hj
  have h1 := h.setRu (j := j) (r := (RuS.mk (s.ru j).ho (s.ru j).rank (s.ru j).name (s.ru j).ops (s.ru j).nums (s.ru j).len (w) (s.ru j).fk (s.ru j).fv)) (t' := (MS.mk t.thrown t.most t.rules t.editions t.orders t.sizes t.ops t.numbers (cells) t.hasFallback t.fallbackKinds t.fallbacks t.facts t.states t.counts t.days t.toldAt t.tells t.handles t.handleFacts t.failures t.failedRule t.failedHow t.answers t.givers t.stack t.high t.steps t.how t.cellNow t.own t.has)) hj rfl ⟨q.ho6, q.ed, q.rk, q.nm, q.od, q.pr, hw, q.fb⟩ (fun i hi hij g => ⟨g.ho6, g.ed, g.rk, g.nm, g.od, g.pr, g.ce.trans (hc i hij).symm, g.fb⟩) (fun i hi => ⟨rfl, hc i (by omega), rfl⟩) ⟨h.ok.mE, h.ok.mZ, h.ok.mV, h.ok.mH, h.ok.mK⟩ rfl rfl rfl rfl rfl rfl rfl rfl rfl rfl rfl rfl rfl rfl rfl rfl
  obtain ⟨h1, h2, h3, h4, h5, h6, h7, h8, h9, h10, h11, h12, h13⟩ := h1
  exact ⟨h1, h2, h3, fun e he => by have q := h4 e he; exact ⟨q.st, q.st4, q.ct, q.c8, q.fr, q.td⟩, h5, h6, fun j hj => by have q := h7 j hj; exact ⟨q.ho6, q.ed, q.rk, q.nm, q.od, q.pr, q.ce, q.fb⟩, h8, h9, h10, h11, hA, ⟨h13.mE, h13.mZ, h13.mV, h13.mH, h13.mK⟩⟩
/-- how the reference settles: cells, answers, givers -/
def stY (t : MS) (j : Nat) : (Nat → Int64) × (Nat → Int64) × (Nat → Int32) :=
  if t.how ≤ 0 then (vp_updL t.cells j t.cellNow, (L_maskD t.own t.has (nI j) 5 0 t.answers t.givers).2.1, (L_maskD t.own t.has (nI j) 5 0 t.answers t.givers).2.2)
  else if t.hasFallback j = 0 then (t.cells, t.answers, t.givers)
  else (t.cells, (f_mgive t.answers t.givers (t.fallbackKinds j) (t.fallbacks j) (nI j)).1, (f_mgive t.answers t.givers (t.fallbackKinds j) (t.fallbacks j) (nI j)).2)
theorem Rel.settle {s : CS} {t : MS} {j : Nat} (h : Rel s t) (hj : j < s.n) (h1 : s.fault = t.how) (h2 : 0 ≤ t.how.toInt) (h3 : t.how = 0 → s.cell = t.cellNow ∧ OS (nI j) s.gv s.gg t.own t.has) : Rel (settleS s j) (MS.mk t.thrown t.most t.rules t.editions t.orders t.sizes t.ops t.numbers ((stY t j).1) t.hasFallback t.fallbackKinds t.fallbacks t.facts t.states t.counts t.days t.toldAt t.tells t.handles t.handleFacts t.failures t.failedRule t.failedHow ((stY t j).2.1) ((stY t j).2.2) t.stack t.high t.steps t.how t.cellNow t.own t.has) := by
  have hn := h.hn
  have hA : AnR s.av t.answers s.ag t.givers := h.an
  have hz : (0 : Int32).toInt = 0 := rfl
  unfold settleS
  generalize hx : stX s j = x
  generalize hy : stY t j = y
  unfold stX f_settle at hx
  unfold stY at hy
  rw [h1] at hx
  by_cases c0 : t.how = 0
  · obtain ⟨g1, g2⟩ := h3 c0
    rw [if_pos c0] at hx
    rw [if_pos (show t.how ≤ 0 by rw [c0]; decide)] at hy
    have hadd := add_sim g2 (show j < 40 by omega) 5 5 0 s.av t.answers s.ag t.givers (by omega) (by omega) (by omega) hA
    rw [nI_0] at hadd
    unfold f_addMissing at hx
    revert hx hy hadd
    rcases L_addMissing s.gv s.gg 5 0 s.av s.ag with ⟨a1, a2, a3⟩
    rcases L_maskD t.own t.has (nI j) 5 0 t.answers t.givers with ⟨b1, b2, b3⟩
    simp only
    rintro rfl rfl hadd
    exact h.set_ans hj hadd (g1.trans (updL_eq _ _ _).symm) (fun i hi => updL_ne _ _ hi)
  · have c1 : ¬ t.how ≤ 0 := fun q => by
      rw [Int32.le_iff_toInt_le] at q
      exact c0 (Int32.toInt_inj.mp (by omega))
    rw [if_neg c0] at hx
    rw [if_neg c1] at hy
    have hce := (h.ru j hj).ce
    rcases (h.ru j hj).fb with ⟨f1, f2⟩ | ⟨f1, f2, f3, f4⟩
    · rw [if_pos f2] at hx
      rw [if_pos f1] at hy
      subst hx hy
      exact h.set_ans hj hA hce (fun i _ => rfl)
    · obtain ⟨q, hq, hq2⟩ := vp_in_of f3 (by decide)
      rw [hq2, if_neg (nI_m1 (show q < 2 ^ 31 by omega)), gives_ok hq] at hx
      rw [if_neg (show ¬ t.hasFallback j = 0 by rw [f1]; decide)] at hy
      have hmg : f_mgive t.answers t.givers (t.fallbackKinds j) (t.fallbacks j) (nI j) = if t.givers q = -1 then (vp_updL t.answers q (t.fallbacks j), upd t.givers q (nI j)) else (t.answers, t.givers) := by
        unfold f_mgive
        rw [← f2, hq2, nI_clamp (by omega)]
      rw [hmg] at hy
      obtain ⟨a1, a2⟩ := hA q hq
      by_cases c2 : t.givers q = -1
      · rw [if_pos ((given_iff hq).mpr (a2.trans c2)), f4] at hx
        rw [if_pos c2] at hy
        subst hx hy
        exact h.set_ans hj (AnR_put hA) hce (fun i _ => rfl)
      · rw [if_neg (fun z => c2 (a2.symm.trans ((given_iff hq).mp z)))] at hx
        rw [if_neg c2] at hy
        subst hx hy
        exact h.set_ans hj hA hce (fun i _ => rfl)
theorem Rel.step {s : CS} {t : MS} {j f : Nat} (h : Rel s t) (hj : j < s.n) (hfc : s.fc = nI f) (hf : f < 8) : Rel (settleS (doS s j) j) (MS.setAns (putY t (doY t (nI j))) ((stY (putY t (doY t (nI j))) j).1) ((stY (putY t (doY t (nI j))) j).2.1) ((stY (putY t (doY t (nI j))) j).2.2)) ∧ ∃ g : Nat, g ≤ f + 1 ∧ (settleS (doS s j) j).fc = nI g := by
  obtain ⟨hR, L, hL, d1, d2, d3, d4, d5, d6, g, g1, g2, g3, g4, g5, g6⟩ := h.doRule hj hfc hf
  refine ⟨hR.settle (s := doS s j) hj ?_ ?_ ?_, g, g1, g4⟩
  · exact d3
  · exact d4
  · exact d6
def AskR (t : MS) (x : CS) (y : Int32 × (Nat → Int64) × Int32 × (Nat → Int32) × Int32 × (Nat → Int32) × (Nat → Int32) × (Nat → Int64) × (Nat → Int32) × (Nat → Int64) × Int32 × Int32 × Int32 × Int64 × (Nat → Int64) × (Nat → Int32)) : Prop := Rel x (MS.mk t.thrown t.most t.rules t.editions t.orders t.sizes t.ops t.numbers (y.2.1) t.hasFallback t.fallbackKinds t.fallbacks t.facts t.states t.counts t.days t.toldAt t.tells (y.2.2.1) (y.2.2.2.1) (y.2.2.2.2.1) (y.2.2.2.2.2.1) (y.2.2.2.2.2.2.1) (y.2.2.2.2.2.2.2.1) (y.2.2.2.2.2.2.2.2.1) (y.2.2.2.2.2.2.2.2.2.1) (y.2.2.2.2.2.2.2.2.2.2.1) (y.2.2.2.2.2.2.2.2.2.2.2.1) (y.2.2.2.2.2.2.2.2.2.2.2.2.1) (y.2.2.2.2.2.2.2.2.2.2.2.2.2.1) (y.2.2.2.2.2.2.2.2.2.2.2.2.2.2.1) (y.2.2.2.2.2.2.2.2.2.2.2.2.2.2.2))
set_option maxHeartbeats 1000000 in
theorem ask_loop {ed : Int32} {cnt : Nat} {ord : Nat → Nat} (hc8 : cnt ≤ 8) : ∀ (m i fuel f : Nat) (s : CS) (t : MS), Rel s t → GH t.rules t.editions t.orders ed (oI cnt ord) cnt → (∀ q, q < cnt → ord q < s.n) → i + m = cnt → m + 1 ≤ fuel → s.fc = nI f → f ≤ i → AskR t (askL ord m i s) (L_maskC t.most t.rules t.editions t.orders t.sizes t.ops t.numbers t.hasFallback t.fallbackKinds t.fallbacks t.facts ed fuel (oI cnt ord i) t.cells t.handles t.handleFacts t.failures t.failedRule t.failedHow t.answers t.givers t.stack t.high t.steps t.how t.cellNow t.own t.has) := by
  intro m
  induction m with
  | zero =>
    intro i fuel f s t h hG ho hi hf hfc hfi
    obtain ⟨fuel, rfl⟩ : ∃ q, fuel = q + 1 := ⟨fuel - 1, by omega⟩
    rw [askL, L_maskC, if_pos (show oI cnt ord i = -1 from if_neg (by omega))]
    exact h
  | succ m ih =>
    intro i fuel f s t h hG ho hi hf hfc hfi
    obtain ⟨fuel, rfl⟩ : ∃ q, fuel = q + 1 := ⟨fuel - 1, by omega⟩
    have hoi : oI cnt ord i = nI (ord i) := if_pos (by omega)
    have hlt := ho i (by omega)
    have hn := h.hn
    have hnx : f_mbehind t.rules t.editions t.orders ed (nI (ord i)) = oI cnt ord (i + 1) := by
      rw [← hoi]; exact hG.2.2.1 i (by omega)
    rw [askL, L_maskC, hoi, if_neg (nI_m1 (show ord i < 2 ^ 31 by omega)), hnx, nI_clamp (show ord i < 2 ^ 31 by omega)]
    obtain ⟨hR, g, g1, g2⟩ := h.step hlt hfc (by omega)
    have e : f_mdoAll t.most t.sizes t.ops t.numbers t.cells t.facts t.handles t.handleFacts t.failures t.failedRule t.failedHow t.stack t.own t.has (nI (ord i)) = doY t (nI (ord i)) := rfl
    rw [e]
    have hI := ih (i + 1) fuel g (settleS (doS s (ord i)) (ord i)) _ hR hG ho (by omega) (by omega) g2 (by omega)
    revert hI
    clear hR
    rcases doY t (nI (ord i)) with ⟨y1, y2, y3, y4, y5, y6, y7, y8, y9, y10, y11, y12⟩
    generalize hq : stY (putY t (y1, y2, y3, y4, y5, y6, y7, y8, y9, y10, y11, y12)) (ord i) = q
    unfold stY putY at hq
    simp only at hq ⊢
    by_cases c0 : y9 ≤ 0
    · rw [if_pos c0] at hq ⊢
      revert hq
      rcases L_maskD y11 y12 (nI (ord i)) 5 0 t.answers t.givers with ⟨b1, b2, b3⟩
      rintro rfl
      exact id
    · rw [if_neg c0] at hq ⊢
      by_cases c1 : t.hasFallback (ord i) = 0
      · rw [if_pos c1] at hq ⊢
        subst hq
        exact id
      · rw [if_neg c1] at hq ⊢
        revert hq
        rcases f_mgive t.answers t.givers (t.fallbackKinds (ord i)) (t.fallbacks (ord i)) (nI (ord i)) with ⟨b2, b3⟩
        rintro rfl
        exact id
def F_ask (s : CS) (begun : Int32) : Int32 × CS :=
  if f_isWithin begun.toInt64 0 100000 = 0 then (-102, s)
  else match inF s.ed begun 6 0 none with
    | none => (-1, (CS.mk s.steps s.n s.days s.facts s.stack s.hf s.gv s.gg (0) s.ht s.pos s.fault s.cell ((f_clear s.av s.ag).1) ((f_clear s.av s.ag).2) s.fn s.fh (0) s.ed s.ru))
    | some e => (f_countGiven (askL (s.ed e).ord (s.ed e).cnt 0 (CS.mk s.steps s.n s.days s.facts s.stack s.hf s.gv s.gg (0) s.ht s.pos s.fault s.cell ((f_clear s.av s.ag).1) ((f_clear s.av s.ag).2) s.fn s.fh (0) s.ed s.ru)).ag, askL (s.ed e).ord (s.ed e).cnt 0 (CS.mk s.steps s.n s.days s.facts s.stack s.hf s.gv s.gg (0) s.ht s.pos s.fault s.cell ((f_clear s.av s.ag).1) ((f_clear s.av s.ag).2) s.fn s.fh (0) s.ed s.ru))
def maskOf (t : MS) (b : Int32) := f_mask t.most t.rules t.editions t.orders t.sizes t.ops t.numbers t.cells t.hasFallback t.fallbackKinds t.fallbacks t.facts t.days t.toldAt t.handles t.handleFacts t.failures t.failedRule t.failedHow t.answers t.givers t.stack t.high t.steps t.how t.cellNow t.own t.has b
def M_ask (t : MS) (b : Int32) : Int32 × MS := ((maskOf t b).1, (MS.mk ((maskOf t b).2.1) t.most t.rules t.editions t.orders t.sizes t.ops t.numbers ((maskOf t b).2.2.1) t.hasFallback t.fallbackKinds t.fallbacks t.facts t.states t.counts t.days t.toldAt t.tells ((maskOf t b).2.2.2.1) ((maskOf t b).2.2.2.2.1) ((maskOf t b).2.2.2.2.2.1) ((maskOf t b).2.2.2.2.2.2.1) ((maskOf t b).2.2.2.2.2.2.2.1) ((maskOf t b).2.2.2.2.2.2.2.2.1) ((maskOf t b).2.2.2.2.2.2.2.2.2.1) ((maskOf t b).2.2.2.2.2.2.2.2.2.2.1) ((maskOf t b).2.2.2.2.2.2.2.2.2.2.2.1) ((maskOf t b).2.2.2.2.2.2.2.2.2.2.2.2.1) ((maskOf t b).2.2.2.2.2.2.2.2.2.2.2.2.2.1) ((maskOf t b).2.2.2.2.2.2.2.2.2.2.2.2.2.2.1) ((maskOf t b).2.2.2.2.2.2.2.2.2.2.2.2.2.2.2.1) ((maskOf t b).2.2.2.2.2.2.2.2.2.2.2.2.2.2.2.2)))
theorem Rel.clearW {s : CS} {t : MS} {av an : Nat → Int64} {ag gi : Nat → Int32} (h : Rel s t) (hA : AnR av an ag gi) : Rel (CS.mk s.steps s.n s.days s.facts s.stack s.hf s.gv s.gg (0) s.ht s.pos s.fault s.cell (av) (ag) s.fn s.fh (0) s.ed s.ru) (MS.mk t.thrown t.most t.rules t.editions t.orders t.sizes t.ops t.numbers t.cells t.hasFallback t.fallbackKinds t.fallbacks t.facts t.states t.counts t.days t.toldAt t.tells (0) t.handleFacts (0) t.failedRule t.failedHow (an) (gi) t.stack t.high t.steps t.how t.cellNow t.own t.has) := by
  obtain ⟨h1, h2, h3, h4, h5, h6, h7, h8, h9, h10, h11, h12, h13⟩ := h
  exact ⟨h1, h2, h3, fun e he => by have q := h4 e he; exact ⟨q.st, q.st4, q.ct, q.c8, q.fr, q.td⟩, h5, h6, fun j hj => by have q := h7 j hj; exact ⟨q.ho6, q.ed, q.rk, q.nm, q.od, q.pr, q.ce, q.fb⟩, h8, h9, ⟨0, rfl, rfl, by omega, fun i hi => absurd hi (by omega)⟩, ⟨0, rfl, rfl, by omega, fun i hi => absurd hi (by omega)⟩, hA, ⟨h13.mE, h13.mZ, h13.mV, h13.mH, h13.mK⟩⟩
theorem Rel.clear {s : CS} {t : MS} (h : Rel s t) : Rel (CS.mk s.steps s.n s.days s.facts s.stack s.hf s.gv s.gg (0) s.ht s.pos s.fault s.cell ((f_clear s.av s.ag).1) ((f_clear s.av s.ag).2) s.fn s.fh (0) s.ed s.ru) (MS.mk t.thrown t.most t.rules t.editions t.orders t.sizes t.ops t.numbers t.cells t.hasFallback t.fallbackKinds t.fallbacks t.facts t.states t.counts t.days t.toldAt t.tells (0) t.handleFacts (0) t.failedRule t.failedHow ((f_clear t.answers t.givers).1) ((f_clear t.answers t.givers).2) t.stack t.high t.steps t.how t.cellNow t.own t.has) := by
  refine h.clearW (fun i hi => ?_)
  obtain ⟨e0, e1, e2, e3⟩ := c4
  show (f_clear s.av s.ag).1 i = (f_clear t.answers t.givers).1 i ∧ (f_clear s.av s.ag).2 i = (f_clear t.answers t.givers).2 i
  unfold f_clear
  rw [e0, e1, e2, e3]
  rcases lt4 hi with z | z | z | z <;> subst z <;> exact ⟨rfl, rfl⟩
set_option maxHeartbeats 1000000 in
theorem sim_ask {s : CS} {t : MS} (h : Rel s t) (b : Int32) : (F_ask s b).1 = (M_ask t b).1 ∧ Rel (F_ask s b).2 (M_ask t b).2 := by
  unfold F_ask M_ask
  generalize hy : maskOf t b = y
  unfold maskOf f_mask at hy
  rw [within_eq]
  by_cases c0 : f_mwithin b.toInt64 0 100000 = 0
  · rw [if_pos c0] at hy ⊢
    subst hy
    exact ⟨rfl, h.thr⟩
  · rw [if_neg c0] at hy ⊢
    have hB := inF_sim (ed := s.ed) (begun := b) (days := t.days) (toldAt := t.toldAt) (fun e he => ⟨(h.ed e he).fr, (h.ed e he).td⟩) 6 0 none (by omega) (fun q hq => by cases hq)
    have hlt := inF_lt (ed := s.ed) (begun := b) 6 0 none (fun q hq => by cases hq)
    have hc := h.clear
    rw [nI_0] at hB
    revert hB hy
    rw [show rI none = -1 from rfl]
    rcases L_maskB t.days t.toldAt b 7 (-1) 0 with ⟨b1, b2⟩
    simp only
    cases hf : inF s.ed b 6 0 none with
    | none =>
      simp only
      intro hy hB
      rw [if_pos (show b1 = -1 from hB)] at hy
      subst hy
      exact ⟨rfl, hc.thr⟩
    | some e =>
      simp only
      intro hy hB
      have he : e < 6 := by have := hlt e hf; omega
      rw [show rI (some e) = nI e from rfl] at hB
      subst hB
      rw [if_neg (nI_m1 (show e < 2 ^ 31 by omega))] at hy
      have g := h.ed e he
      have hG := h.GHof he
      have h0 : f_mbehind t.rules t.editions t.orders (nI e) (-1) = oI (s.ed e).cnt (s.ed e).ord 0 := hG.2.1
      rw [h0] at hy
      have hl := ask_loop (ed := nI e) (cnt := (s.ed e).cnt) (ord := (s.ed e).ord) g.c8 (s.ed e).cnt 0 9 0 _ _ hc hG (fun q hq => ((h.so e he).ofE q hq).1) (by omega) (by have := g.c8; omega) rfl (by omega)
      revert hl hy
      generalize askL (s.ed e).ord (s.ed e).cnt 0 (CS.mk s.steps s.n s.days s.facts s.stack s.hf s.gv s.gg (0) s.ht s.pos s.fault s.cell ((f_clear s.av s.ag).1) ((f_clear s.av s.ag).2) s.fn s.fh (0) s.ed s.ru) = z
      unfold f_clear
      simp only
      rcases L_maskC t.most t.rules t.editions t.orders t.sizes t.ops t.numbers t.hasFallback t.fallbackKinds t.fallbacks t.facts (nI e) 9 (oI (s.ed e).cnt (s.ed e).ord 0) t.cells 0 t.handleFacts 0 t.failedRule t.failedHow (vp_updL (vp_updL (vp_updL (vp_updL t.answers (0 : Int32).toNatClampNeg 0) (1 : Int32).toNatClampNeg 0) (2 : Int32).toNatClampNeg 0) (3 : Int32).toNatClampNeg 0) (upd (upd (upd (upd t.givers (0 : Int32).toNatClampNeg (-1)) (1 : Int32).toNatClampNeg (-1)) (2 : Int32).toNatClampNeg (-1)) (3 : Int32).toNatClampNeg (-1)) t.stack t.high t.steps t.how t.cellNow t.own t.has with ⟨w1, w2, w3, w4, w5, w6, w7, w8, w9, w10, w11, w12, w13, w14, w15, w16⟩
      simp only
      intro hy hl
      have hR : Rel z _ := hl
      have hcnt := count_sim (ag := z.ag) (givers := w9) (fun i hi => (hR.an i hi).2) 5 5 0 0 (by omega) (by omega) (by omega)
      rw [nI_0] at hcnt
      revert hcnt hy
      rcases L_maskE w9 5 0 0 with ⟨v1, v2⟩
      simp only
      rintro rfl hcnt
      exact ⟨hcnt, hR.thr⟩
-- the beginning
def s0 (q : Int32) : CS := (CS.mk ((if 1 < (if q < 100 then q else 100) then (if q < 100 then q else 100) else 1)) (0) (0) (fun _ => 0) (fun _ => 0) (fun _ => 0) (fun _ => 0) ((upd (upd (upd (upd (fun _ => 0) (0 : Int32).toNatClampNeg (-1)) (1 : Int32).toNatClampNeg (-1)) (2 : Int32).toNatClampNeg (-1)) (3 : Int32).toNatClampNeg (-1))) (0) (0) (0) (0) (0) (fun _ => 0) ((upd (upd (upd (upd (fun _ => 0) (0 : Int32).toNatClampNeg (-1)) (1 : Int32).toNatClampNeg (-1)) (2 : Int32).toNatClampNeg (-1)) (3 : Int32).toNatClampNeg (-1))) (fun _ => 0) (fun _ => 0) (0) (fun _ => (EdS.mk (0) (-1) (0) (0) (fun _ => 0))) (fun _ => newRu 0 0 0))
def t0 (q : Int32) : MS := (MS.mk (0) ((if 1 ≤ q then ((if q ≤ 100 then (q : Int32) else 100) : Int32) else 1)) (0) (fun _ => 0) (fun _ => 0) (fun _ => 0) (fun _ => 0) (fun _ => 0) (fun _ => 0) (fun _ => 0) (fun _ => 0) (fun _ => 0) (fun _ => 0) (fun _ => 0) (fun _ => 0) ((upd (upd (upd (upd (upd (upd (fun _ => 0) (0 : Int32).toNatClampNeg (-1)) (1 : Int32).toNatClampNeg (-1)) (2 : Int32).toNatClampNeg (-1)) (3 : Int32).toNatClampNeg (-1)) (4 : Int32).toNatClampNeg (-1)) (5 : Int32).toNatClampNeg (-1))) (fun _ => 0) (0) (0) (fun _ => 0) (0) (fun _ => 0) (fun _ => 0) (fun _ => 0) ((upd (upd (upd (upd (fun _ => 0) (0 : Int32).toNatClampNeg (-1)) (1 : Int32).toNatClampNeg (-1)) (2 : Int32).toNatClampNeg (-1)) (3 : Int32).toNatClampNeg (-1))) (fun _ => 0) (0) (0) (0) (0) (fun _ => 0) (fun _ => 0))
theorem st_eq (q : Int32) : ∃ L : Nat, 1 ≤ L ∧ L ≤ 100 ∧ (s0 q).steps = nI L ∧ (t0 q).most = nI L := by
  show ∃ L : Nat, 1 ≤ L ∧ L ≤ 100 ∧ (if 1 < (if q < 100 then q else 100) then (if q < 100 then q else 100) else 1) = nI L ∧ (if 1 ≤ q then ((if q ≤ 100 then (q : Int32) else 100) : Int32) else 1) = nI L
  have h1 : (1 : Int32).toInt = 1 := rfl
  have h100 : (100 : Int32).toInt = 100 := rfl
  by_cases c1 : 1 ≤ q
  · rw [if_pos c1]
    by_cases c2 : q ≤ 100
    · rw [if_pos c2]
      rw [Int32.le_iff_toInt_le] at c1 c2
      have hq : q = nI q.toInt.toNat := Int32.toInt_inj.mp (by rw [nI_toInt (by omega)]; omega)
      refine ⟨q.toInt.toNat, by omega, by omega, ?_, hq⟩
      by_cases c3 : q < 100
      · rw [if_pos c3]
        by_cases c4 : 1 < q
        · rw [if_pos c4]; exact hq
        · rw [if_neg c4]
          rw [Int32.lt_iff_toInt_lt] at c4
          rw [show q.toInt.toNat = 1 by omega]; rfl
      · rw [if_neg c3]
        rw [Int32.lt_iff_toInt_lt] at c3
        rw [show q.toInt.toNat = 100 by omega]; decide
    · rw [if_neg c2]
      rw [Int32.le_iff_toInt_le] at c1 c2
      rw [if_neg (show ¬ q < 100 by rw [Int32.lt_iff_toInt_lt]; omega)]
      exact ⟨100, by decide, by decide, by decide, rfl⟩
  · rw [if_neg c1]
    rw [Int32.le_iff_toInt_le] at c1
    rw [if_pos (show q < 100 by rw [Int32.lt_iff_toInt_lt]; omega), if_neg (show ¬ 1 < q by rw [Int32.lt_iff_toInt_lt]; omega)]
    exact ⟨1, by decide, by decide, rfl, rfl⟩
theorem in0 {n : Nat} (h : 0 < n) (h2 : n < 2 ^ 31) : vp_in 0 n := vp_in_nI (n := 0) h h2
theorem rel_0 (q : Int32) : Rel (s0 q) (t0 q) := by
  have hd : (0 : Int32).toNatClampNeg = 0 ∧ (1 : Int32).toNatClampNeg = 1 ∧ (2 : Int32).toNatClampNeg = 2 ∧ (3 : Int32).toNatClampNeg = 3 ∧ (4 : Int32).toNatClampNeg = 4 ∧ (5 : Int32).toNatClampNeg = 5 := by decide
  obtain ⟨e0, e1, e2, e3, e4, e5⟩ := hd
  refine ⟨st_eq q, Nat.zero_le _, rfl, fun e he => ⟨rfl, in0 (by decide) (by decide), rfl, Nat.zero_le _, ?_, rfl⟩, fun e he => ⟨fun i hi => absurd hi (Nat.not_lt_zero _), fun i j hij hj => absurd hj (Nat.not_lt_zero _), fun k hk => absurd hk (Nat.not_lt_zero _)⟩, rfl, fun j hj => absurd hj (Nat.not_lt_zero _), fun j hj => ⟨rfl, rfl, rfl⟩, fun i hi => rfl, ⟨0, rfl, rfl, by omega, fun i hi => absurd hi (Nat.not_lt_zero _)⟩, ⟨0, rfl, rfl, by omega, fun i hi => absurd hi (Nat.not_lt_zero _)⟩, fun i hi => ⟨rfl, rfl⟩, ⟨fun j => in0 (by decide) (by decide), fun j => (show 0 ≤ (0 : Int32).toInt ∧ (0 : Int32).toInt ≤ 12 by decide), fun j => (show okN 0 0 from ⟨fun h => absurd h (by decide), fun h => absurd h (by decide), fun h => absurd h (by decide), fun h => absurd h (by decide)⟩), fun j => in0 (by decide) (by decide), fun j => in0 (by decide) (by decide)⟩⟩
  show (-1 : Int32) = (t0 q).days e
  unfold t0
  simp only [e0, e1, e2, e3, e4, e5]
  rcases (show e = 0 ∨ e = 1 ∨ e = 2 ∨ e = 3 ∨ e = 4 ∨ e = 5 by omega) with z | z | z | z | z | z <;> subst z <;> rfl
-- the two that throw
theorem sim_divide {s : CS} {t : MS} (h : Rel s t) (k : Int32) (a b : Int64) : f_mdivide t.rules k a b = if ¬ (k < 0 ∨ s.n ≤ k.toNatClampNeg) then (if b = 0 then (0, 1) else (a / b, 0)) else (-101, 0) := by
  unfold f_mdivide
  rw [h.rc]
  have hir := isRule_iff (k := k) h.hn
  by_cases c0 : vp_in k s.n
  · rw [in_pos c0, if_neg (fun q => hir.mp q c0)]
  · rw [in_neg c0, if_pos (hir.mpr c0)]
theorem sim_handle {s : CS} {t : MS} (h : Rel s t) (k : Int32) : f_mhandle t.handles k = if k < 0 then (-102, 0) else (if s.hc ≤ k then (-102, 0) else (0, 1)) := by
  unfold f_mhandle
  obtain ⟨c, h1, h2, h3⟩ := h.ha
  have hc := h3.1
  rw [h1, h2]
  have hw := wn_iff (k := k) (n := c) (by omega)
  by_cases c0 : k < 0
  · rw [if_pos c0, if_pos (hw.mpr (fun q => q (Or.inl c0)))]
  · obtain ⟨j, hj, rfl⟩ := nI_of c0
    rw [if_neg c0]
    by_cases c1 : nI c ≤ nI j
    · rw [if_pos c1, if_pos (hw.mpr (fun q => by
        rw [vp_in_iff, nI_toInt hj] at q
        rw [nI_leI (by omega) hj] at c1
        omega))]
    · rw [if_neg c1]
      rw [nI_leI (by omega) hj] at c1
      rw [if_neg (fun q => hw.mp q (vp_in_nI (by omega) (by omega)))]
