-- the law's world: the out array, the class, the reference
abbrev OU (cL : ClassId) (oa : Nat) (f : Nat → Int64) : va_W := [(oa, .inl (cL, 1, .inr (.inl f)))]
abbrev LW (cI cL cZ cR cE : ClassId) (A : CAd) (sc : CS) (Bm : Nat → Nat) (t : MS) (oa : Nat) (f : Nat → Int64) : va_W := (OU cL oa f ++ FW cI cL cZ cR cE A sc) ++ WMd cI cL cZ cR cE Bm t
theorem pl_F {O F M : va_W} : ((O ++ F) ++ M).Perm (F ++ (O ++ M)) := by
  have h := (List.perm_append_comm (l₁ := O) (l₂ := F)).append_right M
  rw [List.append_assoc F O M] at h
  exact h
theorem pl_M {O F M : va_W} : ((O ++ F) ++ M).Perm (M ++ (O ++ F)) := List.perm_append_comm
def AL (Bz : Nat) : Nat → Prop := fun q => Bz ≤ q
theorem sx_in {i L : Nat} (c : Nat) (h : i + c < L) (hL : L ≤ 3073) : vp_in (nI i + nI c) L := by
  rw [nI_add]
  exact vp_in_nI h (by omega)
theorem ldiv_ok {sc : CS} {k : Int32} {x y : Int64} {f f1 : Nat → Int64} {r : Int32} (h : F_ldiv sc k x y f = (r, f1)) : (if ¬ (k < 0 ∨ sc.n ≤ k.toNatClampNeg) then (if y = 0 then ((0 : Int64), (1 : Int32)) else (x / y, 0)) else (-101, 0)).2 = r ∧ (r = 0 → f1 (0 : Int32).toNatClampNeg = (if ¬ (k < 0 ∨ sc.n ≤ k.toNatClampNeg) then (if y = 0 then ((0 : Int64), (1 : Int32)) else (x / y, 0)) else (-101, 0)).1) := by
  unfold F_ldiv at h
  by_cases ck : vp_in k sc.n
  · rw [in_pos ck] at h ⊢
    by_cases hy : y = 0
    · rw [if_pos hy] at h ⊢
      cases h
      exact ⟨rfl, fun g => absurd g (by decide)⟩
    · rw [if_neg hy] at h ⊢
      cases h
      exact ⟨rfl, fun _ => rfl⟩
  · rw [in_neg ck] at h ⊢
    cases h
    exact ⟨rfl, fun _ => rfl⟩
theorem lhan_ok {sc : CS} {k : Int32} {f f1 : Nat → Int64} {r : Int32} (h : F_lhan sc k f = (r, f1)) : (if k < 0 then ((-102 : Int32), (0 : Int32)) else (if sc.hc ≤ k then (-102, 0) else (0, 1))).2 = r ∧ (r = 0 → f1 (0 : Int32).toNatClampNeg = (if k < 0 then ((-102 : Int32), (0 : Int32)) else (if sc.hc ≤ k then (-102, 0) else (0, 1))).1.toInt64) := by
  unfold F_lhan at h
  by_cases c0 : k < 0
  · rw [if_pos c0] at h ⊢
    cases h
    exact ⟨rfl, fun _ => rfl⟩
  · rw [if_neg c0] at h ⊢
    by_cases c1 : sc.hc ≤ k
    · rw [if_pos c1] at h ⊢
      cases h
      exact ⟨rfl, fun _ => rfl⟩
    · rw [if_neg c1] at h ⊢
      cases h
      exact ⟨rfl, fun g => absurd g (by decide)⟩
