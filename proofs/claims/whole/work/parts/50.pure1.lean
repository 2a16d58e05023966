-- the class's stack and the reference's, with heights as numbers
theorem push_ok {st : Nat → Int64} {k : Nat} {w : Int64} (h : k < 8) : f_push st (nI k) w = (vp_updL st k w, nI (k + 1)) := by
  unfold f_push
  rw [if_neg (nI_pos (by omega)), if_neg (show ¬ (8 : Int32) ≤ nI k from nI_ge (a := k) (b := 8) h (by omega)), nI_clamp (by omega), nI_1]
theorem top_ok {st : Nat → Int64} {k : Nat} (h : k < 8) : f_top st (nI (k + 1)) = st k := by
  unfold f_top
  rw [if_neg (nI_nle (by omega) (by omega)), if_neg (show ¬ (8 : Int32) < nI (k + 1) from nI_nlt (a := 8) (b := k + 1) (by omega) (by omega)), nI_pred, nI_clamp (by omega)]
theorem pop_ok {st : Nat → Int64} {k : Nat} (h : k < 8) : f_pop st (nI (k + 1)) = (st k, nI k) := by
  unfold f_pop
  rw [if_neg (nI_nle (by omega) (by omega)), top_ok h, nI_pred]
theorem keep_ok {hf : Nat → Int32} {c : Nat} {n : Int64} (h : c < 16) : f_keep hf (nI c) n = (nI c, upd hf c n.toInt32, nI (c + 1)) := by
  unfold f_keep
  rw [if_neg (nI_pos (by omega)), if_neg (show ¬ (16 : Int32) ≤ nI c from nI_ge (a := c) (b := 16) h (by omega)), nI_clamp (by omega), nI_1]
theorem mpush_ok {st : Nat → Int64} {k : Nat} {how : Int32} {w : Int64} (h : k < 8) : f_mpush st (nI k) how w = (vp_updL st k w, nI (k + 1), how) := by
  unfold f_mpush
  rw [if_neg (show ¬ nI k = (8 : Int32) from fun q => by have := (nI_eq (a := k) (b := 8) (by omega) (by omega)).mp q; omega), nI_clamp (by omega), nI_1]
theorem mpush_full {st : Nat → Int64} {how : Int32} {w : Int64} : f_mpush st (nI 8) how w = (st, nI 8, 3) := by
  unfold f_mpush
  rw [if_pos (show nI 8 = (8 : Int32) from rfl)]
theorem mkeep_ok {handles : Nat} {hf : Nat → Int32} {st : Nat → Int64} {k : Nat} {how x : Int32} (hk : k < 8) (hc : handles < 16) : f_mkeep (nI handles) hf st (nI k) how x = (nI (handles + 1), upd hf handles x, vp_updL st k (nI handles).toInt64, nI (k + 1), how) := by
  unfold f_mkeep
  rw [if_neg (show ¬ nI k = (8 : Int32) from fun q => by have := (nI_eq (a := k) (b := 8) (by omega) (by omega)).mp q; omega), if_neg (show ¬ nI handles = (16 : Int32) from fun q => by have := (nI_eq (a := handles) (b := 16) (by omega) (by omega)).mp q; omega), mpush_ok hk, nI_clamp (by omega), nI_1]
/-- heights and what an instruction takes -/
theorem sub_neg {k t : Nat} (hk : k < 100) (ht : t < 100) : (nI k - nI t < 0) ↔ k < t := by
  rw [Int32.lt_iff_toInt_lt, pk_sub_toInt (by omega) (by omega)]
  have h0 : (0 : Int32).toInt = 0 := rfl
  omega
theorem sub_add_le {k t p : Nat} (hk : k < 100) (ht : t ≤ k) (hp : p < 100) : (nI k - nI t + nI p ≤ 8) ↔ k - t + p ≤ 8 := by
  rw [pk_sub ht, nI_add]
  exact nI_leI (a := k - t + p) (b := 8) (by omega) (by omega)
theorem faultOf_nI {st : Nat → Int64} {c k : Nat} {op : Int32} {t p : Nat} (ht : f_takes op = nI t) (hp : f_puts op = nI p) (hk : k ≤ 8) (ht2 : t ≤ 2) (hp2 : p ≤ 1) (hc : c ≤ 16) :
    f_faultOf st (nI c) (nI k) op = if k < t then 3 else if 8 < k - t + p then 3 else if op = 5 ∧ f_top st (nI k) = 0 then 2 else if op = 13 ∧ 16 ≤ c then 4 else if op = 14 ∧ f_isWithin (f_top st (nI k)) 0 ((nI c - 1).toInt64) = 0 then 4 else 0 := by
  unfold f_faultOf
  rw [ht, hp]
  have h16 : nI c < (16 : Int32) ↔ c < 16 := nI_ltI (a := c) (b := 16) (by omega) (by omega)
  by_cases h1 : k < t
  · rw [if_pos ((sub_neg (by omega) (by omega)).mpr h1), if_pos h1]
  · rw [if_neg (fun q => h1 ((sub_neg (by omega) (by omega)).mp q)), if_neg h1]
    by_cases h2 : k - t + p ≤ 8
    · rw [if_pos ((sub_add_le (by omega) (by omega) (by omega)).mpr h2), if_neg (show ¬ 8 < k - t + p by omega)]
      by_cases h5 : op = 5
      · subst h5
        rw [if_pos rfl]
        by_cases h6 : f_top st (nI k) = 0
        · rw [if_pos h6, if_pos (show (5 : Int32) = 5 ∧ f_top st (nI k) = 0 from ⟨rfl, h6⟩)]
        · rw [if_neg h6, if_neg (show ¬ ((5 : Int32) = 5 ∧ f_top st (nI k) = 0) from fun q => h6 q.2)]
          rfl
      · rw [if_neg h5, if_neg (show ¬ (op = 5 ∧ f_top st (nI k) = 0) from fun q => h5 q.1)]
        by_cases h13 : op = 13
        · subst h13
          rw [if_pos (show (13 : Int32) = 13 from rfl)]
          by_cases h7 : c < 16
          · rw [if_pos (h16.mpr h7), if_neg (show ¬ ((13 : Int32) = 13 ∧ 16 ≤ c) from fun q => by omega)]
            rfl
          · rw [if_neg (fun q => h7 (h16.mp q)), if_pos (show (13 : Int32) = 13 ∧ 16 ≤ c from ⟨rfl, by omega⟩)]
            rfl
        · rw [if_neg h13, if_pos (rfl : (0 : Int32) = 0), if_neg (show ¬ (op = 13 ∧ 16 ≤ c) from fun q => h13 q.1)]
          by_cases h14 : op = 14
          · subst h14
            rw [if_pos (show (14 : Int32) = 14 from rfl)]
            by_cases h8 : f_isWithin (f_top st (nI k)) 0 ((nI c - 1).toInt64) = 0
            · rw [if_pos h8, if_pos (show (14 : Int32) = 14 ∧ f_isWithin (f_top st (nI k)) 0 ((nI c - 1).toInt64) = 0 from ⟨rfl, h8⟩)]
              rfl
            · rw [if_neg h8, if_neg (show ¬ ((14 : Int32) = 14 ∧ f_isWithin (f_top st (nI k)) 0 ((nI c - 1).toInt64) = 0) from fun q => h8 q.2)]
              rfl
          · rw [if_neg h14, if_pos (rfl : (0 : Int32) = 0), if_neg (show ¬ (op = 14 ∧ f_isWithin (f_top st (nI k)) 0 ((nI c - 1).toInt64) = 0) from fun q => h14 q.1)]
    · rw [if_neg (fun q => h2 ((sub_add_le (by omega) (by omega) (by omega)).mp q)), if_pos (show 8 < k - t + p by omega)]
