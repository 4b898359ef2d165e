/-! ===== is a row rightly asked for ===== -/
theorem hold01 {m : ax_Me} {a : Nat} {x : Int32} : F_X5_holdsAll m a x = 0 ∨ F_X5_holdsAll m a x = 1 := by
  unfold F_X5_holdsAll
  split
  · exact Or.inr rfl
  · exact Or.inl rfl
theorem hasr01 {m : ax_Me} {x p : Int32} : F_X10_has m x p = 0 ∨ F_X10_has m x p = 1 := by
  unfold F_X10_has
  split
  · exact Or.inr rfl
  · exact Or.inl rfl
section ASKED
variable {n : Nat} {m : ax_Me}
/-- not asked rightly: both refuse it in the same words -/
theorem asked0 (h : iN n m) {p0 p1 p2 : Int32} (c : F_X9_isAsked m p0 p1 p2 = 0) : F_X10_rowRefused m p0 p1 p2 = -1000000001 := by
  unfold F_X9_isAsked at c
  unfold F_X10_rowRefused
  rw [pair_eq h] at c
  by_cases c1 : F_X10_areTwo m p0 p1 = 0
  · rw [if_pos c1]
  · rw [if_neg c1] at c ⊢
    obtain ⟨i, j, hi, hj, hij, rfl, rfl⟩ := iv_two h c1
    obtain ⟨hn, hc, -, hp⟩ := id h
    by_cases c2 : vp_in p2 (2 ^ n)
    · rw [if_neg ((holds_iff hn hp.1).mpr c2)] at c
      rw [if_neg ((isRow_iff hn hc).mpr c2)]
      rw [has_eq (vp_in_nI (show i < 8 by omega) (by omega))] at c
      by_cases c3 : F_X10_has m p2 (nI i) = 0
      · rw [if_pos c3] at c
        exact absurd c (by decide)
      · rw [if_neg c3]
    · have e : F_X10_isRow m p2 = 0 := Classical.byContradiction fun q => c2 ((isRow_iff hn hc).mp q)
      rw [if_pos e]
/-- asked rightly -/
theorem asked1 (h : iN n m) {p0 p1 p2 : Int32} (c : ¬ F_X9_isAsked m p0 p1 p2 = 0) : ∃ i j k : Nat, i < n ∧ j < n ∧ i ≠ j ∧ k < 2 ^ n ∧ p0 = nI i ∧ p1 = nI j ∧ p2 = nI k ∧ F_X9_isAsked m p0 p1 p2 = 1 ∧ F_X10_has m p2 p0 = 0 ∧ F_X10_rowRefused m p0 p1 p2 = (if 2 ≤ F_X10_bits m p2 then 0 else -1000000002) := by
  have c' := c
  unfold F_X9_isAsked at c
  rw [pair_eq h] at c
  by_cases c1 : F_X10_areTwo m p0 p1 = 0
  · rw [if_pos c1] at c
    exact absurd rfl c
  · rw [if_neg c1] at c
    obtain ⟨i, j, hi, hj, hij, rfl, rfl⟩ := iv_two h c1
    obtain ⟨hn, hc, -, hp⟩ := id h
    by_cases c2 : vp_in p2 (2 ^ n)
    · rw [if_neg ((holds_iff hn hp.1).mpr c2), has_eq (vp_in_nI (show i < 8 by omega) (by omega))] at c
      by_cases c3 : F_X10_has m p2 (nI i) = 0
      · obtain ⟨k, hk, rfl⟩ := vp_in_of c2 (by have := pow_le8 hn; omega)
        refine ⟨i, j, k, hi, hj, hij, hk, rfl, rfl, rfl, ?_, c3, ?_⟩
        · unfold F_X9_isAsked
          rw [pair_eq h, if_neg c1, if_neg ((holds_iff hn hp.1).mpr c2), has_eq (vp_in_nI (show i < 8 by omega) (by omega)), if_pos c3]
        · unfold F_X10_rowRefused
          rw [if_neg c1, if_neg ((isRow_iff hn hc).mpr c2), if_pos c3]
      · rw [if_neg c3] at c
        exact absurd rfl c
    · have e : F_X5_holdsAll m 3 p2 = 0 := Classical.byContradiction fun q => c2 ((holds_iff hn hp.1).mp q)
      rw [if_pos e] at c
      exact absurd rfl c
theorem long_eq {x : Int32} (h : vp_in x 256) : F_X9_isLongEnough m x = (if 2 ≤ F_X10_bits m x then 1 else 0) := by
  unfold F_X9_isLongEnough
  rw [bc_eq h]
  by_cases c : F_X10_bits m x < 2
  · rw [if_pos c, if_neg (Int32.not_le.mpr c)]
  · rw [if_neg c, if_pos (Int32.not_lt.mp c)]
end ASKED
