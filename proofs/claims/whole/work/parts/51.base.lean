/-! ===== the small questions, answered alike: in terms of n and of the reference's state v ===== -/
theorem toI_of {x : Int32} {n : Nat} (h : vp_in x n) : 0 ≤ x.toInt ∧ x.toInt < n := vp_in_iff.mp h
theorem has1 {m : ax_Me} {a n : Nat} {p : Int32} (hn : n ≤ 8) (hc : m a 4 = nI n) (h : vp_in p n) : F_X5_has m a p = 1 := by
  obtain ⟨j, hj, rfl⟩ := vp_in_of h (by omega)
  unfold F_X5_has
  rw [hc, if_neg (nI_pos (by omega)), if_neg (nI_ge hj (by omega)), if_neg (show ¬ (8 : Int32) ≤ nI j from nI_ge (b := 8) (by omega) (by omega))]
theorem has0 {m : ax_Me} {a n : Nat} {p : Int32} (hn : n ≤ 8) (hc : m a 4 = nI n) (h : ¬ vp_in p n) : F_X5_has m a p = 0 := by
  unfold F_X5_has
  by_cases c1 : p < 0
  · rw [if_pos c1]
  · rw [if_neg c1, hc]
    by_cases c2 : nI n ≤ p
    · rw [if_pos c2]
    · exfalso
      apply h
      rw [vp_in_iff]
      have h1 := Int32.le_iff_toInt_le.mp (Int32.not_lt.mp c1)
      have h2 := Int32.lt_iff_toInt_lt.mp (Int32.not_le.mp c2)
      rw [nI_toInt (by omega)] at h2
      exact ⟨by simpa using h1, h2⟩
theorem nI_pred_toInt {n : Nat} (hn : n ≤ 8) : ((nI n) - 1).toInt64.toInt = (n : Int) - 1 := by
  rw [Int32.toInt_toInt64]
  have : n = 0 ∨ n = 1 ∨ n = 2 ∨ n = 3 ∨ n = 4 ∨ n = 5 ∨ n = 6 ∨ n = 7 ∨ n = 8 := by omega
  rcases this with rfl | rfl | rfl | rfl | rfl | rfl | rfl | rfl | rfl <;> decide +kernel
theorem in01 {m : ax_Me} {x a b : Int64} : F_X10_in m x a b = 0 ∨ F_X10_in m x a b = 1 := by
  unfold F_X10_in
  split
  · exact Or.inl rfl
  · split
    · exact Or.inl rfl
    · exact Or.inr rfl
theorem isP_iff {m : ax_Me} {n : Nat} {p : Int32} (hn : n ≤ 8) (hc : m 136 0 = nI n) : (¬ F_X10_isPerson m p = 0) ↔ vp_in p n := by
  unfold F_X10_isPerson
  rw [in_iff, hc, nI_pred_toInt hn, vp_in_iff, Int32.toInt_toInt64]
  show (0 : Int) ≤ p.toInt ∧ p.toInt ≤ (n : Int) - 1 ↔ _
  omega
theorem isP1 {m : ax_Me} {n : Nat} {p : Int32} (hn : n ≤ 8) (hc : m 136 0 = nI n) (h : vp_in p n) : F_X10_isPerson m p = 1 := by
  have h1 := (isP_iff hn hc).mpr h
  exact (in01 (m := m)).resolve_left h1
theorem isP0 {m : ax_Me} {n : Nat} {p : Int32} (hn : n ≤ 8) (hc : m 136 0 = nI n) (h : ¬ vp_in p n) : F_X10_isPerson m p = 0 :=
  Classical.byContradiction fun q => h ((isP_iff hn hc).mp q)
section BASE
variable {n : Nat} {m : ax_Me} {a : Nat} {v : Nat → Int32}
theorem marks_v (hn : n ≤ 8) (h : pl n m a v) {i : Nat} (hi : i < n) : F_X5_marksOf m a (nI i) = v i := by
  unfold F_X5_marksOf
  rw [has1 hn h.1 (vp_in_nI hi (by omega)), if_neg (by decide), nI_clamp (by omega)]
  exact (h.2.2.1 i hi).1
theorem changes_v (hn : n ≤ 8) (h : pl n m a v) {i : Nat} (hi : i < n) : F_X5_changesOf m a (nI i) = m 137 i := by
  unfold F_X5_changesOf
  rw [has1 hn h.1 (vp_in_nI hi (by omega)), if_neg (by decide), nI_clamp (by omega)]
  exact (h.2.2.1 i hi).2.1
theorem ident_v (hn : n ≤ 8) (h : pl n m a v) {i : Nat} (hi : i < n) : F_X5_identityOf m a (nI i) = v (8 + i) := by
  unfold F_X5_identityOf
  rw [has1 hn h.1 (vp_in_nI hi (by omega)), if_neg (by decide), nI_clamp (by omega)]
  exact (h.2.2.1 i hi).2.2
theorem pair1 (hn : n ≤ 8) (h : pl n m a v) {i j : Nat} (hi : i < n) (hj : j < n) (hij : i ≠ j) : F_X5_isPair m a (nI i) (nI j) = 1 := by
  unfold F_X5_isPair
  rw [has1 hn h.1 (vp_in_nI hi (by omega)), if_neg (by decide), has1 hn h.1 (vp_in_nI hj (by omega)), if_neg (by decide), if_neg]
  intro q
  exact hij ((nI_eq (by omega) (by omega)).mp q)
theorem mem_ix {i j : Nat} (hi : i < 8) (hj : j < 8) : (nI i * 8 + nI j).toNatClampNeg = 8 * i + j := by
  have : nI i * 8 + nI j = nI (8 * i + j) := by
    rw [← nI_add, Nat.mul_comm 8 i]
    congr 1
    exact (Int32.ofNat_mul i 8).symm
  rw [this, nI_clamp (by omega)]
theorem memory_v (hn : n ≤ 8) (h : pl n m a v) {i j : Nat} (hi : i < n) (hj : j < n) : F_X5_memoryOf m a (nI i) (nI j) = v (16 + 8 * i + j) := by
  unfold F_X5_memoryOf
  by_cases hij : i = j
  · subst hij
    have e : F_X5_isPair m a (nI i) (nI i) = 0 := by
      unfold F_X5_isPair
      rw [has1 hn h.1 (vp_in_nI hi (by omega)), if_neg (by decide), if_neg (by decide), if_pos rfl]
    rw [e, if_pos rfl]
    rcases h.2.2.2.2.2.2.2.1 i i (by omega) (by omega) with q | q
    · exact q.symm
    · exact absurd rfl q.2.2.2
  · rw [pair1 hn h hi hj hij, if_neg (by decide), mem_ix (by omega) (by omega)]
    exact h.2.2.2.1 i j hi hj hij
theorem mem_neg (h : gd n v) {i j : Nat} (hi : i < 8) (hj : j < 8) : (v (16 + 8 * i + j) < 0 ↔ v (16 + 8 * i + j) = -1) := by
  rcases h.2.2.2.1 i j hi hj with q | q
  · rw [q]
    decide
  · have h1 := toI_of q.1
    constructor
    · intro c
      have := Int32.lt_iff_toInt_lt.mp c
      simp at this
      omega
    · intro c
      rw [c] at h1
      exact absurd h1.1 (by decide)
theorem rem_v {i j : Nat} (hi : i < 8) (hj : j < 8) : F_X10_remembered m (nI i) (nI j) = m 138 (16 + 8 * i + j) := by
  unfold F_X10_remembered
  have : (16 + 8 * nI i) + nI j = nI (16 + 8 * i + j) := by
    rw [← nI_add, ← nI_add]
    congr 2
    exact (Int32.ofNat_mul 8 i).symm
  rw [this, nI_clamp (by omega)]
theorem knows_v (hn : n ≤ 8) (h : pl n m a v) {i j : Nat} (hi : i < n) (hj : j < n) : (F_X5_knows m a (nI i) (nI j) = 0 ↔ v (16 + 8 * i + j) < 0) := by
  unfold F_X5_knows
  rw [memory_v hn h hi hj, mem_neg h.2.2.2.2 (by omega) (by omega)]
  by_cases c : v (16 + 8 * i + j) = -1
  · simp [c]
  · rw [if_neg c]
    exact ⟨fun q => absurd q (by decide), fun q => absurd q c⟩
end BASE
theorem ax_it_congr {α : Type} {f g : Nat → α → α} : ∀ (n j : Nat) (s : α), (∀ k s, j ≤ k → k < j + n → f k s = g k s) → ax_it f n j s = ax_it g n j s
  | 0, _, _, _ => rfl
  | n + 1, j, s, h => by
    rw [ax_it, ax_it, h j s (Nat.le_refl _) (by omega)]
    exact ax_it_congr n (j + 1) _ (fun k s h1 h2 => h k s (by omega) (by omega))
theorem ax_lp_congr {α β : Type} {f g : Nat → α → β ⊕ α} : ∀ (n j : Nat) (s : α), (∀ k s, j ≤ k → k < j + n → f k s = g k s) → ax_lp f n j s = ax_lp g n j s
  | 0, _, _, _ => rfl
  | n + 1, j, s, h => by
    rw [ax_lp, ax_lp, h j s (Nat.le_refl _) (by omega)]
    cases g j s with
    | inl b => rfl
    | inr s' => exact ax_lp_congr n (j + 1) _ (fun k s h1 h2 => h k s (by omega) (by omega))
