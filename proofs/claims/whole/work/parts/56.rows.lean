/-! ===== rows of persons: masks ===== -/
theorem and_split (x M : Int32) (h : x &&& (M ^^^ (-1)) = 0) : x &&& M = x := by
  have h1 : (x &&& (M ^^^ (-1))).toBitVec = 0#32 := by rw [h]; rfl
  apply Int32.toBitVec_inj.mp
  apply BitVec.eq_of_getLsbD_eq
  intro i hi
  have h2 : (x &&& (M ^^^ (-1))).toBitVec.getLsbD i = false := by rw [h1]; simp
  have h3 : (x &&& (M ^^^ (-1))).toBitVec.getLsbD i = (x.toBitVec.getLsbD i && (decide (i < 32) && !M.toBitVec.getLsbD i)) := by
    simp
  rw [h3] at h2
  show (x.toBitVec &&& M.toBitVec).getLsbD i = _
  rw [BitVec.getLsbD_and]
  cases hx : x.toBitVec.getLsbD i <;> cases hM : M.toBitVec.getLsbD i <;> simp_all
theorem and_small {x : Int32} {k : Nat} (hk : k < 2 ^ 31) (h : x &&& nI k = x) : vp_in x (k + 1) := by
  have h1 : x.toBitVec.toNat ≤ k := by
    have h2 : (x &&& nI k).toBitVec.toNat = x.toBitVec.toNat &&& (nI k).toBitVec.toNat := by simp
    rw [h] at h2
    have h3 : (nI k).toBitVec.toNat = k := by
      show (BitVec.ofNat 32 k).toNat = k
      rw [BitVec.toNat_ofNat]
      exact Nat.mod_eq_of_lt (by omega)
    rw [h3] at h2
    rw [h2]
    exact Nat.and_le_right
  rw [vp_in_iff]
  have h5 : x.toInt = (x.toBitVec.toNat : Int) := by
    show x.toBitVec.toInt = _
    rw [BitVec.toInt_eq_toNat_of_lt]
    omega
  rw [h5]
  omega
theorem row_all : ∀ (n : Fin 9) (k : Fin 256), k.val < 2 ^ n.val → nI k.val &&& (((1 <<< (nI n.val &&& 31)) - 1) ^^^ (-1)) = 0 := by decide +kernel
theorem mask_all : ∀ n : Fin 9, (1 <<< (nI n.val &&& 31)) - 1 = nI (2 ^ n.val - 1) := by decide +kernel
theorem pow_le8 {n : Nat} (hn : n ≤ 8) : 2 ^ n ≤ 256 ∧ 1 ≤ 2 ^ n := ⟨Nat.le_trans (Nat.pow_le_pow_right (by omega) hn) (by decide), Nat.one_le_two_pow⟩
theorem holds_iff {m : ax_Me} {a n : Nat} {x : Int32} (hn : n ≤ 8) (hc : m a 4 = nI n) : (¬ F_X5_holdsAll m a x = 0) ↔ vp_in x (2 ^ n) := by
  have hp := pow_le8 hn
  have hM := mask_all ⟨n, by omega⟩
  unfold F_X5_holdsAll F_X5_everybody
  rw [hc]
  dsimp only at hM
  constructor
  · intro q
    by_cases c : x &&& (((1 <<< (nI n &&& 31)) - 1) ^^^ (-1)) = 0
    · rw [hM] at c
      have := and_small (k := 2 ^ n - 1) (by omega) (and_split _ _ c)
      rwa [Nat.sub_add_cancel hp.2] at this
    · rw [if_neg c] at q
      exact absurd rfl q
  · intro q
    obtain ⟨k, hk, rfl⟩ := vp_in_of q (by omega)
    have := row_all ⟨n, by omega⟩ ⟨k, by omega⟩ hk
    dsimp only at this
    rw [if_pos this]
    decide
theorem isRow_iff {m : ax_Me} {n : Nat} {x : Int32} (hn : n ≤ 8) (hc : m 136 0 = nI n) : (¬ F_X10_isRow m x = 0) ↔ vp_in x (2 ^ n) := by
  have hp := pow_le8 hn
  have hM := mask_all ⟨n, by omega⟩
  dsimp only at hM
  unfold F_X10_isRow
  rw [in_iff, hc, hM, vp_in_iff, Int32.toInt_toInt64, Int32.toInt_toInt64, nI_toInt (by omega)]
  show (0 : Int) ≤ x.toInt ∧ x.toInt ≤ ((2 ^ n - 1 : Nat) : Int) ↔ 0 ≤ x.toInt ∧ x.toInt < ((2 ^ n : Nat) : Int)
  omega
theorem has_eq {m : ax_Me} {x p : Int32} (h : vp_in p 8) : F_X9_hasBit m x p = F_X10_has m x p := by
  obtain ⟨k, hk, rfl⟩ := vp_in_of h (by omega)
  unfold F_X9_hasBit F_X10_has
  rw [show F_X9_isWithin m (nI k) 0 7 = 1 from wi1 (N := 7) (by decide) rfl (by omega), if_neg (by decide)]
