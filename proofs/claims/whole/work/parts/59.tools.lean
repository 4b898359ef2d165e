/-! ===== tools: loops, bits of sets ===== -/
theorem nI_or {a b : Nat} : nI a ||| nI b = nI (a ||| b) := by
  apply Int32.toBitVec_inj.mp
  show BitVec.ofNat 32 a ||| BitVec.ofNat 32 b = BitVec.ofNat 32 (a ||| b)
  rw [BitVec.ofNat_or]
theorem nI_and {a b : Nat} : nI a &&& nI b = nI (a &&& b) := by
  apply Int32.toBitVec_inj.mp
  show BitVec.ofNat 32 a &&& BitVec.ofNat 32 b = BitVec.ofNat 32 (a &&& b)
  rw [BitVec.ofNat_and]
theorem one_all : ∀ j : Fin 8, (1 : Int32) <<< (nI j.val &&& 31) = nI (2 ^ j.val) := by decide +kernel
theorem one_sh {j : Nat} (hj : j < 8) : (1 : Int32) <<< (nI j &&& 31) = nI (2 ^ j) := one_all ⟨j, hj⟩
theorem pw_lt {j : Nat} (hj : j < 8) : 2 ^ j < 256 := Nat.pow_lt_pow_right (a := 2) (by omega) (n := 8) hj
theorem one_in {j : Nat} (hj : j < 8) : vp_in ((1 : Int32) <<< (nI j &&& 31)) 256 := by
  rw [one_sh hj]
  exact vp_in_nI (pw_lt hj) (by omega)
theorem anot_all : ∀ (k : Fin 256) (j : Fin 8), nI k.val &&& (((1 : Int32) <<< (nI j.val &&& 31)) ^^^ (-1)) = nI (k.val &&& (255 ^^^ 2 ^ j.val)) := by decide +kernel
theorem anot {k j : Nat} (hk : k < 256) (hj : j < 8) : nI k &&& (((1 : Int32) <<< (nI j &&& 31)) ^^^ (-1)) = nI (k &&& (255 ^^^ 2 ^ j)) := anot_all ⟨k, hk⟩ ⟨j, hj⟩
theorem anot_lt {k j : Nat} (hk : k < 256) : k &&& (255 ^^^ 2 ^ j) < 256 := Nat.lt_of_le_of_lt Nat.and_le_left hk
theorem anot_tb {k j q : Nat} (hq : q < 8) : ((k &&& (255 ^^^ 2 ^ j)).testBit q = true) ↔ (k.testBit q = true ∧ q ≠ j) := by
  have h255 : (255 : Nat) = 2 ^ 8 - 1 := rfl
  rw [Nat.testBit_and, Nat.testBit_xor, h255, Nat.testBit_two_pow_sub_one, Nat.testBit_two_pow]
  by_cases c : j = q
  · subst c
    simp [hq]
  · have c' : q ≠ j := fun e => c e.symm
    simp [hq, c, c']
theorem has_all : ∀ (k : Fin 256) (q : Fin 8), F_X10_has mem0 (nI k.val) (nI q.val) = if k.val.testBit q.val = true then 1 else 0 := by decide +kernel
theorem has_m (m m' : ax_Me) (x y : Int32) : F_X10_has m x y = F_X10_has m' x y := rfl
theorem has_tb {m : ax_Me} {k q : Nat} (hk : k < 256) (hq : q < 8) : (¬ F_X10_has m (nI k) (nI q) = 0) ↔ k.testBit q = true := by
  rw [has_m m mem0, has_all ⟨k, hk⟩ ⟨q, hq⟩]
  dsimp only
  by_cases c : k.testBit q = true
  · rw [if_pos c]
    exact ⟨fun _ => c, fun _ => by decide⟩
  · rw [if_neg c]
    exact ⟨fun h => absurd rfl h, fun h => absurd h c⟩
theorem tb_lt {k n q : Nat} (hk : k < 2 ^ n) (h : k.testBit q = true) : q < n := by
  refine Classical.byContradiction fun c => ?_
  have : k.testBit q = false := Nat.testBit_lt_two_pow (Nat.lt_of_lt_of_le hk (Nat.pow_le_pow_right (by omega) (by omega)))
  rw [this] at h
  cases h
theorem two_all : ∀ (k : Fin 256) (j : Fin 8), 2 ≤ F_X10_bits mem0 (nI k.val) → ∃ q : Fin 8, q ≠ j ∧ k.val.testBit q.val = true := by decide +kernel
theorem two_tb {m : ax_Me} {k j : Nat} (hk : k < 256) (hj : j < 8) (h : 2 ≤ F_X10_bits m (nI k)) : ∃ q : Nat, q < 8 ∧ q ≠ j ∧ k.testBit q = true := by
  rw [bits_m m mem0] at h
  obtain ⟨q, h1, h2⟩ := two_all ⟨k, hk⟩ ⟨j, hj⟩ h
  exact ⟨q.val, q.isLt, fun e => h1 (Fin.ext e), h2⟩
theorem ax_it_rel2 {α β : Type} (R : Nat → α → β → Prop) {f : Nat → α → α} {g : Nat → β → β} : ∀ (n j : Nat) (s : α) (t : β), R j s t → (∀ k s t, j ≤ k → k < j + n → R k s t → R (k + 1) (f k s) (g k t)) → R (j + n) (ax_it f n j s) (ax_it g n j t)
  | 0, _, _, _, h, _ => h
  | n + 1, j, s, t, h, hs => by
    rw [ax_it, ax_it, show j + (n + 1) = j + 1 + n by omega]
    exact ax_it_rel2 R n (j + 1) _ _ (hs j s t (Nat.le_refl _) (by omega) h) (fun k s t h1 h2 => hs k s t (by omega) (by omega))
