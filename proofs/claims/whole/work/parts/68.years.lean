/-! ===== years, said plainly; a state taken over ===== -/
def yst (c y x : Int32) (k : Nat) : Int32 := if c ≤ 0 then x else x ^^^ (1 <<< ((((y * c) + nI k) - ((y * c) + nI k) / 8 * 8) &&& 31))
/-- the marks of person k, who changes by c, N years behind year y -/
def gy (c y x : Int32) (k : Nat) : Nat → Int32
  | 0 => x
  | N + 1 => yst c (y + nI N) (gy c y x k N) k
theorem gy_0 {c y x : Int32} {k : Nat} (h : c ≤ 0) : ∀ N, gy c y x k N = x
  | 0 => rfl
  | N + 1 => by
    rw [gy, yst, if_pos h]
    exact gy_0 h N
theorem yst_in {c x : Int32} {Y k : Nat} (hc : vp_in c 8) (hx : vp_in x 256) (hY : Y < 10000) (hk : k < 8) : vp_in (yst c (nI Y) x k) 256 := by
  unfold yst
  split
  · exact hx
  · obtain ⟨C, hC, rfl⟩ := vp_in_of hc (by omega)
    have hb : Y * C ≤ 10000 * 8 := Nat.mul_le_mul (by omega) (by omega)
    rw [pk_mul, nI_add, show (8 : Int32) = nI 8 from rfl, pk_rem (by omega) (by omega) (by omega)]
    exact xor_in hx (one_in (Nat.mod_lt _ (by omega)))
theorem gy_in {c x : Int32} {Y k : Nat} (hc : vp_in c 8) (hx : vp_in x 256) (hk : k < 8) : ∀ N, Y + N < 10000 → vp_in (gy c (nI Y) x k N) 256
  | 0, _ => hx
  | N + 1, h => by
    rw [gy, nI_add]
    exact yst_in hc (gy_in hc hx hk N (by omega)) (by omega) hk
section PY
variable {n : Nat} {m : ax_Me} {a : Nat}
theorem py_in (hn : n ≤ 8) (hc : m a 4 = nI n) (m0 : ax_Me) (p0 v2 : Int32) : (∀ b, b ≠ a + 1 → ax_it (f_X5_passYears_15 m0 a p0 v2) n 0 m b = m b) ∧ (∀ k, k < n → ax_it (f_X5_passYears_15 m0 a p0 v2) n 0 m (a + 1) k = yst (m (a + 2) k) (m a 5) (m (a + 1) k) k) ∧ (∀ k, n ≤ k → ax_it (f_X5_passYears_15 m0 a p0 v2) n 0 m (a + 1) k = m (a + 1) k) := by
  have key := ax_it_ind (f := f_X5_passYears_15 m0 a p0 v2) (fun j (s : ax_Me) => (∀ b, b ≠ a + 1 → s b = m b) ∧ (∀ k, k < j → s (a + 1) k = yst (m (a + 2) k) (m a 5) (m (a + 1) k) k) ∧ (∀ k, j ≤ k → s (a + 1) k = m (a + 1) k)) n 0 m ⟨fun _ _ => rfl, fun k hk => absurd hk (by omega), fun _ _ => rfl⟩ (fun j s _ hj hs => by
    obtain ⟨h1, h2, h3⟩ := hs
    have e4 : s a 4 = nI n := by rw [h1 a (by omega)]; exact hc
    have e1 : F_X5_has s a (nI j) = 1 := has1 hn e4 (vp_in_nI (show j < n by omega) (by omega))
    have e2 : F_X5_changesOf s a (nI j) = m (a + 2) j := by
      unfold F_X5_changesOf
      rw [e1, if_neg (by decide), nI_clamp (by omega), h1 (a + 2) (by omega)]
    simp only [f_X5_passYears_15]
    rw [e2, h1 a (by omega)]
    by_cases c : m (a + 2) j ≤ 0
    · rw [if_pos c]
      refine ⟨h1, fun k hk => ?_, fun k hk => h3 k (by omega)⟩
      by_cases d : k = j
      · subst d
        rw [h3 k (by omega), yst, if_pos c]
      · exact h2 k (by omega)
    · rw [if_neg c]
      unfold F_X5_flip
      rw [e1, if_neg (by decide), nI_clamp (by omega)]
      refine ⟨fun b hb => (u_row hb).trans (h1 b hb), fun k hk => ?_, fun k hk => (u_off (by omega)).trans (h3 k (by omega))⟩
      by_cases d : k = j
      · subst d
        rw [ax_u_self, h3 k (by omega), yst, if_neg c]
      · rw [u_off d]
        exact h2 k (by omega))
  rw [Nat.zero_add] at key
  exact key
theorem py_all (hn : n ≤ 8) (hc : m a 4 = nI n) {N : Nat} (hN : N ≤ 60) : (∀ b, b ≠ a → b ≠ a + 1 → F_X5_passYears m a (nI N) b = m b) ∧ (∀ k, k ≠ 5 → F_X5_passYears m a (nI N) a k = m a k) ∧ F_X5_passYears m a (nI N) a 5 = m a 5 + nI N ∧ (∀ k, k < n → F_X5_passYears m a (nI N) (a + 1) k = gy (m (a + 2) k) (m a 5) (m (a + 1) k) k N) := by
  unfold F_X5_passYears
  rw [nI_clamp (by omega), Nat.min_eq_left hN]
  have key := ax_it_ind (f := f_X5_passYears_2 m a (nI N)) (fun i (s : ax_Me) => (∀ b, b ≠ a → b ≠ a + 1 → s b = m b) ∧ (∀ k, k ≠ 5 → s a k = m a k) ∧ s a 5 = m a 5 + nI i ∧ (∀ k, k < n → s (a + 1) k = gy (m (a + 2) k) (m a 5) (m (a + 1) k) k i)) N 0 m ⟨fun _ _ _ => rfl, fun _ _ => rfl, by rw [nI_0, Int32.add_zero], fun _ _ => rfl⟩ (fun i s _ hi hs => by
    obtain ⟨h1, h2, h3, h4⟩ := hs
    have e4 : s a 4 = nI n := by rw [h2 4 (by decide)]; exact hc
    simp only [f_X5_passYears_2]
    rw [e4, nI_clamp (show n < 2 ^ 31 by omega)]
    obtain ⟨g1, g2, g3⟩ := py_in (m := s) hn e4 s (nI N) (nI i)
    refine ⟨fun b hb hb' => (u_row hb).trans ((g1 b hb').trans (h1 b hb hb')), fun k hk => (u_off hk).trans (by rw [g1 a (by omega)]; exact h2 k hk), ?_, fun k hk => ?_⟩
    · rw [ax_u_self, g1 a (by omega), h3, Int32.add_assoc, nI_1]
    · rw [u_row (show a + 1 ≠ a by omega), g2 k hk, h1 (a + 2) (by omega) (by omega), h3, h4 k hk]
      rfl)
  rw [Nat.zero_add] at key
  exact key
end PY
section RY
variable {n : Nat} {m : ax_Me}
theorem pass_all (hn : n ≤ 8) (hc : m 136 0 = nI n) : (∀ b, b ≠ 138 → F_X10_pass m b = m b) ∧ (∀ k, k < n → F_X10_pass m 138 k = yst (m 137 k) (m 138 80) (m 138 k) k) ∧ (∀ k, n ≤ k → k ≠ 80 → F_X10_pass m 138 k = m 138 k) ∧ F_X10_pass m 138 80 = m 138 80 + 1 := by
  unfold F_X10_pass
  rw [hc, nI_clamp (by omega), show (80 : Int32).toNatClampNeg = 80 from rfl]
  have key := ax_it_ind (f := f_X10_pass_2 m) (fun j (s : ax_Me) => (∀ b, b ≠ 138 → s b = m b) ∧ (∀ k, k < j → s 138 k = yst (m 137 k) (m 138 80) (m 138 k) k) ∧ (∀ k, j ≤ k → s 138 k = m 138 k)) n 0 m ⟨fun _ _ => rfl, fun k hk => absurd hk (by omega), fun _ _ => rfl⟩ (fun j s _ hj hs => by
    obtain ⟨h1, h2, h3⟩ := hs
    simp only [f_X10_pass_2]
    rw [nI_clamp (show j < 2 ^ 31 by omega), show (80 : Int32).toNatClampNeg = 80 from rfl, h1 137 (by decide), h3 80 (by omega), Int32.xor_zero]
    by_cases c : m 137 j ≤ 0
    · rw [if_pos c]
      refine ⟨fun b hb => (u_row hb).trans (h1 b hb), fun k hk => ?_, fun k hk => (u_off (by omega)).trans (h3 k (by omega))⟩
      by_cases d : k = j
      · subst d
        rw [ax_u_self, h3 k (by omega), yst, if_pos c]
      · rw [u_off d]
        exact h2 k (by omega)
    · rw [if_neg c]
      refine ⟨fun b hb => (u_row hb).trans (h1 b hb), fun k hk => ?_, fun k hk => (u_off (by omega)).trans (h3 k (by omega))⟩
      by_cases d : k = j
      · subst d
        rw [ax_u_self, h3 k (by omega), yst, if_neg c]
      · rw [u_off d]
        exact h2 k (by omega))
  rw [Nat.zero_add] at key
  obtain ⟨h1, h2, h3⟩ := key
  refine ⟨fun b hb => (u_row hb).trans (h1 b hb), fun k hk => (u_off (by omega)).trans (h2 k hk), fun k hk hk' => (u_off hk').trans (h3 k hk), ?_⟩
  rw [ax_u_self, h3 80 (by omega)]
theorem ry_all (hn : n ≤ 8) (hc : m 136 0 = nI n) (m0 : ax_Me) (p0 v2 : Int32) (N : Nat) : (∀ b, b ≠ 138 → ax_it (f_X10_year_18 m0 p0 v2) N 0 m b = m b) ∧ (∀ k, k < n → ax_it (f_X10_year_18 m0 p0 v2) N 0 m 138 k = gy (m 137 k) (m 138 80) (m 138 k) k N) ∧ (∀ k, n ≤ k → k ≠ 80 → ax_it (f_X10_year_18 m0 p0 v2) N 0 m 138 k = m 138 k) ∧ ax_it (f_X10_year_18 m0 p0 v2) N 0 m 138 80 = m 138 80 + nI N := by
  have key := ax_it_ind (f := f_X10_year_18 m0 p0 v2) (fun i (s : ax_Me) => (∀ b, b ≠ 138 → s b = m b) ∧ (∀ k, k < n → s 138 k = gy (m 137 k) (m 138 80) (m 138 k) k i) ∧ (∀ k, n ≤ k → k ≠ 80 → s 138 k = m 138 k) ∧ s 138 80 = m 138 80 + nI i) N 0 m ⟨fun _ _ => rfl, fun _ _ => rfl, fun _ _ _ => rfl, by rw [nI_0, Int32.add_zero]⟩ (fun i s _ hi hs => by
    obtain ⟨h1, h2, h3, h4⟩ := hs
    simp only [f_X10_year_18]
    obtain ⟨g1, g2, g3, g4⟩ := pass_all (m := s) hn (by rw [h1 136 (by decide)]; exact hc)
    refine ⟨fun b hb => (g1 b hb).trans (h1 b hb), fun k hk => ?_, fun k hk hk' => (g3 k hk hk').trans (h3 k hk hk'), ?_⟩
    · rw [g2 k hk, h1 137 (by decide), h4, h2 k hk]
      rfl
    · rw [g4, h4, Int32.add_assoc, nI_1])
  rw [Nat.zero_add] at key
  exact key
end RY
/-- the People at a become those at b -/
theorem become_all (m : ax_Me) {a b : Nat} (h : b + 4 < a ∨ a + 4 < b) : (∀ c, (c < a ∨ a + 4 < c) → F_X5_become m a b c = m c) ∧ F_X5_become m a b a 4 = m b 4 ∧ F_X5_become m a b a 5 = m b 5 ∧ (∀ k, k < 8 → F_X5_become m a b (a + 1) k = m (b + 1) k ∧ F_X5_become m a b (a + 2) k = m (b + 2) k ∧ F_X5_become m a b (a + 3) k = m (b + 3) k) ∧ (∀ k, k < 64 → F_X5_become m a b (a + 4) k = m (b + 4) k) := by
  unfold F_X5_become
  refine ⟨fun c hc => ?_, ?_, ?_, fun k hk => ⟨?_, ?_, ?_⟩, fun k hk => ?_⟩
  · funext k
    simp only [ax_u, ax_cp]
    repeat rw [if_neg (by omega)]
  all_goals
    simp only [ax_u, ax_cp, true_and, and_self, if_true]
    repeat first | rw [if_pos (by omega)] | rw [if_neg (by omega)]
