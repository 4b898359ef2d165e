/-! ===== the invariant: what the class's cells and the reference's cells have in common between two calls ===== -/
/-- a state of the reference, of n persons: marks, identities, memories, years -/
def gd (n : Nat) (v : Nat → Int32) : Prop :=
  (∀ k, k < 8 → vp_in (v k) 256) ∧ (∀ k, k < n → vp_in (v (8 + k)) n) ∧ (∀ k, k < 8 → vp_in (v (8 + k)) 8) ∧
  (∀ i j, i < 8 → j < 8 → (v (16 + 8 * i + j) = -1 ∨ (vp_in (v (16 + 8 * i + j)) 256 ∧ i < n ∧ j < n ∧ i ≠ j))) ∧ vp_in (v 80) 9061
/-- the People at a are that state -/
def pl (n : Nat) (m : ax_Me) (a : Nat) (v : Nat → Int32) : Prop :=
  m a 4 = nI n ∧ m a 5 = v 80 ∧ (∀ k, k < n → m (a + 1) k = v k ∧ m (a + 2) k = m 137 k ∧ m (a + 3) k = v (8 + k)) ∧
  (∀ i j, i < n → j < n → i ≠ j → m (a + 4) (8 * i + j) = v (16 + 8 * i + j)) ∧ gd n v
theorem pl.congr {n : Nat} {m m' : ax_Me} {a : Nat} {v v' : Nat → Int32} (h0 : m' a = m a) (h1 : m' (a + 1) = m (a + 1)) (h2 : m' (a + 2) = m (a + 2)) (h3 : m' (a + 3) = m (a + 3)) (h4 : m' (a + 4) = m (a + 4)) (hc : m' 137 = m 137) (hv : v' = v) (h : pl n m a v) : pl n m' a v' := by
  unfold pl at *
  rw [h0, h1, h2, h3, h4, hc, hv]
  exact h
def iN (n : Nat) (m : ax_Me) : Prop := n ≤ 8 ∧ m 136 0 = nI n ∧ (∀ k, k < 8 → vp_in (m 137 k) 8) ∧ pl n m 3 (m 138)
/-- the past: c states, the newest last; the class's ring of 20 -/
def iP (n : Nat) (m : ax_Me) : Prop := ∃ c q : Nat, c ≤ 20 ∧ q < 20 ∧ m 136 14 = nI c ∧ m 13 2 = nI c ∧ m 13 1 = nI q ∧ ∀ j, j < c → pl n m (15 + 5 * ((q + 20 - c + j) % 20)) (fun k => m 143 (81 * j + k))
def iG (n : Nat) (m : ax_Me) (g i : Nat) : Prop := m g 2 = m 152 i ∧ (m 152 i = 0 ∨ (m 152 i = 1 ∧ pl n m (g + 1) (fun k => m 151 (82 * i + k)) ∧ m g 1 = m 151 (82 * i + 81) ∧ ¬ m 151 (82 * i + 81) < 0))
def iS (n : Nat) (m : ax_Me) : Prop := ∃ s : Nat, s ≤ 8 ∧ m 136 17 = nI s ∧ m 115 4 = nI s ∧ ∀ k, k < s → (m 116 k = m 145 k ∧ m 117 k = m 146 k ∧ m 118 k = m 147 k ∧ m 119 k = m 148 k) ∧ vp_in (m 145 k) n ∧ vp_in (m 146 k) n ∧ m 145 k ≠ m 146 k ∧ vp_in (m 148 k) n
def iB (n : Nat) (m : ax_Me) : Prop := ∃ b : Nat, b ≤ 15 ∧ m 136 22 = nI b ∧ m 120 2 = nI b ∧ ∀ k, k < b → (m 121 k = m 149 k ∧ m 122 k = m 150 k) ∧ vp_in (m 149 k) n
def iD (m : ax_Me) : Prop := m 123 0 = m 136 3 ∧ ¬ m 136 3 < 0
def iT (m : ax_Me) : Prop := ∃ t : Nat, t ≤ 240 ∧ m 136 5 = nI t ∧ m 1 1 = nI t ∧ m 1 2 = m 136 6 ∧ ∀ k, k < t → m 2 k = m 139 k ∧ vp_in (m 139 k) 256
def iA (n : Nat) (m : ax_Me) : Prop := iN n m ∧ iP n m ∧ iG n m 124 0 ∧ iG n m 130 1 ∧ iS n m ∧ iB n m ∧ iD m ∧ iT m
def INV (m : ax_Me) : Prop := ∃ n : Nat, iA n m
theorem iN.congr {n : Nat} {m m' : ax_Me} (h1 : ∀ k, 3 ≤ k → k < 8 → m' k = m k) (h2 : m' 136 0 = m 136 0) (h3 : m' 137 = m 137) (h4 : m' 138 = m 138) (h : iN n m) : iN n m' := by
  obtain ⟨a, b, c, d⟩ := h
  exact ⟨a, h2.trans b, by rw [h3]; exact c, d.congr (h1 3 (by omega) (by omega)) (h1 4 (by omega) (by omega)) (h1 5 (by omega) (by omega)) (h1 6 (by omega) (by omega)) (h1 7 (by omega) (by omega)) h3 h4⟩
theorem iP.congr {n : Nat} {m m' : ax_Me} (h1 : ∀ k, 15 ≤ k → k < 115 → m' k = m k) (h2 : m' 136 14 = m 136 14) (h3 : m' 137 = m 137) (h4 : m' 143 = m 143) (h5 : m' 13 1 = m 13 1) (h6 : m' 13 2 = m 13 2) (h : iP n m) : iP n m' := by
  obtain ⟨c, q, a, b, d, e, f, k⟩ := h
  refine ⟨c, q, a, b, h2.trans d, h6.trans e, h5.trans f, fun j hj => (k j hj).congr (h1 _ (by omega) (by omega)) (h1 _ (by omega) (by omega)) (h1 _ (by omega) (by omega)) (h1 _ (by omega) (by omega)) (h1 _ (by omega) (by omega)) h3 ?_⟩
  rw [h4]
theorem iG.congr {n : Nat} {m m' : ax_Me} {g i : Nat} (h0 : m' g = m g) (h1 : m' (g + 1) = m (g + 1)) (h2 : m' (g + 2) = m (g + 2)) (h3 : m' (g + 3) = m (g + 3)) (h4 : m' (g + 4) = m (g + 4)) (h5 : m' (g + 5) = m (g + 5)) (h6 : m' 151 = m 151) (h7 : m' 152 i = m 152 i) (h8 : m' 137 = m 137) (h : iG n m g i) : iG n m' g i := by
  unfold iG at *
  rw [h0, h7, h6]
  refine ⟨h.1, ?_⟩
  rcases h.2 with c | ⟨c1, c2, c3⟩
  · exact Or.inl c
  · exact Or.inr ⟨c1, c2.congr h1 h2 h3 h4 h5 h8 rfl, c3⟩
theorem iS.congr {n : Nat} {m m' : ax_Me} (h1 : ∀ k, 116 ≤ k → k < 120 → m' k = m k) (h2 : ∀ k, 145 ≤ k → k < 149 → m' k = m k) (h3 : m' 136 17 = m 136 17) (h4 : m' 115 4 = m 115 4) (h : iS n m) : iS n m' := by
  unfold iS at *
  rw [h1 116 (by omega) (by omega), h1 117 (by omega) (by omega), h1 118 (by omega) (by omega), h1 119 (by omega) (by omega), h2 145 (by omega) (by omega), h2 146 (by omega) (by omega), h2 147 (by omega) (by omega), h2 148 (by omega) (by omega), h3, h4]
  exact h
theorem iB.congr {n : Nat} {m m' : ax_Me} (h1 : m' 121 = m 121) (h2 : m' 122 = m 122) (h3 : m' 149 = m 149) (h4 : m' 150 = m 150) (h5 : m' 136 22 = m 136 22) (h6 : m' 120 2 = m 120 2) (h : iB n m) : iB n m' := by
  unfold iB at *
  rw [h1, h2, h3, h4, h5, h6]
  exact h
theorem iD.congr {m m' : ax_Me} (h1 : m' 123 0 = m 123 0) (h2 : m' 136 3 = m 136 3) (h : iD m) : iD m' := by
  unfold iD at *
  rw [h1, h2]
  exact h
theorem iT.congr {m m' : ax_Me} (h1 : m' 2 = m 2) (h2 : m' 139 = m 139) (h3 : m' 136 5 = m 136 5) (h4 : m' 136 6 = m 136 6) (h5 : m' 1 1 = m 1 1) (h6 : m' 1 2 = m 1 2) (h : iT m) : iT m' := by
  unfold iT at *
  rw [h1, h2, h3, h4, h5, h6]
  exact h
theorem vp0 {N : Nat} (h : 0 < N) : vp_in 0 N := by
  intro q
  rcases q with q | q
  · exact absurd q (by decide)
  · exact absurd q (by show ¬ N ≤ 0; omega)
theorem inv_0 : INV mem0 := by
  refine ⟨0, ⟨by omega, rfl, fun k hk => vp0 (by omega), rfl, rfl, fun k hk => absurd hk (by omega), fun i j hi => absurd hi (by omega), ?_⟩, ⟨0, 0, by omega, by omega, rfl, rfl, rfl, fun j hj => absurd hj (by omega)⟩, ⟨rfl, Or.inl rfl⟩, ⟨rfl, Or.inl rfl⟩, ⟨0, by omega, rfl, rfl, fun k hk => absurd hk (by omega)⟩, ⟨0, by omega, rfl, rfl, fun k hk => absurd hk (by omega)⟩, ⟨rfl, by decide⟩, ⟨0, by omega, rfl, rfl, rfl, fun k hk => absurd hk (by omega)⟩⟩
  refine ⟨fun k hk => ?_, fun k hk => absurd hk (by omega), fun k hk => ?_, fun i j hi hj => Or.inl ?_, ?_⟩
  · rw [show mem0 138 k = 0 by simp [mem0, ct_pm]; omega]
    exact vp0 (by omega)
  · rw [show mem0 138 (8 + k) = 0 by simp [mem0, ct_pm]; omega]
    exact vp0 (by omega)
  · simp [mem0, ct_pm]
    omega
  · rw [show mem0 138 80 = 0 by simp [mem0, ct_pm]]
    exact vp0 (by omega)
/-- a cell behind a write elsewhere -/
theorem u_row {m : ax_Me} {a k b : Nat} {v : Int32} (h : b ≠ a) : ax_u m a k v b = m b := by
  funext j
  exact ax_u_ne (fun q => h q.1)
theorem u_off {m : ax_Me} {a k j : Nat} {v : Int32} (h : j ≠ k) : ax_u m a k v a j = m a j := ax_u_ne (fun q => h q.2)
section STEPS
variable {G : ax_G} {l : Launch}
theorem st_fault : ST G l INV mX9_fault mX10_fault [] := by
  intro m hI
  obtain ⟨n, h⟩ := id hI
  obtain ⟨t, -, -, -, ht, -⟩ := h.2.2.2.2.2.2.2
  refine ⟨F_X9_fault m, 0, 0, m, m, by omega, by omega, s_X9_fault m, ?_, hI⟩
  have e : F_X9_fault m = F_X10_fault m := ht
  rw [e]
  exact s_X10_fault m
theorem st_seed (p0 : Int32) : ST G l INV mX9_seed mX10_seed [.int p0] := by
  intro m hI
  obtain ⟨n, hN, hP, h1, h2, hS, hB, hD, hT⟩ := id hI
  refine ⟨(F_X9_seed m p0).1, 0, 0, _, (F_X10_seed (F_X9_seed m p0).2 p0).2, by omega, by omega, s_X9_seed m p0, ?_, ?_⟩
  · have e : (F_X9_seed m p0).1 = (F_X10_seed (F_X9_seed m p0).2 p0).1 := by
      unfold F_X9_seed F_X10_seed
      by_cases c : 0 ≤ p0
      · simp only [if_pos c]
        rw [u_row (by decide)]
        exact hD.1
      · simp only [if_neg c]
    rw [e]
    exact s_X10_seed _ p0
  · unfold F_X9_seed F_X10_seed
    by_cases c : 0 ≤ p0
    · simp only [if_pos c]
      have r : ∀ b, b ≠ 123 → b ≠ 136 → ax_u (ax_u m 123 0 p0) 136 3 p0 b = m b := fun b h1 h2 => (u_row h2).trans (u_row h1)
      have o : ∀ j, j ≠ 3 → ax_u (ax_u m 123 0 p0) 136 3 p0 136 j = m 136 j := fun j h => (u_off h).trans (by rw [u_row (by decide)])
      refine ⟨n, hN.congr (fun k _ _ => r k (by omega) (by omega)) (o 0 (by decide)) (r _ (by decide) (by decide)) (r _ (by decide) (by decide)), hP.congr (fun k _ _ => r k (by omega) (by omega)) (o _ (by decide)) (r _ (by decide) (by decide)) (r _ (by decide) (by decide)) (by rw [r 13 (by decide) (by decide)]) (by rw [r 13 (by decide) (by decide)]), ?_, ?_, hS.congr (fun k _ _ => r k (by omega) (by omega)) (fun k _ _ => r k (by omega) (by omega)) (o _ (by decide)) (by rw [r 115 (by decide) (by decide)]), hB.congr (r _ (by decide) (by decide)) (r _ (by decide) (by decide)) (r _ (by decide) (by decide)) (r _ (by decide) (by decide)) (o _ (by decide)) (by rw [r 120 (by decide) (by decide)]), ⟨?_, ?_⟩, hT.congr (r _ (by decide) (by decide)) (r _ (by decide) (by decide)) (o _ (by decide)) (o _ (by decide)) (by rw [r 1 (by decide) (by decide)]) (by rw [r 1 (by decide) (by decide)])⟩
      · exact h1.congr (r _ (by decide) (by decide)) (r _ (by decide) (by decide)) (r _ (by decide) (by decide)) (r _ (by decide) (by decide)) (r _ (by decide) (by decide)) (r _ (by decide) (by decide)) (r _ (by decide) (by decide)) (by rw [r 152 (by decide) (by decide)]) (r _ (by decide) (by decide))
      · exact h2.congr (r _ (by decide) (by decide)) (r _ (by decide) (by decide)) (r _ (by decide) (by decide)) (r _ (by decide) (by decide)) (r _ (by decide) (by decide)) (r _ (by decide) (by decide)) (r _ (by decide) (by decide)) (by rw [r 152 (by decide) (by decide)]) (r _ (by decide) (by decide))
      · rw [u_row (by decide), ax_u_self, ax_u_self]
      · rw [ax_u_self]
        exact Int32.not_lt.mpr c
    · simp only [if_neg c]
      exact hI
end STEPS
