/-! ===== ring, rings: a way back has no more steps than there are persons ===== -/
theorem pigeon : ∀ (n : Nat) (g : Nat → Nat) (s : Nat), (∀ i, i < s → g i < n) → (∀ i j, i < s → j < s → g i = g j → i = j) → s ≤ n
  | 0, g, s, h, _ => by
    refine Classical.byContradiction fun c => ?_
    have := h 0 (by omega)
    omega
  | n + 1, g, s, h, hi => by
    by_cases c : ∃ i, i < s ∧ g i = n
    · obtain ⟨i, c1, c2⟩ := c
      have := pigeon n (fun k => if k = i then g (s - 1) else g k) (s - 1) (fun k hk => by
        have h1 := h k (by omega)
        have h2 := h (s - 1) (by omega)
        by_cases d : k = i
        · simp only [if_pos d]
          have h3 : g (s - 1) ≠ n := fun e => by
            have := hi (s - 1) i (by omega) c1 (e.trans c2.symm)
            omega
          omega
        · simp only [if_neg d]
          have h3 : g k ≠ n := fun e => d (hi k i (by omega) c1 (e.trans c2.symm))
          omega) (fun a b ha hb e => by
        by_cases d1 : a = i
        · by_cases d2 : b = i
          · omega
          · simp only [if_pos d1, if_neg d2] at e
            have := hi (s - 1) b (by omega) (by omega) e
            omega
        · by_cases d2 : b = i
          · simp only [if_neg d1, if_pos d2] at e
            have := hi a (s - 1) (by omega) (by omega) e
            omega
          · simp only [if_neg d1, if_neg d2] at e
            exact hi a b (by omega) (by omega) e)
      omega
    · have := pigeon n g s (fun i h1 => by
        have h2 := h i h1
        have h3 : g i ≠ n := fun e => c ⟨i, h1, e⟩
        omega) hi
      omega
/-- who is reached in k steps -/
def orb (v : Nat → Int32) (p : Nat) : Nat → Nat
  | 0 => p
  | k + 1 => (v (8 + orb v p k)).toNatClampNeg
section ORB
variable {n : Nat} {v : Nat → Int32} {p : Nat}
theorem orb_lt (hn : n ≤ 8) (h : ∀ k, k < n → vp_in (v (8 + k)) n) (hp : p < n) : ∀ k, orb v p k < n
  | 0 => hp
  | k + 1 => by
    obtain ⟨j, hj, e⟩ := vp_in_of (h _ (orb_lt hn h hp k)) (by omega)
    show (v (8 + orb v p k)).toNatClampNeg < n
    rw [e, nI_clamp (by omega)]
    exact hj
theorem orb_s (hn : n ≤ 8) (h : ∀ k, k < n → vp_in (v (8 + k)) n) (hp : p < n) (k : Nat) : v (8 + orb v p k) = nI (orb v p (k + 1)) := by
  obtain ⟨j, hj, e⟩ := vp_in_of (h _ (orb_lt hn h hp k)) (by omega)
  show _ = nI (v (8 + orb v p k)).toNatClampNeg
  rw [e, nI_clamp (by omega)]
theorem orb_add {a b : Nat} (e : orb v p a = orb v p b) : ∀ d, orb v p (a + d) = orb v p (b + d)
  | 0 => e
  | d + 1 => by
    show (v (8 + orb v p (a + d))).toNatClampNeg = (v (8 + orb v p (b + d))).toNatClampNeg
    rw [orb_add e d]
theorem orb_short (hn : n ≤ 8) (h : ∀ k, k < n → vp_in (v (8 + k)) n) (hp : p < n) {k : Nat} (e : orb v p k = p) (hl : ∀ i, 1 ≤ i → i < k → orb v p i ≠ p) : k ≤ n := by
  refine pigeon n (orb v p) k (fun i _ => orb_lt hn h hp i) ?_
  have one : ∀ a b, a < b → b < k → orb v p a ≠ orb v p b := fun a b h1 h2 e2 => by
    have := orb_add e2 (k - b)
    rw [show b + (k - b) = k by omega, e] at this
    exact hl (a + (k - b)) (by omega) (by omega) this
  intro a b ha hb e2
  refine Classical.byContradiction fun c => ?_
  by_cases d : a < b
  · exact one a b d hb e2
  · exact one b a (by omega) ha e2.symm
/-- the loop, from step j on -/
theorem ring_lp {f : Nat → Int32 → Int32 ⊕ Int32} (hp : p < 8) (ho : ∀ k, orb v p k < 8) (hf : ∀ j k, f j (nI (orb v p k)) = if nI (orb v p (k + 1)) = nI p then .inl (nI j) else .inr (nI (orb v p (k + 1)))) : ∀ N j, (∃ k, j + 1 ≤ k ∧ k ≤ j + N ∧ orb v p k = p ∧ (∀ i, j + 1 ≤ i → i < k → orb v p i ≠ p) ∧ ax_lp f N (j + 1) (nI (orb v p j)) = .inl (nI k)) ∨ ((∀ k, j + 1 ≤ k → k ≤ j + N → orb v p k ≠ p) ∧ ∃ s, ax_lp f N (j + 1) (nI (orb v p j)) = .inr s)
  | 0, j => Or.inr ⟨fun k h1 h2 => by omega, _, rfl⟩
  | N + 1, j => by
    rw [ax_lp, hf]
    by_cases c : orb v p (j + 1) = p
    · rw [if_pos (by rw [c])]
      exact Or.inl ⟨j + 1, by omega, by omega, c, fun i h1 h2 => by omega, rfl⟩
    · have h9 := ho (j + 1)
      rw [if_neg (fun g => c ((nI_eq (by omega) (by omega)).mp g))]
      dsimp only
      rcases ring_lp hp ho hf N (j + 1) with ⟨k, h1, h2, h3, h4, h5⟩ | ⟨h1, h2⟩
      · refine Or.inl ⟨k, by omega, by omega, h3, fun i h6 h7 => ?_, h5⟩
        by_cases d : i = j + 1
        · rw [d]
          exact c
        · exact h4 i (by omega) h7
      · refine Or.inr ⟨fun k h3 h4 => ?_, h2⟩
        by_cases d : k = j + 1
        · rw [d]
          exact c
        · exact h1 k (by omega) (by omega)
end ORB
section RING
variable {n : Nat} {m : ax_Me}
theorem ring_eq (h : iN n m) {p : Nat} (hp : p < n) : F_X5_stepsBackTo m 3 (nI p) = F_X10_ringOf m (nI p) := by
  obtain ⟨hn, hc, -, hq⟩ := id h
  have hv : ∀ k, k < n → vp_in (m 138 (8 + k)) n := hq.2.2.2.2.2.1
  have ho : ∀ k, orb (m 138) p k < n := orb_lt hn hv hp
  unfold F_X5_stepsBackTo F_X10_ringOf
  rw [hq.1, nI_clamp (by omega)]
  have e9 := ring_lp (f := f_X5_stepsBackTo_4 m 3 (nI p)) (v := m 138) (p := p) (by omega) (fun k => by have := ho k; omega) (fun j k => by
    simp only [f_X5_stepsBackTo_4]
    rw [ident_v hn hq (ho k), orb_s hn hv hp k]) n 0
  have e10 := ring_lp (f := f_X10_ringOf_4 m (nI p)) (v := m 138) (p := p) (by omega) (fun k => by have := ho k; omega) (fun j k => by
    simp only [f_X10_ringOf_4]
    rw [ix8 (by have := ho k; omega), orb_s hn hv hp k]) 8 0
  have z : orb (m 138) p 0 = p := rfl
  rw [z, Nat.zero_add] at e9 e10
  rcases e9 with ⟨k, a1, a2, a3, a4, a5⟩ | ⟨a1, s, a2⟩
  · rw [a5]
    rcases e10 with ⟨k', b1, b2, b3, b4, b5⟩ | ⟨b1, s', b2⟩
    · rw [b5]
      have : k = k' := by
        refine Classical.byContradiction fun c => ?_
        by_cases d : k < k'
        · exact b4 k a1 d a3
        · exact a4 k' b1 (by omega) b3
      rw [this]
    · exact absurd a3 (b1 k a1 (by omega))
  · rw [a2]
    rcases e10 with ⟨k', b1, b2, b3, b4, b5⟩ | ⟨b1, s', b2⟩
    · have := orb_short hn hv hp b3 b4
      exact absurd b3 (a1 k' b1 (by omega))
    · rw [b2]
theorem ringq_eq (h : iN n m) (p0 : Int32) : F_X9_ring m p0 = F_X10_ring m p0 := by
  obtain ⟨hn, hc, -, hp⟩ := id h
  unfold F_X9_ring F_X10_ring
  by_cases c : vp_in p0 n
  · rw [has1 hn hp.1 c, isP1 hn hc c]
    obtain ⟨w, hw, rfl⟩ := vp_in_of c (by omega)
    rw [ring_eq h hw]
  · rw [has0 hn hp.1 c, isP0 hn hc c, if_pos rfl, if_pos rfl]
theorem rings_eq (h : iN n m) (p0 : Int32) : F_X9_rings m p0 = F_X10_rings m p0 := by
  obtain ⟨hn, hc, -, hp⟩ := id h
  unfold F_X9_rings F_X10_rings
  by_cases c : F_X10_in m p0.toInt64 0 2 = 0
  · rw [if_pos c]
    have c' : ¬ (0 ≤ p0.toInt ∧ p0.toInt ≤ 2) := fun g => by
      have := (in_iff (mem := m)).mpr (show (0 : Int64).toInt ≤ p0.toInt64.toInt ∧ p0.toInt64.toInt ≤ (2 : Int64).toInt by rw [Int32.toInt_toInt64]; exact g)
      exact this c
    rw [if_neg (fun e => c' (by rw [e]; decide)), if_neg (fun e => c' (by rw [e]; decide)), if_neg (fun e => c' (by rw [e]; decide))]
  · rw [if_neg c]
    have c' := in_iff.mp c
    rw [Int32.toInt_toInt64] at c'
    have c2 : (0 : Int) ≤ p0.toInt ∧ p0.toInt ≤ 2 := c'
    have c3 : p0 = 0 ∨ p0 = 1 ∨ p0 = 2 := by
      have : p0.toInt = 0 ∨ p0.toInt = 1 ∨ p0.toInt = 2 := by omega
      rcases this with e | e | e
      · exact Or.inl (Int32.toInt_inj.mp e)
      · exact Or.inr (Or.inl (Int32.toInt_inj.mp e))
      · exact Or.inr (Or.inr (Int32.toInt_inj.mp e))
    rw [hc, nI_clamp (by omega)]
    rcases c3 with rfl | rfl | rfl
    · rw [if_pos rfl]
      unfold F_X5_countInRings
      rw [hp.1, nI_clamp (by omega)]
      refine ax_it_congr _ _ _ (fun k s _ hk => ?_)
      simp only [f_X5_countInRings_4, f_X10_rings_19]
      rw [ring_eq h (show k < n by omega)]
      simp
    · rw [if_neg (by decide), if_pos rfl]
      unfold F_X5_countAstray
      rw [hp.1, nI_clamp (by omega)]
      refine ax_it_congr _ _ _ (fun k s _ hk => ?_)
      simp only [f_X5_countAstray_4, f_X10_rings_19]
      rw [ident_v hn hp (show k < n by omega), ix8 (show k < 8 by omega)]
      simp
    · rw [if_neg (by decide), if_neg (by decide), if_pos rfl]
      unfold F_X5_countAstrayAndKnown
      rw [hp.1, nI_clamp (by omega)]
      refine ax_it_congr _ _ _ (fun k s _ hk => ?_)
      simp only [f_X5_countAstrayAndKnown_4, f_X10_rings_19]
      rw [ident_v hn hp (show k < n by omega), ix8 (show k < 8 by omega), knowers_eq h (show k < n by omega)]
      simp
end RING
theorem st_ring {G : ax_G} {l : Launch} (p0 : Int32) : ST G l INV mX9_ring mX10_ring [.int p0] :=
  st_q (d9 := 3) (d10 := 2) (by omega) (by omega) (fun m => F_X9_ring m p0) (fun m => F_X10_ring m p0) (fun m ⟨n, h⟩ => s_X9_ring m p0 (ok8_of h.1)) (fun m ⟨n, h⟩ => s_X10_ring m p0 h.1.mp h.1.2.2.2.2.2.2.2.2.2.1) (fun m ⟨n, h⟩ => ringq_eq h.1 p0)
theorem st_rings {G : ax_G} {l : Launch} (p0 : Int32) : ST G l INV mX9_rings mX10_rings [.int p0] :=
  st_q (d9 := 6) (d10 := 2) (by omega) (by omega) (fun m => F_X9_rings m p0) (fun m => F_X10_rings m p0) (fun m ⟨n, h⟩ => s_X9_rings m p0 (ok8_of h.1)) (fun m ⟨n, h⟩ => s_X10_rings m p0 h.1.mp h.1.2.2.2.2.2.2.2.2.2.1) (fun m ⟨n, h⟩ => rings_eq h.1 p0)
