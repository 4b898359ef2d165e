/-! ===== goBack ===== -/
theorem back_go {G : ax_G} {l : Launch} {n : Nat} {m : ax_Me} (h : iA n m) {g g' i i' : Nat} (hg : (g = 124 ∧ i = 0 ∧ g' = 130 ∧ i' = 1) ∨ (g = 130 ∧ i = 1 ∧ g' = 124 ∧ i' = 0)) (hG : iG n m g i) (hG' : iG n m g' i') (e9 : F_X9_goBack m (nI i) = if m g 2 = 0 then (-1000000003, m) else (1, F_X4_empty (ax_u (F_X5_become m 3 (g + 1)) 123 0 (F_X5_become m 3 (g + 1) g 1)))) : ∃ (r : Int32) (d9 d10 : Nat) (m1 m2 : ax_Me), d9 ≤ 7 ∧ d10 ≤ 7 ∧ AD G l d9 mX9_goBack (.ref 0 :: [.int (nI i)]) m (some (.int r)) m1 ∧ AD G l d10 mX10_goBack (.ref 136 :: [.int (nI i)]) m1 (some (.int r)) m2 ∧ (iN n m2 ∧ iP n m2 ∧ iG n m2 g i ∧ iG n m2 g' i' ∧ iS n m2 ∧ iB n m2 ∧ iD m2 ∧ iT m2) := by
  obtain ⟨hn, hc, hch, hp⟩ := id h.1
  obtain ⟨hN, ⟨c, q, c1, c2, c3, c4, c5, c6⟩, -, -, hS, hB, hD, hT⟩ := id h
  have s9 := s_X9_goBack (G := G) (l := l) m (nI i)
  obtain ⟨k1, k2⟩ := id hG
  rcases k2 with k2 | ⟨k2, k3, k4, k5⟩
  · rw [if_pos (k1.trans k2)] at e9
    rw [e9] at s9
    have s10 := s_X10_goBack (G := G) (l := l) m (nI i)
    rw [show F_X10_goBack m (nI i) = (-1000000003, m) by unfold F_X10_goBack; rw [in01i (by omega), if_neg (by decide), nI_clamp (show i < 2 ^ 31 by omega), if_pos k2]] at s10
    exact ⟨_, _, _, _, _, by omega, by omega, s9, s10, hN, h.2.1, hG, hG', hS, hB, hD, hT⟩
  · rw [if_neg (by rw [k1, k2]; decide)] at e9
    rw [e9] at s9
    dsimp only at s9
    obtain ⟨b1, b2, b3, b4, b5⟩ := become_all m (a := 3) (b := g + 1) (by omega)
    have r1 : ∀ b, b ≠ 13 → b ≠ 123 → F_X4_empty (ax_u (F_X5_become m 3 (g + 1)) 123 0 (F_X5_become m 3 (g + 1) g 1)) b = F_X5_become m 3 (g + 1) b := fun b g1 g2 => by
      unfold F_X4_empty
      rw [u_row g1, u_row g2]
    have w13 : F_X4_empty (ax_u (F_X5_become m 3 (g + 1)) 123 0 (F_X5_become m 3 (g + 1) g 1)) 13 2 = nI 0 := ax_u_self
    have w131 : F_X4_empty (ax_u (F_X5_become m 3 (g + 1)) 123 0 (F_X5_become m 3 (g + 1) g 1)) 13 1 = nI q := by
      unfold F_X4_empty
      rw [u_off (by decide), u_row (by decide), b1 13 (by omega), c5]
    have w123 : F_X4_empty (ax_u (F_X5_become m 3 (g + 1)) 123 0 (F_X5_become m 3 (g + 1) g 1)) 123 0 = m g 1 := by
      unfold F_X4_empty
      rw [u_row (by decide), ax_u_self, b1 g (by omega)]
    generalize F_X4_empty (ax_u (F_X5_become m 3 (g + 1)) 123 0 (F_X5_become m 3 (g + 1) g 1)) = m1 at s9 r1 w13 w131 w123
    have R : ∀ b, b ≠ 13 → b ≠ 123 → (b < 3 ∨ 7 < b) → m1 b = m b := fun b g1 g2 g3 => (r1 b g1 g2).trans (b1 b (by omega))
    have s10 := s_X10_goBack (G := G) (l := l) m1 (nI i)
    obtain ⟨t1, t2⟩ := back10 (m := m1) (i := i) (by omega) m1
    have ix81 : ((82 * nI i) + 81).toNatClampNeg = 82 * i + 81 := ix82 (i := i) (k := 81) (by omega) (by omega)
    have e10 : F_X10_goBack m1 (nI i) = (1, ax_u (ax_u (ax_it (f_X10_goBack_27 m1 (nI i)) 81 0 m1) 136 3 (m g 1)) 136 14 0) := by
      unfold F_X10_goBack
      rw [in01i (by omega), if_neg (by decide), nI_clamp (show i < 2 ^ 31 by omega), if_neg (by rw [R 152 (by decide) (by decide) (by omega), k2]; decide), show (81 : Int32).toNatClampNeg = 81 from rfl, ix81, t1 151 (by decide), R 151 (by decide) (by decide) (by omega), k4]
    rw [e10] at s10
    dsimp only at s10
    generalize ax_it (f_X10_goBack_27 m1 (nI i)) 81 0 m1 = ma at s10 t1 t2
    have v1 : ∀ b, b ≠ 136 → b ≠ 138 → ax_u (ax_u ma 136 3 (m g 1)) 136 14 0 b = m1 b := fun b g1 g2 => by rw [u_row g1, u_row g1, t1 b g2]
    have O : ∀ k, k ≠ 14 → k ≠ 3 → ax_u (ax_u ma 136 3 (m g 1)) 136 14 0 136 k = m 136 k := fun k g g' => by rw [u_off g, u_off g', t1 136 (by decide), R 136 (by decide) (by decide) (by omega)]
    have v14 : ax_u (ax_u ma 136 3 (m g 1)) 136 14 0 136 14 = nI 0 := ax_u_self
    have v3 : ax_u (ax_u ma 136 3 (m g 1)) 136 14 0 136 3 = m g 1 := by rw [u_off (by decide), ax_u_self]
    have v138 : ∀ k, k < 81 → ax_u (ax_u ma 136 3 (m g 1)) 136 14 0 138 k = m 151 (82 * i + k) := fun k hk => by rw [u_row (by decide), u_row (by decide), t2 k hk, R 151 (by decide) (by decide) (by omega)]
    generalize ax_u (ax_u ma 136 3 (m g 1)) 136 14 0 = m2 at s10 v1 O v14 v3 v138
    have QR : ∀ b, (b ≠ 13 ∧ b ≠ 123 ∧ (b < 3 ∨ 7 < b) ∧ b ≠ 136 ∧ b ≠ 138) → m2 b = m b := fun b g => (v1 b g.2.2.2.1 g.2.2.2.2).trans (R b g.1 g.2.1 g.2.2.1)
    have m137 : m2 137 = m 137 := QR _ (by omega)
    obtain ⟨hS', hB', hT'⟩ := h.tail (m2 := m2) (fun b g => QR b (by omega)) (fun k g => O k (by omega) (by omega))
    refine ⟨_, _, _, _, _, by omega, by omega, s9, s10, ⟨hn, (O 0 (by decide) (by decide)).trans hc, by rw [m137]; exact hch, ?_⟩, ⟨0, q, by omega, c2, v14, by rw [v1 13 (by decide) (by decide)]; exact w13, by rw [v1 13 (by decide) (by decide)]; exact w131, fun j hj => absurd hj (by omega)⟩, hG.cg hn (fun k hk => QR _ (by omega)) (fun k hk => congrFun (QR 151 (by omega)) _) (congrFun (QR 152 (by omega)) _) m137, hG'.cg hn (fun k hk => QR _ (by omega)) (fun k hk => congrFun (QR 151 (by omega)) _) (congrFun (QR 152 (by omega)) _) m137, hS', hB', ⟨?_, ?_⟩, hT'⟩
    · have P : ∀ b, 3 ≤ b → b ≤ 7 → m2 b = F_X5_become m 3 (g + 1) b := fun b g1 g2 => (v1 b (by omega) (by omega)).trans (r1 b (by omega) (by omega))
      refine k3.cg hn ?_ ?_ (fun k hk => ?_) (fun k hk => ?_) m137 (fun k hk => v138 k hk)
      · rw [P 3 (by omega) (by omega)]
        exact b2
      · rw [P 3 (by omega) (by omega)]
        exact b3
      · rw [P (3 + 1) (by omega) (by omega), P (3 + 2) (by omega) (by omega), P (3 + 3) (by omega) (by omega)]
        exact b4 k hk
      · rw [P (3 + 4) (by omega) (by omega)]
        exact b5 k hk
    · rw [v3, v1 123 (by decide) (by decide), w123]
    · rw [v3, k4]
      exact k5
theorem st_goBack {G : ax_G} {l : Launch} (p0 : Int32) : ST G l INV mX9_goBack mX10_goBack [.int p0] := by
  intro m hI
  obtain ⟨n, h⟩ := id hI
  by_cases c0 : p0 = 0
  · subst c0
    obtain ⟨r, d9, d10, m1, m2, a1, a2, a3, a4, a5⟩ := back_go (G := G) (l := l) h (g := 124) (g' := 130) (i := 0) (i' := 1) (by omega) h.2.2.1 h.2.2.2.1 rfl
    exact ⟨r, d9, d10, m1, m2, a1, a2, a3, a4, n, a5⟩
  · by_cases c1 : p0 = 1
    · subst c1
      obtain ⟨r, d9, d10, m1, m2, a1, a2, a3, a4, b1, b2, b3, b4, b5⟩ := back_go (G := G) (l := l) h (g := 130) (g' := 124) (i := 1) (i' := 0) (by omega) h.2.2.2.1 h.2.2.1 rfl
      exact ⟨r, d9, d10, m1, m2, a1, a2, a3, a4, n, b1, b2, b4, b3, b5⟩
    · have s9 := s_X9_goBack (G := G) (l := l) m p0
      have s10 := s_X10_goBack (G := G) (l := l) m p0
      rw [show F_X9_goBack m p0 = (-1000000001, m) by unfold F_X9_goBack; rw [if_neg c0, if_neg c1]] at s9
      rw [show F_X10_goBack m p0 = (-1000000001, m) by unfold F_X10_goBack; rw [if_pos (not01 c0 c1)]] at s10
      exact ⟨_, _, _, _, _, by omega, by omega, s9, s10, hI⟩
