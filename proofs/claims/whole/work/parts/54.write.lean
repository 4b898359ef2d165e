/-! ===== writing into the book, feeding a letter ===== -/
theorem wi1 {m : ax_Me} {k N : Nat} {x : Int32} (hN : N < 2 ^ 31) (hx : x = nI N) (h : k ≤ N) : F_X9_isWithin m (nI k) 0 x = 1 := by
  unfold F_X9_isWithin
  rw [hx, if_neg (nI_pos (by omega)), if_neg (nI_nlt h (by omega))]
theorem st_write {G : ax_G} {l : Launch} (p0 p1 : Int32) : ST G l INV mX9_write mX10_write [.int p0, .int p1] := by
  intro m hI
  obtain ⟨n, h⟩ := id hI
  obtain ⟨⟨hn, hc, hch, hp⟩, hP, h1, h2, hS, hB, hD, hT⟩ := id h
  obtain ⟨b, b1, b2, b3, b4⟩ := id hB
  have hmb : mb m := ⟨by rw [b2]; exact nI_pos (by omega), by rw [b2]; exact nI_le (b := 15) b1 (by decide)⟩
  by_cases c0 : vp_in p0 n
  · by_cases c1 : vp_in p1 n
    · by_cases c2 : b = 15
      · subst c2
        have e9 : F_X9_write m p0 p1 = (-1000000004, m) := by
          simp only [F_X9_write, has1 hn hp.1 c0, has1 hn hp.1 c1, F_X0_hasRoom, b3, if_pos (show (15 : Int32) ≤ nI 15 by decide), F_X9_refusal]
          rfl
        have e10 : F_X10_write m p0 p1 = (-1000000004, m) := by
          simp only [F_X10_write, isP1 hn hc c0, isP1 hn hc c1, b2]
          rfl
        have s9 := s_X9_write (G := G) (l := l) m p0 p1
        have s10 := s_X10_write (G := G) (l := l) m p0 p1 hmb
        rw [e9] at s9
        rw [e10] at s10
        exact ⟨_, _, _, _, _, by omega, by omega, s9, s10, hI⟩
      · have e9 : F_X9_write m p0 p1 = (nI (b + 1), ax_u (ax_u (ax_u m 121 b p0) 122 b p1) 120 2 (nI (b + 1))) := by
          have g0 : ¬ (15 : Int32) ≤ nI b := nI_ge (b := 15) (by omega) (by decide)
          simp only [F_X9_write, has1 hn hp.1 c0, has1 hn hp.1 c1, F_X0_hasRoom, b3, if_neg g0, F_X9_refusal, F_X0_add, nI_clamp (show b < 2 ^ 31 by omega)]
          have w : F_X9_isWithin m (nI b) 0 14 = 1 := wi1 (N := 14) (by decide) rfl (by omega)
          simp [ax_u, b3, nI_clamp (show b < 2 ^ 31 by omega), nI_1, w]
        have hmb1 : mb (ax_u (ax_u (ax_u m 121 b p0) 122 b p1) 120 2 (nI (b + 1))) := hmb
        generalize em : ax_u (ax_u (ax_u m 121 b p0) 122 b p1) 120 2 (nI (b + 1)) = m1 at e9 hmb1
        have r1 : ∀ q, q ≠ 120 → q ≠ 121 → q ≠ 122 → m1 q = m q := fun q q1 q2 q3 => by rw [← em, u_row q1, u_row q3, u_row q2]
        have i0 : m1 136 0 = nI n := by rw [r1 136 (by decide) (by decide) (by decide)]; exact hc
        have i22 : m1 136 22 = nI b := by rw [r1 136 (by decide) (by decide) (by decide)]; exact b2
        have e10 : F_X10_write m1 p0 p1 = (nI (b + 1), ax_u (ax_u (ax_u m1 149 b p0) 150 b p1) 136 22 (nI (b + 1))) := by
          have g0 : ¬ nI b = (15 : Int32) := fun q => c2 ((nI_eq (b := 15) (by omega) (by decide)).mp q)
          simp only [F_X10_write, isP1 hn i0 c0, isP1 hn i0 c1, i22, if_neg g0, nI_clamp (show b < 2 ^ 31 by omega)]
          simp [ax_u, i22, nI_clamp (show b < 2 ^ 31 by omega), nI_1]
        have s9 := s_X9_write (G := G) (l := l) m p0 p1
        have s10 := s_X10_write (G := G) (l := l) m1 p0 p1 hmb1
        rw [e9] at s9
        rw [e10] at s10
        dsimp only at s9 s10
        refine ⟨_, _, _, _, _, by omega, by omega, s9, s10, n, ?_⟩
        generalize em2 : ax_u (ax_u (ax_u m1 149 b p0) 150 b p1) 136 22 (nI (b + 1)) = m2
        have r2 : ∀ q, q ≠ 120 → q ≠ 121 → q ≠ 122 → q ≠ 136 → q ≠ 149 → q ≠ 150 → m2 q = m q := fun q q1 q2 q3 q4 q5 q6 => by rw [← em2, u_row q4, u_row q6, u_row q5, r1 q q1 q2 q3]
        have o2 : ∀ j, j ≠ 22 → m2 136 j = m 136 j := fun j q => by rw [← em2, u_off q, u_row (by decide), u_row (by decide), r1 136 (by decide) (by decide) (by decide)]
        refine h.rest (fun q _ _ _ _ _ _ _ q1 q2 q3 q4 _ _ _ _ _ q5 q6 => r2 q q1 q2 q3 q4 q5 q6) (fun j _ _ q => o2 j q) (hS.congr (fun k _ _ => r2 k (by omega) (by omega) (by omega) (by omega) (by omega) (by omega)) (fun k _ _ => r2 k (by omega) (by omega) (by omega) (by omega) (by omega) (by omega)) (o2 _ (by decide)) (congrFun (r2 _ (by decide) (by decide) (by decide) (by decide) (by decide) (by decide)) _)) ⟨b + 1, by omega, ?_, ?_, fun k hk => ?_⟩ (hT.congr (r2 _ (by decide) (by decide) (by decide) (by decide) (by decide) (by decide)) (r2 _ (by decide) (by decide) (by decide) (by decide) (by decide) (by decide)) (o2 _ (by decide)) (o2 _ (by decide)) (congrFun (r2 _ (by decide) (by decide) (by decide) (by decide) (by decide) (by decide)) _) (congrFun (r2 _ (by decide) (by decide) (by decide) (by decide) (by decide) (by decide)) _))
        · rw [← em2, ax_u_self]
        · rw [← em2, u_row (by decide), u_row (by decide), u_row (by decide), ← em, ax_u_self]
        · have w149 : m2 149 = ax_u m1 149 b p0 149 := by rw [← em2, u_row (by decide), u_row (by decide)]
          have w150 : m2 150 = ax_u (ax_u m1 149 b p0) 150 b p1 150 := by rw [← em2, u_row (by decide)]
          have w121 : m2 121 = ax_u m 121 b p0 121 := by rw [← em2, u_row (by decide), u_row (by decide), u_row (by decide), ← em, u_row (by decide), u_row (by decide)]
          have w122 : m2 122 = ax_u (ax_u m 121 b p0) 122 b p1 122 := by rw [← em2, u_row (by decide), u_row (by decide), u_row (by decide), ← em, u_row (by decide)]
          rw [w149, w150, w121, w122]
          by_cases hkb : k = b
          · subst hkb
            rw [ax_u_self, ax_u_self, ax_u_self, ax_u_self]
            exact ⟨⟨rfl, rfl⟩, c0⟩
          · rw [u_off hkb, u_off hkb, u_off hkb, u_off hkb, u_row (by decide), u_row (by decide), r1 149 (by decide) (by decide) (by decide), r1 150 (by decide) (by decide) (by decide)]
            exact b4 k (by omega)
    · have e9 : F_X9_write m p0 p1 = (-1000000001, m) := by
        simp only [F_X9_write, has1 hn hp.1 c0, has0 hn hp.1 c1, F_X9_refusal]
        rfl
      have e10 : F_X10_write m p0 p1 = (-1000000001, m) := by
        simp only [F_X10_write, isP1 hn hc c0, isP0 hn hc c1]
        rfl
      have s9 := s_X9_write (G := G) (l := l) m p0 p1
      have s10 := s_X10_write (G := G) (l := l) m p0 p1 hmb
      rw [e9] at s9
      rw [e10] at s10
      exact ⟨_, _, _, _, _, by omega, by omega, s9, s10, hI⟩
  · have e9 : F_X9_write m p0 p1 = (-1000000001, m) := by
      simp only [F_X9_write, has0 hn hp.1 c0, F_X9_refusal]
      rfl
    have e10 : F_X10_write m p0 p1 = (-1000000001, m) := by
      simp only [F_X10_write, isP0 hn hc c0]
      rfl
    have s9 := s_X9_write (G := G) (l := l) m p0 p1
    have s10 := s_X10_write (G := G) (l := l) m p0 p1 hmb
    rw [e9] at s9
    rw [e10] at s10
    exact ⟨_, _, _, _, _, by omega, by omega, s9, s10, hI⟩
