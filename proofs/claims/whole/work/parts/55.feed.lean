theorem wi_iff {m : ax_Me} {p a b : Int32} : (¬ F_X9_isWithin m p a b = 0) ↔ a.toInt ≤ p.toInt ∧ p.toInt ≤ b.toInt := by
  unfold F_X9_isWithin
  by_cases c1 : p < a
  · rw [if_pos c1]
    have := Int32.lt_iff_toInt_lt.mp c1
    constructor
    · intro q
      exact absurd rfl q
    · intro q
      omega
  · rw [if_neg c1]
    have h1 := Int32.le_iff_toInt_le.mp (Int32.not_lt.mp c1)
    by_cases c2 : b < p
    · rw [if_pos c2]
      have := Int32.lt_iff_toInt_lt.mp c2
      constructor
      · intro q
        exact absurd rfl q
      · intro q
        omega
    · rw [if_neg c2]
      have h2 := Int32.le_iff_toInt_le.mp (Int32.not_lt.mp c2)
      exact ⟨fun _ => ⟨h1, h2⟩, fun _ => by decide⟩
theorem wi01 {m : ax_Me} {p a b : Int32} : F_X9_isWithin m p a b = 0 ∨ F_X9_isWithin m p a b = 1 := by
  unfold F_X9_isWithin
  split
  · exact Or.inl rfl
  · split
    · exact Or.inl rfl
    · exact Or.inr rfl
theorem wi_in {m m' : ax_Me} {p a b : Int32} {x y : Int64} (hx : a.toInt = x.toInt) (hy : b.toInt = y.toInt) : F_X9_isWithin m p a b = F_X10_in m' p.toInt64 x y := by
  have h1 := wi_iff (m := m) (p := p) (a := a) (b := b)
  have h2 := in_iff (mem := m') (x := p.toInt64) (a := x) (b := y)
  rw [Int32.toInt_toInt64, ← hx, ← hy] at h2
  rcases wi01 (m := m) (p := p) (a := a) (b := b) with c | c <;> rcases in01 (m := m') (x := p.toInt64) (a := x) (b := y) with d | d
  · rw [c, d]
  · exact absurd (h1.mpr (h2.mp (by rw [d]; decide))) (by rw [c]; decide)
  · exact absurd (h2.mpr (h1.mp (by rw [c]; decide))) (by rw [d]; decide)
  · rw [c, d]
theorem st_feed {G : ax_G} {l : Launch} (p0 : Int32) : ST G l INV mX9_feed mX10_feed [.int p0] := by
  intro m hI
  obtain ⟨n, h⟩ := id hI
  obtain ⟨hN, hP, h1, h2, hS, hB, hD, hT⟩ := id h
  obtain ⟨t, t1, t2, t3, t4, t5⟩ := id hT
  have ht : ∀ m' : ax_Me, m' 136 5 = nI t → (0 ≤ (m' 136 5).toInt ∧ (m' 136 5).toInt ≤ 240) := fun m' e => by
    rw [e, nI_toInt (by omega)]
    omega
  have ew : ∀ m' : ax_Me, F_X9_isWithin m p0 0 255 = F_X10_in m' p0.toInt64 0 255 := fun m' => wi_in (by decide) (by decide)
  by_cases c0 : F_X9_isWithin m p0 0 255 = 0
  · have e9 : F_X9_feed m p0 = (-1000000002, m) := by
      simp only [F_X9_feed, c0, F_X9_refusal]
      rfl
    have e10 : F_X10_feed m p0 = (-1000000002, m) := by
      simp only [F_X10_feed, ← ew m, c0]
      rfl
    have s9 := s_X9_feed (G := G) (l := l) m p0
    have s10 := s_X10_feed (G := G) (l := l) m p0 (ht m t2)
    rw [e9] at s9
    rw [e10] at s10
    exact ⟨_, _, _, _, _, by omega, by omega, s9, s10, hI⟩
  · have c1 : F_X9_isWithin m p0 0 255 = 1 := wi01.resolve_left c0
    have cp : vp_in p0 256 := by
      rw [vp_in_iff]
      have := wi_iff.mp c0
      have g1 : (0 : Int32).toInt = 0 := by decide
      have g2 : (255 : Int32).toInt = 255 := by decide
      omega
    by_cases c2 : t = 240
    · subst c2
      have e9 : F_X9_feed m p0 = (-1000000004, m) := by
        simp only [F_X9_feed, c1, F_X9_refusal, F_X8_hasRoom, t3, if_pos (show (240 : Int32) ≤ nI 240 by decide)]
        rfl
      have e10 : F_X10_feed m p0 = (-1000000004, m) := by
        simp only [F_X10_feed, ← ew m, c1, t2]
        rfl
      have s9 := s_X9_feed (G := G) (l := l) m p0
      have s10 := s_X10_feed (G := G) (l := l) m p0 (ht m t2)
      rw [e9] at s9
      rw [e10] at s10
      exact ⟨_, _, _, _, _, by omega, by omega, s9, s10, hI⟩
    · have e9 : F_X9_feed m p0 = (nI (t + 1), ax_u (ax_u m 2 t p0) 1 1 (nI (t + 1))) := by
        have g0 : ¬ (240 : Int32) ≤ nI t := nI_ge (b := 240) (by omega) (by decide)
        simp only [F_X9_feed, c1, F_X9_refusal, F_X8_hasRoom, t3, if_neg g0, F_X8_append, nI_clamp (show t < 2 ^ 31 by omega)]
        have w : F_X9_isWithin m (nI t) 0 239 = 1 := wi1 (N := 239) (by decide) rfl (by omega)
        simp [ax_u, t3, nI_clamp (show t < 2 ^ 31 by omega), nI_1, w]
      generalize em : ax_u (ax_u m 2 t p0) 1 1 (nI (t + 1)) = m1 at e9
      have r1 : ∀ q, q ≠ 1 → q ≠ 2 → m1 q = m q := fun q q1 q2 => by rw [← em, u_row q1, u_row q2]
      have i5 : m1 136 5 = nI t := by rw [r1 136 (by decide) (by decide)]; exact t2
      have e10 : F_X10_feed m1 p0 = (nI (t + 1), ax_u (ax_u m1 139 t p0) 136 5 (nI (t + 1))) := by
        have g0 : ¬ nI t = (240 : Int32) := fun q => c2 ((nI_eq (b := 240) (by omega) (by decide)).mp q)
        simp only [F_X10_feed, ← ew m1, c1, i5, if_neg g0, nI_clamp (show t < 2 ^ 31 by omega)]
        simp [ax_u, i5, nI_1]
      have s9 := s_X9_feed (G := G) (l := l) m p0
      have s10 := s_X10_feed (G := G) (l := l) m1 p0 (ht m1 i5)
      rw [e9] at s9
      rw [e10] at s10
      dsimp only at s9 s10
      refine ⟨_, _, _, _, _, by omega, by omega, s9, s10, n, ?_⟩
      generalize em2 : ax_u (ax_u m1 139 t p0) 136 5 (nI (t + 1)) = m2
      have r2 : ∀ q, q ≠ 1 → q ≠ 2 → q ≠ 136 → q ≠ 139 → m2 q = m q := fun q q1 q2 q3 q4 => by rw [← em2, u_row q3, u_row q4, r1 q q1 q2]
      have o2 : ∀ j, j ≠ 5 → m2 136 j = m 136 j := fun j q => by rw [← em2, u_off q, u_row (by decide), r1 136 (by decide) (by decide)]
      have w1 : m2 1 = ax_u m 1 1 (nI (t + 1)) 1 := by
        rw [← em2, u_row (by decide), u_row (by decide), ← em]
        funext j
        simp [ax_u]
      have w2 : m2 2 = ax_u m 2 t p0 2 := by rw [← em2, u_row (by decide), u_row (by decide), ← em, u_row (by decide)]
      have w139 : m2 139 = ax_u m1 139 t p0 139 := by rw [← em2, u_row (by decide)]
      refine h.rest (fun q q1 q2 _ _ _ _ _ _ _ _ q3 q4 _ _ _ _ _ _ => r2 q q1 q2 q3 q4) (fun j q _ _ => o2 j q) (hS.congr (fun k _ _ => r2 k (by omega) (by omega) (by omega) (by omega)) (fun k _ _ => r2 k (by omega) (by omega) (by omega) (by omega)) (o2 _ (by decide)) (congrFun (r2 _ (by decide) (by decide) (by decide) (by decide)) _)) (hB.congr (r2 _ (by decide) (by decide) (by decide) (by decide)) (r2 _ (by decide) (by decide) (by decide) (by decide)) (r2 _ (by decide) (by decide) (by decide) (by decide)) (r2 _ (by decide) (by decide) (by decide) (by decide)) (o2 _ (by decide)) (congrFun (r2 _ (by decide) (by decide) (by decide) (by decide)) _)) ⟨t + 1, by omega, ?_, ?_, ?_, fun k hk => ?_⟩
      · rw [← em2, ax_u_self]
      · rw [w1, ax_u_self]
      · rw [w1, u_off (by decide), o2 6 (by decide)]
        exact t4
      · rw [w2, w139]
        by_cases hkb : k = t
        · subst hkb
          rw [ax_u_self, ax_u_self]
          exact ⟨rfl, cp⟩
        · rw [u_off hkb, u_off hkb, r1 139 (by decide) (by decide)]
          exact t5 k (by omega)
