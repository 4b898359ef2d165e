/-! ===== mark, parade, year ===== -/
theorem isP_cg {m m1 : ax_Me} (e : m1 136 = m 136) (p : Int32) : F_X10_isPerson m1 p = F_X10_isPerson m p := by
  unfold F_X10_isPerson
  rw [e]
  rfl
theorem rr_cg {m m1 : ax_Me} (e : m1 136 = m 136) (p0 p1 p2 : Int32) : F_X10_rowRefused m1 p0 p1 p2 = F_X10_rowRefused m p0 p1 p2 := by
  unfold F_X10_rowRefused F_X10_areTwo F_X10_isRow F_X10_isPerson
  rw [e]
  rfl
theorem un_cg {m m1 : ax_Me} (e : m1 138 = m 138) (p0 p1 : Int32) : F_X10_unknownTo m1 p0 p1 = F_X10_unknownTo m p0 p1 := by
  unfold F_X10_unknownTo F_X10_remembered
  rw [e]
theorem pickBy_cg {m m1 : ax_Me} (e0 : m1 136 0 = m 136 0) (e : m1 138 = m 138) (x r : Int32) : F_X10_pickBy m1 x r = F_X10_pickBy m x r := by
  unfold F_X10_pickBy
  rw [e0]
  refine congrArg Prod.fst (ax_it_congr _ _ _ (fun k s _ _ => ?_))
  obtain ⟨s0, s1⟩ := s
  simp only [f_X10_pickBy_9]
  rw [e]
  rfl
theorem st_mark {G : ax_G} {l : Launch} (p0 p1 : Int32) : ST G l INV mX9_mark mX10_mark [.int p0, .int p1] := by
  intro m hI
  obtain ⟨n, h⟩ := id hI
  obtain ⟨hn, hc, hch, hp⟩ := id h.1
  obtain ⟨x1, x2, x3, x4⟩ := h.px
  have ew : ∀ m' : ax_Me, F_X9_isWithin m p1 0 7 = F_X10_in m' p1.toInt64 0 7 := fun m' => wi_in (by decide) (by decide)
  have s9 := s_X9_mark (G := G) (l := l) m p0 p1 x1
  by_cases c : vp_in p0 n
  · by_cases d : F_X9_isWithin m p1 0 7 = 0
    · have s10 := s_X10_mark (G := G) (l := l) m p0 p1 hI.mp x2
      rw [show F_X9_mark m p0 p1 = (-1000000002, m) by unfold F_X9_mark; rw [has1 hn hp.1 c, d]; simp [F_X9_refusal]] at s9
      rw [show F_X10_mark m p0 p1 = (-1000000002, m) by unfold F_X10_mark; rw [isP1 hn hc c, ← ew m, d]; simp] at s10
      exact ⟨_, _, _, _, _, by omega, by omega, s9, s10, hI⟩
    · have d1 := wi01.resolve_left d
      have cp : vp_in p1 8 := by
        rw [vp_in_iff]
        have := wi_iff.mp d
        have g1 : (0 : Int32).toInt = 0 := by decide
        have g2 : (7 : Int32).toInt = 7 := by decide
        omega
      obtain ⟨k, hk, rfl⟩ := vp_in_of cp (by omega)
      have hh := has1 hn hp.1 c
      have hq := isP1 hn hc c
      obtain ⟨i, hi, rfl⟩ := vp_in_of c (by omega)
      obtain ⟨_, _, _, yp⟩ := id x4
      have eP : F_X4_push m 3 138 = m 138 := x3 138 (by omega)
      have hy : vp_in (m 138 i ^^^ (1 <<< (nI k &&& 31))) 256 := xor_in (hp.2.2.2.2.1 i (by omega)) (one_in hk)
      have e4 : F_X4_push m 3 (3 + 1) i = m 138 i := by rw [(yp.2.2.1 i hi).1, eP]
      have eL : F_X5_flip (F_X4_push m 3) 3 (nI i) (nI k) = ax_u (F_X4_push m 3) 4 i (m 138 i ^^^ (1 <<< (nI k &&& 31))) := by
        unfold F_X5_flip
        rw [has1 hn yp.1 (vp_in_nI hi (by omega)), if_neg (by decide), nI_clamp (show i < 2 ^ 31 by omega), e4]
      have eK : F_X5_marksOf (ax_u (F_X4_push m 3) 4 i (m 138 i ^^^ (1 <<< (nI k &&& 31)))) 3 (nI i) = m 138 i ^^^ (1 <<< (nI k &&& 31)) := by
        unfold F_X5_marksOf
        rw [has1 hn (by rw [u_row (show 3 ≠ 4 by decide)]; exact yp.1) (vp_in_nI hi (by omega)), if_neg (by decide), nI_clamp (show i < 2 ^ 31 by omega)]
        exact ax_u_self
      have e9 : F_X9_mark m (nI i) (nI k) = (m 138 i ^^^ (1 <<< (nI k &&& 31)), ax_u (F_X4_push m 3) 4 i (m 138 i ^^^ (1 <<< (nI k &&& 31)))) := by
        unfold F_X9_mark
        rw [hh, d1, eL, eK]
        simp [F_X9_refusal]
      rw [e9] at s9
      dsimp only at s9
      have r1 : ∀ b, b ≠ 4 → ax_u (F_X4_push m 3) 4 i (m 138 i ^^^ (1 <<< (nI k &&& 31))) b = F_X4_push m 3 b := fun b hb => u_row hb
      have w4 : ax_u (F_X4_push m 3) 4 i (m 138 i ^^^ (1 <<< (nI k &&& 31))) 4 = upd (m 4) i (m 138 i ^^^ (1 <<< (nI k &&& 31))) := by
        rw [ax_u_row, x3 4 (by omega)]
      generalize ax_u (F_X4_push m 3) 4 i (m 138 i ^^^ (1 <<< (nI k &&& 31))) = m1 at s9 r1 w4
      have R : ∀ b, b ≠ 4 → (b < 13 ∨ 115 ≤ b) → m1 b = m b := fun b g1 g2 => (r1 b g1).trans (x3 b g2)
      obtain ⟨y1, y2, y3, y4⟩ := h.rx (R 136 (by decide) (by omega))
      have s10 := s_X10_mark (G := G) (l := l) m1 (nI i) (nI k) y1 y2
      have f138 : F_X10_remember m1 138 = m 138 := (y3 138 (by decide) (by decide)).trans (R 138 (by decide) (by omega))
      have e10 : F_X10_mark m1 (nI i) (nI k) = (m 138 i ^^^ (1 <<< (nI k &&& 31)), ax_u (F_X10_remember m1) 138 i (m 138 i ^^^ (1 <<< (nI k &&& 31)))) := by
        unfold F_X10_mark
        rw [isP_cg (R 136 (by decide) (by omega)), hq, ← ew m1, d1, nI_clamp (show i < 2 ^ 31 by omega), f138, ax_u_self]
        simp
      rw [e10] at s10
      dsimp only at s10
      refine ⟨_, _, _, _, _, by omega, by omega, s9, s10, n, h.done0 (m1 := m1) (fun b hb => r1 b (by omega)) (fun b hb => u_row hb) ?_⟩
      have Q : ∀ b, b ≠ 4 → (b < 13 ∨ 115 ≤ b) → b ≠ 136 → b ≠ 138 → b ≠ 143 → ax_u (F_X10_remember m1) 138 i (m 138 i ^^^ (1 <<< (nI k &&& 31))) b = m b := fun b g1 g2 g3 g4 g5 => by rw [u_row g4, y3 b g3 g5, R b g1 g2]
      refine hp.mark hn hi hy (Q _ (by decide) (by omega) (by decide) (by decide) (by decide)) ?_ (Q _ (by decide) (by omega) (by decide) (by decide) (by decide)) (Q _ (by decide) (by omega) (by decide) (by decide) (by decide)) (Q _ (by decide) (by omega) (by decide) (by decide) (by decide)) (Q _ (by decide) (by omega) (by decide) (by decide) (by decide)) ?_
      · rw [u_row (by decide), y3 4 (by decide) (by decide), w4]
      · rw [ax_u_row, f138]
  · have s10 := s_X10_mark (G := G) (l := l) m p0 p1 hI.mp x2
    rw [show F_X9_mark m p0 p1 = (-1000000001, m) by unfold F_X9_mark; rw [has0 hn hp.1 c]; simp [F_X9_refusal]] at s9
    rw [show F_X10_mark m p0 p1 = (-1000000001, m) by unfold F_X10_mark; rw [isP0 hn hc c]; simp] at s10
    exact ⟨_, _, _, _, _, by omega, by omega, s9, s10, hI⟩
theorem st_parade {G : ax_G} {l : Launch} (p0 p1 p2 : Int32) : ST G l INV mX9_parade mX10_parade [.int p0, .int p1, .int p2] := by
  intro m hI
  obtain ⟨n, h⟩ := id hI
  obtain ⟨hn, hc, hch, hp⟩ := id h.1
  obtain ⟨x1, x2, x3, x4⟩ := h.px
  have s9 := s_X9_parade (G := G) (l := l) m p0 p1 p2 x1
  have fin : ∀ r, F_X9_parade m p0 p1 p2 = (r, m) → F_X10_parade m p0 p1 p2 = (r, m) → ∃ (r : Int32) (d9 d10 : Nat) (m1 m2 : ax_Me), d9 ≤ 7 ∧ d10 ≤ 7 ∧ AD G l d9 mX9_parade (.ref 0 :: [.int p0, .int p1, .int p2]) m (some (.int r)) m1 ∧ AD G l d10 mX10_parade (.ref 136 :: [.int p0, .int p1, .int p2]) m1 (some (.int r)) m2 ∧ INV m2 := fun r e9 e10 => by
    have s10 := s_X10_parade (G := G) (l := l) m p0 p1 p2 hI.mp x2
    rw [e9] at s9
    rw [e10] at s10
    exact ⟨_, _, _, _, _, by omega, by omega, s9, s10, hI⟩
  by_cases c : F_X9_isAsked m p0 p1 p2 = 0
  · have e := asked0 h.1 c
    refine fin (-1000000001) ?_ ?_
    · unfold F_X9_parade
      rw [c]
      simp [F_X9_refusal]
    · unfold F_X10_parade
      rw [e]
      simp
  · obtain ⟨i, j, k, hi, hj, hij, hk, rfl, rfl, rfl, c1, c2, e⟩ := asked1 h.1 c
    have hk8 : k < 256 := Nat.lt_of_lt_of_le hk (pow_le8 hn).1
    have hl := long_eq (m := m) (vp_in_nI hk8 (by omega))
    by_cases d : 2 ≤ F_X10_bits m (nI k)
    · rw [if_pos d] at e hl
      by_cases q : m 138 (16 + 8 * i + j) < 0
      · obtain ⟨k1, k2⟩ := kn0 h.1 hi hj q
        refine fin (-1000000003) ?_ ?_
        · unfold F_X9_parade
          rw [c1, hl, k1]
          simp [F_X9_refusal]
        · unfold F_X10_parade
          rw [e, k2]
          simp
      · obtain ⟨k1, k2, k3, k4, k5⟩ := kn1 h.1 hi hj q
        obtain ⟨_, _, _, yp⟩ := id x4
        have eP : F_X4_push m 3 138 = m 138 := x3 138 (by omega)
        have eM : F_X5_memoryOf (F_X4_push m 3) 3 (nI i) (nI j) = m 138 (16 + 8 * i + j) := by rw [memory_v hn yp hi hj, eP]
        have ht : ∃ t, t < n ∧ F_X10_pickBy m (m 138 (16 + 8 * i + j)) (nI k) = nI t := by
          rw [pick_def h.1.zM]
          rcases pick_fold h.1.zM k5 (nI k) with ⟨-, g⟩ | ⟨t, t1, t2, -⟩
          · obtain ⟨o, o1, o2, o3⟩ := two_tb hk8 (show j < 8 by omega) d
            exact absurd ((has_tb hk8 o1).mpr o3) (g o (tb_lt hk o3))
          · exact ⟨t, t1, t2⟩
        obtain ⟨t, ht1, ht2⟩ := ht
        have eK : F_X2_pick (F_X4_push m 3) 3 (m 138 (16 + 8 * i + j)) (nI k) = nI t := by
          rw [pick_eq x4 k5, pickBy_cg (by rw [x3 136 (by omega)]) eP, ht2]
        have eL : F_X5_identify (F_X4_push m 3) 3 (nI t) (nI j) = ax_u (F_X4_push m 3) 6 t (nI j) := by
          unfold F_X5_identify
          rw [has1 hn yp.1 (vp_in_nI ht1 (by omega)), if_neg (by decide), nI_clamp (show t < 2 ^ 31 by omega)]
        have e9 : F_X9_parade m (nI i) (nI j) (nI k) = (nI t, ax_u (F_X4_push m 3) 6 t (nI j)) := by
          unfold F_X9_parade
          rw [c1, hl, k1, eM, eK, eL]
          simp [F_X9_refusal]
        rw [e9] at s9
        dsimp only at s9
        have r1 : ∀ b, b ≠ 6 → ax_u (F_X4_push m 3) 6 t (nI j) b = F_X4_push m 3 b := fun b hb => u_row hb
        have w6 : ax_u (F_X4_push m 3) 6 t (nI j) 6 = upd (m 6) t (nI j) := by
          rw [ax_u_row, x3 6 (by omega)]
        generalize ax_u (F_X4_push m 3) 6 t (nI j) = m1 at s9 r1 w6
        have R : ∀ b, b ≠ 6 → (b < 13 ∨ 115 ≤ b) → m1 b = m b := fun b g1 g2 => (r1 b g1).trans (x3 b g2)
        obtain ⟨y1, y2, y3, y4⟩ := h.rx (R 136 (by decide) (by omega))
        have s10 := s_X10_parade (G := G) (l := l) m1 (nI i) (nI j) (nI k) y1 y2
        have f138 : F_X10_remember m1 138 = m 138 := (y3 138 (by decide) (by decide)).trans (R 138 (by decide) (by omega))
        have e10 : F_X10_parade m1 (nI i) (nI j) (nI k) = (nI t, ax_u (F_X10_remember m1) 138 (8 + t) (nI j)) := by
          unfold F_X10_parade
          rw [rr_cg (R 136 (by decide) (by omega)), un_cg (R 138 (by decide) (by omega)), e, k2, rem_v (by omega) (by omega), f138, pickBy_cg (y4 0 (by decide)) f138, ht2, ix8 (by omega)]
          simp
        rw [e10] at s10
        dsimp only at s10
        refine ⟨_, _, _, _, _, by omega, by omega, s9, s10, n, h.done0 (m1 := m1) (fun b hb => r1 b (by omega)) (fun b hb => u_row hb) ?_⟩
        have Q : ∀ b, b ≠ 6 → (b < 13 ∨ 115 ≤ b) → b ≠ 136 → b ≠ 138 → b ≠ 143 → ax_u (F_X10_remember m1) 138 (8 + t) (nI j) b = m b := fun b g1 g2 g3 g4 g5 => by rw [u_row g4, y3 b g3 g5, R b g1 g2]
        refine hp.ident hn ht1 (vp_in_nI hj (by omega)) (Q _ (by decide) (by omega) (by decide) (by decide) (by decide)) (Q _ (by decide) (by omega) (by decide) (by decide) (by decide)) (Q _ (by decide) (by omega) (by decide) (by decide) (by decide)) ?_ (Q _ (by decide) (by omega) (by decide) (by decide) (by decide)) (Q _ (by decide) (by omega) (by decide) (by decide) (by decide)) ?_
        · rw [u_row (by decide), y3 6 (by decide) (by decide), w6]
        · rw [ax_u_row, f138]
    · rw [if_neg d] at e hl
      refine fin (-1000000002) ?_ ?_
      · unfold F_X9_parade
        rw [c1, hl]
        simp [F_X9_refusal]
      · unfold F_X10_parade
        rw [e]
        simp
/-- years refused alike -/
theorem years_eq {n : Nat} {m : ax_Me} (h : iN n m) (p0 : Int32) : F_X9_refusalOfYears m p0 = F_X10_yearsRefused m p0 := by
  obtain ⟨hn, hc, hch, hp⟩ := id h
  unfold F_X9_refusalOfYears F_X10_yearsRefused
  rw [← wi_in (m := m) (m' := m) (p := p0) (a := 1) (b := 60) (x := 1) (y := 60) (by decide) (by decide), hp.1, hp.2.1, hc, show (80 : Int32).toNatClampNeg = 80 from rfl]
  by_cases d : F_X9_isWithin m p0 1 60 = 0
  · rw [d]
    simp [F_X9_refusal]
  · have d1 := wi01.resolve_left d
    rw [d1]
    by_cases z : n = 0
    · subst z
      rw [if_pos (show nI 0 ≤ (0 : Int32) by decide), if_pos (show nI 0 = (0 : Int32) from rfl)]
      simp [F_X9_refusal]
    · rw [if_neg (nI_nle (by omega) (by omega)), if_neg (nI_ne0 (by omega) (by omega))]
      by_cases q : 9000 < m 138 80
      · rw [if_pos q, if_neg (Int32.not_le.mpr q)]
        simp [F_X9_refusal]
      · rw [if_neg q, if_pos (Int32.not_lt.mp q)]
        simp [F_X9_refusal]
theorem years_ok {n : Nat} {m : ax_Me} (h : iN n m) {p0 : Int32} (e : F_X10_yearsRefused m p0 = 0) : ∃ N Y, 1 ≤ N ∧ N ≤ 60 ∧ p0 = nI N ∧ Y ≤ 9000 ∧ m 138 80 = nI Y ∧ 0 < n := by
  obtain ⟨hn, hc, hch, hp⟩ := id h
  unfold F_X10_yearsRefused at e
  rw [show (80 : Int32).toNatClampNeg = 80 from rfl, hc] at e
  by_cases d : F_X10_in m p0.toInt64 1 60 = 0
  · rw [if_pos d] at e
    exact absurd e (by decide)
  · rw [if_neg d] at e
    have d2 := in_iff.mp d
    rw [Int32.toInt_toInt64] at d2
    have d3 : (1 : Int) ≤ p0.toInt ∧ p0.toInt ≤ 60 := d2
    by_cases z : nI n = 0
    · rw [if_pos z] at e
      exact absurd e (by decide)
    · rw [if_neg z] at e
      by_cases q : m 138 80 ≤ 9000
      · obtain ⟨N, hN, rfl⟩ := vp_in_of (x := p0) (n := 61) (vp_in_iff.mpr (by omega)) (by omega)
        rw [nI_toInt (by omega)] at d3
        have g := toI_of hp.2.2.2.2.2.2.2.2
        have g2 := Int32.le_iff_toInt_le.mp q
        have g3 : (9000 : Int32).toInt = 9000 := by decide
        obtain ⟨Y, hY, eY⟩ := vp_in_of (x := m 138 80) (n := 9001) (vp_in_iff.mpr (by omega)) (by omega)
        refine ⟨N, Y, by omega, by omega, rfl, by omega, eY, ?_⟩
        refine Nat.pos_of_ne_zero (fun q => z ?_)
        rw [q]
        rfl
      · rw [if_neg q] at e
        exact absurd e (by decide)
theorem st_year {G : ax_G} {l : Launch} (p0 : Int32) : ST G l INV mX9_year mX10_year [.int p0] := by
  intro m hI
  obtain ⟨n, h⟩ := id hI
  obtain ⟨hn, hc, hch, hp⟩ := id h.1
  obtain ⟨x1, x2, x3, x4⟩ := h.px
  have s9 := s_X9_year (G := G) (l := l) m p0 x1
  by_cases c : F_X10_yearsRefused m p0 = 0
  · obtain ⟨N, Y, hN1, hN, rfl, hY, eY, hn0⟩ := years_ok h.1 c
    obtain ⟨_, _, _, yp⟩ := id x4
    obtain ⟨y1, y2, y3, y4⟩ := py_all (m := F_X4_push m 3) (a := 3) (n := n) hn yp.1 hN
    have e9 : F_X9_year m (nI N) = (F_X5_passYears (F_X4_push m 3) 3 (nI N) 3 5, F_X5_passYears (F_X4_push m 3) 3 (nI N)) := by
      unfold F_X9_year
      rw [years_eq h.1, if_pos c]
    have i5 : F_X5_passYears (F_X4_push m 3) 3 (nI N) 3 5 = nI (Y + N) := by
      rw [y3, yp.2.1, x3 138 (by omega), eY, nI_add]
    have i4 : ∀ k, k < n → F_X5_passYears (F_X4_push m 3) 3 (nI N) 4 k = gy (m 137 k) (m 138 80) (m 138 k) k N := fun k hk => by
      have a := yp.2.2.1 k hk
      rw [x3 138 (by omega), x3 137 (by omega)] at a
      rw [y4 k hk, a.1, a.2.1, yp.2.1, x3 138 (by omega)]
    have i3 : ∀ k, k ≠ 5 → F_X5_passYears (F_X4_push m 3) 3 (nI N) 3 k = m 3 k := fun k hk => by rw [y2 k hk, x3 3 (by omega)]
    rw [e9] at s9
    dsimp only at s9
    generalize F_X5_passYears (F_X4_push m 3) 3 (nI N) = m1 at s9 y1 i3 i4 i5
    have R : ∀ b, b ≠ 3 → b ≠ 4 → (b < 13 ∨ 115 ≤ b) → m1 b = m b := fun b g1 g2 g3 => (y1 b g1 g2).trans (x3 b g3)
    obtain ⟨z1, z2, z3, z4⟩ := h.rx (R 136 (by decide) (by decide) (by omega))
    have s10 := s_X10_year (G := G) (l := l) m1 (nI N) z1 z2
    have f138 : F_X10_remember m1 138 = m 138 := (z3 138 (by decide) (by decide)).trans (R 138 (by decide) (by decide) (by omega))
    have f137 : F_X10_remember m1 137 = m 137 := (z3 137 (by decide) (by decide)).trans (R 137 (by decide) (by decide) (by omega))
    have ec : F_X10_yearsRefused m1 (nI N) = 0 := by
      rw [← c]
      unfold F_X10_yearsRefused
      rw [R 136 (by decide) (by decide) (by omega), R 138 (by decide) (by decide) (by omega)]
      rfl
    obtain ⟨t1, t2, t3, t4⟩ := ry_all (m := F_X10_remember m1) (n := n) hn ((z4 0 (by decide)).trans hc) (F_X10_remember m1) (nI N) 0 N
    rw [f138, f137] at t2
    rw [f138] at t3 t4
    have e10 : F_X10_year m1 (nI N) = (nI (Y + N), ax_it (f_X10_year_18 (F_X10_remember m1) (nI N) 0) N 0 (F_X10_remember m1)) := by
      unfold F_X10_year
      rw [ec, if_pos rfl, nI_clamp (show N < 2 ^ 31 by omega), show (80 : Int32).toNatClampNeg = 80 from rfl, t4, eY, nI_add]
    rw [e10] at s10
    rw [i5] at s9
    dsimp only at s10
    generalize ax_it (f_X10_year_18 (F_X10_remember m1) (nI N) 0) N 0 (F_X10_remember m1) = m2 at s10 t1 t2 t3 t4
    refine ⟨_, _, _, _, _, by omega, by omega, s9, s10, n, h.done0 (m1 := m1) (fun b hb => y1 b (by omega) (by omega)) t1 ?_⟩
    have Q : ∀ b, b ≠ 3 → b ≠ 4 → (b < 13 ∨ 115 ≤ b) → b ≠ 136 → b ≠ 138 → b ≠ 143 → m2 b = m b := fun b g1 g2 g3 g4 g5 g6 => by rw [t1 b g5, z3 b g4 g6, R b g1 g2 g3]
    have Q3 : m2 3 = m1 3 := by rw [t1 3 (by decide), z3 3 (by decide) (by decide)]
    have Q4 : m2 4 = m1 4 := by rw [t1 4 (by decide), z3 4 (by decide) (by decide)]
    have v80 : m2 138 80 = nI (Y + N) := by rw [t4, eY, nI_add]
    obtain ⟨p1, p2, p3, p4, g1, g2, g3, g4, g5⟩ := hp
    refine ⟨?_, ?_, fun k hk => ?_, fun a b ha hb hab => ?_, fun k hk => ?_, fun k hk => ?_, fun k hk => ?_, fun a b ha hb => ?_, ?_⟩
    · rw [Q3, i3 4 (by decide)]
      exact p1
    · rw [Q3, i5, v80]
    · show m2 4 k = _ ∧ m2 5 k = m2 137 k ∧ m2 6 k = _
      rw [Q4, i4 k hk, t2 k hk, Q 5 (by decide) (by decide) (by omega) (by decide) (by decide) (by decide), Q 6 (by decide) (by decide) (by omega) (by decide) (by decide) (by decide), Q 137 (by decide) (by decide) (by omega) (by decide) (by decide) (by decide), t3 (8 + k) (by omega) (by omega)]
      exact ⟨rfl, (p3 k hk).2⟩
    · show m2 7 (8 * a + b) = _
      rw [Q 7 (by decide) (by decide) (by omega) (by decide) (by decide) (by decide), t3 (16 + 8 * a + b) (by omega) (by omega)]
      exact p4 a b ha hb hab
    · by_cases d : k < n
      · rw [t2 k d, eY]
        exact gy_in (hch k hk) (g1 k hk) hk N (by omega)
      · rw [t3 k (by omega) (by omega)]
        exact g1 k hk
    · rw [t3 (8 + k) (by omega) (by omega)]
      exact g2 k hk
    · rw [t3 (8 + k) (by omega) (by omega)]
      exact g3 k hk
    · rw [t3 (16 + 8 * a + b) (by omega) (by omega)]
      exact g4 a b ha hb
    · rw [v80]
      exact vp_in_nI (by omega) (by omega)
  · have s10 := s_X10_year (G := G) (l := l) m p0 hI.mp x2
    rw [show F_X9_year m p0 = (F_X10_yearsRefused m p0, m) by unfold F_X9_year; rw [years_eq h.1, if_neg c]] at s9
    rw [show F_X10_year m p0 = (F_X10_yearsRefused m p0, m) by unfold F_X10_year; rw [if_neg c]] at s10
    exact ⟨_, _, _, _, _, by omega, by omega, s9, s10, hI⟩
