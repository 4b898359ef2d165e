/-! ===== meet, forget, mark, parade, year ===== -/
section PX
variable {n : Nat} {m m1 : ax_Me}
theorem iA.px (h : iA n m) : vp_in (m 13 1) 20 ∧ mu m ∧ (∀ b, (b < 13 ∨ 115 ≤ b) → F_X4_push m 3 b = m b) ∧ iN n (F_X4_push m 3) := by
  obtain ⟨hN, ⟨c, q, c1, c2, c3, c4, c5, c6⟩, -⟩ := h
  obtain ⟨u1, u2, u3, u4⟩ := push_all (m := m) c2 c1 c5 c4
  have R : ∀ b, (b < 13 ∨ 115 ≤ b) → F_X4_push m 3 b = m b := fun b hb => u1 b (by omega) (by omega)
  refine ⟨by rw [c5]; exact vp_in_nI c2 (by omega), ⟨by rw [c3]; exact nI_pos (by omega), by rw [c3]; exact nI_le (b := 20) c1 (by decide)⟩, R, hN.congr (fun k _ _ => R k (by omega)) (by rw [R 136 (by omega)]) (R 137 (by omega)) (R 138 (by omega))⟩
theorem iA.rx (h : iA n m) (p : m1 136 = m 136) : mp m1 ∧ mu m1 ∧ (∀ b, b ≠ 136 → b ≠ 143 → F_X10_remember m1 b = m1 b) ∧ (∀ k, k ≠ 14 → F_X10_remember m1 136 k = m 136 k) := by
  have h2 := h.px.2.1
  have h3 := h.1.mp
  obtain ⟨hN, ⟨c, q, c1, c2, c3, c4, c5, c6⟩, -⟩ := h
  obtain ⟨r1, r2, -⟩ := rem_all (m := m1) c1 ((congrFun p 14).trans c3)
  refine ⟨?_, ?_, r1, fun k hk => (r2 k hk).trans (congrFun p k)⟩
  · show (¬ m1 136 0 < 0) ∧ m1 136 0 ≤ 8
    rw [p]
    exact h3
  · unfold mu
    rw [p]
    exact h2
theorem iA.done0 {m2 : ax_Me} (h : iA n m) (p1 : ∀ b, ¬ (3 ≤ b ∧ b ≤ 7) → m1 b = F_X4_push m 3 b) (q1 : ∀ b, b ≠ 138 → m2 b = F_X10_remember m1 b) (hp : pl n m2 3 (m2 138)) : iA n m2 := by
  obtain ⟨-, -, x3, -⟩ := h.px
  have p2 : ∀ b, 136 ≤ b → m1 b = m b := fun b hb => (p1 b (by omega)).trans (x3 b (by omega))
  obtain ⟨-, -, r1, r2⟩ := h.rx (p2 136 (by omega))
  refine h.done (fun b _ g _ => p1 b g) p2 (fun b g1 g2 g3 => (q1 b g2).trans (r1 b g1 g3)) (fun k g1 g2 => ?_) (q1 143 (by decide)) (by rw [q1 136 (by decide)]) hp (h.2.2.2.2.2.2.1.congr ?_ ?_)
  · rw [q1 136 (by decide), r2 k g1, p2 136 (by omega)]
  · rw [q1 123 (by decide), r1 123 (by decide) (by decide), p1 123 (by decide), x3 123 (by omega)]
  · rw [q1 136 (by decide), r2 3 (by decide)]
theorem pl.memo {m2 : ax_Me} {v v2 : Nat → Int32} (hn : n ≤ 8) (h : pl n m 3 v) {i j : Nat} (hi : i < n) (hj : j < n) (hij : i ≠ j) {y : Int32} (hy : y = -1 ∨ vp_in y 256) (e3 : m2 3 = m 3) (e4 : m2 4 = m 4) (e5 : m2 5 = m 5) (e6 : m2 6 = m 6) (e7 : m2 7 = upd (m 7) (8 * i + j) y) (ec : m2 137 = m 137) (ev : v2 = upd v (16 + 8 * i + j) y) : pl n m2 3 v2 := by
  obtain ⟨p1, p2, p3, p4, g1, g2, g3, g4, g5⟩ := h
  subst ev
  refine ⟨by rw [e3]; exact p1, by rw [e3, p2, pk_un (by omega)], fun k hk => ?_, fun a b ha hb hab => ?_, fun k hk => ?_, fun k hk => ?_, fun k hk => ?_, fun a b ha hb => ?_, ?_⟩
  · rw [pk_un (by omega), pk_un (by omega)]
    show m2 4 k = _ ∧ m2 5 k = m2 137 k ∧ m2 6 k = _
    rw [e4, e5, e6, ec]
    exact p3 k hk
  · show m2 7 (8 * a + b) = _
    rw [e7]
    by_cases c : a = i ∧ b = j
    · rw [c.1, c.2, pk_us, pk_us]
    · rw [pk_un (by omega), pk_un (by omega)]
      exact p4 a b ha hb hab
  · rw [pk_un (by omega)]
    exact g1 k hk
  · rw [pk_un (by omega)]
    exact g2 k hk
  · rw [pk_un (by omega)]
    exact g3 k hk
  · by_cases c : a = i ∧ b = j
    · rw [c.1, c.2, pk_us]
      exact hy.imp id (fun q => ⟨q, hi, hj, hij⟩)
    · rw [pk_un (by omega)]
      exact g4 a b ha hb
  · rw [pk_un (by omega)]
    exact g5
theorem pl.mark {m2 : ax_Me} {v v2 : Nat → Int32} (hn : n ≤ 8) (h : pl n m 3 v) {i : Nat} (hi : i < n) {y : Int32} (hy : vp_in y 256) (e3 : m2 3 = m 3) (e4 : m2 4 = upd (m 4) i y) (e5 : m2 5 = m 5) (e6 : m2 6 = m 6) (e7 : m2 7 = m 7) (ec : m2 137 = m 137) (ev : v2 = upd v i y) : pl n m2 3 v2 := by
  obtain ⟨p1, p2, p3, p4, g1, g2, g3, g4, g5⟩ := h
  subst ev
  refine ⟨by rw [e3]; exact p1, by rw [e3, p2, pk_un (by omega)], fun k hk => ?_, fun a b ha hb hab => ?_, fun k hk => ?_, fun k hk => ?_, fun k hk => ?_, fun a b ha hb => ?_, ?_⟩
  · rw [pk_un (show 8 + k ≠ i by omega)]
    show m2 4 k = _ ∧ m2 5 k = m2 137 k ∧ m2 6 k = _
    rw [e4, e5, e6, ec]
    refine ⟨?_, (p3 k hk).2⟩
    by_cases c : k = i
    · rw [c, pk_us, pk_us]
    · rw [pk_un c, pk_un c]
      exact (p3 k hk).1
  · show m2 7 (8 * a + b) = _
    rw [e7, pk_un (by omega)]
    exact p4 a b ha hb hab
  · by_cases c : k = i
    · rw [c, pk_us]
      exact hy
    · rw [pk_un c]
      exact g1 k hk
  · rw [pk_un (by omega)]
    exact g2 k hk
  · rw [pk_un (by omega)]
    exact g3 k hk
  · rw [pk_un (by omega)]
    exact g4 a b ha hb
  · rw [pk_un (by omega)]
    exact g5
theorem pl.ident {m2 : ax_Me} {v v2 : Nat → Int32} (hn : n ≤ 8) (h : pl n m 3 v) {i : Nat} (hi : i < n) {y : Int32} (hy : vp_in y n) (e3 : m2 3 = m 3) (e4 : m2 4 = m 4) (e5 : m2 5 = m 5) (e6 : m2 6 = upd (m 6) i y) (e7 : m2 7 = m 7) (ec : m2 137 = m 137) (ev : v2 = upd v (8 + i) y) : pl n m2 3 v2 := by
  obtain ⟨p1, p2, p3, p4, g1, g2, g3, g4, g5⟩ := h
  subst ev
  refine ⟨by rw [e3]; exact p1, by rw [e3, p2, pk_un (by omega)], fun k hk => ?_, fun a b ha hb hab => ?_, fun k hk => ?_, fun k hk => ?_, fun k hk => ?_, fun a b ha hb => ?_, ?_⟩
  · rw [pk_un (show k ≠ 8 + i by omega)]
    show m2 4 k = _ ∧ m2 5 k = m2 137 k ∧ m2 6 k = _
    rw [e4, e5, e6, ec]
    refine ⟨(p3 k hk).1, (p3 k hk).2.1, ?_⟩
    by_cases c : k = i
    · rw [c, pk_us, pk_us]
    · rw [pk_un c, pk_un (by omega)]
      exact (p3 k hk).2.2
  · show m2 7 (8 * a + b) = _
    rw [e7, pk_un (by omega)]
    exact p4 a b ha hb hab
  · rw [pk_un (by omega)]
    exact g1 k hk
  · by_cases c : k = i
    · rw [c, pk_us]
      exact hy
    · rw [pk_un (by omega)]
      exact g2 k hk
  · by_cases c : k = i
    · rw [c, pk_us]
      exact iv_mono hy hn
    · rw [pk_un (by omega)]
      exact g3 k hk
  · rw [pk_un (by omega)]
    exact g4 a b ha hb
  · rw [pk_un (by omega)]
    exact g5
end PX
theorem ixm {i j : Nat} (hi : i < 8) (hj : j < 8) : ((16 + 8 * nI i) + nI j).toNatClampNeg = 16 + 8 * i + j := by
  have : (16 + 8 * nI i) + nI j = nI (16 + 8 * i + j) := by
    rw [← nI_add, ← nI_add]
    congr 2
    exact (Int32.ofNat_mul 8 i).symm
  rw [this, nI_clamp (by omega)]
theorem st_meet {G : ax_G} {l : Launch} (p0 p1 : Int32) : ST G l INV mX9_meet mX10_meet [.int p0, .int p1] := by
  intro m hI
  obtain ⟨n, h⟩ := id hI
  obtain ⟨hn, hc, hch, hp⟩ := id h.1
  obtain ⟨x1, x2, x3, x4⟩ := h.px
  have s9 := s_X9_meet (G := G) (l := l) m p0 p1 x1
  by_cases c : F_X10_areTwo m p0 p1 = 0
  · have s10 := s_X10_meet (G := G) (l := l) m p0 p1 hI.mp x2
    rw [show F_X9_meet m p0 p1 = (-1000000001, m) by unfold F_X9_meet; rw [pair_eq h.1, if_pos c]] at s9
    rw [show F_X10_meet m p0 p1 = (-1000000001, m) by unfold F_X10_meet; rw [if_pos c]] at s10
    exact ⟨_, _, _, _, _, by omega, by omega, s9, s10, hI⟩
  · obtain ⟨i, j, hi, hj, hij, rfl, rfl⟩ := iv_two h.1 c
    obtain ⟨_, _, _, yp⟩ := id x4
    have hvj : vp_in (m 138 j) 256 := hp.2.2.2.2.1 j (by omega)
    have eP : F_X4_push m 3 138 = m 138 := x3 138 (by omega)
    have eL : F_X5_learn (F_X4_push m 3) 3 (nI i) (nI j) = ax_u (F_X4_push m 3) 7 (8 * i + j) (m 138 j) := by
      unfold F_X5_learn
      rw [pair1 hn yp hi hj hij, if_neg (by decide), mem_ix (by omega) (by omega), marks_v hn yp hj, eP]
    have eM : F_X5_memoryOf (F_X4_push m 3) 3 (nI i) (nI j) = m 138 (16 + 8 * i + j) := by rw [memory_v hn yp hi hj, eP]
    have eK : F_X5_marksOf (ax_u (F_X4_push m 3) 7 (8 * i + j) (m 138 j)) 3 (nI j) = m 138 j := by
      have : F_X5_marksOf (ax_u (F_X4_push m 3) 7 (8 * i + j) (m 138 j)) 3 (nI j) = F_X5_marksOf (F_X4_push m 3) 3 (nI j) := by
        unfold F_X5_marksOf F_X5_has
        rw [u_row (show 3 ≠ 7 by decide), u_row (show 3 + 1 ≠ 7 by decide)]
      rw [this, marks_v hn yp hj, eP]
    have e9 : F_X9_meet m (nI i) (nI j) = (if m 138 (16 + 8 * i + j) < 0 then -1 else F_X10_apart m (m 138 (16 + 8 * i + j)) (m 138 j), ax_u (F_X4_push m 3) 7 (8 * i + j) (m 138 j)) := by
      unfold F_X9_meet
      rw [pair_eq h.1, if_neg c, eM, eL, eK]
      have q := mem_neg hp.2.2.2.2 (show i < 8 by omega) (show j < 8 by omega)
      by_cases d : m 138 (16 + 8 * i + j) < 0
      · rw [if_pos (q.mp d), if_pos d]
      · rw [if_neg (fun g => d (q.mpr g)), if_neg d]
        obtain ⟨k1, k2, k3, k4, k5⟩ := kn1 h.1 hi hj d
        rw [apart_eq k5 hvj, apart_comm]
        rfl
    rw [e9] at s9
    dsimp only at s9
    have r1 : ∀ b, b ≠ 7 → ax_u (F_X4_push m 3) 7 (8 * i + j) (m 138 j) b = F_X4_push m 3 b := fun b hb => u_row hb
    have w7 : ax_u (F_X4_push m 3) 7 (8 * i + j) (m 138 j) 7 = upd (m 7) (8 * i + j) (m 138 j) := by
      rw [ax_u_row, x3 7 (by omega)]
    generalize ax_u (F_X4_push m 3) 7 (8 * i + j) (m 138 j) = m1 at s9 r1 w7
    have R : ∀ b, b ≠ 7 → (b < 13 ∨ 115 ≤ b) → m1 b = m b := fun b g1 g2 => (r1 b g1).trans (x3 b g2)
    obtain ⟨y1, y2, y3, y4⟩ := h.rx (R 136 (by decide) (by omega))
    have s10 := s_X10_meet (G := G) (l := l) m1 (nI i) (nI j) y1 y2
    have f138 : F_X10_remember m1 138 = m 138 := (y3 138 (by decide) (by decide)).trans (R 138 (by decide) (by omega))
    have e10 : F_X10_meet m1 (nI i) (nI j) = (if m 138 (16 + 8 * i + j) < 0 then -1 else F_X10_apart m (m 138 (16 + 8 * i + j)) (m 138 j), ax_u (F_X10_remember m1) 138 (16 + 8 * i + j) (m 138 j)) := by
      unfold F_X10_meet
      have ea : F_X10_areTwo m1 (nI i) (nI j) = F_X10_areTwo m (nI i) (nI j) := by
        unfold F_X10_areTwo F_X10_isPerson
        rw [R 136 (by decide) (by omega)]
        rfl
      rw [ea, if_neg c, rem_v (by omega) (by omega), f138, ixm (by omega) (by omega), nI_clamp (show j < 2 ^ 31 by omega), u_off (show j ≠ 16 + 8 * i + j by omega), f138]
      by_cases d : m 138 (16 + 8 * i + j) < 0
      · rw [if_pos d, if_neg (Int32.not_le.mpr d)]
      · rw [if_neg d, if_pos (Int32.not_lt.mp d)]
        rfl
    rw [e10] at s10
    dsimp only at s10
    refine ⟨_, _, _, _, _, by omega, by omega, s9, s10, n, h.done0 (m1 := m1) (fun b hb => r1 b (by omega)) (fun b hb => u_row hb) ?_⟩
    have Q : ∀ b, b ≠ 7 → (b < 13 ∨ 115 ≤ b) → b ≠ 136 → b ≠ 138 → b ≠ 143 → ax_u (F_X10_remember m1) 138 (16 + 8 * i + j) (m 138 j) b = m b := fun b g1 g2 g3 g4 g5 => by rw [u_row g4, y3 b g3 g5, R b g1 g2]
    refine hp.memo hn hi hj hij (Or.inr hvj) (Q _ (by decide) (by omega) (by decide) (by decide) (by decide)) (Q _ (by decide) (by omega) (by decide) (by decide) (by decide)) (Q _ (by decide) (by omega) (by decide) (by decide) (by decide)) (Q _ (by decide) (by omega) (by decide) (by decide) (by decide)) ?_ (Q _ (by decide) (by omega) (by decide) (by decide) (by decide)) ?_
    · rw [u_row (by decide), y3 7 (by decide) (by decide), w7]
    · rw [ax_u_row, f138]
theorem st_forget {G : ax_G} {l : Launch} (p0 p1 : Int32) : ST G l INV mX9_forget mX10_forget [.int p0, .int p1] := by
  intro m hI
  obtain ⟨n, h⟩ := id hI
  obtain ⟨hn, hc, hch, hp⟩ := id h.1
  obtain ⟨x1, x2, x3, x4⟩ := h.px
  have s9 := s_X9_forget (G := G) (l := l) m p0 p1 x1
  by_cases c : F_X10_areTwo m p0 p1 = 0
  · have s10 := s_X10_forget (G := G) (l := l) m p0 p1 hI.mp x2
    rw [show F_X9_forget m p0 p1 = (-1000000001, m) by unfold F_X9_forget; rw [pair_eq h.1, c]; simp [F_X9_refusal]] at s9
    rw [show F_X10_forget m p0 p1 = (-1000000001, m) by unfold F_X10_forget; rw [if_pos c]] at s10
    exact ⟨_, _, _, _, _, by omega, by omega, s9, s10, hI⟩
  · obtain ⟨i, j, hi, hj, hij, rfl, rfl⟩ := iv_two h.1 c
    have c' := areTwo01.resolve_left c
    by_cases q : m 138 (16 + 8 * i + j) < 0
    · obtain ⟨k1, k2⟩ := kn0 h.1 hi hj q
      have s10 := s_X10_forget (G := G) (l := l) m (nI i) (nI j) hI.mp x2
      rw [show F_X9_forget m (nI i) (nI j) = (-1000000003, m) by unfold F_X9_forget; rw [pair_eq h.1, c', k1]; simp [F_X9_refusal]] at s9
      rw [show F_X10_forget m (nI i) (nI j) = (-1000000003, m) by unfold F_X10_forget; rw [if_neg c, rem_v (by omega) (by omega), if_neg (Int32.not_le.mpr q)]] at s10
      exact ⟨_, _, _, _, _, by omega, by omega, s9, s10, hI⟩
    · obtain ⟨k1, k2, k3, k4, k5⟩ := kn1 h.1 hi hj q
      obtain ⟨_, _, _, yp⟩ := id x4
      have eP : F_X4_push m 3 138 = m 138 := x3 138 (by omega)
      have eL : F_X5_unlearn (F_X4_push m 3) 3 (nI i) (nI j) = ax_u (F_X4_push m 3) 7 (8 * i + j) (-1) := by
        unfold F_X5_unlearn
        rw [pair1 hn yp hi hj hij, if_neg (by decide), mem_ix (by omega) (by omega)]
      have eM : F_X5_memoryOf (F_X4_push m 3) 3 (nI i) (nI j) = m 138 (16 + 8 * i + j) := by rw [memory_v hn yp hi hj, eP]
      have e9 : F_X9_forget m (nI i) (nI j) = (m 138 (16 + 8 * i + j), ax_u (F_X4_push m 3) 7 (8 * i + j) (-1)) := by
        unfold F_X9_forget
        rw [pair_eq h.1, c', k1, eM, eL]
        simp [F_X9_refusal]
      rw [e9] at s9
      dsimp only at s9
      have r1 : ∀ b, b ≠ 7 → ax_u (F_X4_push m 3) 7 (8 * i + j) (-1) b = F_X4_push m 3 b := fun b hb => u_row hb
      have w7 : ax_u (F_X4_push m 3) 7 (8 * i + j) (-1) 7 = upd (m 7) (8 * i + j) (-1) := by
        rw [ax_u_row, x3 7 (by omega)]
      generalize ax_u (F_X4_push m 3) 7 (8 * i + j) (-1) = m1 at s9 r1 w7
      have R : ∀ b, b ≠ 7 → (b < 13 ∨ 115 ≤ b) → m1 b = m b := fun b g1 g2 => (r1 b g1).trans (x3 b g2)
      obtain ⟨y1, y2, y3, y4⟩ := h.rx (R 136 (by decide) (by omega))
      have s10 := s_X10_forget (G := G) (l := l) m1 (nI i) (nI j) y1 y2
      have f138 : F_X10_remember m1 138 = m 138 := (y3 138 (by decide) (by decide)).trans (R 138 (by decide) (by omega))
      have e10 : F_X10_forget m1 (nI i) (nI j) = (m 138 (16 + 8 * i + j), ax_u (F_X10_remember m1) 138 (16 + 8 * i + j) (-1)) := by
        unfold F_X10_forget
        have ea : F_X10_areTwo m1 (nI i) (nI j) = F_X10_areTwo m (nI i) (nI j) := by
          unfold F_X10_areTwo F_X10_isPerson
          rw [R 136 (by decide) (by omega)]
          rfl
        rw [ea, if_neg c, rem_v (by omega) (by omega), R 138 (by decide) (by omega), ixm (by omega) (by omega), if_pos (Int32.not_lt.mp q)]
      rw [e10] at s10
      dsimp only at s10
      refine ⟨_, _, _, _, _, by omega, by omega, s9, s10, n, h.done0 (m1 := m1) (fun b hb => r1 b (by omega)) (fun b hb => u_row hb) ?_⟩
      have Q : ∀ b, b ≠ 7 → (b < 13 ∨ 115 ≤ b) → b ≠ 136 → b ≠ 138 → b ≠ 143 → ax_u (F_X10_remember m1) 138 (16 + 8 * i + j) (-1) b = m b := fun b g1 g2 g3 g4 g5 => by rw [u_row g4, y3 b g3 g5, R b g1 g2]
      refine hp.memo hn hi hj hij (Or.inl rfl) (Q _ (by decide) (by omega) (by decide) (by decide) (by decide)) (Q _ (by decide) (by omega) (by decide) (by decide) (by decide)) (Q _ (by decide) (by omega) (by decide) (by decide) (by decide)) (Q _ (by decide) (by omega) (by decide) (by decide) (by decide)) ?_ (Q _ (by decide) (by omega) (by decide) (by decide) (by decide)) ?_
      · rw [u_row (by decide), y3 7 (by decide) (by decide), w7]
      · rw [ax_u_row, f138]
