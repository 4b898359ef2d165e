/-! ===== see ===== -/
section SEE
variable {n : Nat} {m : ax_Me}
theorem see9 {s : Nat} (hs : s < 8) (e : m 115 4 = nI s) (p0 p1 p2 p3 : Int32) : F_X7_add m p0 p1 p2 p3 = (nI (s + 1), ax_u (ax_u (ax_u (ax_u (ax_u m 116 s p0) 117 s p1) 118 s p2) 119 s p3) 115 4 (nI (s + 1))) := by
  have w : F_X9_isWithin m (nI s) 0 7 = 1 := wi1 (N := 7) (by decide) rfl (by omega)
  have k : (nI s).toNatClampNeg = s := nI_clamp (by omega)
  unfold F_X7_add
  rw [e, w, if_neg (by decide)]
  have h1 : ∀ x, ax_u m 116 s x 115 4 = nI s := fun x => (ax_u_ne (by omega)).trans e
  have h2 : ∀ x y, ax_u (ax_u m 116 s x) 117 s y 115 4 = nI s := fun x y => (ax_u_ne (by omega)).trans (h1 x)
  have h3 : ∀ x y z, ax_u (ax_u (ax_u m 116 s x) 117 s y) 118 s z 115 4 = nI s := fun x y z => (ax_u_ne (by omega)).trans (h2 x y)
  have h4 : ∀ x y z u, ax_u (ax_u (ax_u (ax_u m 116 s x) 117 s y) 118 s z) 119 s u 115 4 = nI s := fun x y z u => (ax_u_ne (by omega)).trans (h3 x y z)
  simp only [k, h1, h2, h3, h4, nI_1, ax_u_self]
theorem see10 {s : Nat} (hs : s < 8) (e : m 136 17 = nI s) {p0 p1 p2 p3 : Int32} (h1 : ¬ F_X10_isPerson m p3 = 0) (h2 : F_X10_rowRefused m p0 p1 p2 = 0) (h3 : ¬ F_X10_has m p2 p3 = 0) (h4 : F_X10_unknownTo m p0 p1 = 0) : F_X10_see m p0 p1 p2 p3 = (nI (s + 1), ax_u (ax_u (ax_u (ax_u (ax_u m 145 s p0) 146 s p1) 147 s p2) 148 s p3) 136 17 (nI (s + 1))) := by
  have k : (nI s).toNatClampNeg = s := nI_clamp (by omega)
  unfold F_X10_see
  rw [if_neg h1, if_pos h2, if_neg h3, if_pos h4, e, if_neg (fun q => by have := (nI_eq (b := 8) (by omega) (by decide)).mp q; omega)]
  have h1 : ∀ x, ax_u m 145 s x 136 17 = nI s := fun x => (ax_u_ne (by omega)).trans e
  have h2 : ∀ x y, ax_u (ax_u m 145 s x) 146 s y 136 17 = nI s := fun x y => (ax_u_ne (by omega)).trans (h1 x)
  have h3 : ∀ x y z, ax_u (ax_u (ax_u m 145 s x) 146 s y) 147 s z 136 17 = nI s := fun x y z => (ax_u_ne (by omega)).trans (h2 x y)
  have h4 : ∀ x y z u, ax_u (ax_u (ax_u (ax_u m 145 s x) 146 s y) 147 s z) 148 s u 136 17 = nI s := fun x y z u => (ax_u_ne (by omega)).trans (h3 x y z)
  simp only [k, h1, h2, h3, h4, nI_1, ax_u_self]
end SEE
theorem st_see {G : ax_G} {l : Launch} (p0 p1 p2 p3 : Int32) : ST G l INV mX9_see mX10_see [.int p0, .int p1, .int p2, .int p3] := by
  intro m hI
  obtain ⟨n, h⟩ := id hI
  obtain ⟨hN, hP, h1, h2, hS, hB, hD, hT⟩ := id h
  obtain ⟨hn, hc, hch, hp⟩ := id hN
  obtain ⟨s, b1, b2, b3, b4⟩ := id hS
  have hms := (hS.pre hn).1
  have s9 := s_X9_see (G := G) (l := l) m p0 p1 p2 p3
  have fin : ∀ r, F_X9_see m p0 p1 p2 p3 = (r, m) → F_X10_see m p0 p1 p2 p3 = (r, m) → ∃ (r : Int32) (d9 d10 : Nat) (m1 m2 : ax_Me), d9 ≤ 7 ∧ d10 ≤ 7 ∧ AD G l d9 mX9_see (.ref 0 :: [.int p0, .int p1, .int p2, .int p3]) m (some (.int r)) m1 ∧ AD G l d10 mX10_see (.ref 136 :: [.int p0, .int p1, .int p2, .int p3]) m1 (some (.int r)) m2 ∧ INV m2 := fun r e9 e10 => by
    have s10 := s_X10_see (G := G) (l := l) m p0 p1 p2 p3 hI.mp hms
    rw [e9] at s9
    rw [e10] at s10
    exact ⟨_, _, _, _, _, by omega, by omega, s9, s10, hI⟩
  by_cases c : F_X9_isAsked m p0 p1 p2 = 0
  · have e := asked0 hN c
    refine fin (-1000000001) ?_ ?_
    · unfold F_X9_see
      rw [c]
      simp [F_X9_refusal]
    · unfold F_X10_see
      rw [e]
      simp
  · obtain ⟨i, j, k, hi, hj, hij, hk, rfl, rfl, rfl, c1, c2, e⟩ := asked1 hN c
    have hk8 : k < 256 := Nat.lt_of_lt_of_le hk (pow_le8 hn).1
    have hl := long_eq (m := m) (vp_in_nI hk8 (by omega))
    by_cases cx : vp_in p3 n
    · have hx1 := has1 hn hp.1 cx
      have hx2 := isP1 hn hc cx
      obtain ⟨x, hx, rfl⟩ := vp_in_of cx (by omega)
      have hb := has_eq (m := m) (x := nI k) (vp_in_nI (show x < 8 by omega) (by omega))
      by_cases d : 2 ≤ F_X10_bits m (nI k)
      · rw [if_pos d] at e hl
        by_cases d2 : F_X10_has m (nI k) (nI x) = 0
        · refine fin (-1000000002) ?_ ?_
          · unfold F_X9_see
            rw [c1, hx1, hl, hb, d2]
            simp [F_X9_refusal]
          · unfold F_X10_see
            rw [e, hx2, d2]
            simp
        · by_cases q : m 138 (16 + 8 * i + j) < 0
          · obtain ⟨k1, k2⟩ := kn0 hN hi hj q
            refine fin (-1000000003) ?_ ?_
            · unfold F_X9_see
              rw [c1, hx1, hl, hb, k1]
              simp [F_X9_refusal, d2]
            · unfold F_X10_see
              rw [e, hx2, k2]
              simp [d2]
          · obtain ⟨k1, k2, k3, k4, k5⟩ := kn1 hN hi hj q
            by_cases f : s = 8
            · subst f
              refine fin (-1000000004) ?_ ?_
              · unfold F_X9_see F_X7_hasRoom
                rw [c1, hx1, hl, hb, k1, b3, if_pos (show (8 : Int32) ≤ nI 8 by decide)]
                simp [F_X9_refusal, d2]
              · unfold F_X10_see
                rw [e, hx2, k2, b2, if_pos (show nI 8 = (8 : Int32) from rfl)]
                simp [d2]
            · have e9 : F_X9_see m (nI i) (nI j) (nI k) (nI x) = (nI (s + 1), ax_u (ax_u (ax_u (ax_u (ax_u m 116 s (nI i)) 117 s (nI j)) 118 s (nI k)) 119 s (nI x)) 115 4 (nI (s + 1))) := by
                have g0 : F_X7_hasRoom m = 1 := by
                  unfold F_X7_hasRoom
                  rw [b3, if_neg (show ¬ (8 : Int32) ≤ nI s from nI_ge (b := 8) (by omega) (by decide))]
                unfold F_X9_see
                rw [c1, hx1, hl, hb, k1, g0, see9 (by omega) b3]
                simp [F_X9_refusal, d2]
              have r1 : ∀ q, q ≠ 115 → q ≠ 116 → q ≠ 117 → q ≠ 118 → q ≠ 119 → (ax_u (ax_u (ax_u (ax_u (ax_u m 116 s (nI i)) 117 s (nI j)) 118 s (nI k)) 119 s (nI x)) 115 4 (nI (s + 1))) q = m q := fun q q1 q2 q3 q4 q5 => by rw [u_row q1, u_row q5, u_row q4, u_row q3, u_row q2]
              have w4 : (ax_u (ax_u (ax_u (ax_u (ax_u m 116 s (nI i)) 117 s (nI j)) 118 s (nI k)) 119 s (nI x)) 115 4 (nI (s + 1))) 115 4 = nI (s + 1) := ax_u_self
              have w116 : (ax_u (ax_u (ax_u (ax_u (ax_u m 116 s (nI i)) 117 s (nI j)) 118 s (nI k)) 119 s (nI x)) 115 4 (nI (s + 1))) 116 = upd (m 116) s (nI i) := by
                rw [u_row (by decide), u_row (by decide), u_row (by decide), u_row (by decide), ax_u_row]
              have w117 : (ax_u (ax_u (ax_u (ax_u (ax_u m 116 s (nI i)) 117 s (nI j)) 118 s (nI k)) 119 s (nI x)) 115 4 (nI (s + 1))) 117 = upd (m 117) s (nI j) := by
                rw [u_row (by decide), u_row (by decide), u_row (by decide), ax_u_row, u_row (by decide)]
              have w118 : (ax_u (ax_u (ax_u (ax_u (ax_u m 116 s (nI i)) 117 s (nI j)) 118 s (nI k)) 119 s (nI x)) 115 4 (nI (s + 1))) 118 = upd (m 118) s (nI k) := by
                rw [u_row (by decide), u_row (by decide), ax_u_row, u_row (by decide), u_row (by decide)]
              have w119 : (ax_u (ax_u (ax_u (ax_u (ax_u m 116 s (nI i)) 117 s (nI j)) 118 s (nI k)) 119 s (nI x)) 115 4 (nI (s + 1))) 119 = upd (m 119) s (nI x) := by
                rw [u_row (by decide), ax_u_row, u_row (by decide), u_row (by decide), u_row (by decide)]
              rw [e9] at s9
              dsimp only at s9
              have hq : ∀ m' : ax_Me, m' 136 = m 136 → m' 138 = m 138 → (F_X10_isPerson m' (nI x) = F_X10_isPerson m (nI x) ∧ F_X10_rowRefused m' (nI i) (nI j) (nI k) = F_X10_rowRefused m (nI i) (nI j) (nI k) ∧ F_X10_unknownTo m' (nI i) (nI j) = F_X10_unknownTo m (nI i) (nI j)) ∧ mp m' ∧ ms m' ∧ m' 136 17 = nI s := fun m' a1 a2 => by
                refine ⟨⟨?_, ?_, ?_⟩, ?_, ?_, ?_⟩
                · unfold F_X10_isPerson
                  rw [a1]
                  rfl
                · unfold F_X10_rowRefused F_X10_areTwo F_X10_isRow F_X10_isPerson
                  rw [a1]
                  rfl
                · unfold F_X10_unknownTo F_X10_remembered
                  rw [a2]
                · unfold mp
                  rw [a1]
                  exact hI.mp
                · unfold ms
                  rw [a1]
                  exact hms
                · rw [a1]
                  exact b2
              generalize (ax_u (ax_u (ax_u (ax_u (ax_u m 116 s (nI i)) 117 s (nI j)) 118 s (nI k)) 119 s (nI x)) 115 4 (nI (s + 1))) = m1 at s9 r1 w4 w116 w117 w118 w119
              obtain ⟨⟨q1, q2, q3⟩, q4, q5, q6⟩ := hq m1 (r1 136 (by decide) (by decide) (by decide) (by decide) (by decide)) (r1 138 (by decide) (by decide) (by decide) (by decide) (by decide))
              have s10 := s_X10_see (G := G) (l := l) m1 (nI i) (nI j) (nI k) (nI x) q4 q5
              rw [see10 (m := m1) (s := s) (by omega) q6 (by rw [q1, hx2]; decide) (q2.trans e) d2 (q3.trans k2)] at s10
              dsimp only at s10
              refine ⟨_, _, _, _, _, by omega, by omega, s9, s10, n, ?_⟩
              generalize em2 : (ax_u (ax_u (ax_u (ax_u (ax_u m1 145 s (nI i)) 146 s (nI j)) 147 s (nI k)) 148 s (nI x)) 136 17 (nI (s + 1))) = m2
              have v1 : ∀ q, q ≠ 136 → q ≠ 145 → q ≠ 146 → q ≠ 147 → q ≠ 148 → m2 q = m1 q := fun q q1 q2 q3 q4 q5 => by rw [← em2, u_row q1, u_row q5, u_row q4, u_row q3, u_row q2]
              have o2 : ∀ j, j ≠ 17 → m2 136 j = m 136 j := fun j q => by rw [← em2, u_off q, u_row (by decide), u_row (by decide), u_row (by decide), u_row (by decide), r1 136 (by decide) (by decide) (by decide) (by decide) (by decide)]
              have r2 : ∀ q, (q ≠ 115 ∧ q ≠ 116 ∧ q ≠ 117 ∧ q ≠ 118 ∧ q ≠ 119 ∧ q ≠ 136 ∧ q ≠ 145 ∧ q ≠ 146 ∧ q ≠ 147 ∧ q ≠ 148) → m2 q = m q := fun q g => (v1 q (by omega) (by omega) (by omega) (by omega) (by omega)).trans (r1 q (by omega) (by omega) (by omega) (by omega) (by omega))
              have w145 : m2 145 = upd (m 145) s (nI i) := by
                rw [← em2, u_row (by decide), u_row (by decide), u_row (by decide), u_row (by decide), ax_u_row, r1 145 (by decide) (by decide) (by decide) (by decide) (by decide)]
              have w146 : m2 146 = upd (m 146) s (nI j) := by
                rw [← em2, u_row (by decide), u_row (by decide), u_row (by decide), ax_u_row, u_row (by decide), r1 146 (by decide) (by decide) (by decide) (by decide) (by decide)]
              have w147 : m2 147 = upd (m 147) s (nI k) := by
                rw [← em2, u_row (by decide), u_row (by decide), ax_u_row, u_row (by decide), u_row (by decide), r1 147 (by decide) (by decide) (by decide) (by decide) (by decide)]
              have w148 : m2 148 = upd (m 148) s (nI x) := by
                rw [← em2, u_row (by decide), ax_u_row, u_row (by decide), u_row (by decide), u_row (by decide), r1 148 (by decide) (by decide) (by decide) (by decide) (by decide)]
              refine h.rest (fun q _ _ g1 g2 g3 g4 g5 _ _ _ g6 _ g7 g8 g9 g10 _ _ => r2 q ⟨g1, g2, g3, g4, g5, g6, g7, g8, g9, g10⟩) (fun j _ q _ => o2 j q) ⟨s + 1, by omega, ?_, ?_, fun t ht => ?_⟩ (hB.congr (r2 _ (by decide)) (r2 _ (by decide)) (r2 _ (by decide)) (r2 _ (by decide)) (o2 _ (by decide)) (congrFun (r2 _ (by decide)) _)) (hT.congr (r2 _ (by decide)) (r2 _ (by decide)) (o2 _ (by decide)) (o2 _ (by decide)) (congrFun (r2 _ (by decide)) _) (congrFun (r2 _ (by decide)) _))
              · rw [← em2, ax_u_self]
              · rw [v1 115 (by decide) (by decide) (by decide) (by decide) (by decide), w4]
              · rw [v1 116 (by decide) (by decide) (by decide) (by decide) (by decide), v1 117 (by decide) (by decide) (by decide) (by decide) (by decide), v1 118 (by decide) (by decide) (by decide) (by decide) (by decide), v1 119 (by decide) (by decide) (by decide) (by decide) (by decide), w116, w117, w118, w119, w145, w146, w147, w148]
                by_cases hts : t = s
                · subst hts
                  rw [pk_us, pk_us, pk_us, pk_us, pk_us, pk_us, pk_us, pk_us]
                  exact ⟨⟨rfl, rfl, rfl, rfl⟩, vp_in_nI hi (by omega), vp_in_nI hj (by omega), fun g => hij ((nI_eq (by omega) (by omega)).mp g), vp_in_nI hx (by omega)⟩
                · rw [pk_un hts, pk_un hts, pk_un hts, pk_un hts, pk_un hts, pk_un hts, pk_un hts, pk_un hts]
                  exact b4 t (by omega)
      · rw [if_neg d] at e hl
        refine fin (-1000000002) ?_ ?_
        · unfold F_X9_see
          rw [c1, hx1, hl, hb]
          simp [F_X9_refusal]
        · unfold F_X10_see
          rw [e, hx2]
          simp
    · refine fin (-1000000001) ?_ ?_
      · unfold F_X9_see
        rw [c1, has0 hn hp.1 cx]
        simp [F_X9_refusal]
      · unfold F_X10_see
        rw [isP0 hn hc cx]
        simp
