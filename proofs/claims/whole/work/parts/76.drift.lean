/-! ===== drift: years by draws ===== -/
def nxs (S : Nat) : Nat := (S * 1103515245 + 12345) % 2147483648
theorem nxs_lt (S : Nat) : nxs S < 2147483648 := Nat.mod_lt _ (by decide)
set_option maxRecDepth 100000 in
theorem cls_next (S : Nat) : (nI S * 1103515245 + 12345) &&& 2147483647 = nI (nxs S) := by
  have e : nI S * 1103515245 + 12345 = nI (S * 1103515245 + 12345) := by
    rw [← nI_add, ← pk_mul]
    rfl
  rw [e, pk_and _ 31 (by decide)]
  have t : (nI (S * 1103515245 + 12345)).toBitVec.toNat = (S * 1103515245 + 12345) % 2 ^ 32 := by
    show (BitVec.ofNat 32 (S * 1103515245 + 12345)).toNat = _
    rw [BitVec.toNat_ofNat]
  rw [t]
  unfold nxs
  congr 1
  generalize S * 1103515245 + 12345 = K
  omega
theorem cls_draw {m : ax_Me} {S c : Nat} (e : m 123 0 = nI S) (h1 : 1 ≤ c) (h8 : c ≤ 8) : F_X1_drawOf m (nI c) = (nI (nxs S / 65536 % c), ax_u m 123 0 (nI (nxs S))) := by
  unfold F_X1_drawOf
  have hx := nxs_lt S
  rw [if_neg (nI_nle (by omega) (by omega)), e, cls_next, ax_u_self, show (65536 : Int32) = nI 65536 from rfl, pk_div (by omega) (by decide) (by decide), pk_rem (by omega) (by omega) (by omega)]
theorem ref_draw {m : ax_Me} {S c : Nat} (e : m 136 3 = nI S) (hS : S < 2147483648) (h1 : 1 ≤ c) (h8 : c ≤ 8) : F_X10_draw m (nI c) = (nI (nxs S / 65536 % c), ax_u m 136 3 (nI (nxs S))) := by
  obtain ⟨s, a1, a2, a3⟩ := draw_of (m := m) (n := nI c) (by rw [e]; exact nI_pos hS)
  have : s = S := (nI_eq a1 hS).mp (a2.symm.trans e)
  subst this
  have hx := nxs_lt s
  rw [a3]
  have e2 : (s * 1103515245 + 12345) % 2147483648 = nxs s := rfl
  rw [e2, pk_rem (by omega) (by omega) (by omega)]
def jn (mc mr : ax_Me) : ax_Me := fun b => if b < 136 then mc b else mr b
theorem jn_lo {mc mr : ax_Me} {b : Nat} (h : b < 136) : jn mc mr b = mc b := if_pos h
theorem jn_hi {mc mr : ax_Me} {b : Nat} (h : 136 ≤ b) : jn mc mr b = mr b := if_neg (by omega)
theorem pl.year1 {n : Nat} {m m2 : ax_Me} {v v2 : Nat → Int32} (hn : n ≤ 8) (h : pl n m 3 v) (hch : ∀ k, k < 8 → vp_in (m 137 k) 8) {Y : Nat} (eY : v 80 = nI Y) (hY : Y < 9060) (e3 : ∀ k, k ≠ 5 → m2 3 k = m 3 k) (e35 : m2 3 5 = m 3 5 + 1) (e4 : ∀ k, k < n → m2 4 k = yst (m 5 k) (m 3 5) (m 4 k) k) (e5 : m2 5 = m 5) (e6 : m2 6 = m 6) (e7 : m2 7 = m 7) (ec : m2 137 = m 137) (t2 : ∀ k, k < n → v2 k = yst (m 137 k) (v 80) (v k) k) (t3 : ∀ k, n ≤ k → k ≠ 80 → v2 k = v k) (t4 : v2 80 = v 80 + 1) : pl n m2 3 v2 := by
  obtain ⟨p1, p2, p3, p4, g1, g2, g3, g4, g5⟩ := h
  refine ⟨?_, ?_, fun k hk => ?_, fun a b ha hb hab => ?_, fun k hk => ?_, fun k hk => ?_, fun k hk => ?_, fun a b ha hb => ?_, ?_⟩
  · rw [e3 4 (by decide)]
    exact p1
  · rw [e35, t4, p2]
  · show m2 4 k = _ ∧ m2 5 k = m2 137 k ∧ m2 6 k = _
    have a1 : m 4 k = v k := (p3 k hk).1
    have a2 : m 5 k = m 137 k := (p3 k hk).2.1
    rw [e4 k hk, t2 k hk, e5, e6, ec, t3 (8 + k) (by omega) (by omega), a1, a2, p2]
    exact ⟨rfl, rfl, (p3 k hk).2.2⟩
  · show m2 7 (8 * a + b) = _
    rw [e7, t3 (16 + 8 * a + b) (by omega) (by omega)]
    exact p4 a b ha hb hab
  · by_cases d : k < n
    · rw [t2 k d, eY]
      exact yst_in (hch k hk) (g1 k hk) (by omega) hk
    · rw [t3 k (by omega) (by omega)]
      exact g1 k hk
  · rw [t3 (8 + k) (by omega) (by omega)]
    exact g2 k hk
  · rw [t3 (8 + k) (by omega) (by omega)]
    exact g3 k hk
  · rw [t3 (16 + 8 * a + b) (by omega) (by omega)]
    exact g4 a b ha hb
  · rw [t4, eY, nI_1]
    exact vp_in_nI (by omega) (by omega)
/-- both sides after i years of the drift -/
def DR (n Y : Nat) (mP mR : ax_Me) (i : Nat) (mc mr : ax_Me) : Prop :=
  (∀ b, ¬ (3 ≤ b ∧ b ≤ 7) → b ≠ 123 → mc b = mP b) ∧ (∀ b, b ≠ 136 → b ≠ 138 → mr b = mR b) ∧ (∀ k, k ≠ 3 → mr 136 k = mR 136 k) ∧ (∃ S, S < 2147483648 ∧ mc 123 0 = nI S ∧ mr 136 3 = nI S) ∧ pl n (jn mc mr) 3 (mr 138) ∧ mr 138 80 = nI (Y + i)
theorem two_draws {α : Type} (D : ax_Me → Int32 → Int32 × ax_Me) (q : ax_Me → Int32) (g : ax_Me → Int32 → Int32 → α) (M : ax_Me) {a b : Int32} {A B : ax_Me} (h1 : D M (q M) = (a, A)) (h2 : D A (q A) = (b, B)) : g (D (D M (q M)).2 (q (D M (q M)).2)).2 (D M (q M)).1 (D (D M (q M)).2 (q (D M (q M)).2)).1 = g B a b := by
  rw [h1]
  dsimp only
  rw [h2]
section DRIFT
variable {n Y : Nat} {mP mR : ax_Me}
theorem meet_draws {mc : ax_Me} {S : Nat} (e : mc 123 0 = nI S) (h4 : mc 3 4 = nI n) (h1 : 1 ≤ n) (h8 : n ≤ 8) : F_X9_meetByDraws mc = if nI (nxs S / 65536 % n) = nI (nxs (nxs S) / 65536 % n) then ax_u (ax_u mc 123 0 (nI (nxs S))) 123 0 (nI (nxs (nxs S))) else F_X5_learn (ax_u (ax_u mc 123 0 (nI (nxs S))) 123 0 (nI (nxs (nxs S)))) 3 (nI (nxs S / 65536 % n)) (nI (nxs (nxs S) / 65536 % n)) := by
  exact two_draws F_X1_drawOf (fun m => m 3 4) (fun B a b => if a = b then B else F_X5_learn B 3 a b) mc (by
    show F_X1_drawOf mc (mc 3 4) = _
    rw [h4]
    exact cls_draw e h1 h8) (by
    show F_X1_drawOf (ax_u mc 123 0 (nI (nxs S))) (ax_u mc 123 0 (nI (nxs S)) 3 4) = _
    have h5 : ax_u mc 123 0 (nI (nxs S)) 3 4 = nI n := (ax_u_ne (by omega)).trans h4
    rw [h5]
    exact cls_draw ax_u_self h1 h8)
theorem ref_drift {mr : ax_Me} {S : Nat} (e : mr 136 3 = nI S) (hS : S < 2147483648) (h4 : mr 136 0 = nI n) (h1 : 1 ≤ n) (h8 : n ≤ 8) (y0 : ax_Me) (p0 v2 : Int32) (i : Nat) : f_X10_drift_18 y0 p0 v2 i mr = g_drift (ax_u (ax_u mr 136 3 (nI (nxs S))) 136 3 (nI (nxs (nxs S)))) (nI (nxs S / 65536 % n)) (nI (nxs (nxs S) / 65536 % n)) := by
  exact two_draws F_X10_draw (fun m => m 136 0) g_drift mr (by
    show F_X10_draw mr (mr 136 0) = _
    rw [h4]
    exact ref_draw e hS h1 h8) (by
    show F_X10_draw (ax_u mr 136 3 (nI (nxs S))) (ax_u mr 136 3 (nI (nxs S)) 136 0) = _
    have h5 : ax_u mr 136 3 (nI (nxs S)) 136 0 = nI n := (ax_u_ne (by omega)).trans h4
    rw [h5]
    exact ref_draw ax_u_self (nxs_lt S) h1 h8)
theorem learn_eq {mc mr : ax_Me} {v : Nat → Int32} (hn : n ≤ 8) (h : pl n (jn mc mr) 3 v) {w p : Nat} (hw : w < n) (hp : p < n) (hwp : w ≠ p) : F_X5_learn mc 3 (nI w) (nI p) = ax_u mc 7 (8 * w + p) (v p) := by
  have e1 : F_X5_isPair mc 3 (nI w) (nI p) = 1 := pair1 hn h hw hp hwp
  have e2 : F_X5_marksOf mc 3 (nI p) = v p := marks_v hn h hp
  unfold F_X5_learn
  rw [e1, if_neg (by decide), mem_ix (by omega) (by omega), e2]
theorem dr_half {i : Nat} {mc mr mc1 mr1 : ax_Me} (hn : n ≤ 8) (hR : DR n Y mP mR i mc mr) (hch : ∀ k, k < 8 → vp_in (mR 137 k) 8) (hc : mR 136 0 = nI n) (hY : Y + i < 9060)
    (a1 : ∀ b, b ≠ 7 → b ≠ 123 → mc1 b = mc b) (a2 : ∀ b, b ≠ 136 → b ≠ 138 → mr1 b = mr b) (a3 : ∀ k, k ≠ 3 → mr1 136 k = mr 136 k) (a4 : ∃ S, S < 2147483648 ∧ mc1 123 0 = nI S ∧ mr1 136 3 = nI S) (a5 : pl n (jn mc1 mr1) 3 (mr1 138)) (a6 : mr1 138 80 = mr 138 80) : DR n Y mP mR (i + 1) (F_X5_passYears mc1 3 1) (F_X10_pass mr1) := by
  obtain ⟨r1, r2, r3, r4, r5, r6⟩ := hR
  have c4 : mc1 3 4 = nI n := a5.1
  have cm : mr1 136 0 = nI n := by rw [a3 0 (by decide), r3 0 (by decide), hc]
  obtain ⟨y1, y2, y3, y4⟩ := py_all (m := mc1) (a := 3) (n := n) hn c4 (N := 1) (by omega)
  obtain ⟨z1, z2, z3, z4⟩ := pass_all (m := mr1) (n := n) hn cm
  have e1 : F_X5_passYears mc1 3 1 = F_X5_passYears mc1 3 (nI 1) := rfl
  rw [e1]
  generalize F_X5_passYears mc1 3 (nI 1) = mc2 at y1 y2 y3 y4
  generalize F_X10_pass mr1 = mr2 at z1 z2 z3 z4
  have m137 : mr1 137 = mR 137 := (a2 137 (by decide) (by decide)).trans (r2 137 (by decide) (by decide))
  refine ⟨fun b g1 g2 => ?_, fun b g1 g2 => ?_, fun k hk => ?_, ?_, ?_, ?_⟩
  · rw [y1 b (by omega) (by omega), a1 b (by omega) g2, r1 b g1 g2]
  · rw [z1 b g2, a2 b g1 g2, r2 b g1 g2]
  · rw [z1 136 (by decide), a3 k hk, r3 k hk]
  · obtain ⟨S, s1, s2, s3⟩ := a4
    exact ⟨S, s1, by rw [y1 123 (by decide) (by decide)]; exact s2, by rw [z1 136 (by decide)]; exact s3⟩
  · refine a5.year1 (Y := Y + i) hn (fun k hk => ?_) (a6.trans r6) hY (fun k hk => ?_) ?_ (fun k hk => ?_) ?_ ?_ ?_ ?_ (fun k hk => ?_) z3 z4
    · show vp_in (mr1 137 k) 8
      rw [m137]
      exact hch k hk
    · exact y2 k hk
    · exact y3
    · have q := y4 k hk
      show mc2 4 k = yst (mc1 5 k) (mc1 3 5) (mc1 4 k) k
      have q2 : mc2 4 k = yst (mc1 5 k) (mc1 3 5 + nI 0) (mc1 4 k) k := q
      rw [q2, nI_0, Int32.add_zero]
    · exact y1 5 (by decide) (by decide)
    · exact y1 6 (by decide) (by decide)
    · exact y1 7 (by decide) (by decide)
    · exact z1 137 (by decide)
    · exact z2 k hk
  · rw [z4, a6, r6, nI_1]
    rfl
theorem dr_mid {i X2 w p : Nat} {mc mr A B : ax_Me} (hn : n ≤ 8) (hR : DR n Y mP mR i mc mr) (hch : ∀ k, k < 8 → vp_in (mR 137 k) 8) (hc : mR 136 0 = nI n) (hY : Y + i < 9060) (hw : w < n) (hp : p < n) (hx : X2 < 2147483648) (A1 : ∀ b, b ≠ 123 → A b = mc b) (A2 : A 123 0 = nI X2) (B1 : ∀ b, b ≠ 136 → B b = mr b) (B2 : B 136 3 = nI X2) (B3 : ∀ k, k ≠ 3 → B 136 k = mr 136 k) : DR n Y mP mR (i + 1) (F_X5_passYears (if nI w = nI p then A else F_X5_learn A 3 (nI w) (nI p)) 3 1) (g_drift B (nI w) (nI p)) := by
  obtain ⟨r1, r2, r3, ⟨S, s1, s2, s3⟩, r5, r6⟩ := id hR
  have AB : pl n (jn A B) 3 (mr 138) := pl.congr (m := jn mc mr) (m' := jn A B) ((jn_lo (by omega)).trans ((A1 3 (by decide)).trans (jn_lo (by omega)).symm)) ((jn_lo (by omega)).trans ((A1 4 (by decide)).trans (jn_lo (by omega)).symm)) ((jn_lo (by omega)).trans ((A1 5 (by decide)).trans (jn_lo (by omega)).symm)) ((jn_lo (by omega)).trans ((A1 6 (by decide)).trans (jn_lo (by omega)).symm)) ((jn_lo (by omega)).trans ((A1 7 (by decide)).trans (jn_lo (by omega)).symm)) ((jn_hi (by omega)).trans ((B1 137 (by decide)).trans (jn_hi (by omega)).symm)) rfl r5
  unfold g_drift
  rw [ixm (by omega) (by omega), nI_clamp (show p < 2 ^ 31 by omega), B1 138 (by decide)]
  by_cases c : w = p
  · subst c
    rw [if_pos rfl, if_pos rfl]
    have dg : mr 138 (16 + 8 * w + w) = -1 := by
      rcases r5.2.2.2.2.2.2.2.1 w w (by omega) (by omega) with q | q
      · exact q
      · exact absurd rfl q.2.2.2
    refine dr_half hn hR hch hc hY (fun b _ g2 => A1 b g2) (fun b g1 g2 => (u_row g2).trans (B1 b g1)) (fun k hk => by rw [u_row (by decide), B3 k hk]) ⟨X2, hx, A2, by rw [u_row (by decide)]; exact B2⟩ ?_ (by rw [u_off (by omega), B1 138 (by decide)])
    have ev : ax_u B 138 (16 + 8 * w + w) (-1) 138 = mr 138 := by
      rw [ax_u_row, B1 138 (by decide)]
      funext k
      unfold upd
      split
      · next q => rw [q, dg]
      · rfl
    rw [ev]
    exact pl.congr (m := jn A B) (m' := jn A (ax_u B 138 (16 + 8 * w + w) (-1))) rfl rfl rfl rfl rfl ((jn_hi (by omega)).trans ((u_row (by decide)).trans (jn_hi (by omega)).symm)) rfl AB
  · have c' : ¬ nI w = nI p := fun g => c ((nI_eq (by omega) (by omega)).mp g)
    rw [if_neg c', if_neg c', learn_eq hn AB hw hp c]
    refine dr_half hn hR hch hc hY (fun b g1 g2 => (u_row g1).trans (A1 b g2)) (fun b g1 g2 => (u_row g2).trans (B1 b g1)) (fun k hk => by rw [u_row (by decide), B3 k hk]) ⟨X2, hx, by rw [u_row (by decide)]; exact A2, by rw [u_row (by decide)]; exact B2⟩ ?_ (by rw [u_off (by omega), B1 138 (by decide)])
    refine AB.memo hn hw hp c (Or.inr (r5.2.2.2.2.1 p (by omega))) ?_ ?_ ?_ ?_ ?_ ?_ ?_
    · rw [jn_lo (by omega), jn_lo (by omega), u_row (by decide)]
    · rw [jn_lo (by omega), jn_lo (by omega), u_row (by decide)]
    · rw [jn_lo (by omega), jn_lo (by omega), u_row (by decide)]
    · rw [jn_lo (by omega), jn_lo (by omega), u_row (by decide)]
    · rw [jn_lo (by omega), jn_lo (by omega), ax_u_row]
    · rw [jn_hi (by omega), jn_hi (by omega), u_row (by decide)]
    · rw [ax_u_row, B1 138 (by decide)]
theorem dr_step {i : Nat} {mc mr : ax_Me} (h1 : 1 ≤ n) (hn : n ≤ 8) (hR : DR n Y mP mR i mc mr) (hch : ∀ k, k < 8 → vp_in (mR 137 k) 8) (hc : mR 136 0 = nI n) (hY : Y + i < 9060) (x0 y0 : ax_Me) (p0 v2 p0' v2' : Int32) : DR n Y mP mR (i + 1) (f_X9_drift_25 x0 p0 v2 i mc) (f_X10_drift_18 y0 p0' v2' i mr) := by
  obtain ⟨r1, r2, r3, ⟨S, s1, s2, s3⟩, r5, r6⟩ := id hR
  have c4 : mc 3 4 = nI n := r5.1
  have cm : mr 136 0 = nI n := by rw [r3 0 (by decide), hc]
  have e9 : f_X9_drift_25 x0 p0 v2 i mc = F_X5_passYears (F_X9_meetByDraws mc) 3 1 := by rw [f_X9_drift_25]
  rw [ref_drift s3 s1 cm h1 hn, e9, meet_draws s2 c4 h1 hn]
  exact dr_mid hn hR hch hc hY (Nat.mod_lt _ (by omega)) (Nat.mod_lt _ (by omega)) (nxs_lt _) (fun b hb => (u_row hb).trans (u_row hb)) ax_u_self (fun b hb => (u_row hb).trans (u_row hb)) ax_u_self (fun k hk => (u_off hk).trans (u_off hk))
end DRIFT
theorem st_drift {G : ax_G} {l : Launch} (p0 : Int32) : ST G l INV mX9_drift mX10_drift [.int p0] := by
  intro m hI
  obtain ⟨n, h⟩ := id hI
  obtain ⟨hn, hc, hch, hp⟩ := id h.1
  obtain ⟨x1, x2, x3, x4⟩ := h.px
  have hD := h.2.2.2.2.2.2.1
  have s9 := s_X9_drift (G := G) (l := l) m p0 x1
  by_cases c : F_X10_yearsRefused m p0 = 0
  · obtain ⟨N, Y, hN1, hN, rfl, hY, eY, hn0⟩ := years_ok h.1 c
    obtain ⟨_, _, _, yp⟩ := id x4
    have e9 : F_X9_drift m (nI N) = (ax_it (f_X9_drift_25 (F_X4_push m 3) (nI N) 0) N 0 (F_X4_push m 3) 3 5, ax_it (f_X9_drift_25 (F_X4_push m 3) (nI N) 0) N 0 (F_X4_push m 3)) := by
      unfold F_X9_drift
      rw [years_eq h.1, c, if_pos rfl, nI_clamp (show N < 2 ^ 31 by omega), Nat.min_eq_left hN]
    obtain ⟨S, hS, eS⟩ := nI_of hD.2
    -- the class's side alone: what it leaves
    have k9 := ax_it_ind (f := f_X9_drift_25 (F_X4_push m 3) (nI N) 0) (fun i (mc : ax_Me) => ∃ mr, DR n Y (F_X4_push m 3) m i mc mr) N 0 (F_X4_push m 3) ⟨m, fun _ _ _ => rfl, fun _ _ _ => rfl, fun _ _ => rfl, ⟨S, hS, by rw [x3 123 (by omega), hD.1]; exact eS, eS⟩, pl.congr (m := m) (m' := jn (F_X4_push m 3) m) (x3 3 (by omega)) (x3 4 (by omega)) (x3 5 (by omega)) (x3 6 (by omega)) (x3 7 (by omega)) rfl rfl hp, eY⟩ (fun i mc _ hi hs => by
      obtain ⟨mr, hs⟩ := hs
      exact ⟨_, dr_step (by omega) hn hs hch hc (by omega) (F_X4_push m 3) m (nI N) 0 (nI N) 0⟩)
    obtain ⟨-, f9, -⟩ := k9
    have f9' := f9
    rw [e9] at s9
    dsimp only at s9
    generalize em1 : ax_it (f_X9_drift_25 (F_X4_push m 3) (nI N) 0) N 0 (F_X4_push m 3) = m1 at s9 f9'
    have R : ∀ b, 136 ≤ b → m1 b = m b := fun b hb => (f9' b (by omega) (by omega)).trans (x3 b (by omega))
    obtain ⟨z1, z2, z3, z4⟩ := h.rx (R 136 (by omega))
    have s10 := s_X10_drift (G := G) (l := l) m1 (nI N) z1 z2 (by rw [R 136 (by omega)]; exact hD.2)
    have f138 : F_X10_remember m1 138 = m 138 := (z3 138 (by decide) (by decide)).trans (R 138 (by omega))
    have f137 : F_X10_remember m1 137 = m 137 := (z3 137 (by decide) (by decide)).trans (R 137 (by omega))
    have ec : F_X10_yearsRefused m1 (nI N) = 0 := by
      rw [← c]
      unfold F_X10_yearsRefused
      rw [R 136 (by omega), R 138 (by omega)]
      rfl
    have key := ax_it_rel2 (DR n Y (F_X4_push m 3) (F_X10_remember m1)) (f := f_X9_drift_25 (F_X4_push m 3) (nI N) 0) (g := f_X10_drift_18 (F_X10_remember m1) (nI N) 0) N 0 (F_X4_push m 3) (F_X10_remember m1) ⟨fun _ _ _ => rfl, fun _ _ _ => rfl, fun _ _ => rfl, ⟨S, hS, by rw [x3 123 (by omega), hD.1]; exact eS, (z4 3 (by decide)).trans eS⟩, by
      rw [f138]
      exact pl.congr (m := m) (m' := jn (F_X4_push m 3) (F_X10_remember m1)) (x3 3 (by omega)) (x3 4 (by omega)) (x3 5 (by omega)) (x3 6 (by omega)) (x3 7 (by omega)) f137 rfl hp, by rw [f138]; exact eY⟩ (fun i s t _ hi hs => dr_step (by omega) hn hs (by rw [f137]; exact hch) ((z4 0 (by decide)).trans hc) (by omega) _ _ _ _ _ _)
    rw [em1, Nat.zero_add] at key
    have e10 : F_X10_drift m1 (nI N) = (ax_it (f_X10_drift_18 (F_X10_remember m1) (nI N) 0) N 0 (F_X10_remember m1) 138 80, ax_it (f_X10_drift_18 (F_X10_remember m1) (nI N) 0) N 0 (F_X10_remember m1)) := by
      unfold F_X10_drift
      rw [ec, if_pos rfl, nI_clamp (show N < 2 ^ 31 by omega), show (80 : Int32).toNatClampNeg = 80 from rfl]
    rw [e10] at s10
    dsimp only at s10
    generalize ax_it (f_X10_drift_18 (F_X10_remember m1) (nI N) 0) N 0 (F_X10_remember m1) = m2 at s10 key
    obtain ⟨k1, k2, k3, ⟨T, t1, t2, t3⟩, k5, k6⟩ := key
    have e5 : m1 3 5 = m2 138 80 := k5.2.1
    rw [e5] at s9
    have Q : ∀ b, b ≠ 136 → b ≠ 138 → b ≠ 143 → m2 b = m1 b := fun b g1 g2 g3 => (k2 b g1 g2).trans (z3 b g1 g3)
    refine ⟨_, _, _, _, _, by omega, by omega, s9, s10, n, h.done (m1 := m1) (fun b _ g2 g3 => k1 b g2 g3) R Q (fun k g1 g2 => by rw [k3 k g2, z4 k g1, R 136 (by omega)]) (k2 143 (by decide) (by decide)) (k3 14 (by decide)) ?_ ⟨?_, ?_⟩⟩
    · exact pl.congr (m := jn m1 m2) (m' := m2) (Q 3 (by decide) (by decide) (by decide)) (Q 4 (by decide) (by decide) (by decide)) (Q 5 (by decide) (by decide) (by decide)) (Q 6 (by decide) (by decide) (by decide)) (Q 7 (by decide) (by decide) (by decide)) rfl rfl k5
    · rw [Q 123 (by decide) (by decide) (by decide), t2, t3]
    · rw [t3]
      exact nI_pos t1
  · have s10 := s_X10_drift (G := G) (l := l) m p0 hI.mp x2 hD.2
    rw [show F_X9_drift m p0 = (F_X10_yearsRefused m p0, m) by unfold F_X9_drift; rw [years_eq h.1, if_neg c]] at s9
    rw [show F_X10_drift m p0 = (F_X10_yearsRefused m p0, m) by unfold F_X10_drift; rw [if_neg c]] at s10
    exact ⟨_, _, _, _, _, by omega, by omega, s9, s10, hI⟩
