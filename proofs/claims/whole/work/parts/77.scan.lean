/-! ===== the text read by both: blanks and figures ===== -/
theorem uu {m : ax_Me} {a k : Nat} {x y : Int32} : ax_u (ax_u m a k x) a k y = ax_u m a k y := by
  funext b j
  unfold ax_u
  by_cases c : b = a ∧ j = k
  · rw [if_pos c, if_pos c]
  · rw [if_neg c, if_neg c, if_neg c]
theorem u_id {m : ax_Me} {a k : Nat} {x : Int32} (h : m a k = x) : ax_u m a k x = m := by
  funext b j
  unfold ax_u
  by_cases c : b = a ∧ j = k
  · rw [if_pos c, c.1, c.2, h]
  · rw [if_neg c]
/-- behind the blanks from p on -/
def sk (L : Nat → Int32) (t : Nat) : Nat → Nat → Nat
  | 0, p => p
  | f + 1, p => if p < t ∧ L p = 32 then sk L t f (p + 1) else p
def isD (x : Int32) : Prop := 48 ≤ x.toInt ∧ x.toInt ≤ 57
/-- behind the figures from p on -/
noncomputable def fg (L : Nat → Int32) (t : Nat) : Nat → Nat → Nat
  | 0, p => p
  | f + 1, p => if p < t ∧ 48 ≤ (L p).toInt ∧ (L p).toInt ≤ 57 then fg L t f (p + 1) else p
/-- the class's value, g figures read; the reference's -/
noncomputable def vl (L : Nat → Int32) (t : Nat) : Nat → Nat → Int32 → Nat → Int32
  | 0, _, v, _ => v
  | f + 1, g, v, p => if p < t ∧ 48 ≤ (L p).toInt ∧ (L p).toInt ≤ 57 then vl L t f (g + 1) (if 3 ≤ g then v else v * 10 + L p - 48) (p + 1) else v
noncomputable def vr (L : Nat → Int32) (t : Nat) : Nat → Int32 → Nat → Int32
  | 0, v, _ => v
  | f + 1, v, p => if p < t ∧ 48 ≤ (L p).toInt ∧ (L p).toInt ≤ 57 then vr L t f (if v ≤ 10000 then 10 * v + L p - 48 else v) (p + 1) else v
section SCAN
variable {L : Nat → Int32} {t : Nat}
theorem sk_ge : ∀ f p, p ≤ sk L t f p
  | 0, p => Nat.le_refl _
  | f + 1, p => by
    rw [sk]
    split
    · have := sk_ge f (p + 1)
      omega
    · exact Nat.le_refl _
theorem sk_le : ∀ f p, sk L t f p ≤ max p t
  | 0, p => by rw [sk]; omega
  | f + 1, p => by
    rw [sk]
    split
    · have := sk_le f (p + 1)
      omega
    · omega
theorem sk_end : ∀ f p, t ≤ p + f → ¬ (sk L t f p < t ∧ L (sk L t f p) = 32)
  | 0, p, h => by
    rw [sk]
    omega
  | f + 1, p, h => by
    rw [sk]
    split
    · exact sk_end f (p + 1) (by omega)
    · next c => exact c
theorem sk_fix {f p : Nat} (h : ¬ (p < t ∧ L p = 32)) : sk L t f p = p := by
  cases f with
  | zero => rfl
  | succ f => rw [sk, if_neg h]
theorem fg_ge : ∀ f p, p ≤ fg L t f p
  | 0, p => Nat.le_refl _
  | f + 1, p => by
    rw [fg]
    split
    · have := fg_ge f (p + 1)
      omega
    · exact Nat.le_refl _
theorem fg_le : ∀ f p, fg L t f p ≤ max p t
  | 0, p => by rw [fg]; omega
  | f + 1, p => by
    rw [fg]
    split
    · have := fg_le f (p + 1)
      omega
    · omega
theorem dig_next {v x : Int32} {g : Nat} (hg : g ≤ 2) (h0 : 0 ≤ v.toInt) (h1 : v.toInt < 10 ^ g) (hx : 48 ≤ x.toInt ∧ x.toInt ≤ 57) : v * 10 + x - 48 = 10 * v + x - 48 ∧ 0 ≤ (10 * v + x - 48).toInt ∧ (10 * v + x - 48).toInt < 10 ^ (g + 1) ∧ v ≤ 10000 := by
  have hv : v.toInt < 100 := by
    have : g = 0 ∨ g = 1 ∨ g = 2 := by omega
    rcases this with rfl | rfl | rfl <;> omega
  obtain ⟨V, hV, rfl⟩ := vp_in_of (x := v) (n := 100) (vp_in_iff.mpr ⟨h0, by omega⟩) (by omega)
  obtain ⟨X, hX, rfl⟩ := vp_in_of (x := x) (n := 58) (vp_in_iff.mpr ⟨by omega, by omega⟩) (by omega)
  rw [nI_toInt (by omega)] at h1 hx
  have e : 10 * nI V + nI X - 48 = nI (10 * V + X - 48) := by
    rw [show (10 : Int32) = nI 10 from rfl, pk_mul, nI_add, show (48 : Int32) = nI 48 from rfl, pk_sub (by omega)]
  refine ⟨by rw [Int32.mul_comm], ?_, ?_, ?_⟩
  · rw [e, nI_toInt (by omega)]
    omega
  · rw [e, nI_toInt (by omega)]
    have : g = 0 ∨ g = 1 ∨ g = 2 := by omega
    rcases this with rfl | rfl | rfl <;> omega
  · exact nI_le (b := 10000) (by omega) (by decide)
/-- three figures or fewer: the same value, and it is no less than 0 -/
theorem vl_vr : ∀ f g v p, 0 ≤ v.toInt → v.toInt < 10 ^ g → g + (fg L t f p - p) ≤ 3 → vl L t f g v p = vr L t f v p ∧ 0 ≤ (vr L t f v p).toInt
  | 0, g, v, p, h0, h1, h2 => ⟨rfl, h0⟩
  | f + 1, g, v, p, h0, h1, h2 => by
    rw [vl, vr]
    rw [fg] at h2
    split
    · next c =>
      rw [if_pos c] at h2
      have := fg_ge (L := L) (t := t) f (p + 1)
      obtain ⟨d1, d2, d3, d4⟩ := dig_next (g := g) (by omega) h0 h1 c.2
      rw [if_neg (by omega), if_pos d4, d1]
      exact vl_vr f (g + 1) _ (p + 1) d2 d3 (by omega)
    · exact ⟨rfl, h0⟩
end SCAN
/-- the class's text: t letters L, at p -/
def T9 (mc : ax_Me) (L : Nat → Int32) (t p : Nat) : Prop := mc 1 1 = nI t ∧ mc 1 4 = nI p ∧ ∀ k, k < t → mc 2 k = L k
def T10 (mr : ax_Me) (L : Nat → Int32) (t p : Nat) : Prop := mr 136 5 = nI t ∧ mr 136 7 = nI p ∧ ∀ k, k < t → mr 139 k = L k
section READ
variable {L : Nat → Int32} {t p : Nat} {m : ax_Me}
theorem letter_in (h : T9 m L t p) (ht : t ≤ 240) (hp : p < t) : F_X8_letterHere m = L p := by
  obtain ⟨h1, h2, h3⟩ := h
  unfold F_X8_letterHere
  rw [h1, h2, if_neg (nI_pos (by omega)), if_neg (nI_ge hp (by omega)), if_neg (show ¬ (240 : Int32) ≤ nI p from nI_ge (b := 240) (by omega) (by decide)), nI_clamp (by omega)]
  exact h3 p hp
theorem letter_out (h : T9 m L t p) (ht : t ≤ 240) (hp : t ≤ p) (h250 : p ≤ 250) : F_X8_letterHere m = -1 := by
  obtain ⟨h1, h2, h3⟩ := h
  unfold F_X8_letterHere
  rw [h1, h2, if_neg (nI_pos (by omega)), if_pos (nI_le hp (by omega))]
theorem T9.at {q : Nat} (h : T9 m L t p) : T9 (ax_u m 1 4 (nI q)) L t q := ⟨by rw [u_off (by decide)]; exact h.1, ax_u_self, fun k hk => by rw [u_row (by decide)]; exact h.2.2 k hk⟩
theorem T10.at {q : Nat} (h : T10 m L t p) : T10 (ax_u m 136 7 (nI q)) L t q := ⟨by rw [u_off (by decide)]; exact h.1, ax_u_self, fun k hk => by rw [u_row (by decide)]; exact h.2.2 k hk⟩
theorem skip9 (ht : t ≤ 240) : ∀ (f p : Nat) (m : ax_Me), T9 m L t p → p ≤ 250 → ax_wh f_X8_skipBlanks_0 f m = ax_u m 1 4 (nI (sk L t f p))
  | 0, p, m, h, _ => (u_id h.2.1).symm
  | f + 1, p, m, h, hp => by
    rw [ax_wh, sk]
    by_cases c : p < t
    · have e1 : ¬ m 1 1 ≤ m 1 4 := by
        rw [h.1, h.2.1]
        exact nI_ge c (by omega)
      by_cases d : L p = 32
      · have e : f_X8_skipBlanks_0 m = some (ax_u m 1 4 (nI (p + 1))) := by
          simp only [f_X8_skipBlanks_0]
          rw [if_neg e1, letter_in h ht c, if_pos d, h.2.1, nI_1]
        rw [e, if_pos ⟨c, d⟩]
        dsimp only
        rw [skip9 ht f (p + 1) _ h.at (by omega), uu]
      · have e : f_X8_skipBlanks_0 m = none := by
          simp only [f_X8_skipBlanks_0]
          rw [if_neg e1, letter_in h ht c, if_neg d]
        rw [e, if_neg (fun g => d g.2)]
        exact (u_id h.2.1).symm
    · have e : f_X8_skipBlanks_0 m = none := by
        simp only [f_X8_skipBlanks_0]
        rw [h.1, h.2.1, if_pos (nI_le (by omega) (by omega))]
      rw [e, if_neg (fun g => c g.1)]
      exact (u_id h.2.1).symm
theorem skip10 (ht : t ≤ 240) : ∀ (f p : Nat) (m : ax_Me), T10 m L t p → p ≤ 250 → ax_wh f_X10_here_0 f m = ax_u m 136 7 (nI (sk L t f p))
  | 0, p, m, h, _ => (u_id h.2.1).symm
  | f + 1, p, m, h, hp => by
    rw [ax_wh, sk]
    by_cases c : p < t
    · have e1 : ¬ m 136 5 ≤ m 136 7 := by
        rw [h.1, h.2.1]
        exact nI_ge c (by omega)
      by_cases d : L p = 32
      · have e : f_X10_here_0 m = some (ax_u m 136 7 (nI (p + 1))) := by
          simp only [f_X10_here_0]
          rw [if_neg e1, h.2.1, nI_clamp (by omega), h.2.2 p c, if_pos d, nI_1]
        rw [e, if_pos ⟨c, d⟩]
        dsimp only
        rw [skip10 ht f (p + 1) _ h.at (by omega), uu]
      · have e : f_X10_here_0 m = none := by
          simp only [f_X10_here_0]
          rw [if_neg e1, h.2.1, nI_clamp (by omega), h.2.2 p c, if_neg d]
        rw [e, if_neg (fun g => d g.2)]
        exact (u_id h.2.1).symm
    · have e : f_X10_here_0 m = none := by
        simp only [f_X10_here_0]
        rw [h.1, h.2.1, if_pos (nI_le (by omega) (by omega))]
      rw [e, if_neg (fun g => c g.1)]
      exact (u_id h.2.1).symm
theorem skipB (ht : t ≤ 240) (h : T9 m L t p) (hp : p ≤ 250) : F_X8_skipBlanks m = ax_u m 1 4 (nI (sk L t 241 p)) := skip9 ht 241 p m h hp
theorem hereN (ht : t ≤ 240) (h : T10 m L t p) (hp : p ≤ 250) : N_X10_here m = ax_u m 136 7 (nI (sk L t 241 p)) := by
  rw [here_2]
  exact skip10 ht 241 p m h hp
theorem hereR (ht : t ≤ 240) (h : T10 m L t p) (hp : p ≤ 250) : (sk L t 241 p < t → R_X10_here m = L (sk L t 241 p)) ∧ (t ≤ sk L t 241 p → R_X10_here m = -1) := by
  have e := skip10 ht 241 p m h hp
  have h2 : T10 (ax_u m 136 7 (nI (sk L t 241 p))) L t (sk L t 241 p) := h.at
  have hle := sk_le (L := L) (t := t) 241 p
  unfold R_X10_here F_X10_here
  rw [e]
  refine ⟨fun c => ?_, fun c => ?_⟩
  · rw [h2.1, h2.2.1, if_neg (nI_ge c (by omega)), nI_clamp (by omega)]
    exact h2.2.2 _ c
  · rw [h2.1, h2.2.1, if_pos (nI_le c (by omega))]
theorem dig_w {x : Int32} : (¬ F_X8_isFigure m x = 0) ↔ (48 ≤ x.toInt ∧ x.toInt ≤ 57) := by
  unfold F_X8_isFigure
  exact wi_iff
theorem dig_i {x : Int32} : (¬ F_X10_in m x.toInt64 48 57 = 0) ↔ (48 ≤ x.toInt ∧ x.toInt ≤ 57) := by
  rw [in_iff, Int32.toInt_toInt64]
  exact Iff.rfl
theorem num9 (ht : t ≤ 240) (mx : Int32) : ∀ (f g p : Nat) (v : Int32) (m : ax_Me), T9 m L t p → p ≤ 250 → f + g ≤ 500 → ax_wh (f_X8_readNumber_16 mx) f (nI g, v, m) = (nI (g + (fg L t f p - p)), vl L t f g v p, ax_u m 1 4 (nI (fg L t f p)))
  | 0, g, p, v, m, h, _, _ => by
    rw [ax_wh, vl, fg, Nat.sub_self, Nat.add_zero, u_id h.2.1]
  | f + 1, g, p, v, m, h, hp, hfg => by
    rw [ax_wh, vl, fg]
    by_cases c : p < t
    · have e1 : ¬ m 1 1 ≤ m 1 4 := by
        rw [h.1, h.2.1]
        exact nI_ge c (by omega)
      by_cases d : 48 ≤ (L p).toInt ∧ (L p).toInt ≤ 57
      · have e : f_X8_readNumber_16 mx (nI g, v, m) = some (nI (g + 1), (if 3 ≤ g then v else v * 10 + L p - 48), ax_u m 1 4 (nI (p + 1))) := by
          simp only [f_X8_readNumber_16]
          rw [if_neg e1, letter_in h ht c, if_neg (dig_w.mpr d), h.2.1, nI_1, nI_1]
          by_cases k : 3 ≤ g
          · rw [if_pos (show (3 : Int32) ≤ nI g from nI_le (a := 3) k (by omega)), if_pos k]
          · rw [if_neg (show ¬ (3 : Int32) ≤ nI g from nI_ge (b := 3) (by omega) (by decide)), if_neg k]
        have cd : p < t ∧ 48 ≤ (L p).toInt ∧ (L p).toInt ≤ 57 := ⟨c, d⟩
        rw [e, if_pos cd, if_pos cd]
        dsimp only
        have hge := fg_ge (L := L) (t := t) f (p + 1)
        rw [num9 ht mx f (g + 1) (p + 1) _ _ h.at (by omega) (by omega), uu]
        rw [show g + 1 + (fg L t f (p + 1) - (p + 1)) = g + (fg L t f (p + 1) - p) by omega]
      · have e : f_X8_readNumber_16 mx (nI g, v, m) = none := by
          simp only [f_X8_readNumber_16]
          rw [if_neg e1, letter_in h ht c, if_pos (Classical.byContradiction fun q => d (dig_w.mp q))]
        rw [e, if_neg (fun g => d g.2), if_neg (fun g => d g.2), Nat.sub_self, Nat.add_zero, u_id h.2.1]
    · have e : f_X8_readNumber_16 mx (nI g, v, m) = none := by
        simp only [f_X8_readNumber_16]
        rw [h.1, h.2.1, if_pos (nI_le (by omega) (by omega))]
      rw [e, if_neg (fun g => c g.1), if_neg (fun g => c g.1), Nat.sub_self, Nat.add_zero, u_id h.2.1]
theorem u87 {x y z w : Int32} : ax_u (ax_u (ax_u (ax_u m 136 8 x) 136 7 y) 136 8 z) 136 7 w = ax_u (ax_u m 136 8 z) 136 7 w := by
  funext b j
  unfold ax_u
  by_cases c : b = 136 ∧ j = 7
  · simp only [if_pos c]
  · by_cases d : b = 136 ∧ j = 8
    · simp only [if_neg c, if_pos d]
    · simp only [if_neg c, if_neg d]
theorem num10 (ht : t ≤ 240) (lo hi v3 : Int32) : ∀ (f p : Nat) (m : ax_Me), T10 m L t p → p ≤ 250 → ax_wh (f_X10_takeNumber_42 lo hi v3) f m = ax_u (ax_u m 136 8 (vr L t f (m 136 8) p)) 136 7 (nI (fg L t f p))
  | 0, p, m, h, _ => by
    rw [ax_wh, vr, fg, u_id rfl, u_id h.2.1]
  | f + 1, p, m, h, hp => by
    rw [ax_wh, vr, fg]
    by_cases c : p < t
    · have e1 : ¬ m 136 5 ≤ m 136 7 := by
        rw [h.1, h.2.1]
        exact nI_ge c (by omega)
      by_cases d : 48 ≤ (L p).toInt ∧ (L p).toInt ≤ 57
      · have e : f_X10_takeNumber_42 lo hi v3 m = some (ax_u (ax_u m 136 8 (if m 136 8 ≤ 10000 then 10 * m 136 8 + L p - 48 else m 136 8)) 136 7 (nI (p + 1))) := by
          simp only [f_X10_takeNumber_42]
          rw [if_neg e1, h.2.1, nI_clamp (by omega), h.2.2 p c, if_neg (dig_i.mpr d)]
          by_cases k : m 136 8 ≤ 10000
          · rw [if_pos k, if_pos k, u_off (by decide), h.2.1, nI_1]
          · rw [if_neg k, if_neg k, u_off (by decide), h.2.1, nI_1]
        have cd : p < t ∧ 48 ≤ (L p).toInt ∧ (L p).toInt ≤ 57 := ⟨c, d⟩
        rw [e, if_pos cd, if_pos cd]
        dsimp only
        have h' : T10 (ax_u (ax_u m 136 8 (if m 136 8 ≤ 10000 then 10 * m 136 8 + L p - 48 else m 136 8)) 136 7 (nI (p + 1))) L t (p + 1) := ⟨by rw [u_off (by decide), u_off (by decide)]; exact h.1, ax_u_self, fun k hk => by rw [u_row (by decide), u_row (by decide)]; exact h.2.2 k hk⟩
        rw [num10 ht lo hi v3 f (p + 1) _ h' (by omega), u_off (show 8 ≠ 7 by decide), ax_u_self, u87]
      · have e : f_X10_takeNumber_42 lo hi v3 m = none := by
          simp only [f_X10_takeNumber_42]
          rw [if_neg e1, h.2.1, nI_clamp (by omega), h.2.2 p c, if_pos (Classical.byContradiction fun q => d (dig_i.mp q))]
        rw [e, if_neg (fun g => d g.2), if_neg (fun g => d g.2), u_id rfl, u_id h.2.1]
    · have e : f_X10_takeNumber_42 lo hi v3 m = none := by
        simp only [f_X10_takeNumber_42]
        rw [h.1, h.2.1, if_pos (nI_le (by omega) (by omega))]
      rw [e, if_neg (fun g => c g.1), if_neg (fun g => c g.1), u_id rfl, u_id h.2.1]
end READ
