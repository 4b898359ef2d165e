/-! ===== the reference's clauses ===== -/
def FR10 (m m' : ax_Me) : Prop := (∀ b, b ≠ 136 → b ≠ 140 → b ≠ 141 → b ≠ 142 → m' b = m b) ∧ (∀ k, (k ≠ 6 ∧ k ≠ 7 ∧ k ≠ 8 ∧ k ≠ 9 ∧ k ≠ 10) → m' 136 k = m 136 k)
section FR
variable {m m' m2 : ax_Me}
theorem FR10.rf : FR10 m m := ⟨fun _ _ _ _ _ => rfl, fun _ _ => rfl⟩
theorem FR10.tr (h : FR10 m m') (h2 : FR10 m' m2) : FR10 m m2 := ⟨fun b a1 a2 a3 a4 => (h2.1 b a1 a2 a3 a4).trans (h.1 b a1 a2 a3 a4), fun k hk => (h2.2 k hk).trans (h.2 k hk)⟩
theorem FR10.u {a k : Nat} {x : Int32} (h : a = 140 ∨ a = 141 ∨ a = 142 ∨ (a = 136 ∧ (k = 6 ∨ k = 7 ∨ k = 8 ∨ k = 9 ∨ k = 10))) : FR10 m (ax_u m a k x) := ⟨fun b a1 a2 a3 a4 => u_row (by omega), fun j hj => ax_u_ne (by omega)⟩
theorem mq.fr (h : mq m m') : FR10 m m' := ⟨fun b a1 _ _ _ => h.1 b a1, fun k hk => h.2 k hk.1 hk.2.1 hk.2.2.1 hk.2.2.2.1⟩
end FR
section RC
variable {L : Nat → Int32} {t p : Nat} {m M : ax_Me} {mx : Int32}
theorem T10.mq {e : Nat} (h : T10 m L t p) (q : mq m M) (h7 : M 136 7 = nI e) : T10 M L t e := ⟨(q.2 5 (by decide) (by decide) (by decide) (by decide)).trans h.1, h7, fun k hk => by rw [q.1 139 (by decide)]; exact h.2.2 k hk⟩
theorem T10.ne {a k : Nat} {x : Int32} (h : T10 m L t p) (h1 : ¬ (a = 136 ∧ (k = 5 ∨ k = 7))) (h2 : a ≠ 139) : T10 (ax_u m a k x) L t p := ⟨by rw [ax_u_ne (by omega)]; exact h.1, by rw [ax_u_ne (by omega)]; exact h.2.1, fun j hj => by rw [u_row (by omega)]; exact h.2.2 j hj⟩
theorem nI_le0 {k : Nat} (hk : k ≤ 4) : nI k ≤ 0 ↔ k = 0 := by
  have : (nI k ≤ nI 0) ↔ k ≤ 0 := nI_leI (by omega) (by omega)
  exact ⟨fun h => by have := this.mp h; omega, fun h => by rw [h]; decide⟩
theorem nI_eq0 {k : Nat} (hk : k ≤ 4) : nI k = 0 ↔ k = 0 := by
  have : (nI k = nI 0) ↔ k = 0 := nI_eq (by omega) (by omega)
  exact this
/-- takePerson, its place behind the 'p' -/
theorem person10 (ht : t ≤ 240) (h : T10 m L t p) (hp : p ≤ 250) {c : Nat} (hc : c < 8) (e10 : m 136 10 = nI c) : ∃ f M, F_X10_takePerson m = (f, M) ∧ FR10 m M ∧
    ((cdv L t p 255 ≠ 0 ∧ f = nI (cdv L t p 255) ∧ M 136 6 = nI (qv L t p)) ∨
    (cdv L t p 255 = 0 ∧ cdv L t (ev L t p) 7 ≠ 0 ∧ f = nI (cdv L t (ev L t p) 7) ∧ M 136 6 = nI (qv L t (ev L t p))) ∨
    (cdv L t p 255 = 0 ∧ cdv L t (ev L t p) 7 = 0 ∧ f = 0 ∧ T10 M L t (ev L t (ev L t p)) ∧ M 136 6 = m 136 6 ∧ M 136 10 = nI (c + 1) ∧ M 140 = upd (m 140) c (nv L t p) ∧ M 141 = upd (m 141) c (nv L t (ev L t p)) ∧ M 142 = m 142)) := by
  have h0 : T10 (ax_u m 136 10 (nI (c + 1))) L t p := h.ne (by omega) (by omega)
  obtain ⟨M1, a1, a2, a3⟩ := ref_num (mx := 255) ht h0 hp
  have hR1 : R_X10_into (ax_u m 136 10 (nI (c + 1))) 140 (nI c) 0 255 = nI (cdv L t p 255) := by
    unfold R_X10_into F_X10_into R_X10_takeNumber
    rw [a1]
  have hN1 : N_X10_into (ax_u m 136 10 (nI (c + 1))) 140 (nI c) 0 255 = ax_u M1 140 c (M1 136 8) := by
    unfold N_X10_into F_X10_into N_X10_takeNumber
    rw [a1, nI_clamp (by omega)]
  have fr1 : FR10 m (ax_u M1 140 c (M1 136 8)) := ((FR10.u (by omega)).tr a2.fr).tr (FR10.u (by omega))
  have cl1 := cd_lt (L := L) (t := t) (p := p) (mx := 255)
  unfold F_X10_takePerson
  rw [e10, nI_1, hR1, hN1]
  by_cases c1 : cdv L t p 255 = 0
  · rcases a3 with ⟨b1, -⟩ | ⟨b1, b2, b3, b4, b5⟩
    · exact absurd c1 b1
    rw [if_pos ((nI_le0 (by omega)).mpr c1)]
    obtain ⟨d1, d2, d3, d4, d5⟩ := cd0 ht hp c1
    have h1 : T10 (ax_u M1 140 c (M1 136 8)) L t (ev L t p) := (h0.mq a2 b3).ne (by omega) (by omega)
    obtain ⟨M2, f1, f2, f3⟩ := ref_num (mx := 7) ht h1 (by omega)
    have hR2 : R_X10_into (ax_u M1 140 c (M1 136 8)) 141 (nI c) 0 7 = nI (cdv L t (ev L t p) 7) := by
      unfold R_X10_into F_X10_into R_X10_takeNumber
      rw [f1]
    have hN2 : N_X10_into (ax_u M1 140 c (M1 136 8)) 141 (nI c) 0 7 = ax_u M2 141 c (M2 136 8) := by
      unfold N_X10_into F_X10_into N_X10_takeNumber
      rw [f1, nI_clamp (by omega)]
    rw [hR2, hN2]
    refine ⟨_, _, rfl, (fr1.tr f2.fr).tr (FR10.u (by omega)), ?_⟩
    by_cases c2 : cdv L t (ev L t p) 7 = 0
    · rcases f3 with ⟨g1, -⟩ | ⟨g1, g2, g3, g4, g5⟩
      · exact absurd c2 g1
      refine Or.inr (Or.inr ⟨c1, c2, by rw [c2]; rfl, (h1.mq f2 g3).ne (by omega) (by omega), ?_, ?_, ?_, ?_, ?_⟩)
      · rw [u_row (by decide), g2, u_row (by decide), b2, u_off (by decide)]
      · rw [u_row (by decide), f2.2 10 (by decide) (by decide) (by decide) (by decide), u_row (by decide), a2.2 10 (by decide) (by decide) (by decide) (by decide), ax_u_self]
      · rw [u_row (by decide), f2.1 140 (by decide), ax_u_row, a2.1 140 (by decide), u_row (by decide), b4]
      · rw [ax_u_row, f2.1 141 (by decide), u_row (by decide), a2.1 141 (by decide), u_row (by decide), g4]
      · rw [u_row (by decide), f2.1 142 (by decide), u_row (by decide), a2.1 142 (by decide), u_row (by decide)]
    · rcases f3 with ⟨g1, g2⟩ | ⟨g1, -⟩
      · exact Or.inr (Or.inl ⟨c1, c2, rfl, by rw [u_row (by decide)]; exact g2⟩)
      · exact absurd g1 c2
  · rw [if_neg (fun g => c1 ((nI_le0 (by omega)).mp g))]
    rcases a3 with ⟨b1, b2⟩ | ⟨b1, -⟩
    · exact ⟨_, _, rfl, fr1, Or.inl ⟨c1, rfl, by rw [u_row (by decide)]; exact b2⟩⟩
    · exact absurd b1 c1
/-- takeKnows, its place behind the 'k' -/
theorem knows10 (ht : t ≤ 240) (h : T10 m L t p) (hp : p ≤ 250) {c : Nat} (hc : c ≤ 8) (e10 : m 136 10 = nI c) : ∃ f M, F_X10_takeKnows m = (f, M) ∧ FR10 m M ∧
    ((cdv L t p (nI c - 1) ≠ 0 ∧ f = nI (cdv L t p (nI c - 1)) ∧ M 136 6 = nI (qv L t p)) ∨
    (cdv L t p (nI c - 1) = 0 ∧ cdv L t (ev L t p) (nI c - 1) ≠ 0 ∧ f = nI (cdv L t (ev L t p) (nI c - 1)) ∧ M 136 6 = nI (qv L t (ev L t p))) ∨
    (cdv L t p (nI c - 1) = 0 ∧ cdv L t (ev L t p) (nI c - 1) = 0 ∧ (nv L t (ev L t p) = nv L t p ∨ ¬ m 142 ((8 * nv L t p) + nv L t (ev L t p)).toNatClampNeg = 0) ∧ f = nI 4 ∧ M 136 6 = nI (qv L t (ev L t p))) ∨
    (cdv L t p (nI c - 1) = 0 ∧ cdv L t (ev L t p) (nI c - 1) = 0 ∧ (¬ nv L t (ev L t p) = nv L t p) ∧ m 142 ((8 * nv L t p) + nv L t (ev L t p)).toNatClampNeg = 0 ∧ f = 0 ∧ T10 M L t (ev L t (ev L t p)) ∧ M 136 6 = m 136 6 ∧ M 136 10 = nI c ∧ M 140 = m 140 ∧ M 141 = m 141 ∧ M 142 = upd (m 142) ((8 * nv L t p) + nv L t (ev L t p)).toNatClampNeg 1)) := by
  obtain ⟨M1, a1, a2, a3⟩ := ref_num (mx := nI c - 1) ht h hp
  have hR1 : R_X10_takeNumber m 0 (nI c - 1) = nI (cdv L t p (nI c - 1)) := by
    unfold R_X10_takeNumber
    rw [a1]
  have hN1 : N_X10_takeNumber m 0 (nI c - 1) = M1 := by
    unfold N_X10_takeNumber
    rw [a1]
  have cl1 := cd_lt (L := L) (t := t) (p := p) (mx := nI c - 1)
  have cl2 := cd_lt (L := L) (t := t) (p := ev L t p) (mx := nI c - 1)
  unfold F_X10_takeKnows
  rw [e10, hR1, hN1]
  by_cases c1 : cdv L t p (nI c - 1) = 0
  · rcases a3 with ⟨b1, -⟩ | ⟨b1, b2, b3, b4, b5⟩
    · exact absurd c1 b1
    rw [if_pos ((nI_le0 (by omega)).mpr c1)]
    obtain ⟨d1, d2, d3, d4, d5⟩ := cd0 ht hp c1
    have h1 : T10 M1 L t (ev L t p) := h.mq a2 b3
    have e1 : M1 136 10 = nI c := (a2.2 10 (by decide) (by decide) (by decide) (by decide)).trans e10
    obtain ⟨M2, f1, f2, f3⟩ := ref_num (mx := nI c - 1) ht h1 (by omega)
    have hR2 : R_X10_takeNumber M1 0 (nI c - 1) = nI (cdv L t (ev L t p) (nI c - 1)) := by
      unfold R_X10_takeNumber
      rw [f1]
    have hN2 : N_X10_takeNumber M1 0 (nI c - 1) = M2 := by
      unfold N_X10_takeNumber
      rw [f1]
    rw [e1, hR2, hN2]
    have fr2 : FR10 m M2 := a2.fr.tr f2.fr
    by_cases c2 : cdv L t (ev L t p) (nI c - 1) = 0
    · rcases f3 with ⟨g1, -⟩ | ⟨g1, g2, g3, g4, g5⟩
      · exact absurd c2 g1
      have e142 : M2 142 = m 142 := (f2.1 142 (by decide)).trans (a2.1 142 (by decide))
      rw [if_pos ((nI_eq0 (by omega)).mpr c2), g4, b4, g5, e142]
      unfold F_X10_fails
      by_cases k1 : nv L t (ev L t p) = nv L t p
      · rw [if_pos k1]
        exact ⟨nI 4, ax_u M2 136 6 (nI (qv L t (ev L t p))), rfl, fr2.tr (FR10.u (by omega)), Or.inr (Or.inr (Or.inl ⟨c1, c2, Or.inl k1, rfl, ax_u_self⟩))⟩
      · rw [if_neg k1]
        by_cases k2 : m 142 ((8 * nv L t p) + nv L t (ev L t p)).toNatClampNeg = 0
        · rw [if_pos k2]
          refine ⟨_, _, rfl, fr2.tr (FR10.u (by omega)), Or.inr (Or.inr (Or.inr ⟨c1, c2, k1, k2, by rw [c2]; rfl, (h1.mq f2 g3).ne (by omega) (by omega), ?_, ?_, ?_, ?_, ?_⟩))⟩
          · rw [u_row (by decide), g2, b2]
          · rw [u_row (by decide), f2.2 10 (by decide) (by decide) (by decide) (by decide), e1]
          · rw [u_row (by decide), f2.1 140 (by decide), a2.1 140 (by decide)]
          · rw [u_row (by decide), f2.1 141 (by decide), a2.1 141 (by decide)]
          · rw [ax_u_row, e142]
        · rw [if_neg k2]
          exact ⟨nI 4, ax_u M2 136 6 (nI (qv L t (ev L t p))), rfl, fr2.tr (FR10.u (by omega)), Or.inr (Or.inr (Or.inl ⟨c1, c2, Or.inr k2, rfl, ax_u_self⟩))⟩
    · rw [if_neg (fun g => c2 ((nI_eq0 (by omega)).mp g))]
      rcases f3 with ⟨g1, g2⟩ | ⟨g1, -⟩
      · exact ⟨_, _, rfl, fr2, Or.inr (Or.inl ⟨c1, c2, rfl, g2⟩)⟩
      · exact absurd g1 c2
  · rw [if_neg (fun g => c1 ((nI_le0 (by omega)).mp g))]
    rcases a3 with ⟨b1, b2⟩ | ⟨b1, -⟩
    · exact ⟨_, _, rfl, a2.fr, Or.inl ⟨c1, rfl, b2⟩⟩
    · exact absurd b1 c1
/-- the end of a clause in the reference -/
theorem end10 (ht : t ≤ 240) (h : T10 m L t p) (hp : p ≤ 250) : N_X10_here m = ax_u m 136 7 (nI (qv L t p)) ∧ (R_X10_here m = 59 ↔ (qv L t p < t ∧ L (qv L t p) = 59)) := by
  have e2 := hereR ht h hp
  refine ⟨hereN ht h hp, ?_⟩
  by_cases c : qv L t p < t
  · rw [e2.1 c]
    exact ⟨fun g => ⟨c, g⟩, fun g => g.2⟩
  · rw [e2.2 (show t ≤ qv L t p by omega)]
    exact ⟨fun g => absurd g (by decide), fun g => absurd g.1 c⟩
end RC
