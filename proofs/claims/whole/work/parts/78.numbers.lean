/-! ===== a number read by both ===== -/
noncomputable def qv (L : Nat → Int32) (t p : Nat) : Nat := sk L t 241 p
noncomputable def ev (L : Nat → Int32) (t p : Nat) : Nat := fg L t 241 (qv L t p)
noncomputable def nv (L : Nat → Int32) (t p : Nat) : Int32 := vr L t 241 0 (qv L t p)
/-- its fault, 0 if none -/
noncomputable def cdv (L : Nat → Int32) (t p : Nat) (mx : Int32) : Nat := if ev L t p = qv L t p then 1 else if 3 < ev L t p - qv L t p then 2 else if nv L t p ≤ mx then 0 else 2
section NUM
variable {L : Nat → Int32} {t p : Nat} {m : ax_Me} {mx : Int32}
theorem qv_rng (ht : t ≤ 240) (hp : p ≤ 250) : p ≤ qv L t p ∧ qv L t p ≤ max p t ∧ qv L t p ≤ ev L t p ∧ ev L t p ≤ max (qv L t p) t := ⟨sk_ge _ _, sk_le _ _, fg_ge _ _, fg_le _ _⟩
theorem nv_eq (h : ev L t p - qv L t p ≤ 3) : vl L t 241 0 0 (qv L t p) = nv L t p ∧ 0 ≤ (nv L t p).toInt := vl_vr 241 0 0 (qv L t p) (by decide) (by decide) (by unfold ev at h; omega)
theorem blame0 {x y : Int32} (h : m 1 3 = 0) : F_X8_blame m x y = ax_u (ax_u m 1 3 x) 1 2 y := if_pos h
theorem cls_num (ht : t ≤ 240) (h : T9 m L t p) (hp : p ≤ 250) (h3 : m 1 3 = 0) : ∃ x M, F_X8_readNumber m mx = (x, M) ∧ (∀ b, b ≠ 1 → M b = m b) ∧ M 1 1 = m 1 1 ∧ ((cdv L t p mx ≠ 0 ∧ M 1 3 = nI (cdv L t p mx) ∧ M 1 2 = nI (qv L t p)) ∨ (cdv L t p mx = 0 ∧ x = nv L t p ∧ M 1 3 = 0 ∧ M 1 2 = m 1 2 ∧ M 1 5 = nI (qv L t p) ∧ M 1 4 = nI (ev L t p))) := by
  obtain ⟨g1, g2, g3, g4⟩ := qv_rng (L := L) ht hp
  have e1 := skipB ht h hp
  have h2 : T9 (ax_u (ax_u m 1 4 (nI (qv L t p))) 1 5 (nI (qv L t p))) L t (qv L t p) := ⟨by rw [u_off (by decide), u_off (by decide)]; exact h.1, by rw [u_off (by decide), ax_u_self], fun k hk => by rw [u_row (by decide), u_row (by decide)]; exact h.2.2 k hk⟩
  have e2 := num9 ht mx 241 0 (qv L t p) 0 (ax_u (ax_u m 1 4 (nI (qv L t p))) 1 5 (nI (qv L t p))) h2 (by omega) (by omega)
  have e3 : F_X8_skipBlanks m 1 4 = nI (qv L t p) := by
    rw [e1]
    exact ax_u_self
  have e4 : ax_wh (f_X8_readNumber_16 mx) 241 (0, 0, ax_u (F_X8_skipBlanks m) 1 5 (F_X8_skipBlanks m 1 4)) = (nI (ev L t p - qv L t p), vl L t 241 0 0 (qv L t p), ax_u (ax_u (ax_u m 1 4 (nI (qv L t p))) 1 5 (nI (qv L t p))) 1 4 (nI (ev L t p))) := by
    rw [e3, e1]
    have := e2
    rw [Nat.zero_add] at this
    exact this
  unfold F_X8_readNumber
  rw [e4]
  generalize eM : ax_u (ax_u (ax_u m 1 4 (nI (qv L t p))) 1 5 (nI (qv L t p))) 1 4 (nI (ev L t p)) = M
  have R : ∀ b, b ≠ 1 → M b = m b := fun b hb => by rw [← eM, u_row hb, u_row hb, u_row hb]
  have O : ∀ k, k ≠ 4 → k ≠ 5 → M 1 k = m 1 k := fun k a b => by rw [← eM, u_off a, u_off b, u_off a]
  have M5 : M 1 5 = nI (qv L t p) := by rw [← eM, u_off (by decide), ax_u_self]
  have M4 : M 1 4 = nI (ev L t p) := by rw [← eM, ax_u_self]
  have M3 : M 1 3 = 0 := (O 3 (by decide) (by decide)).trans h3
  dsimp only
  rw [M5]
  have bl : ∀ x : Int32, (∀ b, b ≠ 1 → F_X8_blame M x (nI (qv L t p)) b = m b) ∧ F_X8_blame M x (nI (qv L t p)) 1 1 = m 1 1 ∧ F_X8_blame M x (nI (qv L t p)) 1 3 = x ∧ F_X8_blame M x (nI (qv L t p)) 1 2 = nI (qv L t p) := fun x => by
    rw [blame0 M3]
    exact ⟨fun b hb => by rw [u_row hb, u_row hb, R b hb], by rw [u_off (by decide), u_off (by decide), O 1 (by decide) (by decide)], by rw [u_off (by decide), ax_u_self], ax_u_self⟩
  by_cases c1 : ev L t p = qv L t p
  · rw [if_pos (show nI (ev L t p - qv L t p) = 0 by rw [c1, Nat.sub_self]; rfl)]
    obtain ⟨b1, b2, b3, b4⟩ := bl 1
    have ec : cdv L t p mx = 1 := if_pos c1
    exact ⟨_, _, rfl, b1, b2, Or.inl ⟨by rw [ec]; decide, by rw [ec]; exact b3, b4⟩⟩
  · rw [if_neg (nI_ne0 (by omega) (by omega))]
    by_cases c2 : 3 < ev L t p - qv L t p
    · rw [if_pos (show (3 : Int32) < nI (ev L t p - qv L t p) from nI_lt (a := 3) c2 (by omega))]
      obtain ⟨b1, b2, b3, b4⟩ := bl 2
      have ec : cdv L t p mx = 2 := by unfold cdv; rw [if_neg c1, if_pos c2]
      exact ⟨_, _, rfl, b1, b2, Or.inl ⟨by rw [ec]; decide, by rw [ec]; exact b3, b4⟩⟩
    · rw [if_neg (show ¬ (3 : Int32) < nI (ev L t p - qv L t p) from nI_nlt (b := ev L t p - qv L t p) (a := 3) (by omega) (by omega)), (nv_eq (by omega)).1]
      by_cases c3 : nv L t p ≤ mx
      · rw [if_pos c3]
        have ec : cdv L t p mx = 0 := by unfold cdv; rw [if_neg c1, if_neg c2, if_pos c3]
        exact ⟨_, _, rfl, R, O 1 (by decide) (by decide), Or.inr ⟨ec, rfl, M3, O 2 (by decide) (by decide), M5, M4⟩⟩
      · rw [if_neg c3]
        obtain ⟨b1, b2, b3, b4⟩ := bl 2
        have ec : cdv L t p mx = 2 := by unfold cdv; rw [if_neg c1, if_neg c2, if_neg c3]
        exact ⟨_, _, rfl, b1, b2, Or.inl ⟨by rw [ec]; decide, by rw [ec]; exact b3, b4⟩⟩
theorem ev_eq : ev L t p = if qv L t p < t ∧ 48 ≤ (L (qv L t p)).toInt ∧ (L (qv L t p)).toInt ≤ 57 then fg L t 240 (qv L t p + 1) else qv L t p := by
  show fg L t (240 + 1) (qv L t p) = _
  rw [fg]
theorem tnL_eq (ht : t ≤ 240) (h : T10 m L t p) (hp : p ≤ 250) : tnL m 0 mx 136 7 = nI (ev L t p) ∧ tnL m 0 mx 136 8 = nv L t p ∧ tnL m 0 mx 136 9 = nI (qv L t p) ∧ tnL m 0 mx 136 6 = m 136 6 := by
  obtain ⟨g1, g2, g3, g4⟩ := qv_rng (L := L) ht hp
  have e1 : N_X10_here m = ax_u m 136 7 (nI (qv L t p)) := hereN ht h hp
  have h2 : T10 (ax_u (ax_u (ax_u m 136 7 (nI (qv L t p))) 136 9 (nI (qv L t p))) 136 8 0) L t (qv L t p) := ⟨by rw [u_off (by decide), u_off (by decide), u_off (by decide)]; exact h.1, by rw [u_off (by decide), u_off (by decide), ax_u_self], fun k hk => by rw [u_row (by decide), u_row (by decide), u_row (by decide)]; exact h.2.2 k hk⟩
  have e8 : ax_u (ax_u (ax_u m 136 7 (nI (qv L t p))) 136 9 (nI (qv L t p))) 136 8 0 136 8 = 0 := ax_u_self
  have eL := num10 ht 0 mx (R_X10_here m) 241 (qv L t p) _ h2 (by omega)
  rw [e8] at eL
  unfold tnL
  rw [e1, ax_u_self, eL]
  unfold nv ev
  generalize vr L t 241 0 (qv L t p) = V
  generalize fg L t 241 (qv L t p) = E
  refine ⟨ax_u_self, ?_, ?_, ?_⟩
  · rw [u_off (by decide), ax_u_self]
  · rw [u_off (by decide), u_off (by decide), u_off (by decide), ax_u_self]
  · rw [u_off (by decide), u_off (by decide), u_off (by decide), u_off (by decide), u_off (by decide)]
theorem ref_num (ht : t ≤ 240) (h : T10 m L t p) (hp : p ≤ 250) : ∃ M, F_X10_takeNumber m 0 mx = (nI (cdv L t p mx), M) ∧ mq m M ∧ ((cdv L t p mx ≠ 0 ∧ M 136 6 = nI (qv L t p)) ∨ (cdv L t p mx = 0 ∧ M 136 6 = m 136 6 ∧ M 136 7 = nI (ev L t p) ∧ M 136 8 = nv L t p ∧ M 136 9 = nI (qv L t p))) := by
  obtain ⟨g1, g2, g3, g4⟩ := qv_rng (L := L) ht hp
  have q1 := mq_tn m 0 mx
  have e1 := hereN ht h hp
  have e2 := hereR ht h hp
  have e1' : N_X10_here m = ax_u m 136 7 (nI (qv L t p)) := e1
  have dd : (¬ F_X10_in (N_X10_here m) (R_X10_here m).toInt64 48 57 = 0) ↔ ¬ ev L t p = qv L t p := by
    rw [dig_i]
    have ef := ev_eq (L := L) (t := t) (p := p)
    have hge := fg_ge (L := L) (t := t) 240 (qv L t p + 1)
    by_cases c : qv L t p < t
    · rw [e2.1 c]
      by_cases d : 48 ≤ (L (qv L t p)).toInt ∧ (L (qv L t p)).toInt ≤ 57
      · rw [if_pos ⟨c, d⟩] at ef
        exact ⟨fun _ => by omega, fun _ => d⟩
      · rw [if_neg (fun g => d g.2)] at ef
        exact ⟨fun g => absurd g d, fun g => absurd ef g⟩
    · rw [e2.2 (show t ≤ qv L t p by omega)]
      rw [if_neg (fun g => c g.1)] at ef
      exact ⟨fun g => absurd g.1 (by decide), fun g => absurd ef g⟩
  have eN := tn_eq m 0 mx
  obtain ⟨l7, l8, l9, l6⟩ := tnL_eq (mx := mx) ht h hp
  have q2 : ∀ M, (F_X10_takeNumber m 0 mx).2 = M → mq m M := fun M e => by
    rw [← e]
    exact q1
  by_cases c1 : ev L t p = qv L t p
  · have ec : cdv L t p mx = 1 := if_pos c1
    rw [if_pos (Classical.byContradiction fun g => dd.mp g c1)] at eN
    refine ⟨_, ?_, q2 _ rfl, Or.inl ⟨by rw [ec]; decide, ?_⟩⟩
    · rw [ec, eN]
      rfl
    · rw [eN]
      dsimp only
      rw [ax_u_self, e1', ax_u_self]
  · rw [if_neg (dd.mpr c1), l7, l9, l8] at eN
    by_cases c2 : 3 < ev L t p - qv L t p
    · have ec : cdv L t p mx = 2 := by unfold cdv; rw [if_neg c1, if_pos c2]
      rw [pk_sub (by omega), if_pos (show (3 : Int32) < nI (ev L t p - qv L t p) from nI_lt (a := 3) c2 (by omega))] at eN
      refine ⟨_, ?_, q2 _ rfl, Or.inl ⟨by rw [ec]; decide, ?_⟩⟩
      · rw [ec, eN]
        rfl
      · rw [eN]
        dsimp only
        rw [ax_u_self]
    · rw [pk_sub (by omega), if_neg (show ¬ (3 : Int32) < nI (ev L t p - qv L t p) from nI_nlt (b := ev L t p - qv L t p) (a := 3) (by omega) (by omega))] at eN
      have nn := (nv_eq (L := L) (t := t) (p := p) (by omega)).2
      have iw : (¬ F_X10_in (tnL m 0 mx) (nv L t p).toInt64 (0 : Int32).toInt64 mx.toInt64 = 0) ↔ nv L t p ≤ mx := by
        rw [in_iff, Int32.toInt_toInt64, Int32.toInt_toInt64, Int32.toInt_toInt64, Int32.le_iff_toInt_le]
        exact ⟨fun g => g.2, fun g => ⟨nn, g⟩⟩
      by_cases c3 : nv L t p ≤ mx
      · have ec : cdv L t p mx = 0 := by unfold cdv; rw [if_neg c1, if_neg c2, if_pos c3]
        rw [if_neg (iw.mpr c3)] at eN
        refine ⟨_, ?_, q2 _ rfl, Or.inr ⟨ec, ?_, ?_, ?_, ?_⟩⟩
        · rw [ec, eN]
          rfl
        · rw [eN]
          exact l6
        · rw [eN]
          exact l7
        · rw [eN]
          exact l8
        · rw [eN]
          exact l9
      · have ec : cdv L t p mx = 2 := by unfold cdv; rw [if_neg c1, if_neg c2, if_neg c3]
        rw [if_pos (Classical.byContradiction fun g => c3 (iw.mp g))] at eN
        refine ⟨_, ?_, q2 _ rfl, Or.inl ⟨by rw [ec]; decide, ?_⟩⟩
        · rw [ec, eN]
          rfl
        · rw [eN]
          dsimp only
          rw [ax_u_self]
/-- a number without fault: where it stands, what it is worth -/
theorem cd0 (ht : t ≤ 240) (hp : p ≤ 250) (h : cdv L t p mx = 0) : p ≤ qv L t p ∧ qv L t p < ev L t p ∧ ev L t p ≤ t ∧ 0 ≤ (nv L t p).toInt ∧ nv L t p ≤ mx := by
  obtain ⟨g1, g2, g3, g4⟩ := qv_rng (L := L) ht hp
  unfold cdv at h
  by_cases c1 : ev L t p = qv L t p
  · rw [if_pos c1] at h
    cases h
  · rw [if_neg c1] at h
    by_cases c2 : 3 < ev L t p - qv L t p
    · rw [if_pos c2] at h
      cases h
    · rw [if_neg c2] at h
      by_cases c3 : nv L t p ≤ mx
      · exact ⟨g1, by omega, by omega, (nv_eq (by omega)).2, c3⟩
      · rw [if_neg c3] at h
        cases h
theorem cd_lt : cdv L t p mx ≤ 2 := by
  unfold cdv
  split
  · omega
  · split
    · omega
    · split <;> omega
end NUM
/-- the class, once there is a fault: nothing more of it changes -/
def stk (m m' : ax_Me) : Prop := (∀ b, b ≠ 1 → m' b = m b) ∧ m' 1 1 = m 1 1 ∧ (m 1 3 ≠ 0 → m' 1 3 = m 1 3 ∧ m' 1 2 = m 1 2)
section STK
variable {m m' m2 : ax_Me}
theorem stk.rf : stk m m := ⟨fun _ _ => rfl, rfl, fun _ => ⟨rfl, rfl⟩⟩
theorem stk.tr (h : stk m m') (h2 : stk m' m2) : stk m m2 := ⟨fun b hb => (h2.1 b hb).trans (h.1 b hb), h2.2.1.trans h.2.1, fun c => by
  obtain ⟨a1, a2⟩ := h.2.2 c
  obtain ⟨b1, b2⟩ := h2.2.2 (by rw [a1]; exact c)
  exact ⟨b1.trans a1, b2.trans a2⟩⟩
theorem stk.u {k : Nat} {v : Int32} (hk : k = 4 ∨ k = 5) : stk m (ax_u m 1 k v) := ⟨fun b hb => u_row hb, u_off (by omega), fun _ => ⟨u_off (by omega), u_off (by omega)⟩⟩
theorem stk.blame {x y : Int32} : stk m (F_X8_blame m x y) := by
  unfold F_X8_blame
  by_cases c : m 1 3 = 0
  · rw [if_pos c]
    exact ⟨fun b hb => by rw [u_row hb, u_row hb], by rw [u_off (by decide), u_off (by decide)], fun d => absurd c d⟩
  · rw [if_neg c]
    exact stk.rf
theorem stk.skip : stk m (F_X8_skipBlanks m) := by
  unfold F_X8_skipBlanks
  refine ax_wh_inv (stk m) (fun s s' e hs => ?_) _ _ stk.rf
  simp only [f_X8_skipBlanks_0] at e
  split at e
  · cases e
  · split at e
    · cases e
      exact hs.tr (stk.u (Or.inl rfl))
    · cases e
theorem stk.num {mx : Int32} : stk m (F_X8_readNumber m mx).2 := by
  have key : stk m (ax_wh (f_X8_readNumber_16 mx) 241 (0, 0, ax_u (F_X8_skipBlanks m) 1 5 (F_X8_skipBlanks m 1 4))).2.2 := by
    refine ax_wh_inv (fun s : Int32 × Int32 × ax_Me => stk m s.2.2) (fun s s' e hs => ?_) _ _ (stk.skip.tr (stk.u (Or.inr rfl)))
    obtain ⟨s0, s1, s2⟩ := s
    simp only [f_X8_readNumber_16] at e
    split at e
    · cases e
    · split at e
      · cases e
      · split at e
        · cases e
          exact stk.tr hs (stk.u (Or.inl rfl))
        · cases e
          exact stk.tr hs (stk.u (Or.inl rfl))
  unfold F_X8_readNumber
  generalize ax_wh (f_X8_readNumber_16 mx) 241 (0, 0, ax_u (F_X8_skipBlanks m) 1 5 (F_X8_skipBlanks m 1 4)) = W at key
  split
  · exact key.tr stk.blame
  · split
    · exact key.tr stk.blame
    · split
      · exact key
      · exact key.tr stk.blame
theorem stk.endc : stk m (F_X8_readEndOfClause m) := by
  unfold F_X8_readEndOfClause
  split
  · exact stk.skip.tr (stk.u (Or.inl rfl))
  · exact (stk.skip.tr stk.blame).tr (stk.u (Or.inl rfl))
end STK
