/-! ===== the whole text read by both ===== -/
theorem PR.at {c t p q : Nat} {L : Nat → Int32} {mc mr : ax_Me} (h : PR c t L p mc mr) : PR c t L q (ax_u mc 1 4 (nI q)) (ax_u mr 136 7 (nI q)) := by
  obtain ⟨t9, t10, z3, z2, z6, hc, c9, c10, y5, hk, hm⟩ := h
  refine ⟨t9.at, t10.at, by rw [u_off (by decide)]; exact z3, by rw [u_off (by decide)]; exact z2, by rw [u_off (by decide)]; exact z6, hc, by rw [u_row (by decide)]; exact c9, by rw [u_off (by decide)]; exact c10, by rw [u_row (by decide)]; exact y5, fun k hk' => ?_, fun i j hi hj => ?_⟩
  · rw [u_row (show 9 ≠ 1 by decide), u_row (show 10 ≠ 1 by decide), u_row (show 11 ≠ 1 by decide), u_row (show 140 ≠ 136 by decide), u_row (show 141 ≠ 136 by decide)]
    exact hk k hk'
  · rw [u_row (show 12 ≠ 1 by decide), u_row (show 142 ≠ 136 by decide), u_row (show 140 ≠ 136 by decide)]
    exact hm i j hi hj
/-- how the reading ends -/
def EN (t : Nat) (L : Nat → Int32) (mc mr mcF mrF : ax_Me) (f : Int32) : Prop :=
  FR9 mc mcF ∧ FR10 mr mrF ∧ ((f = 0 ∧ ∃ c q, PR c t L q mcF mrF) ∨ (∃ F, 1 ≤ F ∧ F ≤ 4 ∧ f = nI F ∧ mcF 1 3 = nI F ∧ mcF 1 2 = mrF 136 6))
section LOOPS
variable {t : Nat} {L : Nat → Int32}
theorem wx_done {F : Nat} (hF : 1 ≤ F ∧ F ≤ 4) (M : ax_Me) (N : Nat) : ax_wx f_X10_place_38 N (nI F, M) = (nI F, M) := by
  cases N with
  | zero => rfl
  | succ N =>
    have e : f_X10_place_38 (nI F, M) = .inl (nI F, M) := by
      simp only [f_X10_place_38]
      rw [if_neg (nI_ne0 (by omega) (by omega))]
    rw [ax_wx, e]
theorem wh_done {k : Int32} {m : ax_Me} (h : m 1 3 ≠ 0) (N : Nat) : ax_wh (f_X8_tellInto_25 8) N (k, m) = (k, m) := by
  cases N with
  | zero => rfl
  | succ N =>
    have e : f_X8_tellInto_25 8 (k, m) = none := by
      simp only [f_X8_tellInto_25]
      split
      · rfl
      · split
        · rfl
        · first | rfl | rw [if_neg h]
    rw [ax_wh, e]
theorem loops (ht : t ≤ 240) (hL : ∀ k, k < t → vp_in (L k) 256) : ∀ (N N' k c p : Nat) (mc mr : ax_Me), PR c t L (qv L t p) mc (ax_u mr 136 7 (nI (qv L t p))) → T10 mr L t p → p ≤ t → k ≤ qv L t p → t - qv L t p < N → t - qv L t p < N' → EN t L mc mr (ax_wh (f_X8_tellInto_25 8) N (nI k, mc)).2 (ax_wx f_X10_place_38 N' (0, mr)).2 (ax_wx f_X10_place_38 N' (0, mr)).1
  | 0, _, _, _, _, _, _, _, _, _, _, h, _ => by omega
  | _ + 1, 0, _, _, _, _, _, _, _, _, _, _, h => by omega
  | N + 1, N' + 1, k, c, p, mc, mr, hR, h10, hp, hk, h1, h2 => by
    have gq := qv_rng (L := L) (t := t) (p := p) ht (by omega)
    have hN : N_X10_here mr = ax_u mr 136 7 (nI (qv L t p)) := hereN ht h10 (by omega)
    have hH := hereR ht h10 (show p ≤ 250 by omega)
    obtain ⟨t9, t10, z3, z2, z6, hc, -⟩ := id hR
    by_cases c1 : qv L t p < t
    · have nb : L (qv L t p) ≠ 32 := fun g => sk_end (L := L) (t := t) 241 p (by omega) ⟨c1, g⟩
      obtain ⟨f, M, a1, a2, a3, a4⟩ := clause_any ht hR c1 nb
      have e10 : f_X10_place_38 (0, mr) = .inr (f, M) := by
        simp only [f_X10_place_38]
        have hh : R_X10_here mr = L (qv L t p) := hH.1 c1
        have hn : ¬ L (qv L t p) < 0 := fun g => hL _ c1 (Or.inl g)
        have r1 : R_X10_takeClause (ax_u mr 136 7 (nI (qv L t p))) = f := by
          unfold R_X10_takeClause
          rw [a1]
        have r2 : N_X10_takeClause (ax_u mr 136 7 (nI (qv L t p))) = M := by
          unfold N_X10_takeClause
          rw [a1]
        rw [hN, hh, if_neg hn, r1, r2]
        simp
      have e9 : f_X8_tellInto_25 8 (nI k, mc) = some (nI (k + 1), F_X8_skipBlanks (F_X8_readClause mc 8)) := by
        simp only [f_X8_tellInto_25]
        rw [if_neg (show ¬ (240 : Int32) ≤ nI k from nI_ge (b := 240) (by omega) (by decide)), t9.1, t9.2.1, if_neg (nI_ge c1 (by omega)), if_pos z3, nI_1]
      rw [ax_wh, e9, ax_wx, e10]
      dsimp only
      have fr : FR10 mr (ax_u mr 136 7 (nI (qv L t p))) := FR10.u (by omega)
      rcases a4 with ⟨b1, c', p', b2, b3, b4⟩ | ⟨F, b1, b2, b3, b4, b5⟩
      · subst b1
        have es : F_X8_skipBlanks (F_X8_readClause mc 8) = ax_u (F_X8_readClause mc 8) 1 4 (nI (qv L t p')) := skipB ht b2.1 (by omega)
        have gq' := qv_rng (L := L) (t := t) (p := p') ht (by omega)
        have IH := loops ht hL N N' (k + 1) c' p' (F_X8_skipBlanks (F_X8_readClause mc 8)) M (by rw [es]; exact b2.at) b2.2.1 b4 (by omega) (by omega) (by omega)
        obtain ⟨i1, i2, i3⟩ := IH
        exact ⟨(a2.tr stk.skip.fr).tr i1, (fr.tr a3).tr i2, i3⟩
      · have ks : stk (F_X8_readClause mc 8) (F_X8_skipBlanks (F_X8_readClause mc 8)) := stk.skip
        have ne : F_X8_readClause mc 8 1 3 ≠ 0 := by rw [b4]; exact nI_ne0 (by omega) (by omega)
        obtain ⟨k1, k2⟩ := ks.2.2 ne
        rw [wh_done (by rw [k1]; exact ne), b3, wx_done ⟨b1, b2⟩]
        exact ⟨a2.tr ks.fr, fr.tr a3, Or.inr ⟨F, b1, b2, rfl, k1.trans b4, k2.trans b5⟩⟩
    · have e10 : f_X10_place_38 (0, mr) = .inl (0, ax_u mr 136 7 (nI (qv L t p))) := by
        simp only [f_X10_place_38]
        have hh : R_X10_here mr = -1 := hH.2 (by show t ≤ qv L t p; omega)
        rw [hN, hh]
        simp
      have e9 : f_X8_tellInto_25 8 (nI k, mc) = none := by
        simp only [f_X8_tellInto_25]
        split
        · rfl
        · rw [t9.1, t9.2.1, if_pos (nI_le (by omega) (by omega))]
      rw [ax_wh, e9, ax_wx, e10]
      exact ⟨FR9.rf, FR10.u (by omega), Or.inl ⟨rfl, c, qv L t p, hR⟩⟩
theorem clr (m m0 : ax_Me) : (∀ b, b ≠ 142 → ax_it (f_X10_place_17 m0) 64 0 m b = m b) ∧ (∀ k, k < 64 → ax_it (f_X10_place_17 m0) 64 0 m 142 k = 0) := by
  have key := ax_it_ind (f := f_X10_place_17 m0) (fun j (s : ax_Me) => (∀ b, b ≠ 142 → s b = m b) ∧ (∀ k, k < j → s 142 k = 0)) 64 0 m ⟨fun _ _ => rfl, fun k hk => absurd hk (by omega)⟩ (fun j s _ hj hs => by
    obtain ⟨h1, h2⟩ := hs
    simp only [f_X10_place_17]
    rw [nI_clamp (show j < 2 ^ 31 by omega)]
    refine ⟨fun b hb => (u_row hb).trans (h1 b hb), fun k hk => ?_⟩
    by_cases d : k = j
    · subst d
      exact ax_u_self
    · rw [u_off d]
      exact h2 k (by omega))
  rw [Nat.zero_add] at key
  exact key
/-- the class's reading and the reference's, each over a memory of its own -/
def S9 (m : ax_Me) : ax_Me := ax_u (ax_u (ax_u (F_X5_empty m 8) 1 4 0) 1 3 0) 1 2 (-1)
def S10 (m : ax_Me) : ax_Me := ax_it (f_X10_place_17 (ax_u (ax_u (ax_u m 136 6 (-1)) 136 7 0) 136 10 0)) 64 0 (ax_u (ax_u (ax_u m 136 6 (-1)) 136 7 0) 136 10 0)
theorem S9_fr (m : ax_Me) : FR9 m (S9 m) := by
  have e : FR9 m (F_X5_empty m 8) := ⟨fun b h1 h2 => by
    funext k
    unfold F_X5_empty F_J7_fill_53178
    rw [if_neg (by omega), ax_u_ne (by omega), ax_u_ne (by omega)], by
    unfold F_X5_empty F_J7_fill_53178
    rw [if_neg (by omega), ax_u_ne (by omega), ax_u_ne (by omega)]⟩
  exact ((e.tr (FR9.u (by omega))).tr (FR9.u (by omega))).tr (FR9.u (by omega))
theorem S10_fr (m : ax_Me) : FR10 m (S10 m) := by
  obtain ⟨h1, h2⟩ := clr (ax_u (ax_u (ax_u m 136 6 (-1)) 136 7 0) 136 10 0) (ax_u (ax_u (ax_u m 136 6 (-1)) 136 7 0) 136 10 0)
  have e : FR10 m (ax_u (ax_u (ax_u m 136 6 (-1)) 136 7 0) 136 10 0) := ((FR10.u (by omega)).tr (FR10.u (by omega))).tr (FR10.u (by omega))
  exact e.tr ⟨fun b _ _ _ g => h1 b g, fun k _ => congrFun (h1 136 (by decide)) k⟩
theorem start_pr {m mR : ax_Me} (ht : t ≤ 240) (h1 : m 1 1 = nI t) (h2 : ∀ k, k < t → m 2 k = L k) (h3 : mR 136 5 = nI t) (h4 : ∀ k, k < t → mR 139 k = L k) : PR 0 t L 0 (S9 m) (S10 mR) := by
  obtain ⟨c1, c2⟩ := clr (ax_u (ax_u (ax_u mR 136 6 (-1)) 136 7 0) 136 10 0) (ax_u (ax_u (ax_u mR 136 6 (-1)) 136 7 0) 136 10 0)
  have f9 := S9_fr m
  have f10 := S10_fr mR
  have r136 : S10 mR 136 = ax_u (ax_u (ax_u mR 136 6 (-1)) 136 7 0) 136 10 0 136 := c1 136 (by decide)
  have emp : ∀ k, k < 64 → F_X5_empty m 8 12 k = -1 := fun k hk => by
    unfold F_X5_empty F_J7_fill_53178
    exact if_pos ⟨rfl, hk⟩
  have e8 : ∀ k, F_X5_empty m 8 8 k = ax_u (ax_u m 8 4 0) 8 5 0 8 k := fun k => by
    unfold F_X5_empty F_J7_fill_53178
    exact if_neg (by omega)
  refine ⟨⟨f9.2.trans h1, ?_, fun k hk => by rw [f9.1 2 (by decide) (by omega)]; exact h2 k hk⟩, ⟨(f10.2 5 (by decide)).trans h3, ?_, fun k hk => by rw [f10.1 139 (by decide) (by decide) (by decide) (by decide)]; exact h4 k hk⟩, ?_, ?_, ?_, by omega, ?_, ?_, ?_, fun k hk => absurd hk (by omega), fun i j hi hj => Or.inl ⟨?_, ?_⟩⟩
  · unfold S9
    rw [u_off (by decide), u_off (by decide), ax_u_self]
    rfl
  · rw [r136, u_off (by decide), ax_u_self]
    rfl
  · unfold S9
    rw [u_off (by decide), ax_u_self]
  · unfold S9
    rw [ax_u_self]
  · rw [r136, u_off (by decide), u_off (by decide), ax_u_self]
  · unfold S9
    rw [u_row (by decide), u_row (by decide), u_row (by decide), e8, u_off (by decide), ax_u_self]
    rfl
  · rw [r136, ax_u_self]
    rfl
  · unfold S9
    rw [u_row (by decide), u_row (by decide), u_row (by decide), e8, ax_u_self]
  · exact c2 _ (by omega)
  · unfold S9
    rw [u_row (by decide), u_row (by decide), u_row (by decide), emp _ (by omega)]
theorem texts {m mR : ax_Me} (ht : t ≤ 240) (hL : ∀ k, k < t → vp_in (L k) 256) (h1 : m 1 1 = nI t) (h2 : ∀ k, k < t → m 2 k = L k) (h3 : mR 136 5 = nI t) (h4 : ∀ k, k < t → mR 139 k = L k) : EN t L m mR (F_X8_tellInto m 8).2 (ax_wx f_X10_place_38 301 (0, S10 mR)).2 (ax_wx f_X10_place_38 301 (0, S10 mR)).1 := by
  have pr := start_pr (L := L) ht h1 h2 h3 h4
  have es : F_X8_skipBlanks (S9 m) = ax_u (S9 m) 1 4 (nI (qv L t 0)) := skipB ht pr.1 (by omega)
  have key := loops ht hL 241 301 0 0 0 (F_X8_skipBlanks (S9 m)) (S10 mR) (by rw [es]; exact pr.at) pr.2.1 (by omega) (by omega) (by omega) (by omega)
  obtain ⟨k1, k2, k3⟩ := key
  have et : (F_X8_tellInto m 8).2 = (ax_wh (f_X8_tellInto_25 8) 241 (nI 0, F_X8_skipBlanks (S9 m))).2 := by
    unfold F_X8_tellInto S9
    rfl
  rw [et]
  exact ⟨((S9_fr m).tr stk.skip.fr).tr k1, (S10_fr mR).tr k2, k3⟩
end LOOPS
