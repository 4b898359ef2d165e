/-! ===== a clause read by both ===== -/
def PR (c t : Nat) (L : Nat → Int32) (p : Nat) (mc mr : ax_Me) : Prop :=
  T9 mc L t p ∧ T10 mr L t p ∧ mc 1 3 = 0 ∧ mc 1 2 = -1 ∧ mr 136 6 = -1 ∧ c ≤ 8 ∧ mc 8 4 = nI c ∧ mr 136 10 = nI c ∧ mc 8 5 = 0 ∧
  (∀ k, k < c → mc 9 k = mr 140 k ∧ vp_in (mr 140 k) 256 ∧ mc 10 k = mr 141 k ∧ vp_in (mr 141 k) 8 ∧ mc 11 k = nI k) ∧
  (∀ i j, i < 8 → j < 8 → (mr 142 (8 * i + j) = 0 ∧ mc 12 (8 * i + j) = -1) ∨ (mr 142 (8 * i + j) = 1 ∧ i < c ∧ j < c ∧ i ≠ j ∧ mc 12 (8 * i + j) = mr 140 j))
def CL (t : Nat) (L : Nat → Int32) (p : Nat) (mc mr mc' : ax_Me) (f : Int32) (M : ax_Me) : Prop :=
  FR9 mc mc' ∧ FR10 mr M ∧ ((f = 0 ∧ ∃ c' p', PR c' t L p' mc' M ∧ p < p' ∧ p' ≤ t) ∨ (∃ F, 1 ≤ F ∧ F ≤ 4 ∧ f = nI F ∧ mc' 1 3 = nI F ∧ mc' 1 2 = M 136 6))
section CLS
variable {c t p : Nat} {L : Nat → Int32} {mc mr : ax_Me}
theorem pr_here (ht : t ≤ 240) (h : T10 mr L t p) (hp : p < t) (hb : L p ≠ 32) : N_X10_here mr = mr ∧ R_X10_here mr = L p := by
  have e : sk L t 241 p = p := sk_fix (fun g => hb g.2)
  have h1 := hereN ht h (by omega)
  have h2 := hereR ht h (by omega)
  rw [e] at h1 h2
  exact ⟨by rw [h1, u_id h.2.1], h2.1 hp⟩
theorem nv_in {q : Nat} {mx : Int32} {K : Nat} (ht : t ≤ 240) (hq : q ≤ 250) (h : cdv L t q mx = 0) (hm : mx.toInt < K) : vp_in (nv L t q) K := by
  obtain ⟨-, -, -, d4, d5⟩ := cd0 ht hq h
  have := Int32.le_iff_toInt_le.mp d5
  exact vp_in_iff.mpr ⟨d4, by omega⟩
theorem fin10 {f : Int32} {M : ax_Me} {e : Nat} (ht : t ≤ 240) (h : T10 M L t e) (he : e ≤ 250) : ((qv L t e < t ∧ L (qv L t e) = 59) → (if R_X10_here M = 59 then (f, ax_u (N_X10_here M) 136 7 (N_X10_here M 136 7 + 1)) else ((F_X10_fails (N_X10_here M) 1 (N_X10_here M 136 7)).1, (F_X10_fails (N_X10_here M) 1 (N_X10_here M 136 7)).2)) = (f, ax_u M 136 7 (nI (qv L t e + 1)))) ∧ (¬ (qv L t e < t ∧ L (qv L t e) = 59) → (if R_X10_here M = 59 then (f, ax_u (N_X10_here M) 136 7 (N_X10_here M 136 7 + 1)) else ((F_X10_fails (N_X10_here M) 1 (N_X10_here M 136 7)).1, (F_X10_fails (N_X10_here M) 1 (N_X10_here M 136 7)).2)) = (1, ax_u (ax_u M 136 7 (nI (qv L t e))) 136 6 (nI (qv L t e)))) := by
  obtain ⟨n1, n2⟩ := end10 ht h he
  refine ⟨fun z => ?_, fun z => ?_⟩
  · rw [if_pos (n2.mpr z), n1, ax_u_self, nI_1, uu]
  · rw [if_neg (fun g => z (n2.mp g)), n1, ax_u_self]
    rfl
theorem clause_p (ht : t ≤ 240) (h : PR c t L p mc mr) (hp : p < t) (h112 : L p = 112) : ∃ f M, F_X10_takeClause mr = (f, M) ∧ CL t L p mc mr (F_X8_readPerson mc 8) f M := by
  obtain ⟨t9, t10, z3, z2, z6, hc, c9, c10, y5, hk, hm⟩ := id h
  obtain ⟨hN, hR⟩ := pr_here ht t10 hp (by rw [h112]; decide)
  unfold F_X10_takeClause
  rw [hR, hN, if_pos h112, c10, t10.2.1, nI_1, prz_eq, c9, t9.2.1, nI_1]
  by_cases c8 : c = 8
  · subst c8
    rw [if_pos (show nI 8 = (8 : Int32) from rfl), if_neg (show ¬ nI 8 < (8 : Int32) by decide)]
    have hb : F_X8_blame mc 3 (nI p) 1 3 = 3 ∧ F_X8_blame mc 3 (nI p) 1 2 = nI p := by
      rw [blame0 z3]
      exact ⟨by rw [u_off (by decide), ax_u_self], ax_u_self⟩
    have kb : stk mc (ax_u (F_X8_blame mc 3 (nI p)) 1 4 (F_X8_blame mc 3 (nI p) 1 4 + 1)) := stk.blame.tr (stk.u (Or.inl rfl))
    have k3 : ax_u (F_X8_blame mc 3 (nI p)) 1 4 (F_X8_blame mc 3 (nI p) 1 4 + 1) 1 3 = 3 := (u_off (by decide)).trans hb.1
    have k2 : ax_u (F_X8_blame mc 3 (nI p)) 1 4 (F_X8_blame mc 3 (nI p) 1 4 + 1) 1 2 = nI p := (u_off (by decide)).trans hb.2
    obtain ⟨r1, r2, r3⟩ := prz_stk (m := ax_u (F_X8_blame mc 3 (nI p)) 1 4 (F_X8_blame mc 3 (nI p) 1 4 + 1)) (a := 8) (by rw [k3]; decide)
    exact ⟨nI 3, ax_u mr 136 6 (nI p), rfl, kb.fr.tr r1, FR10.u (by omega), Or.inr ⟨3, by omega, by omega, rfl, r2.trans k3, by rw [ax_u_self]; exact r3.trans k2⟩⟩
  · rw [if_neg (show ¬ nI c = (8 : Int32) from fun g => c8 ((nI_eq (b := 8) (by omega) (by decide)).mp g)), if_pos (show nI c < (8 : Int32) from nI_lt (b := 8) (by omega) (by decide))]
    have u9 : T9 (ax_u mc 1 4 (nI (p + 1))) L t (p + 1) := t9.at
    have u10 : T10 (ax_u mr 136 7 (nI (p + 1))) L t (p + 1) := t10.at
    have v3 : ax_u mc 1 4 (nI (p + 1)) 1 3 = 0 := (u_off (by decide)).trans z3
    obtain ⟨f, M, a1, a2, a3⟩ := person10 ht u10 (by omega) (c := c) (by omega) ((u_off (by decide)).trans c10)
    have hRp : R_X10_takePerson (ax_u mr 136 7 (nI (p + 1))) = f := by
      unfold R_X10_takePerson
      rw [a1]
    have hNp : N_X10_takePerson (ax_u mr 136 7 (nI (p + 1))) = M := by
      unfold N_X10_takePerson
      rw [a1]
    rw [hRp, hNp]
    have f10 : FR10 mr M := (FR10.u (by omega)).tr a2
    have f9 : FR9 mc (ax_u mc 1 4 (nI (p + 1))) := FR9.u (by omega)
    have cl1 := cd_lt (L := L) (t := t) (p := p + 1) (mx := 255)
    have cl2 := cd_lt (L := L) (t := t) (p := ev L t (p + 1)) (mx := 7)
    have p9 := person9 ht u9 (by omega) v3
    rcases a3 with ⟨b1, b2, b3⟩ | ⟨b0, b1, b2, b3⟩ | ⟨b0, b1, b2, b3, b4, b5, b6, b7, b8⟩
    · rw [b2, if_neg (fun g => b1 ((nI_eq0 (by omega)).mp g))]
      rcases p9 with ⟨-, q1, q2, q3⟩ | ⟨q0, -⟩ | ⟨q0, -⟩ | ⟨q0, -⟩
      · exact ⟨_, _, rfl, f9.tr q1, f10.tr (FR10.u (by omega)), Or.inr ⟨_, by omega, by omega, rfl, q2, by rw [u_off (by decide), b3]; exact q3⟩⟩
      all_goals exact absurd q0 b1
    · rw [b2, if_neg (fun g => b1 ((nI_eq0 (by omega)).mp g))]
      rcases p9 with ⟨q0, -⟩ | ⟨-, -, q1, q2, q3⟩ | ⟨-, q0, -⟩ | ⟨-, q0, -⟩
      · exact absurd b0 q0
      · exact ⟨_, _, rfl, f9.tr q1, f10.tr (FR10.u (by omega)), Or.inr ⟨_, by omega, by omega, rfl, q2, by rw [u_off (by decide), b3]; exact q3⟩⟩
      all_goals exact absurd q0 b1
    · obtain ⟨d1, d2, d3, d4, d5⟩ := cd0 ht (show p + 1 ≤ 250 by omega) b0
      obtain ⟨d6, d7, d8, d9, d10⟩ := cd0 ht (show ev L t (p + 1) ≤ 250 by omega) b1
      rw [b2, if_pos rfl]
      obtain ⟨n1, n2⟩ := fin10 (f := 0) ht b3 (show ev L t (ev L t (p + 1)) ≤ 250 by omega)
      rcases p9 with ⟨q0, -⟩ | ⟨-, q0, -⟩ | ⟨-, -, zz, q1, q2, q3⟩ | ⟨-, -, zz, M9, q1, q2, q3, q4, q5, q6⟩
      · exact absurd b0 q0
      · exact absurd b1 q0
      · rw [n2 zz]
        exact ⟨_, _, rfl, f9.tr q1, (f10.tr (FR10.u (by omega))).tr (FR10.u (by omega)), Or.inr ⟨1, by omega, by omega, rfl, q2, by rw [ax_u_self]; exact q3⟩⟩
      · rw [n1 zz]
        have gq := qv_rng (L := L) (t := t) (p := ev L t (ev L t (p + 1))) ht (by omega)
        have m84 : M9 8 4 = nI c := by rw [q2 8 (by decide), u_row (by decide)]; exact c9
        have ea := add_eq (m := M9) (c := c) (by omega) m84 (nv L t (p + 1)) (nv L t (ev L t (p + 1)))
        have Mr : ∀ b, b ≠ 1 → M9 b = mc b := fun b hb => by rw [q2 b hb, u_row hb]
        rw [q1, ea]
        refine ⟨_, _, rfl, ?_, f10.tr (FR10.u (by omega)), Or.inl ⟨rfl, c + 1, qv L t (ev L t (ev L t (p + 1))) + 1, ⟨?_, ?_, ?_, ?_, ?_, by omega, ?_, ?_, ?_, ?_, ?_⟩, by omega, by omega⟩⟩
        · have fM : FR9 mc M9 := ⟨fun b hb _ => Mr b hb, q3.trans (u_off (by decide))⟩
          exact (((fM.tr (FR9.u (by omega))).tr (FR9.u (by omega))).tr (FR9.u (by omega))).tr (FR9.u (by omega))
        · exact ⟨by rw [u_row (by decide), u_row (by decide), u_row (by decide), u_row (by decide), q3, u_off (by decide)]; exact t9.1, by rw [u_row (by decide), u_row (by decide), u_row (by decide), u_row (by decide)]; exact q6, fun k hk' => by rw [u_row (by decide), u_row (by decide), u_row (by decide), u_row (by decide), Mr 2 (by decide)]; exact t9.2.2 k hk'⟩
        · exact b3.at
        · rw [u_row (by decide), u_row (by decide), u_row (by decide), u_row (by decide)]
          exact q4
        · rw [u_row (by decide), u_row (by decide), u_row (by decide), u_row (by decide), q5, u_off (by decide)]
          exact z2
        · rw [u_off (by decide), b4, u_off (by decide)]
          exact z6
        · rw [ax_u_self]
        · rw [u_off (by decide)]
          exact b5
        · rw [u_off (by decide), u_row (by decide), u_row (by decide), u_row (by decide), Mr 8 (by decide)]
          exact y5
        · intro k hk'
          rw [u_row (show 140 ≠ 136 by decide), u_row (show 141 ≠ 136 by decide), b6, b7, u_row (show 140 ≠ 136 by decide), u_row (show 141 ≠ 136 by decide), u_row (show 9 ≠ 8 by decide), u_row (show 9 ≠ 11 by decide), u_row (show 9 ≠ 10 by decide), ax_u_row, u_row (show 10 ≠ 8 by decide), u_row (show 10 ≠ 11 by decide), ax_u_row, u_row (show 10 ≠ 9 by decide), u_row (show 11 ≠ 8 by decide), ax_u_row, Mr 9 (by decide), Mr 10 (by decide)]
          by_cases d : k = c
          · subst d
            rw [pk_us, pk_us, pk_us, pk_us, pk_us]
            exact ⟨rfl, nv_in ht (by omega) b0 (by decide), rfl, nv_in ht (by omega) b1 (by decide), rfl⟩
          · rw [pk_un d, pk_un d, pk_un d, pk_un d, pk_un d, u_row (show 11 ≠ 10 by decide), u_row (show 11 ≠ 9 by decide), Mr 11 (by decide)]
            exact hk k (by omega)
        · intro i j hi hj
          rw [u_row (show 142 ≠ 136 by decide), b8, u_row (show 142 ≠ 136 by decide), u_row (show 140 ≠ 136 by decide), b6, u_row (show 140 ≠ 136 by decide), u_row (show 12 ≠ 8 by decide), u_row (show 12 ≠ 11 by decide), u_row (show 12 ≠ 10 by decide), u_row (show 12 ≠ 9 by decide), Mr 12 (by decide)]
          rcases hm i j hi hj with o | ⟨o1, o2, o3, o4, o5⟩
          · exact Or.inl o
          · exact Or.inr ⟨o1, by omega, by omega, o4, by rw [pk_un (by omega)]; exact o5⟩
end CLS
