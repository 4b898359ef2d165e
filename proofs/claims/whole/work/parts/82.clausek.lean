/-! ===== a clause 'k' read by both; any clause ===== -/
section CLK
variable {c t p : Nat} {L : Nat → Int32} {mc mr : ax_Me}
theorem kra_of {x1 x2 : Int32} {M1 M2 : ax_Me} {k y : Int32} (h4 : ax_u mc 1 4 (mc 1 4 + 1) 8 4 = k) (hy : k - 1 = y) (e1 : F_X8_readNumber (ax_u mc 1 4 (mc 1 4 + 1)) y = (x1, M1)) (h5 : M1 8 4 = k) (e2 : F_X8_readNumber M1 y = (x2, M2)) : F_X8_readAcquaintance mc 8 = kra (x1, M1) (x2, M2) 8 := by
  rw [kra_eq]
  generalize ax_u mc 1 4 (mc 1 4 + 1) = m0 at h4 e1
  rw [h4, hy, e1]
  dsimp only
  rw [h5, hy, e2]
theorem pair_c {m : ax_Me} (hc : c ≤ 8) (h4 : m 8 4 = nI c) {i j : Nat} (hi : i < c) (hj : j < c) (hij : i ≠ j) : F_X5_isPair m 8 (nI i) (nI j) = 1 := by
  unfold F_X5_isPair
  rw [has1 hc h4 (vp_in_nI hi (by omega)), if_neg (by decide), has1 hc h4 (vp_in_nI hj (by omega)), if_neg (by decide), if_neg (fun g => hij ((nI_eq (by omega) (by omega)).mp g))]
theorem knows_c {m : ax_Me} (hc : c ≤ 8) (h4 : m 8 4 = nI c) {i j : Nat} (hi : i < c) (hj : j < c) (hij : i ≠ j) : F_X5_knows m 8 (nI i) (nI j) = 0 ↔ m 12 (8 * i + j) = -1 := by
  unfold F_X5_knows F_X5_memoryOf
  rw [pair_c hc h4 hi hj hij, if_neg (show ¬ (1 : Int32) = 0 by decide), mem_ix (by omega) (by omega)]
  by_cases d : m (8 + 4) (8 * i + j) = -1
  · rw [if_pos d]
    exact ⟨fun _ => d, fun _ => rfl⟩
  · rw [if_neg d]
    exact ⟨fun g => absurd g (by decide), fun g => absurd g d⟩
theorem learn_c {m : ax_Me} (hc : c ≤ 8) (h4 : m 8 4 = nI c) {i j : Nat} (hi : i < c) (hj : j < c) (hij : i ≠ j) : F_X5_learn m 8 (nI i) (nI j) = ax_u m 12 (8 * i + j) (m 9 j) := by
  unfold F_X5_learn F_X5_marksOf
  rw [pair_c hc h4 hi hj hij, if_neg (show ¬ (1 : Int32) = 0 by decide), mem_ix (by omega) (by omega), has1 hc h4 (vp_in_nI hj (by omega)), if_neg (show ¬ (1 : Int32) = 0 by decide), nI_clamp (by omega)]
theorem ix8n {i j : Nat} (hi : i < 8) (hj : j < 8) : ((8 * nI i) + nI j).toNatClampNeg = 8 * i + j := by
  rw [show (8 : Int32) = nI 8 from rfl, pk_mul, nI_add, nI_clamp (by omega)]
theorem T9.of' {m : ax_Me} {a k : Nat} {x : Int32} (h : T9 m L t p) (ha : a ≠ 1 ∧ a ≠ 2) : T9 (ax_u m a k x) L t p := ⟨by rw [u_row (fun g => ha.1 g.symm)]; exact h.1, by rw [u_row (fun g => ha.1 g.symm)]; exact h.2.1, fun j hj => by rw [u_row (fun g => ha.2 g.symm)]; exact h.2.2 j hj⟩
theorem last_in {q : Nat} (ht : t ≤ 240) (hc : c ≤ 8) (hq : q ≤ 250) (h : cdv L t q (nI c - 1) = 0) : ∃ W, W < c ∧ nv L t q = nI W := by
  have e : (nI c - 1).toInt = (c : Int) - 1 := by
    have := nI_pred_toInt hc
    rw [Int32.toInt_toInt64] at this
    exact this
  have hv : vp_in (nv L t q) c := nv_in ht hq h (by omega)
  obtain ⟨W, hW, e⟩ := vp_in_of hv (by omega)
  exact ⟨W, hW, e⟩
theorem clause_k (ht : t ≤ 240) (h : PR c t L p mc mr) (hp : p < t) (h107 : L p = 107) : ∃ f M, F_X10_takeClause mr = (f, M) ∧ CL t L p mc mr (F_X8_readAcquaintance mc 8) f M := by
  obtain ⟨t9, t10, z3, z2, z6, hc, c9, c10, y5, hk, hm⟩ := id h
  obtain ⟨hN, hR⟩ := pr_here ht t10 hp (by rw [h107]; decide)
  unfold F_X10_takeClause
  rw [hR, hN, if_neg (by rw [h107]; decide), if_pos h107, t10.2.1, nI_1]
  have u9 : T9 (ax_u mc 1 4 (mc 1 4 + 1)) L t (p + 1) := by
    rw [t9.2.1, nI_1]
    exact t9.at
  have u10 : T10 (ax_u mr 136 7 (nI (p + 1))) L t (p + 1) := t10.at
  have v3 : ax_u mc 1 4 (mc 1 4 + 1) 1 3 = 0 := (u_off (by decide)).trans z3
  have v84 : ax_u mc 1 4 (mc 1 4 + 1) 8 4 = nI c := by
    rw [u_row (by decide)]
    exact c9
  obtain ⟨f, M, a1, a2, a3⟩ := knows10 ht u10 (by omega) hc ((u_off (by decide)).trans c10)
  have hRp : R_X10_takeKnows (ax_u mr 136 7 (nI (p + 1))) = f := by
    unfold R_X10_takeKnows
    rw [a1]
  have hNp : N_X10_takeKnows (ax_u mr 136 7 (nI (p + 1))) = M := by
    unfold N_X10_takeKnows
    rw [a1]
  rw [hRp, hNp]
  rw [u_row (show 142 ≠ 136 by decide)] at a3
  have f10 : FR10 mr M := (FR10.u (by omega)).tr a2
  have f9 : FR9 mc (ax_u mc 1 4 (mc 1 4 + 1)) := FR9.u (by omega)
  have cl1 := cd_lt (L := L) (t := t) (p := p + 1) (mx := nI c - 1)
  have cl2 := cd_lt (L := L) (t := t) (p := ev L t (p + 1)) (mx := nI c - 1)
  obtain ⟨x1, M1, g1, g2, g3, g4⟩ := cls_num (mx := nI c - 1) ht u9 (by omega) v3
  have h84 : M1 8 4 = nI c := by rw [g2 8 (by decide)]; exact v84
  have fM1 : FR9 mc M1 := f9.tr ⟨fun b hb _ => g2 b hb, g3⟩
  rcases g4 with ⟨i1, i2, i3⟩ | ⟨i1, i2, i3, i4, i5, i6⟩
  · -- the first number at fault
    rcases a3 with ⟨b1, b2, b3⟩ | ⟨b1, -⟩ | ⟨b1, -⟩ | ⟨b1, -⟩
    · have kn : stk M1 (F_X8_readNumber M1 (nI c - 1)).2 := stk.num
      have ne : M1 1 3 ≠ 0 := by rw [i2]; exact fun g => i1 ((nI_eq0 (by omega)).mp g)
      obtain ⟨k1, k2⟩ := kn.2.2 ne
      rw [kra_of (x2 := (F_X8_readNumber M1 (nI c - 1)).1) (M2 := (F_X8_readNumber M1 (nI c - 1)).2) v84 rfl g1 h84 rfl]
      obtain ⟨r1, r2, r3⟩ := kra_stk (x1 := x1) (x2 := (F_X8_readNumber M1 (nI c - 1)).1) (M1 := M1) (M2 := (F_X8_readNumber M1 (nI c - 1)).2) (a := 8) (by rw [k1]; exact ne)
      rw [b2, if_neg (fun g => b1 ((nI_eq0 (by omega)).mp g))]
      exact ⟨_, _, rfl, (fM1.tr kn.fr).tr r1, f10.tr (FR10.u (by omega)), Or.inr ⟨_, by omega, by omega, rfl, r2.trans (k1.trans i2), by rw [u_off (by decide), b3]; exact r3.trans (k2.trans i3)⟩⟩
    all_goals exact absurd b1 i1
  · obtain ⟨d1, d2, d3, d4, d5⟩ := cd0 ht (show p + 1 ≤ 250 by omega) i1
    have h1 : T9 M1 L t (ev L t (p + 1)) := u9.of g2 g3 i6
    obtain ⟨x2, M2, j1, j2, j3, j4⟩ := cls_num (mx := nI c - 1) ht h1 (by omega) i3
    have fM2 : FR9 mc M2 := fM1.tr ⟨fun b hb _ => j2 b hb, j3⟩
    have Mr : ∀ b, b ≠ 1 → M2 b = mc b := fun b hb => by rw [j2 b hb, g2 b hb, u_row hb]
    rw [kra_of v84 rfl g1 h84 j1]
    rcases j4 with ⟨l1, l2, l3⟩ | ⟨l1, l2, l3, l4, l5, l6⟩
    · -- the second at fault
      rcases a3 with ⟨b1, -⟩ | ⟨b0, b1, b2, b3⟩ | ⟨b0, b1, -⟩ | ⟨b0, b1, -⟩
      · exact absurd i1 b1
      · have ne : M2 1 3 ≠ 0 := by rw [l2]; exact fun g => l1 ((nI_eq0 (by omega)).mp g)
        obtain ⟨r1, r2, r3⟩ := kra_stk (x1 := x1) (x2 := x2) (M1 := M1) (M2 := M2) (a := 8) ne
        rw [b2, if_neg (fun g => b1 ((nI_eq0 (by omega)).mp g))]
        exact ⟨_, _, rfl, fM2.tr r1, f10.tr (FR10.u (by omega)), Or.inr ⟨_, by omega, by omega, rfl, r2.trans l2, by rw [u_off (by decide), b3]; exact r3.trans l3⟩⟩
      all_goals exact absurd b1 l1
    · obtain ⟨d6, d7, d8, d9, d10⟩ := cd0 ht (show ev L t (p + 1) ≤ 250 by omega) l1
      obtain ⟨W, hW, eW⟩ := last_in ht hc (by omega) i1
      obtain ⟨V, hV, eV⟩ := last_in ht hc (by omega) l1
      have m284 : M2 8 4 = nI c := by rw [Mr 8 (by decide)]; exact c9
      have h2 : T9 M2 L t (ev L t (ev L t (p + 1))) := h1.of j2 j3 l6
      subst i2 l2
      rw [eW, eV, ix8n (by omega) (by omega)] at a3
      rw [eW, eV]
      -- blamed: the pair
      have bad : kra (nI W, M1) (nI V, M2) 8 = kfn (F_X8_blame M2 4 (nI (qv L t (ev L t (p + 1))))) 8 (nI W) (nI V) → f = nI 4 → M 136 6 = nI (qv L t (ev L t (p + 1))) → ∃ f' M', (if f = 0 then (if R_X10_here M = 59 then (f, ax_u (N_X10_here M) 136 7 (N_X10_here M 136 7 + 1)) else ((F_X10_fails (N_X10_here M) 1 (N_X10_here M 136 7)).1, (F_X10_fails (N_X10_here M) 1 (N_X10_here M 136 7)).2)) else (f, ax_u M 136 7 (M 136 7 + 1))) = (f', M') ∧ CL t L p mc mr (kra (nI W, M1) (nI V, M2) 8) f' M' := fun e1 e2 e3 => by
        have hb : F_X8_blame M2 4 (nI (qv L t (ev L t (p + 1)))) 1 3 = 4 ∧ F_X8_blame M2 4 (nI (qv L t (ev L t (p + 1)))) 1 2 = nI (qv L t (ev L t (p + 1))) := by
          rw [blame0 l3]
          exact ⟨by rw [u_off (by decide), ax_u_self], ax_u_self⟩
        have kb : stk M2 (F_X8_blame M2 4 (nI (qv L t (ev L t (p + 1))))) := stk.blame
        obtain ⟨r1, r2, r3⟩ := kfn_stk (m := F_X8_blame M2 4 (nI (qv L t (ev L t (p + 1))))) (a := 8) (x := nI W) (y := nI V) (by rw [hb.1]; decide)
        rw [e1, e2, if_neg (by decide)]
        exact ⟨_, _, rfl, (fM2.tr kb.fr).tr r1, f10.tr (FR10.u (by omega)), Or.inr ⟨4, by omega, by omega, rfl, r2.trans hb.1, by rw [u_off (by decide), e3]; exact r3.trans hb.2⟩⟩
      by_cases d : V = W
      · rcases a3 with ⟨b1, -⟩ | ⟨-, b1, -⟩ | ⟨-, -, -, e1, e2⟩ | ⟨-, -, b1, -⟩
        · exact absurd i1 b1
        · exact absurd l1 b1
        · exact bad (by unfold kra; dsimp only; rw [if_pos (by rw [d]), l5]) e1 e2
        · exact absurd (by rw [d]) b1
      · have d' : ¬ nI V = nI W := fun g => d ((nI_eq (by omega) (by omega)).mp g)
        have kn := knows_c (m := M2) hc m284 hW hV (fun g => d g.symm)
        rw [Mr 12 (by decide)] at kn
        rcases hm W V (by omega) (by omega) with ⟨o1, o2⟩ | ⟨o1, o2, o3, o4, o5⟩
        · rcases a3 with ⟨b1, -⟩ | ⟨-, b1, -⟩ | ⟨-, -, b1, -⟩ | ⟨-, -, -, -, e1, e2, e3, e4, e5, e6, e7⟩
          · exact absurd i1 b1
          · exact absurd l1 b1
          · rcases b1 with b1 | b1
            · exact absurd b1 d'
            · exact absurd o1 b1
          · have ek : kra (nI W, M1) (nI V, M2) 8 = kfn M2 8 (nI W) (nI V) := by
              unfold kra
              dsimp only
              rw [if_neg d', if_pos (kn.mpr o2)]
            rw [ek, e1, if_pos rfl]
            obtain ⟨n1, n2⟩ := end9 ht h2 (show ev L t (ev L t (p + 1)) ≤ 250 by omega) l3
            obtain ⟨r1, r2⟩ := fin10 (f := 0) ht e2 (show ev L t (ev L t (p + 1)) ≤ 250 by omega)
            have gq := qv_rng (L := L) (t := t) (p := ev L t (ev L t (p + 1))) ht (by omega)
            by_cases z : qv L t (ev L t (ev L t (p + 1))) < t ∧ L (qv L t (ev L t (ev L t (p + 1)))) = 59
            · have el : kfn M2 8 (nI W) (nI V) = ax_u (ax_u M2 1 4 (nI (qv L t (ev L t (ev L t (p + 1))) + 1))) 12 (8 * W + V) (mr 140 V) := by
                unfold kfn
                rw [n1 z, if_pos (by rw [u_off (by decide)]; exact l3), learn_c hc (by rw [u_row (by decide)]; exact m284) hW hV (fun g => d g.symm), u_row (show 9 ≠ 1 by decide), Mr 9 (by decide), (hk V hV).1]
              rw [el, r1 z]
              refine ⟨_, _, rfl, (fM2.tr (FR9.u (by omega))).tr (FR9.u (by omega)), f10.tr (FR10.u (by omega)), Or.inl ⟨rfl, c, qv L t (ev L t (ev L t (p + 1))) + 1, ⟨?_, ?_, ?_, ?_, ?_, hc, ?_, ?_, ?_, ?_, ?_⟩, by omega, by omega⟩⟩
              · have h3 : T9 (ax_u M2 1 4 (nI (qv L t (ev L t (ev L t (p + 1))) + 1))) L t (qv L t (ev L t (ev L t (p + 1))) + 1) := h2.at
                exact h3.of' (by omega)
              · exact e2.at
              · rw [u_row (by decide), u_off (by decide)]
                exact l3
              · rw [u_row (by decide), u_off (by decide), l4, i4, u_off (by decide)]
                exact z2
              · rw [u_off (by decide), e3, u_off (by decide)]
                exact z6
              · rw [u_row (by decide), u_row (by decide)]
                exact m284
              · rw [u_off (by decide)]
                exact e4
              · rw [u_row (by decide), u_row (by decide), Mr 8 (by decide)]
                exact y5
              · intro k hk'
                rw [u_row (show 140 ≠ 136 by decide), u_row (show 141 ≠ 136 by decide), e5, e6, u_row (show 140 ≠ 136 by decide), u_row (show 141 ≠ 136 by decide), u_row (show 9 ≠ 12 by decide), u_row (show 9 ≠ 1 by decide), u_row (show 10 ≠ 12 by decide), u_row (show 10 ≠ 1 by decide), u_row (show 11 ≠ 12 by decide), u_row (show 11 ≠ 1 by decide), Mr 9 (by decide), Mr 10 (by decide), Mr 11 (by decide)]
                exact hk k hk'
              · intro i j hi hj
                rw [u_row (show 142 ≠ 136 by decide), e7, u_row (show 140 ≠ 136 by decide), e5, u_row (show 140 ≠ 136 by decide), ax_u_row, u_row (show 12 ≠ 1 by decide), Mr 12 (by decide)]
                by_cases q : i = W ∧ j = V
                · rw [q.1, q.2, pk_us, pk_us]
                  exact Or.inr ⟨rfl, hW, hV, fun g => d g.symm, rfl⟩
                · rw [pk_un (by omega), pk_un (by omega)]
                  exact hm i j hi hj
            · obtain ⟨k1, k2⟩ := n2 z
              have ke : stk M2 (F_X8_readEndOfClause M2) := stk.endc
              have el : kfn M2 8 (nI W) (nI V) = F_X8_readEndOfClause M2 := by
                unfold kfn
                rw [if_neg (by rw [k1]; decide)]
              rw [el, r2 z]
              exact ⟨_, _, rfl, fM2.tr ke.fr, (f10.tr (FR10.u (by omega))).tr (FR10.u (by omega)), Or.inr ⟨1, by omega, by omega, rfl, k1, by rw [ax_u_self]; exact k2⟩⟩
        · have nk : ¬ F_X5_knows M2 8 (nI W) (nI V) = 0 := fun g => by
            have g1 := kn.mp g
            rw [o5] at g1
            have g2 := (hk V hV).2.1
            rw [g1] at g2
            exact g2 (Or.inl (by decide))
          rcases a3 with ⟨b1, -⟩ | ⟨-, b1, -⟩ | ⟨-, -, -, e1, e2⟩ | ⟨-, -, -, b1, -⟩
          · exact absurd i1 b1
          · exact absurd l1 b1
          · exact bad (by unfold kra; dsimp only; rw [if_neg d', if_neg nk, l5]) e1 e2
          · rw [o1] at b1
            exact absurd b1 (by decide)
theorem clause_any (ht : t ≤ 240) (h : PR c t L p mc mr) (hp : p < t) (hb : L p ≠ 32) : ∃ f M, F_X10_takeClause mr = (f, M) ∧ CL t L p mc mr (F_X8_readClause mc 8) f M := by
  have hl := letter_in h.1 ht hp
  unfold F_X8_readClause
  rw [hl]
  by_cases c1 : L p = 112
  · rw [if_pos c1]
    exact clause_p ht h hp c1
  · rw [if_neg c1]
    by_cases c2 : L p = 107
    · rw [if_pos c2]
      exact clause_k ht h hp c2
    · rw [if_neg c2]
      obtain ⟨t9, t10, z3, z2, z6, hc, c9, c10, y5, hk, hm⟩ := id h
      obtain ⟨hN, hR⟩ := pr_here ht t10 hp hb
      have hbl : F_X8_blame mc 1 (mc 1 4) 1 3 = 1 ∧ F_X8_blame mc 1 (mc 1 4) 1 2 = nI p := by
        rw [blame0 z3, t9.2.1]
        exact ⟨by rw [u_off (by decide), ax_u_self], ax_u_self⟩
      have kb : stk mc (F_X8_blame mc 1 (mc 1 4)) := stk.blame
      unfold F_X10_takeClause
      rw [hR, hN, if_neg c1, if_neg c2, t10.2.1]
      exact ⟨nI 1, ax_u mr 136 6 (nI p), rfl, kb.fr, FR10.u (by omega), Or.inr ⟨1, by omega, by omega, rfl, hbl.1, by rw [ax_u_self]; exact hbl.2⟩⟩
end CLK
