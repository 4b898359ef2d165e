/-! ===== mask, spoil: marks tried on ===== -/
section FEW
variable {n : Nat} {m : ax_Me}
theorem bits8 {k : Nat} (hk : k < 256) : F_X10_bits m (nI k) ≤ 8 := by
  rw [bits_m m mem0]
  exact (bits_le ⟨k, hk⟩).2
def fr (m : ax_Me) (j : Nat) (mm : ax_Me) : Prop := ∀ a k, ¬ (a = 138 ∧ k = j) → mm a k = m a k
theorem fr_u {mm : ax_Me} {j : Nat} (h : fr m j mm) (x : Int32) : fr m j (ax_u mm 138 j x) := fun a k c => (ax_u_ne c).trans (h a k c)
theorem few_rel {j : Nat} {f : Nat → Int32 × Int32 → Int32 × Int32} {g : Nat → Int32 × ax_Me → Int32 × ax_Me} (T : Nat → Bool)
    (hf : ∀ set s0 s1, set < 256 → f set (s0, s1) = if s1 ≤ F_X10_bits m (nI set) then (s0, s1) else if T set = true then (nI set, F_X10_bits m (nI set)) else (s0, s1))
    (hg : ∀ set x0 mm, set < 256 → fr m j mm → g set (x0, mm) = if x0 < 0 then (if T set = true then (nI set, ax_u mm 138 j (m 138 j ^^^ nI set)) else (x0, ax_u mm 138 j (m 138 j ^^^ nI set))) else if F_X10_bits m x0 ≤ F_X10_bits m (nI set) then (x0, mm) else (if T set = true then (nI set, ax_u mm 138 j (m 138 j ^^^ nI set)) else (x0, ax_u mm 138 j (m 138 j ^^^ nI set)))) :
    (ax_it f 256 0 (-1, 9)).1 = (ax_it g 256 0 (-1, m)).1 ∧ fr m j (ax_it g 256 0 (-1, m)).2 := by
  have key := ax_it_rel (fun (s : Int32 × Int32) (t : Int32 × ax_Me) => s.1 = t.1 ∧ ((t.1 = -1 ∧ s.2 = 9) ∨ ∃ b, b < 256 ∧ t.1 = nI b ∧ s.2 = F_X10_bits m (nI b)) ∧ fr m j t.2) (f := f) (g := g) 256 0 (-1, 9) (-1, m) ⟨rfl, Or.inl ⟨rfl, rfl⟩, fun a k _ => rfl⟩ (fun set s t _ hset hR => by
    obtain ⟨s0, s1⟩ := s
    obtain ⟨x0, mm⟩ := t
    obtain ⟨e1, e2, e3⟩ := hR
    dsimp only at e1 e2 e3
    subst e1
    rw [hf set s0 s1 (by omega), hg set s0 mm (by omega) e3]
    have h8 := bits8 (m := m) (k := set) (by omega)
    rcases e2 with ⟨rfl, rfl⟩ | ⟨b, hb, rfl, rfl⟩
    · rw [if_neg (fun q => absurd (Int32.le_trans q h8) (by decide)), if_pos (show (-1 : Int32) < 0 by decide)]
      by_cases c : T set = true
      · rw [if_pos c, if_pos c]
        exact ⟨rfl, Or.inr ⟨set, by omega, rfl, rfl⟩, fr_u e3 _⟩
      · rw [if_neg c, if_neg c]
        exact ⟨rfl, Or.inl ⟨rfl, rfl⟩, fr_u e3 _⟩
    · rw [if_neg (nI_pos (show b < 2 ^ 31 by omega))]
      by_cases d : F_X10_bits m (nI b) ≤ F_X10_bits m (nI set)
      · rw [if_pos d, if_pos d]
        exact ⟨rfl, Or.inr ⟨b, hb, rfl, rfl⟩, e3⟩
      · rw [if_neg d, if_neg d]
        by_cases c : T set = true
        · rw [if_pos c, if_pos c]
          exact ⟨rfl, Or.inr ⟨set, by omega, rfl, rfl⟩, fr_u e3 _⟩
        · rw [if_neg c, if_neg c]
          exact ⟨rfl, Or.inr ⟨b, hb, rfl, rfl⟩, fr_u e3 _⟩)
  exact ⟨key.1, key.2.2⟩
theorem fr_back {mm : ax_Me} {j : Nat} (h : fr m j mm) : ax_u mm 138 j (m 138 j) = m := by
  funext a k
  by_cases c : a = 138 ∧ k = j
  · rw [c.1, c.2, ax_u_self]
  · rw [ax_u_ne c]
    exact h a k c
theorem fr_zM {mm : ax_Me} {j set : Nat} (h : iN n m) (hj : j < n) (hs : set < 256) (hf : fr m j mm) : zM n (ax_u mm 138 j (m 138 j ^^^ nI set)) := by
  obtain ⟨hn, hc, -, hp⟩ := id h
  refine ⟨hn, ?_, fun q hq => ?_⟩
  · rw [ax_u_ne (by omega), hf _ _ (by omega)]
    exact hc
  · by_cases c : q = j
    · rw [c, ax_u_self]
      exact xor_in (hp.2.2.2.2.1 j (by omega)) (vp_in_nI hs (by omega))
    · rw [ax_u_ne (fun g => c g.2), hf _ _ (fun g => c g.2)]
      exact hp.2.2.2.2.1 q (by omega)
theorem cls_few {x row p3 : Int32} {j : Nat} (h : iN n m) (hj : j < n) (v5 : Int32) : ∀ set s0 s1, set < 256 → f_X6_fewestMarks_24 m 3 x row (nI j) p3 v5 set (s0, s1) = if s1 ≤ F_X10_bits m (nI set) then (s0, s1) else if decide (¬ F_X2_lead m 3 x (nI j) (m 138 j ^^^ nI set) v5 < p3) = true then (nI set, F_X10_bits m (nI set)) else (s0, s1) := by
  intro set s0 s1 hs
  obtain ⟨hn, hc, -, hp⟩ := id h
  simp only [f_X6_fewestMarks_24]
  rw [bc_eq (vp_in_nI hs (by omega)), marks_v hn hp hj]
  by_cases c : F_X2_lead m 3 x (nI j) (m 138 j ^^^ nI set) v5 < p3
  · simp [c]
  · simp [c]
theorem rem_fr {mm : ax_Me} {i j j0 : Nat} {x : Int32} (hi : i < 8) (hj : j < 8) (h0 : j0 < 8) (hf : fr m j mm) : F_X10_remembered (ax_u mm 138 j x) (nI i) (nI j0) = m 138 (16 + 8 * i + j0) := by
  rw [rem_v hi h0, ax_u_ne (by omega)]
  exact hf _ _ (by omega)
theorem mask_eq (h : iN n m) (p0 p1 p2 p3 : Int32) : F_X10_mask m p0 p1 p2 p3 = (F_X9_mask m p0 p1 p2 p3, m) := by
  have ew : ∀ m' : ax_Me, F_X9_isWithin m p3 1 8 = F_X10_in m' p3.toInt64 1 8 := fun m' => wi_in (by decide) (by decide)
  by_cases c : F_X9_isAsked m p0 p1 p2 = 0
  · have e := asked0 h c
    unfold F_X9_mask F_X10_mask
    rw [e, c]
    simp [F_X9_refusal]
  · obtain ⟨i, j, k, hi, hj, hij, hk, rfl, rfl, rfl, c1, c2, e⟩ := asked1 h c
    obtain ⟨hn, hc, -, hp⟩ := id h
    have hk8 : k < 256 := Nat.lt_of_lt_of_le hk (pow_le8 hn).1
    have hl := long_eq (m := m) (vp_in_nI hk8 (by omega))
    have hb := has_eq (m := m) (x := nI k) (vp_in_nI (show j < 8 by omega) (by omega))
    unfold F_X9_mask F_X10_mask
    rw [← ew m]
    by_cases d : 2 ≤ F_X10_bits m (nI k)
    · rw [if_pos d] at e hl
      rw [e, c1, hl, hb]
      by_cases d2 : F_X10_has m (nI k) (nI j) = 0
      · simp [d2, F_X9_refusal]
      · by_cases d3 : F_X9_isWithin m p3 1 8 = 0
        · simp [d2, d3, F_X9_refusal]
        · by_cases q : m 138 (16 + 8 * i + j) < 0
          · obtain ⟨k1, k2⟩ := kn0 h hi hj q
            simp [d2, d3, F_X9_refusal, k1, k2]
          · obtain ⟨k1, k2, k3, k4, k5⟩ := kn1 h hi hj q
            have key := few_rel (m := m) (j := j) (fun set => decide (¬ F_X2_lead m 3 (m 138 (16 + 8 * i + j)) (nI j) (m 138 j ^^^ nI set) (F_X2_pick m 3 (m 138 (16 + 8 * i + j)) (nI k &&& ((1 <<< (nI j &&& 31)) ^^^ (-1)))) < p3)) (cls_few (x := m 138 (16 + 8 * i + j)) (row := nI k) (p3 := p3) h hj _) (g := f_X10_mask_84 m (nI i) (nI j) (nI k) p3 0 (m 138 j)) (fun set x0 mm hs hf => by
              have L := (lead_eq h (fr_zM h hj hs hf) k5 hk hj ((has_tb hk8 (by omega)).mp d2) d (y := m 138 j ^^^ nI set) ax_u_self (fun q hq hqj => (ax_u_ne (fun g => hqj g.2)).trans (hf _ _ (fun g => hqj g.2)))).1
              simp only [f_X10_mask_84]
              rw [nI_clamp (show j < 2 ^ 31 by omega), rem_fr (by omega) (by omega) (by omega) hf, ← L, bits_m mm m, bits_m mm m]
              generalize F_X2_lead m 3 (m 138 (16 + 8 * i + j)) (nI j) (m 138 j ^^^ nI set) (F_X2_pick m 3 (m 138 (16 + 8 * i + j)) (nI k &&& ((1 <<< (nI j &&& 31)) ^^^ (-1)))) = LD
              by_cases g : LD < p3
              · simp [g, Int32.not_le.mpr g]
              · simp [g, Int32.not_lt.mp g])
            have k6 : F_X6_fewestMarks m 3 (m 138 (16 + 8 * i + j)) (nI k) (nI j) p3 = (ax_it (f_X10_mask_84 m (nI i) (nI j) (nI k) p3 0 (m 138 j)) 256 0 (-1, m)).1 := key.1
            rw [k2, k1, k3, nI_clamp (show j < 2 ^ 31 by omega), show (256 : Int32).toNatClampNeg = 256 from rfl, fr_back key.2, k6]
            simp [d2, d3, F_X9_refusal]
    · rw [if_neg d] at e hl
      rw [e, c1, hl, hb]
      simp [F_X9_refusal]
theorem spoil_eq (h : iN n m) (p0 p1 p2 p3 : Int32) : F_X10_spoil m p0 p1 p2 p3 = (F_X9_spoil m p0 p1 p2 p3, m) := by
  obtain ⟨hn, hc, -, hp⟩ := id h
  unfold F_X9_spoil F_X10_spoil
  rw [pair_eq h]
  by_cases c : F_X9_isAsked m p0 p1 p2 = 0
  · have e := asked0 h c
    rw [e, c]
    simp [F_X9_refusal]
  · obtain ⟨i, j, k, hi, hj, hij, hk, rfl, rfl, rfl, c1, c2, e⟩ := asked1 h c
    have hk8 : k < 256 := Nat.lt_of_lt_of_le hk (pow_le8 hn).1
    have hl := long_eq (m := m) (vp_in_nI hk8 (by omega))
    by_cases cx : F_X10_areTwo m p3 (nI j) = 0
    · have e2 : F_X10_isPerson m p3 = 0 ∨ p3 = nI j := by
        by_cases e : vp_in p3 n
        · refine Or.inr ?_
          unfold F_X10_areTwo at cx
          rw [isP1 hn hc (vp_in_nI hj (by omega)), isP1 hn hc e, if_neg (by decide), if_neg (by decide)] at cx
          by_cases f : p3 = nI j
          · exact f
          · rw [if_neg f] at cx
            exact absurd cx (by decide)
        · exact Or.inl (isP0 hn hc e)
      rw [c1, cx]
      rcases e2 with e2 | e2
      · simp [e2, F_X9_refusal]
      · simp [e2, F_X9_refusal]
    · obtain ⟨x, j', hx, hj', hxj, rfl, ej⟩ := iv_two h cx
      have ej' : j = j' := (nI_eq (by omega) (by omega)).mp ej
      subst ej'
      have cx' := areTwo01.resolve_left cx
      have e3 : F_X10_isPerson m (nI x) = 1 := isP1 hn hc (vp_in_nI hx (by omega))
      have e4 : ¬ nI x = nI j := fun g => hxj ((nI_eq (by omega) (by omega)).mp g)
      have hb := has_eq (m := m) (x := nI k) (vp_in_nI (show x < 8 by omega) (by omega))
      by_cases d : 2 ≤ F_X10_bits m (nI k)
      · rw [if_pos d] at e hl
        rw [e, c1, hl, hb, e3, cx', if_neg e4]
        by_cases d2 : F_X10_has m (nI k) (nI x) = 0
        · simp [d2, F_X9_refusal]
        · by_cases q : m 138 (16 + 8 * i + j) < 0
          · obtain ⟨k1, k2⟩ := kn0 h hi hj q
            simp [d2, F_X9_refusal, k1, k2]
          · obtain ⟨k1, k2, k3, k4, k5⟩ := kn1 h hi hj q
            have key := few_rel (m := m) (j := x) (fun set => decide (¬ F_X2_lead m 3 (m 138 (16 + 8 * i + j)) (nI x) (m 138 x ^^^ nI set) (F_X2_pick m 3 (m 138 (16 + 8 * i + j)) (nI k &&& ((1 <<< (nI x &&& 31)) ^^^ (-1)))) < 1)) (cls_few (x := m 138 (16 + 8 * i + j)) (row := nI k) (p3 := 1) h hx _) (g := f_X10_spoil_93 m (nI i) (nI j) (nI k) (nI x) 0 (m 138 x)) (fun set x0 mm hs hf => by
              have L := (lead_eq h (fr_zM h hx hs hf) k5 hk hx ((has_tb hk8 (by omega)).mp d2) d (y := m 138 x ^^^ nI set) ax_u_self (fun q hq hqj => (ax_u_ne (fun g => hqj g.2)).trans (hf _ _ (fun g => hqj g.2)))).2
              simp only [f_X10_spoil_93]
              rw [nI_clamp (show x < 2 ^ 31 by omega), rem_fr (by omega) (by omega) (by omega) hf, bits_m mm m, bits_m mm m]
              generalize F_X2_lead m 3 (m 138 (16 + 8 * i + j)) (nI x) (m 138 x ^^^ nI set) (F_X2_pick m 3 (m 138 (16 + 8 * i + j)) (nI k &&& ((1 <<< (nI x &&& 31)) ^^^ (-1)))) = LD at L ⊢
              by_cases g : F_X10_pickBy (ax_u mm 138 x (m 138 x ^^^ nI set)) (m 138 (16 + 8 * i + j)) (nI k) = nI x
              · have g' := L.mp g
                simp [g, g', Int32.not_lt.mp g']
              · have g' : LD < 1 := Classical.byContradiction fun u => g (L.mpr u)
                simp [g, g', Int32.not_le.mpr g'])
            have k6 : F_X6_fewestMarks m 3 (m 138 (16 + 8 * i + j)) (nI k) (nI x) 1 = (ax_it (f_X10_spoil_93 m (nI i) (nI j) (nI k) (nI x) 0 (m 138 x)) 256 0 (-1, m)).1 := key.1
            rw [k2, k1, k3, nI_clamp (show x < 2 ^ 31 by omega), show (256 : Int32).toNatClampNeg = 256 from rfl, fr_back key.2, k6]
            simp [d2, F_X9_refusal]
      · rw [if_neg d] at e hl
        rw [e, c1, hl, hb, e3, cx', if_neg e4]
        simp [F_X9_refusal]
end FEW
theorem st_mask {G : ax_G} {l : Launch} (p0 p1 p2 p3 : Int32) : ST G l INV mX9_mask mX10_mask [.int p0, .int p1, .int p2, .int p3] := by
  intro m hI
  obtain ⟨n, h⟩ := id hI
  have s10 := s_X10_mask (G := G) (l := l) m p0 p1 p2 p3 hI.mp
  rw [mask_eq h.1] at s10
  exact ⟨_, _, _, _, _, by omega, by omega, s_X9_mask m p0 p1 p2 p3, s10, hI⟩
theorem st_spoil {G : ax_G} {l : Launch} (p0 p1 p2 p3 : Int32) : ST G l INV mX9_spoil mX10_spoil [.int p0, .int p1, .int p2, .int p3] := by
  intro m hI
  obtain ⟨n, h⟩ := id hI
  have s10 := s_X10_spoil (G := G) (l := l) m p0 p1 p2 p3 hI.mp
  rw [spoil_eq h.1] at s10
  exact ⟨_, _, _, _, _, by omega, by omega, s_X9_spoil m p0 p1 p2 p3, s10, hI⟩
