/-! ===== the class's clauses ===== -/
def FR9 (m m' : ax_Me) : Prop := (∀ b, b ≠ 1 → ¬ (8 ≤ b ∧ b ≤ 12) → m' b = m b) ∧ m' 1 1 = m 1 1
section F9
variable {m m' m2 : ax_Me}
theorem FR9.rf : FR9 m m := ⟨fun _ _ _ => rfl, rfl⟩
theorem FR9.tr (h : FR9 m m') (h2 : FR9 m' m2) : FR9 m m2 := ⟨fun b a1 a2 => (h2.1 b a1 a2).trans (h.1 b a1 a2), h2.2.trans h.2⟩
theorem stk.fr (h : stk m m') : FR9 m m' := ⟨fun b a1 _ => h.1 b a1, h.2.1⟩
theorem FR9.u {a k : Nat} {x : Int32} (h : (8 ≤ a ∧ a ≤ 12) ∨ (a = 1 ∧ k ≠ 1)) : FR9 m (ax_u m a k x) := ⟨fun b a1 a2 => u_row (by omega), ax_u_ne (by omega)⟩
end F9
section CC
variable {L : Nat → Int32} {t p : Nat} {m : ax_Me}
theorem T9.of {M : ax_Me} {e : Nat} (h : T9 m L t p) (h1 : ∀ b, b ≠ 1 → M b = m b) (h2 : M 1 1 = m 1 1) (h4 : M 1 4 = nI e) : T9 M L t e := ⟨h2.trans h.1, h4, fun k hk => by rw [h1 2 (by decide)]; exact h.2.2 k hk⟩
theorem end9 (ht : t ≤ 240) (h : T9 m L t p) (hp : p ≤ 250) (h3 : m 1 3 = 0) : ((qv L t p < t ∧ L (qv L t p) = 59) → F_X8_readEndOfClause m = ax_u m 1 4 (nI (qv L t p + 1))) ∧ (¬ (qv L t p < t ∧ L (qv L t p) = 59) → F_X8_readEndOfClause m 1 3 = nI 1 ∧ F_X8_readEndOfClause m 1 2 = nI (qv L t p)) := by
  obtain ⟨g1, g2, g3, g4⟩ := qv_rng (L := L) ht hp
  have e1 : F_X8_skipBlanks m = ax_u m 1 4 (nI (qv L t p)) := skipB ht h hp
  have h2 : T9 (ax_u m 1 4 (nI (qv L t p))) L t (qv L t p) := h.at
  have hl : F_X8_letterHere (ax_u m 1 4 (nI (qv L t p))) = 59 ↔ (qv L t p < t ∧ L (qv L t p) = 59) := by
    by_cases c : qv L t p < t
    · rw [letter_in h2 ht c]
      exact ⟨fun g => ⟨c, g⟩, fun g => g.2⟩
    · rw [letter_out h2 ht (by omega) (by omega)]
      exact ⟨fun g => absurd g (by decide), fun g => absurd g.1 c⟩
  unfold F_X8_readEndOfClause
  rw [e1]
  refine ⟨fun c => ?_, fun c => ?_⟩
  · rw [if_pos (hl.mpr c), ax_u_self, nI_1, uu]
  · have z3 : ax_u m 1 4 (nI (qv L t p)) 1 3 = 0 := (u_off (by decide)).trans h3
    rw [if_neg (fun g => c (hl.mp g)), ax_u_self, blame0 z3]
    refine ⟨?_, ?_⟩
    · rw [u_off (by decide), u_off (by decide), ax_u_self]
      rfl
    · rw [u_off (by decide), ax_u_self]
theorem add_eq {c : Nat} (hc : c < 8) (e : m 8 4 = nI c) (x y : Int32) : F_X5_add m 8 x y = ax_u (ax_u (ax_u (ax_u m 9 c x) 10 c y) 11 c (nI c)) 8 4 (nI (c + 1)) := by
  have w : F_X9_isWithin m (nI c) 0 7 = 1 := wi1 (N := 7) (by decide) rfl (by omega)
  have k : (nI c).toNatClampNeg = c := nI_clamp (by omega)
  unfold F_X5_add
  rw [e, w, if_neg (by decide)]
  have h1 : ∀ x, ax_u m (8 + 1) c x 8 4 = nI c := fun x => (ax_u_ne (by omega)).trans e
  have h2 : ∀ x y, ax_u (ax_u m (8 + 1) c x) (8 + 2) c y 8 4 = nI c := fun x y => (ax_u_ne (by omega)).trans (h1 x)
  have h3 : ∀ x y z, ax_u (ax_u (ax_u m (8 + 1) c x) (8 + 2) c y) (8 + 3) c z 8 4 = nI c := fun x y z => (ax_u_ne (by omega)).trans (h2 x y)
  rw [k, h1, k, h2, k, h3, nI_1]
/-- behind the 'p' -/
def prz (m : ax_Me) (a : Nat) : ax_Me := if (F_X8_readEndOfClause (F_X8_readNumber (F_X8_readNumber m 255).2 7).2) 1 3 = 0 then F_X5_add (F_X8_readEndOfClause (F_X8_readNumber (F_X8_readNumber m 255).2 7).2) a (F_X8_readNumber m 255).1 (F_X8_readNumber (F_X8_readNumber m 255).2 7).1 else F_X8_readEndOfClause (F_X8_readNumber (F_X8_readNumber m 255).2 7).2
theorem prz_eq (m : ax_Me) (a : Nat) : F_X8_readPerson m a = if m a 4 < 8 then prz (ax_u m 1 4 (m 1 4 + 1)) a else prz (ax_u (F_X8_blame m 3 (m 1 4)) 1 4 (F_X8_blame m 3 (m 1 4) 1 4 + 1)) a := by
  unfold F_X8_readPerson prz
  rfl
theorem prz_of {x1 x2 : Int32} {M1 M2 M3 : ax_Me} {a : Nat} (e1 : F_X8_readNumber m 255 = (x1, M1)) (e2 : F_X8_readNumber M1 7 = (x2, M2)) (e3 : F_X8_readEndOfClause M2 = M3) : prz m a = if M3 1 3 = 0 then F_X5_add M3 a x1 x2 else M3 := by
  have e2' : F_X8_readNumber (F_X8_readNumber m 255).2 7 = (x2, M2) := by
    rw [e1]
    exact e2
  have e3' : F_X8_readEndOfClause (F_X8_readNumber (F_X8_readNumber m 255).2 7).2 = M3 := by
    rw [e2']
    exact e3
  unfold prz
  rw [e3', e2', e1]
/-- whatever is blamed first stays -/
theorem prz_stk {a : Nat} (h : m 1 3 ≠ 0) : FR9 m (prz m a) ∧ prz m a 1 3 = m 1 3 ∧ prz m a 1 2 = m 1 2 := by
  have k : stk m (F_X8_readEndOfClause (F_X8_readNumber (F_X8_readNumber m 255).2 7).2) := (stk.num.tr stk.num).tr stk.endc
  obtain ⟨k1, k2⟩ := k.2.2 h
  unfold prz
  rw [if_neg (by rw [k1]; exact h)]
  exact ⟨k.fr, k1, k2⟩
theorem person9 (ht : t ≤ 240) (h : T9 m L t p) (hp : p ≤ 250) (h3 : m 1 3 = 0) :
    (cdv L t p 255 ≠ 0 ∧ FR9 m (prz m 8) ∧ prz m 8 1 3 = nI (cdv L t p 255) ∧ prz m 8 1 2 = nI (qv L t p)) ∨
    (cdv L t p 255 = 0 ∧ cdv L t (ev L t p) 7 ≠ 0 ∧ FR9 m (prz m 8) ∧ prz m 8 1 3 = nI (cdv L t (ev L t p) 7) ∧ prz m 8 1 2 = nI (qv L t (ev L t p))) ∨
    (cdv L t p 255 = 0 ∧ cdv L t (ev L t p) 7 = 0 ∧ (¬ (qv L t (ev L t (ev L t p)) < t ∧ L (qv L t (ev L t (ev L t p))) = 59)) ∧ FR9 m (prz m 8) ∧ prz m 8 1 3 = nI 1 ∧ prz m 8 1 2 = nI (qv L t (ev L t (ev L t p)))) ∨
    (cdv L t p 255 = 0 ∧ cdv L t (ev L t p) 7 = 0 ∧ (qv L t (ev L t (ev L t p)) < t ∧ L (qv L t (ev L t (ev L t p))) = 59) ∧ ∃ M, prz m 8 = F_X5_add M 8 (nv L t p) (nv L t (ev L t p)) ∧ (∀ b, b ≠ 1 → M b = m b) ∧ M 1 1 = m 1 1 ∧ M 1 3 = 0 ∧ M 1 2 = m 1 2 ∧ M 1 4 = nI (qv L t (ev L t (ev L t p)) + 1)) := by
  obtain ⟨x1, M1, a1, a2, a3, a4⟩ := cls_num (mx := 255) ht h hp h3
  have cl1 := cd_lt (L := L) (t := t) (p := p) (mx := 255)
  have cl2 := cd_lt (L := L) (t := t) (p := ev L t p) (mx := 7)
  have f1 : FR9 m M1 := ⟨fun b hb _ => a2 b hb, a3⟩
  have stuck : ∀ {M2 M3 : ax_Me} {x2 : Int32} {F : Nat} {q : Int32}, F_X8_readNumber M1 7 = (x2, M2) → F_X8_readEndOfClause M2 = M3 → F ≠ 0 → F ≤ 4 → M3 1 3 = nI F → M3 1 2 = q → FR9 m M3 → FR9 m (prz m 8) ∧ prz m 8 1 3 = nI F ∧ prz m 8 1 2 = q := fun g1 g2 g3 g4 g5 g6 g7 => by
    rw [prz_of a1 g1 g2, if_neg (by rw [g5]; exact fun g => g3 ((nI_eq0 g4).mp g))]
    exact ⟨g7, g5, g6⟩
  rcases a4 with ⟨b1, b2, b3⟩ | ⟨b1, b2, b3, b4, b5, b6⟩
  · have k : stk M1 (F_X8_readEndOfClause (F_X8_readNumber M1 7).2) := stk.num.tr stk.endc
    obtain ⟨k1, k2⟩ := k.2.2 (by rw [b2]; exact fun g => b1 ((nI_eq0 (by omega)).mp g))
    exact Or.inl ⟨b1, stuck rfl rfl b1 (by omega) (k1.trans b2) (k2.trans b3) (f1.tr k.fr)⟩
  · obtain ⟨d1, d2, d3, d4, d5⟩ := cd0 ht hp b1
    have h1 : T9 M1 L t (ev L t p) := h.of a2 a3 b6
    obtain ⟨x2, M2, c1, c2, c3, c4⟩ := cls_num (mx := 7) ht h1 (by omega) b3
    have f2 : FR9 m M2 := f1.tr ⟨fun b hb _ => c2 b hb, c3⟩
    rcases c4 with ⟨e1, e2, e3⟩ | ⟨e1, e2, e3, e4, e5, e6⟩
    · have k : stk M2 (F_X8_readEndOfClause M2) := stk.endc
      obtain ⟨k1, k2⟩ := k.2.2 (by rw [e2]; exact fun g => e1 ((nI_eq0 (by omega)).mp g))
      exact Or.inr (Or.inl ⟨b1, e1, stuck c1 rfl e1 (by omega) (k1.trans e2) (k2.trans e3) (f2.tr k.fr)⟩)
    · obtain ⟨d6, d7, d8, d9, d10⟩ := cd0 ht (show ev L t p ≤ 250 by omega) e1
      have h2 : T9 M2 L t (ev L t (ev L t p)) := h1.of c2 c3 e6
      obtain ⟨n1, n2⟩ := end9 ht h2 (by omega) e3
      by_cases z : qv L t (ev L t (ev L t p)) < t ∧ L (qv L t (ev L t (ev L t p))) = 59
      · refine Or.inr (Or.inr (Or.inr ⟨b1, e1, z, ax_u M2 1 4 (nI (qv L t (ev L t (ev L t p)) + 1)), ?_, fun b hb => by rw [u_row hb, c2 b hb, a2 b hb], by rw [u_off (by decide), c3, a3], by rw [u_off (by decide)]; exact e3, by rw [u_off (by decide), e4, b4], ax_u_self⟩))
        rw [prz_of a1 c1 (n1 z), if_pos (by rw [u_off (by decide)]; exact e3), b2, e2]
      · obtain ⟨k1, k2⟩ := n2 z
        have k : stk M2 (F_X8_readEndOfClause M2) := stk.endc
        exact Or.inr (Or.inr (Or.inl ⟨b1, e1, z, stuck c1 rfl (by decide) (by decide) k1 k2 (f2.tr k.fr)⟩))
/-- behind the 'k' -/
def kfn (m : ax_Me) (a : Nat) (x y : Int32) : ax_Me := if (F_X8_readEndOfClause m) 1 3 = 0 then F_X5_learn (F_X8_readEndOfClause m) a x y else F_X8_readEndOfClause m
def kra (N1 N2 : Int32 × ax_Me) (a : Nat) : ax_Me := if N2.1 = N1.1 then kfn (F_X8_blame N2.2 4 (N2.2 1 5)) a N1.1 N2.1 else (if F_X5_knows N2.2 a N1.1 N2.1 = 0 then kfn N2.2 a N1.1 N2.1 else kfn (F_X8_blame N2.2 4 (N2.2 1 5)) a N1.1 N2.1)
theorem kra_eq (m : ax_Me) (a : Nat) : F_X8_readAcquaintance m a = kra (F_X8_readNumber (ax_u m 1 4 (m 1 4 + 1)) (ax_u m 1 4 (m 1 4 + 1) a 4 - 1)) (F_X8_readNumber (F_X8_readNumber (ax_u m 1 4 (m 1 4 + 1)) (ax_u m 1 4 (m 1 4 + 1) a 4 - 1)).2 ((F_X8_readNumber (ax_u m 1 4 (m 1 4 + 1)) (ax_u m 1 4 (m 1 4 + 1) a 4 - 1)).2 a 4 - 1)) a := by
  unfold F_X8_readAcquaintance kra kfn
  rfl
theorem kfn_stk {a : Nat} {x y : Int32} (h : m 1 3 ≠ 0) : FR9 m (kfn m a x y) ∧ kfn m a x y 1 3 = m 1 3 ∧ kfn m a x y 1 2 = m 1 2 := by
  have k : stk m (F_X8_readEndOfClause m) := stk.endc
  obtain ⟨k1, k2⟩ := k.2.2 h
  unfold kfn
  rw [if_neg (by rw [k1]; exact h)]
  exact ⟨k.fr, k1, k2⟩
theorem kra_stk {x1 x2 : Int32} {M1 M2 : ax_Me} {a : Nat} (h : M2 1 3 ≠ 0) : FR9 M2 (kra (x1, M1) (x2, M2) a) ∧ kra (x1, M1) (x2, M2) a 1 3 = M2 1 3 ∧ kra (x1, M1) (x2, M2) a 1 2 = M2 1 2 := by
  have kb : stk M2 (F_X8_blame M2 4 (M2 1 5)) := stk.blame
  obtain ⟨k1, k2⟩ := kb.2.2 h
  have bl : FR9 M2 (kfn (F_X8_blame M2 4 (M2 1 5)) a x1 x2) ∧ kfn (F_X8_blame M2 4 (M2 1 5)) a x1 x2 1 3 = M2 1 3 ∧ kfn (F_X8_blame M2 4 (M2 1 5)) a x1 x2 1 2 = M2 1 2 := by
    obtain ⟨r1, r2, r3⟩ := kfn_stk (m := F_X8_blame M2 4 (M2 1 5)) (a := a) (x := x1) (y := x2) (by rw [k1]; exact h)
    exact ⟨kb.fr.tr r1, r2.trans k1, r3.trans k2⟩
  unfold kra
  dsimp only
  split
  · exact bl
  · split
    · exact kfn_stk h
    · exact bl
end CC
