/-! ===== the class: the text ===== -/
theorem in240 {x : Int32} (h1 : ¬ x < 0) (h2 : ¬ 240 ≤ x) : vp_in x 240 := by
  rw [Int32.lt_iff_toInt_lt] at h1
  rw [Int32.le_iff_toInt_le] at h2
  have e0 : (0 : Int32).toInt = 0 := rfl
  have e9 : (240 : Int32).toInt = 240 := rfl
  rw [vp_in_iff]
  omega
/-- the place of reading is within the text, or a little behind it -/
def tx (k : Int) (m : ax_Me) : Prop := 0 ≤ (m 1 4).toInt ∧ (m 1 4).toInt ≤ k ∧ (m 1 1).toInt ≤ 240
theorem tx_mono {k k' : Int} {m : ax_Me} (h : tx k m) (hk : k ≤ k') : tx k' m := ⟨h.1, Int.le_trans h.2.1 hk, h.2.2⟩
theorem inc_toInt {x : Int32} (h : x.toInt < 2147483647) : (x + 1).toInt = x.toInt + 1 := by
  have e := Int32.le_toInt x
  have e1 : (1 : Int32).toInt = 1 := rfl
  rw [Jvm.Kit.i32_add (by omega) (by omega), e1]
theorem tx_at {k : Int} {m : ax_Me} (h : tx k m) (hk : k ≤ 1000) : tx (k + 1) (ax_u m 1 4 (m 1 4 + 1)) := by
  obtain ⟨h1, h2, h3⟩ := h
  have e := inc_toInt (x := m 1 4) (by omega)
  refine ⟨?_, ?_, ?_⟩
  · rw [ax_u_self]; omega
  · rw [ax_u_self]; omega
  · rw [ax_u_ne (by decide)]; exact h3
/-- a guarded step stays within the text -/
theorem tx_in {k : Int} {m : ax_Me} (h : tx k m) (hk : 240 ≤ k) (c : ¬ m 1 1 ≤ m 1 4) : tx k (ax_u m 1 4 (m 1 4 + 1)) ∧ (m 1 4 + 1).toNatClampNeg = (m 1 4).toNatClampNeg + 1 ∧ (m 1 4).toNatClampNeg < 240 := by
  obtain ⟨h1, h2, h3⟩ := h
  rw [Int32.le_iff_toInt_le] at c
  have e := inc_toInt (x := m 1 4) (by omega)
  have n1 : (m 1 4).toNatClampNeg = (m 1 4).toInt.toNat := rfl
  have n2 : (m 1 4 + 1).toNatClampNeg = (m 1 4 + 1).toInt.toNat := rfl
  refine ⟨⟨?_, ?_, ?_⟩, by omega, by omega⟩
  · rw [ax_u_self]; omega
  · rw [ax_u_self]; omega
  · rw [ax_u_ne (by decide)]; exact h3
theorem ax_wh_inv {α : Type} {f : α → Option α} (P : α → Prop) (hf : ∀ s s', f s = some s' → P s → P s') : ∀ (n : Nat) (s : α), P s → P (ax_wh f n s)
  | 0, s, h => h
  | n + 1, s, h => by
    unfold ax_wh
    cases e : f s with
    | none => exact h
    | some s' => exact ax_wh_inv P hf n s' (hf s s' e h)
def F_X8_letterHere (mem : ax_Me)  : Int32 :=
  (if (mem 1 4) < 0 then (-1) else (if (mem 1 1) ≤ (mem 1 4) then (-1) else (if 240 ≤ (mem 1 4) then (-1) else (mem 2 (mem 1 4).toNatClampNeg))))
set_option maxRecDepth 20000 in
theorem s_X8_letterHere {G : ax_G} {l : Launch} (mem : ax_Me)   : AD G l 0 mX8_letterHere [.ref 1] mem (some (.int (F_X8_letterHere mem))) mem := by
  refine ax_start (ls := [.ref 1]) (u := 0) (by decide +kernel) (Nat.le_of_ble_eq_true rfl) (Nat.le_refl _) (Nat.le_refl _) rfl ?_
  refine ax_aload_n (j := 0) dX8_letterHere_0 rfl rfl rfl ?_
  refine am_getI flX8_31 dX8_letterHere_1 rfl is1 rfl ?_
  refine ax_if_lt (tgt := 40) dX8_letterHere_4 (by decide) rfl (fun c4 => ?_) (fun c4 => ?_)
  · refine ax_iconst (v := (-1)) dX8_letterHere_40 (by decide) rfl ?_
    exact ax_ireturn rfl dX8_letterHere_41 ⟨by simp only [F_X8_letterHere, if_pos c4], rfl⟩
  · refine ax_aload_n (j := 0) dX8_letterHere_7 rfl rfl rfl ?_
    refine am_getI flX8_31 dX8_letterHere_8 rfl is1 rfl ?_
    refine ax_aload_n (j := 0) dX8_letterHere_11 rfl rfl rfl ?_
    refine am_getI flX8_19 dX8_letterHere_12 rfl is1 rfl ?_
    refine ax_icmp_ge (tgt := 40) dX8_letterHere_15 (by decide) rfl (fun c15 => ?_) (fun c15 => ?_)
    · refine ax_iconst (v := (-1)) dX8_letterHere_40 (by decide) rfl ?_
      exact ax_ireturn rfl dX8_letterHere_41 ⟨by simp only [F_X8_letterHere, if_neg c4, if_pos c15], rfl⟩
    · refine ax_aload_n (j := 0) dX8_letterHere_18 rfl rfl rfl ?_
      refine am_getI flX8_31 dX8_letterHere_19 rfl is1 rfl ?_
      refine ax_sipush (v := 240) dX8_letterHere_22 (by decide) rfl ?_
      refine ax_icmp_ge (tgt := 40) dX8_letterHere_25 (by decide) rfl (fun c25 => ?_) (fun c25 => ?_)
      · refine ax_iconst (v := (-1)) dX8_letterHere_40 (by decide) rfl ?_
        exact ax_ireturn rfl dX8_letterHere_41 ⟨by simp only [F_X8_letterHere, if_neg c4, if_neg c15, if_pos c25], rfl⟩
      · refine ax_aload_n (j := 0) dX8_letterHere_28 rfl rfl rfl ?_
        refine am_getR flX8_9 dX8_letterHere_29 rfl is1 rfl ?_
        refine ax_aload_n (j := 0) dX8_letterHere_32 rfl rfl rfl ?_
        refine am_getI flX8_31 dX8_letterHere_33 rfl is1 rfl ?_
        refine am_iald dX8_letterHere_36 rfl is2 (in240 c4 c25) ?_
        refine ax_goto (tgt := 41) dX8_letterHere_37 (by decide) ?_
        exact ax_ireturn rfl dX8_letterHere_41 ⟨by simp only [F_X8_letterHere, if_neg c4, if_neg c15, if_neg c25], rfl⟩

def F_X8_blame (mem : ax_Me) (p0 : Int32) (p1 : Int32) : ax_Me :=
  (if (mem 1 3) = 0 then (ax_u (ax_u mem 1 3 p0) 1 2 p1) else mem)
set_option maxRecDepth 20000 in
theorem s_X8_blame {G : ax_G} {l : Launch} (mem : ax_Me) (p0 : Int32) (p1 : Int32)  : AD G l 0 mX8_blame [.ref 1, .int p0, .int p1] mem none (F_X8_blame mem p0 p1) := by
  refine ax_start (ls := [.ref 1, .int p0, .int p1]) (u := 0) (by decide +kernel) (Nat.le_of_ble_eq_true rfl) (Nat.le_refl _) (Nat.le_refl _) rfl ?_
  refine ax_aload_n (j := 0) dX8_blame_0 rfl rfl rfl ?_
  refine am_getI flX8_34 dX8_blame_1 rfl is1 rfl ?_
  refine ax_if_ne (tgt := 17) dX8_blame_4 (by decide) rfl (fun c4 => ?_) (fun c4 => ?_)
  · exact ax_vreturn rfl dX8_blame_17 ⟨rfl, by simp only [F_X8_blame, if_neg c4]⟩
  · refine ax_aload_n (j := 0) dX8_blame_7 rfl rfl rfl ?_
    refine ax_iload_n (j := 1) dX8_blame_8 rfl rfl rfl ?_
    refine am_putI flX8_34 dX8_blame_9 rfl is1 rfl rfl rfl ?_
    refine ax_aload_n (j := 0) dX8_blame_12 rfl rfl rfl ?_
    refine ax_iload_n (j := 2) dX8_blame_13 rfl rfl rfl ?_
    refine am_putI flX8_15 dX8_blame_14 rfl is1 rfl rfl rfl ?_
    exact ax_vreturn rfl dX8_blame_17 ⟨rfl, by simp only [F_X8_blame, if_pos c4]⟩

def f_X8_skipBlanks_0   (s : ax_Me) : Option (ax_Me) :=
  match s with
  | m => (if (m 1 1) ≤ (m 1 4) then none else (if (F_X8_letterHere m) = 32 then (some (ax_u m 1 4 ((m 1 4) + 1))) else none))
def F_X8_skipBlanks (mem : ax_Me)  : ax_Me :=
  (ax_wh (f_X8_skipBlanks_0) (241) mem)
set_option maxRecDepth 20000 in
theorem lp_X8_skipBlanks_0 {G : ax_G} {l : Launch} {Q : Option Value → ax_H → Prop}    : ∀ (n : Nat) (m : ax_Me), (240 - (m 1 4).toNatClampNeg) < n → tx 300 m → AX G l mX8_skipBlanks 1 33 [.ref 1] [] 153 0 (ax_hm (ax_wh (f_X8_skipBlanks_0) n m)) 153 0 Q → AX G l mX8_skipBlanks 1 0 [.ref 1] [] 153 0 (ax_hm m) 153 0 Q := by
  intro n
  induction n with
  | zero =>
    intro m hmu
    exact absurd hmu (Nat.not_lt_zero _)
  | succ n ih =>
    intro m hmu hi hx
    refine ax_aload_n (j := 0) dX8_skipBlanks_0 rfl rfl rfl ?_
    refine am_getI flX8_31 dX8_skipBlanks_1 rfl is1 rfl ?_
    refine ax_aload_n (j := 0) dX8_skipBlanks_4 rfl rfl rfl ?_
    refine am_getI flX8_19 dX8_skipBlanks_5 rfl is1 rfl ?_
    refine ax_icmp_ge (tgt := 33) dX8_skipBlanks_8 (by decide) rfl (fun c8 => ?_) (fun c8 => ?_)
    · have e1 : f_X8_skipBlanks_0 m = none := by simp only [f_X8_skipBlanks_0, if_pos c8]
      simp only [ax_wh, e1] at hx
      exact hx
    · refine ax_aload_n (j := 0) dX8_skipBlanks_11 rfl rfl rfl ?_
      refine ad_V0 ksX8_letterHere lkX8_44 dX8_skipBlanks_12 rfl is1 rfl (Nat.le_of_ble_eq_true rfl) (Nat.le_of_ble_eq_true rfl) (s_X8_letterHere _ ) ?_
      refine ax_bipush (v := 32) dX8_skipBlanks_15 (by decide) rfl ?_
      refine ax_icmp_ne (tgt := 33) dX8_skipBlanks_17 (by decide) rfl (fun c17 => ?_) (fun c17 => ?_)
      · have e1 : f_X8_skipBlanks_0 m = none := by simp only [f_X8_skipBlanks_0, if_neg c8, if_neg c17]
        simp only [ax_wh, e1] at hx
        exact hx
      · refine ax_aload_n (j := 0) dX8_skipBlanks_20 rfl rfl rfl ?_
        refine ax_dup dX8_skipBlanks_21 rfl rfl ?_
        refine am_getI flX8_31 dX8_skipBlanks_22 rfl is1 rfl ?_
        refine ax_iconst (v := 1) dX8_skipBlanks_25 (by decide) rfl ?_
        refine ax_iadd dX8_skipBlanks_26 rfl ?_
        refine am_putI flX8_31 dX8_skipBlanks_27 rfl is1 rfl rfl rfl ?_
        refine ax_goto (tgt := 0) dX8_skipBlanks_30 (by decide) ?_
        have e1 : f_X8_skipBlanks_0 m = some (ax_u m 1 4 ((m 1 4) + 1)) := by simp only [f_X8_skipBlanks_0, if_neg c8, if_pos c17]
        simp only [ax_wh, e1] at hx
        exact ih ((ax_u m 1 4 ((m 1 4) + 1))) (by have q := (tx_in hi (by decide) c8).2; simp only [ax_u_self]; omega) (tx_in hi (by decide) c8).1 hx
set_option maxRecDepth 20000 in
theorem s_X8_skipBlanks {G : ax_G} {l : Launch} (mem : ax_Me)  (ht : tx 300 mem) : AD G l 1 mX8_skipBlanks [.ref 1] mem none (F_X8_skipBlanks mem) := by
  refine ax_start (ls := [.ref 1]) (u := 0) (by decide +kernel) (Nat.le_of_ble_eq_true rfl) (Nat.le_refl _) (Nat.le_refl _) rfl ?_
  refine lp_X8_skipBlanks_0    (241) (mem) (by omega) ht ?_
  exact ax_vreturn rfl dX8_skipBlanks_33 ⟨rfl, by simp only [F_X8_skipBlanks]⟩

theorem tx_blame {k : Int} {m : ax_Me} {a b : Int32} (h : tx k m) : tx k (F_X8_blame m a b) := by
  unfold F_X8_blame
  obtain ⟨h1, h2, h3⟩ := h
  split
  · refine ⟨?_, ?_, ?_⟩
    · rw [ax_u_ne (by decide), ax_u_ne (by decide)]; exact h1
    · rw [ax_u_ne (by decide), ax_u_ne (by decide)]; exact h2
    · rw [ax_u_ne (by decide), ax_u_ne (by decide)]; exact h3
  · exact ⟨h1, h2, h3⟩
theorem skip_some {m m' : ax_Me} (h : f_X8_skipBlanks_0 m = some m') : (¬ m 1 1 ≤ m 1 4) ∧ m' = ax_u m 1 4 (m 1 4 + 1) := by
  unfold f_X8_skipBlanks_0 at h
  dsimp only at h
  split at h
  · cases h
  · next c =>
    split at h
    · exact ⟨c, (Option.some.inj h).symm⟩
    · cases h
theorem tx_skip {k : Int} {m : ax_Me} (h : tx k m) (hk : 240 ≤ k) : tx k (F_X8_skipBlanks m) := by
  unfold F_X8_skipBlanks
  refine ax_wh_inv (tx k) (fun s s' e hs => ?_) _ _ h
  obtain ⟨c, rfl⟩ := skip_some e
  exact (tx_in hs hk c).1
theorem tx_5 {k : Int} {m : ax_Me} {v : Int32} (h : tx k m) : tx k (ax_u m 1 5 v) := by
  obtain ⟨h1, h2, h3⟩ := h
  refine ⟨?_, ?_, ?_⟩
  · rw [ax_u_ne (by decide)]; exact h1
  · rw [ax_u_ne (by decide)]; exact h2
  · rw [ax_u_ne (by decide)]; exact h3
def f_X8_readNumber_16 (p0 : Int32)  (s : Int32 × Int32 × ax_Me) : Option (Int32 × Int32 × ax_Me) :=
  match s with
  | (x0, x1, m) => (if (m 1 1) ≤ (m 1 4) then none else (if (F_X8_isFigure m (F_X8_letterHere m)) = 0 then none else (if 3 ≤ x0 then (some ((x0 + 1), x1, (ax_u m 1 4 ((m 1 4) + 1)))) else (some ((x0 + 1), (((x1 * 10) + (F_X8_letterHere m)) - 48), (ax_u m 1 4 ((m 1 4) + 1)))))))
def F_X8_readNumber (mem : ax_Me) (p0 : Int32) : Int32 × ax_Me :=
  (if (ax_wh (f_X8_readNumber_16 p0) (241) (0, 0, (ax_u (F_X8_skipBlanks mem) 1 5 ((F_X8_skipBlanks mem) 1 4)))).1 = 0 then ((ax_wh (f_X8_readNumber_16 p0) (241) (0, 0, (ax_u (F_X8_skipBlanks mem) 1 5 ((F_X8_skipBlanks mem) 1 4)))).2.1, (F_X8_blame (ax_wh (f_X8_readNumber_16 p0) (241) (0, 0, (ax_u (F_X8_skipBlanks mem) 1 5 ((F_X8_skipBlanks mem) 1 4)))).2.2 1 ((ax_wh (f_X8_readNumber_16 p0) (241) (0, 0, (ax_u (F_X8_skipBlanks mem) 1 5 ((F_X8_skipBlanks mem) 1 4)))).2.2 1 5))) else (if 3 < (ax_wh (f_X8_readNumber_16 p0) (241) (0, 0, (ax_u (F_X8_skipBlanks mem) 1 5 ((F_X8_skipBlanks mem) 1 4)))).1 then ((ax_wh (f_X8_readNumber_16 p0) (241) (0, 0, (ax_u (F_X8_skipBlanks mem) 1 5 ((F_X8_skipBlanks mem) 1 4)))).2.1, (F_X8_blame (ax_wh (f_X8_readNumber_16 p0) (241) (0, 0, (ax_u (F_X8_skipBlanks mem) 1 5 ((F_X8_skipBlanks mem) 1 4)))).2.2 2 ((ax_wh (f_X8_readNumber_16 p0) (241) (0, 0, (ax_u (F_X8_skipBlanks mem) 1 5 ((F_X8_skipBlanks mem) 1 4)))).2.2 1 5))) else (if (ax_wh (f_X8_readNumber_16 p0) (241) (0, 0, (ax_u (F_X8_skipBlanks mem) 1 5 ((F_X8_skipBlanks mem) 1 4)))).2.1 ≤ p0 then ((ax_wh (f_X8_readNumber_16 p0) (241) (0, 0, (ax_u (F_X8_skipBlanks mem) 1 5 ((F_X8_skipBlanks mem) 1 4)))).2.1, (ax_wh (f_X8_readNumber_16 p0) (241) (0, 0, (ax_u (F_X8_skipBlanks mem) 1 5 ((F_X8_skipBlanks mem) 1 4)))).2.2) else ((ax_wh (f_X8_readNumber_16 p0) (241) (0, 0, (ax_u (F_X8_skipBlanks mem) 1 5 ((F_X8_skipBlanks mem) 1 4)))).2.1, (F_X8_blame (ax_wh (f_X8_readNumber_16 p0) (241) (0, 0, (ax_u (F_X8_skipBlanks mem) 1 5 ((F_X8_skipBlanks mem) 1 4)))).2.2 2 ((ax_wh (f_X8_readNumber_16 p0) (241) (0, 0, (ax_u (F_X8_skipBlanks mem) 1 5 ((F_X8_skipBlanks mem) 1 4)))).2.2 1 5))))))
set_option maxRecDepth 20000 in
theorem lp_X8_readNumber_16 {G : ax_G} {l : Launch} {Q : Option Value → ax_H → Prop} (p0 : Int32)   : ∀ (n : Nat) (x0 : Int32) (x1 : Int32) (m : ax_Me), (240 - (m 1 4).toNatClampNeg) < n → tx 300 m → AX G l mX8_readNumber 2 71 [.ref 1, .int p0, .int (ax_wh (f_X8_readNumber_16 p0) n (x0, x1, m)).1, .int (ax_wh (f_X8_readNumber_16 p0) n (x0, x1, m)).2.1] [] 153 0 (ax_hm (ax_wh (f_X8_readNumber_16 p0) n (x0, x1, m)).2.2) 153 0 Q → AX G l mX8_readNumber 2 16 [.ref 1, .int p0, .int x0, .int x1] [] 153 0 (ax_hm m) 153 0 Q := by
  intro n
  induction n with
  | zero =>
    intro x0 x1 m hmu
    exact absurd hmu (Nat.not_lt_zero _)
  | succ n ih =>
    intro x0 x1 m hmu hi hx
    refine ax_aload_n (j := 0) dX8_readNumber_16 rfl rfl rfl ?_
    refine am_getI flX8_31 dX8_readNumber_17 rfl is1 rfl ?_
    refine ax_aload_n (j := 0) dX8_readNumber_20 rfl rfl rfl ?_
    refine am_getI flX8_19 dX8_readNumber_21 rfl is1 rfl ?_
    refine ax_icmp_ge (tgt := 71) dX8_readNumber_24 (by decide) rfl (fun c24 => ?_) (fun c24 => ?_)
    · have e1 : f_X8_readNumber_16 p0 (x0, x1, m) = none := by simp only [f_X8_readNumber_16, if_pos c24]
      simp only [ax_wh, e1] at hx
      exact hx
    · refine ax_aload_n (j := 0) dX8_readNumber_27 rfl rfl rfl ?_
      refine ad_V0 ksX8_letterHere lkX8_44 dX8_readNumber_28 rfl is1 rfl (Nat.le_of_ble_eq_true rfl) (Nat.le_of_ble_eq_true rfl) (s_X8_letterHere _ ) ?_
      refine ad_S1 ksX8_isFigure lkX8_81 dX8_readNumber_31 rfl (Nat.le_of_ble_eq_true rfl) (Nat.le_of_ble_eq_true rfl) (s_X8_isFigure _ _) ?_
      refine ax_if_eq (tgt := 71) dX8_readNumber_34 (by decide) rfl (fun c34 => ?_) (fun c34 => ?_)
      · have e1 : f_X8_readNumber_16 p0 (x0, x1, m) = none := by simp only [f_X8_readNumber_16, if_neg c24, if_pos c34]
        simp only [ax_wh, e1] at hx
        exact hx
      · refine ax_iload_n (j := 2) dX8_readNumber_37 rfl rfl rfl ?_
        refine ax_iconst (v := 3) dX8_readNumber_38 (by decide) rfl ?_
        refine ax_icmp_ge (tgt := 55) dX8_readNumber_39 (by decide) rfl (fun c39 => ?_) (fun c39 => ?_)
        · refine ax_iinc2 (v := (x0 + 1)) dX8_readNumber_55 rfl rfl (Nat.le_of_ble_eq_true rfl) rfl ?_
          refine ax_aload_n (j := 0) dX8_readNumber_58 rfl rfl rfl ?_
          refine ax_dup dX8_readNumber_59 rfl rfl ?_
          refine am_getI flX8_31 dX8_readNumber_60 rfl is1 rfl ?_
          refine ax_iconst (v := 1) dX8_readNumber_63 (by decide) rfl ?_
          refine ax_iadd dX8_readNumber_64 rfl ?_
          refine am_putI flX8_31 dX8_readNumber_65 rfl is1 rfl rfl rfl ?_
          refine ax_goto (tgt := 16) dX8_readNumber_68 (by decide) ?_
          have e1 : f_X8_readNumber_16 p0 (x0, x1, m) = some ((x0 + 1), x1, (ax_u m 1 4 ((m 1 4) + 1))) := by simp only [f_X8_readNumber_16, if_neg c24, if_neg c34, if_pos c39]
          simp only [ax_wh, e1] at hx
          exact ih ((x0 + 1)) (x1) ((ax_u m 1 4 ((m 1 4) + 1))) (by have q := (tx_in hi (by decide) c24).2; simp only [ax_u_self]; omega) (tx_in hi (by decide) c24).1 hx
        · refine ax_iload_n (j := 3) dX8_readNumber_42 rfl rfl rfl ?_
          refine ax_bipush (v := 10) dX8_readNumber_43 (by decide) rfl ?_
          refine ax_imul dX8_readNumber_45 rfl ?_
          refine ax_aload_n (j := 0) dX8_readNumber_46 rfl rfl rfl ?_
          refine ad_V0 ksX8_letterHere lkX8_44 dX8_readNumber_47 rfl is1 rfl (Nat.le_of_ble_eq_true rfl) (Nat.le_of_ble_eq_true rfl) (s_X8_letterHere _ ) ?_
          refine ax_iadd dX8_readNumber_50 rfl ?_
          refine ax_bipush (v := 48) dX8_readNumber_51 (by decide) rfl ?_
          refine ax_isub dX8_readNumber_53 rfl ?_
          refine ax_ist3 dX8_readNumber_54 rfl rfl (Nat.le_of_ble_eq_true rfl) rfl ?_
          refine ax_iinc2 (v := (x0 + 1)) dX8_readNumber_55 rfl rfl (Nat.le_of_ble_eq_true rfl) rfl ?_
          refine ax_aload_n (j := 0) dX8_readNumber_58 rfl rfl rfl ?_
          refine ax_dup dX8_readNumber_59 rfl rfl ?_
          refine am_getI flX8_31 dX8_readNumber_60 rfl is1 rfl ?_
          refine ax_iconst (v := 1) dX8_readNumber_63 (by decide) rfl ?_
          refine ax_iadd dX8_readNumber_64 rfl ?_
          refine am_putI flX8_31 dX8_readNumber_65 rfl is1 rfl rfl rfl ?_
          refine ax_goto (tgt := 16) dX8_readNumber_68 (by decide) ?_
          have e1 : f_X8_readNumber_16 p0 (x0, x1, m) = some ((x0 + 1), (((x1 * 10) + (F_X8_letterHere m)) - 48), (ax_u m 1 4 ((m 1 4) + 1))) := by simp only [f_X8_readNumber_16, if_neg c24, if_neg c34, if_neg c39]
          simp only [ax_wh, e1] at hx
          exact ih ((x0 + 1)) ((((x1 * 10) + (F_X8_letterHere m)) - 48)) ((ax_u m 1 4 ((m 1 4) + 1))) (by have q := (tx_in hi (by decide) c24).2; simp only [ax_u_self]; omega) (tx_in hi (by decide) c24).1 hx
set_option maxRecDepth 20000 in
theorem s_X8_readNumber {G : ax_G} {l : Launch} (mem : ax_Me) (p0 : Int32) (ht : tx 300 mem) : AD G l 2 mX8_readNumber [.ref 1, .int p0] mem (some (.int (F_X8_readNumber mem p0).1)) (F_X8_readNumber mem p0).2 := by
  refine ax_start (ls := [.ref 1, .int p0, .float 0, .float 0]) (u := 2) (by decide +kernel) (Nat.le_of_ble_eq_true rfl) (Nat.le_refl _) (Nat.le_refl _) rfl ?_
  refine ax_aload_n (j := 0) dX8_readNumber_0 rfl rfl rfl ?_
  refine ad_V0v ksX8_skipBlanks lkX8_37 dX8_readNumber_1 rfl is1 rfl (Nat.le_of_ble_eq_true rfl) (Nat.le_of_ble_eq_true rfl) (s_X8_skipBlanks _ ht) ?_
  refine ax_aload_n (j := 0) dX8_readNumber_4 rfl rfl rfl ?_
  refine ax_aload_n (j := 0) dX8_readNumber_5 rfl rfl rfl ?_
  refine am_getI flX8_31 dX8_readNumber_6 rfl is1 rfl ?_
  refine am_putI flX8_75 dX8_readNumber_9 rfl is1 rfl rfl rfl ?_
  refine ax_iconst (v := 0) dX8_readNumber_12 (by decide) rfl ?_
  refine ax_ist2 dX8_readNumber_13 rfl rfl (Nat.le_of_ble_eq_true rfl) rfl ?_
  refine ax_iconst (v := 0) dX8_readNumber_14 (by decide) rfl ?_
  refine ax_ist3 dX8_readNumber_15 rfl rfl (Nat.le_of_ble_eq_true rfl) rfl ?_
  refine lp_X8_readNumber_16 p0   (241) (0) (0) ((ax_u (F_X8_skipBlanks mem) 1 5 ((F_X8_skipBlanks mem) 1 4))) (by omega) (tx_5 (tx_skip ht (by decide))) ?_
  refine ax_iload_n (j := 2) dX8_readNumber_71 rfl rfl rfl ?_
  refine ax_if_ne (tgt := 87) dX8_readNumber_72 (by decide) rfl (fun c72 => ?_) (fun c72 => ?_)
  · refine ax_iload_n (j := 2) dX8_readNumber_87 rfl rfl rfl ?_
    refine ax_iconst (v := 3) dX8_readNumber_88 (by decide) rfl ?_
    refine ax_icmp_gt (tgt := 97) dX8_readNumber_89 (by decide) rfl (fun c89 => ?_) (fun c89 => ?_)
    · refine ax_aload_n (j := 0) dX8_readNumber_97 rfl rfl rfl ?_
      refine ax_iconst (v := 2) dX8_readNumber_98 (by decide) rfl ?_
      refine ax_aload_n (j := 0) dX8_readNumber_99 rfl rfl rfl ?_
      refine am_getI flX8_75 dX8_readNumber_100 rfl is1 rfl ?_
      refine ad_V2v ksX8_blame lkX8_54 dX8_readNumber_103 rfl is1 rfl (Nat.le_of_ble_eq_true rfl) (Nat.le_of_ble_eq_true rfl) (s_X8_blame _ _ _) ?_
      refine ax_iload_n (j := 3) dX8_readNumber_106 rfl rfl rfl ?_
      exact ax_ireturn rfl dX8_readNumber_107 ⟨by simp only [F_X8_readNumber, if_neg c72, if_pos c89], by simp only [F_X8_readNumber, if_neg c72, if_pos c89]⟩
    · refine ax_iload_n (j := 3) dX8_readNumber_92 rfl rfl rfl ?_
      refine ax_iload_n (j := 1) dX8_readNumber_93 rfl rfl rfl ?_
      refine ax_icmp_le (tgt := 106) dX8_readNumber_94 (by decide) rfl (fun c94 => ?_) (fun c94 => ?_)
      · refine ax_iload_n (j := 3) dX8_readNumber_106 rfl rfl rfl ?_
        exact ax_ireturn rfl dX8_readNumber_107 ⟨by simp only [F_X8_readNumber, if_neg c72, if_neg c89, if_pos c94], by simp only [F_X8_readNumber, if_neg c72, if_neg c89, if_pos c94]⟩
      · refine ax_aload_n (j := 0) dX8_readNumber_97 rfl rfl rfl ?_
        refine ax_iconst (v := 2) dX8_readNumber_98 (by decide) rfl ?_
        refine ax_aload_n (j := 0) dX8_readNumber_99 rfl rfl rfl ?_
        refine am_getI flX8_75 dX8_readNumber_100 rfl is1 rfl ?_
        refine ad_V2v ksX8_blame lkX8_54 dX8_readNumber_103 rfl is1 rfl (Nat.le_of_ble_eq_true rfl) (Nat.le_of_ble_eq_true rfl) (s_X8_blame _ _ _) ?_
        refine ax_iload_n (j := 3) dX8_readNumber_106 rfl rfl rfl ?_
        exact ax_ireturn rfl dX8_readNumber_107 ⟨by simp only [F_X8_readNumber, if_neg c72, if_neg c89, if_neg c94], by simp only [F_X8_readNumber, if_neg c72, if_neg c89, if_neg c94]⟩
  · refine ax_aload_n (j := 0) dX8_readNumber_75 rfl rfl rfl ?_
    refine ax_iconst (v := 1) dX8_readNumber_76 (by decide) rfl ?_
    refine ax_aload_n (j := 0) dX8_readNumber_77 rfl rfl rfl ?_
    refine am_getI flX8_75 dX8_readNumber_78 rfl is1 rfl ?_
    refine ad_V2v ksX8_blame lkX8_54 dX8_readNumber_81 rfl is1 rfl (Nat.le_of_ble_eq_true rfl) (Nat.le_of_ble_eq_true rfl) (s_X8_blame _ _ _) ?_
    refine ax_goto (tgt := 106) dX8_readNumber_84 (by decide) ?_
    refine ax_iload_n (j := 3) dX8_readNumber_106 rfl rfl rfl ?_
    exact ax_ireturn rfl dX8_readNumber_107 ⟨by simp only [F_X8_readNumber, if_pos c72], by simp only [F_X8_readNumber, if_pos c72]⟩

theorem num_some {s s' : Int32 × Int32 × ax_Me} {q : Int32} (h : f_X8_readNumber_16 q s = some s') : (¬ s.2.2 1 1 ≤ s.2.2 1 4) ∧ s'.2.2 = ax_u s.2.2 1 4 (s.2.2 1 4 + 1) := by
  obtain ⟨x0, x1, m⟩ := s
  unfold f_X8_readNumber_16 at h
  dsimp only at h ⊢
  split at h
  · cases h
  · next c =>
    split at h
    · cases h
    · split at h
      · cases h
        exact ⟨c, rfl⟩
      · cases h
        exact ⟨c, rfl⟩
theorem tx_num {k : Int} {m : ax_Me} {q : Int32} (h : tx k m) (hk : 240 ≤ k) : tx k (F_X8_readNumber m q).2 := by
  have key : tx k (ax_wh (f_X8_readNumber_16 q) 241 (0, 0, ax_u (F_X8_skipBlanks m) 1 5 (F_X8_skipBlanks m 1 4))).2.2 := by
    refine ax_wh_inv (fun s : Int32 × Int32 × ax_Me => tx k s.2.2) (fun s s' e hs => ?_) _ _ (tx_5 (tx_skip h hk))
    obtain ⟨c, e2⟩ := num_some e
    rw [e2]
    exact (tx_in hs hk c).1
  unfold F_X8_readNumber
  repeat' split
  all_goals first | with_reducible exact key | with_reducible exact tx_blame key
def F_X8_readEndOfClause (mem : ax_Me)  : ax_Me :=
  (if (F_X8_letterHere (F_X8_skipBlanks mem)) = 59 then (ax_u (F_X8_skipBlanks mem) 1 4 (((F_X8_skipBlanks mem) 1 4) + 1)) else (ax_u (F_X8_blame (F_X8_skipBlanks mem) 1 ((F_X8_skipBlanks mem) 1 4)) 1 4 (((F_X8_blame (F_X8_skipBlanks mem) 1 ((F_X8_skipBlanks mem) 1 4)) 1 4) + 1)))
set_option maxRecDepth 20000 in
theorem s_X8_readEndOfClause {G : ax_G} {l : Launch} (mem : ax_Me)  (ht : tx 300 mem) : AD G l 2 mX8_readEndOfClause [.ref 1] mem none (F_X8_readEndOfClause mem) := by
  refine ax_start (ls := [.ref 1]) (u := 0) (by decide +kernel) (Nat.le_of_ble_eq_true rfl) (Nat.le_refl _) (Nat.le_refl _) rfl ?_
  refine ax_aload_n (j := 0) dX8_readEndOfClause_0 rfl rfl rfl ?_
  refine ad_V0v ksX8_skipBlanks lkX8_37 dX8_readEndOfClause_1 rfl is1 rfl (Nat.le_of_ble_eq_true rfl) (Nat.le_of_ble_eq_true rfl) (s_X8_skipBlanks _ ht) ?_
  refine ax_aload_n (j := 0) dX8_readEndOfClause_4 rfl rfl rfl ?_
  refine ad_V0 ksX8_letterHere lkX8_44 dX8_readEndOfClause_5 rfl is1 rfl (Nat.le_of_ble_eq_true rfl) (Nat.le_of_ble_eq_true rfl) (s_X8_letterHere _ ) ?_
  refine ax_bipush (v := 59) dX8_readEndOfClause_8 (by decide) rfl ?_
  refine ax_icmp_eq (tgt := 22) dX8_readEndOfClause_10 (by decide) rfl (fun c10 => ?_) (fun c10 => ?_)
  · refine ax_aload_n (j := 0) dX8_readEndOfClause_22 rfl rfl rfl ?_
    refine ax_dup dX8_readEndOfClause_23 rfl rfl ?_
    refine am_getI flX8_31 dX8_readEndOfClause_24 rfl is1 rfl ?_
    refine ax_iconst (v := 1) dX8_readEndOfClause_27 (by decide) rfl ?_
    refine ax_iadd dX8_readEndOfClause_28 rfl ?_
    refine am_putI flX8_31 dX8_readEndOfClause_29 rfl is1 rfl rfl rfl ?_
    exact ax_vreturn rfl dX8_readEndOfClause_32 ⟨rfl, by simp only [F_X8_readEndOfClause, if_pos c10]⟩
  · refine ax_aload_n (j := 0) dX8_readEndOfClause_13 rfl rfl rfl ?_
    refine ax_iconst (v := 1) dX8_readEndOfClause_14 (by decide) rfl ?_
    refine ax_aload_n (j := 0) dX8_readEndOfClause_15 rfl rfl rfl ?_
    refine am_getI flX8_31 dX8_readEndOfClause_16 rfl is1 rfl ?_
    refine ad_V2v ksX8_blame lkX8_54 dX8_readEndOfClause_19 rfl is1 rfl (Nat.le_of_ble_eq_true rfl) (Nat.le_of_ble_eq_true rfl) (s_X8_blame _ _ _) ?_
    refine ax_aload_n (j := 0) dX8_readEndOfClause_22 rfl rfl rfl ?_
    refine ax_dup dX8_readEndOfClause_23 rfl rfl ?_
    refine am_getI flX8_31 dX8_readEndOfClause_24 rfl is1 rfl ?_
    refine ax_iconst (v := 1) dX8_readEndOfClause_27 (by decide) rfl ?_
    refine ax_iadd dX8_readEndOfClause_28 rfl ?_
    refine am_putI flX8_31 dX8_readEndOfClause_29 rfl is1 rfl rfl rfl ?_
    exact ax_vreturn rfl dX8_readEndOfClause_32 ⟨rfl, by simp only [F_X8_readEndOfClause, if_neg c10]⟩

theorem tx_end {k : Int} {m : ax_Me} (h : tx k m) (hk : 240 ≤ k) (hk2 : k ≤ 1000) : tx (k + 1) (F_X8_readEndOfClause m) := by
  unfold F_X8_readEndOfClause
  split
  · exact tx_at (tx_skip h hk) hk2
  · exact tx_at (tx_blame (tx_skip h hk)) hk2
theorem isP_1 {a : Nat} (h : ax_isP a) : 3 ≤ a := by
  rcases h with rfl | rfl | rfl | rfl | ⟨h1, -, -⟩ <;> omega
theorem tx_lt {m : ax_Me} (h : tx 241 m) (c : ¬ m 1 1 ≤ m 1 4) : tx 239 m := by
  rw [Int32.le_iff_toInt_le] at c
  exact ⟨h.1, by have := h.2.2; omega, h.2.2⟩
def F_X8_readPerson (mem : ax_Me) (a : Nat) : ax_Me :=
  (if (mem a 4) < 8 then (if ((F_X8_readEndOfClause (F_X8_readNumber (F_X8_readNumber (ax_u mem 1 4 ((mem 1 4) + 1)) 255).2 7).2) 1 3) = 0 then (F_X5_add (F_X8_readEndOfClause (F_X8_readNumber (F_X8_readNumber (ax_u mem 1 4 ((mem 1 4) + 1)) 255).2 7).2) a (F_X8_readNumber (ax_u mem 1 4 ((mem 1 4) + 1)) 255).1 (F_X8_readNumber (F_X8_readNumber (ax_u mem 1 4 ((mem 1 4) + 1)) 255).2 7).1) else (F_X8_readEndOfClause (F_X8_readNumber (F_X8_readNumber (ax_u mem 1 4 ((mem 1 4) + 1)) 255).2 7).2)) else (if ((F_X8_readEndOfClause (F_X8_readNumber (F_X8_readNumber (ax_u (F_X8_blame mem 3 (mem 1 4)) 1 4 (((F_X8_blame mem 3 (mem 1 4)) 1 4) + 1)) 255).2 7).2) 1 3) = 0 then (F_X5_add (F_X8_readEndOfClause (F_X8_readNumber (F_X8_readNumber (ax_u (F_X8_blame mem 3 (mem 1 4)) 1 4 (((F_X8_blame mem 3 (mem 1 4)) 1 4) + 1)) 255).2 7).2) a (F_X8_readNumber (ax_u (F_X8_blame mem 3 (mem 1 4)) 1 4 (((F_X8_blame mem 3 (mem 1 4)) 1 4) + 1)) 255).1 (F_X8_readNumber (F_X8_readNumber (ax_u (F_X8_blame mem 3 (mem 1 4)) 1 4 (((F_X8_blame mem 3 (mem 1 4)) 1 4) + 1)) 255).2 7).1) else (F_X8_readEndOfClause (F_X8_readNumber (F_X8_readNumber (ax_u (F_X8_blame mem 3 (mem 1 4)) 1 4 (((F_X8_blame mem 3 (mem 1 4)) 1 4) + 1)) 255).2 7).2)))
set_option maxRecDepth 20000 in
theorem s_X8_readPerson {G : ax_G} {l : Launch} (mem : ax_Me) {a : Nat} (hP : ax_isP a) (ht : tx 241 mem) (hl : ¬ mem 1 1 ≤ mem 1 4) : AD G l 3 mX8_readPerson [.ref 1, .ref a] mem none (F_X8_readPerson mem a) := by
  refine ax_start (ls := [.ref 1, .ref a, .float 0, .float 0]) (u := 2) (by decide +kernel) (Nat.le_of_ble_eq_true rfl) (Nat.le_refl _) (Nat.le_refl _) rfl ?_
  refine ax_aload_n (j := 1) dX8_readPerson_0 rfl rfl rfl ?_
  refine am_getI flX8_58 dX8_readPerson_1 rfl hP.o rfl ?_
  refine ax_bipush (v := 8) dX8_readPerson_4 (by decide) rfl ?_
  refine ax_icmp_lt (tgt := 18) dX8_readPerson_6 (by decide) rfl (fun c6 => ?_) (fun c6 => ?_)
  · refine ax_aload_n (j := 0) dX8_readPerson_18 rfl rfl rfl ?_
    refine ax_dup dX8_readPerson_19 rfl rfl ?_
    refine am_getI flX8_31 dX8_readPerson_20 rfl is1 rfl ?_
    refine ax_iconst (v := 1) dX8_readPerson_23 (by decide) rfl ?_
    refine ax_iadd dX8_readPerson_24 rfl ?_
    refine am_putI flX8_31 dX8_readPerson_25 rfl is1 rfl rfl rfl ?_
    refine ax_aload_n (j := 0) dX8_readPerson_28 rfl rfl rfl ?_
    refine ax_sipush (v := 255) dX8_readPerson_29 (by decide) rfl ?_
    refine ad_V1 ksX8_readNumber lkX8_61 dX8_readPerson_32 rfl is1 rfl (Nat.le_of_ble_eq_true rfl) (Nat.le_of_ble_eq_true rfl) (s_X8_readNumber _ _ (tx_mono (tx_at (tx_lt ht hl) (by decide)) (by decide))) ?_
    refine ax_ist2 dX8_readPerson_35 rfl rfl (Nat.le_of_ble_eq_true rfl) rfl ?_
    refine ax_aload_n (j := 0) dX8_readPerson_36 rfl rfl rfl ?_
    refine ax_bipush (v := 7) dX8_readPerson_37 (by decide) rfl ?_
    refine ad_V1 ksX8_readNumber lkX8_61 dX8_readPerson_39 rfl is1 rfl (Nat.le_of_ble_eq_true rfl) (Nat.le_of_ble_eq_true rfl) (s_X8_readNumber _ _ (tx_mono (tx_num (tx_at (tx_lt ht hl) (by decide)) (by decide)) (by decide))) ?_
    refine ax_ist3 dX8_readPerson_42 rfl rfl (Nat.le_of_ble_eq_true rfl) rfl ?_
    refine ax_aload_n (j := 0) dX8_readPerson_43 rfl rfl rfl ?_
    refine ad_V0v ksX8_readEndOfClause lkX8_65 dX8_readPerson_44 rfl is1 rfl (Nat.le_of_ble_eq_true rfl) (Nat.le_of_ble_eq_true rfl) (s_X8_readEndOfClause _ (tx_mono (tx_num (tx_num (tx_at (tx_lt ht hl) (by decide)) (by decide)) (by decide)) (by decide))) ?_
    refine ax_aload_n (j := 0) dX8_readPerson_47 rfl rfl rfl ?_
    refine am_getI flX8_34 dX8_readPerson_48 rfl is1 rfl ?_
    refine ax_if_ne (tgt := 60) dX8_readPerson_51 (by decide) rfl (fun c51 => ?_) (fun c51 => ?_)
    · exact ax_vreturn rfl dX8_readPerson_60 ⟨rfl, by simp only [F_X8_readPerson, if_pos c6, if_neg c51]⟩
    · refine ax_aload_n (j := 1) dX8_readPerson_54 rfl rfl rfl ?_
      refine ax_iload_n (j := 2) dX8_readPerson_55 rfl rfl rfl ?_
      refine ax_iload_n (j := 3) dX8_readPerson_56 rfl rfl rfl ?_
      refine ad_V2v ksX5_add lkX8_68 dX8_readPerson_57 rfl hP.o rfl (Nat.le_of_ble_eq_true rfl) (Nat.le_of_ble_eq_true rfl) (s_X5_add _ hP _ _) ?_
      exact ax_vreturn rfl dX8_readPerson_60 ⟨rfl, by simp only [F_X8_readPerson, if_pos c6, if_pos c51]⟩
  · refine ax_aload_n (j := 0) dX8_readPerson_9 rfl rfl rfl ?_
    refine ax_iconst (v := 3) dX8_readPerson_10 (by decide) rfl ?_
    refine ax_aload_n (j := 0) dX8_readPerson_11 rfl rfl rfl ?_
    refine am_getI flX8_31 dX8_readPerson_12 rfl is1 rfl ?_
    refine ad_V2v ksX8_blame lkX8_54 dX8_readPerson_15 rfl is1 rfl (Nat.le_of_ble_eq_true rfl) (Nat.le_of_ble_eq_true rfl) (s_X8_blame _ _ _) ?_
    refine ax_aload_n (j := 0) dX8_readPerson_18 rfl rfl rfl ?_
    refine ax_dup dX8_readPerson_19 rfl rfl ?_
    refine am_getI flX8_31 dX8_readPerson_20 rfl is1 rfl ?_
    refine ax_iconst (v := 1) dX8_readPerson_23 (by decide) rfl ?_
    refine ax_iadd dX8_readPerson_24 rfl ?_
    refine am_putI flX8_31 dX8_readPerson_25 rfl is1 rfl rfl rfl ?_
    refine ax_aload_n (j := 0) dX8_readPerson_28 rfl rfl rfl ?_
    refine ax_sipush (v := 255) dX8_readPerson_29 (by decide) rfl ?_
    refine ad_V1 ksX8_readNumber lkX8_61 dX8_readPerson_32 rfl is1 rfl (Nat.le_of_ble_eq_true rfl) (Nat.le_of_ble_eq_true rfl) (s_X8_readNumber _ _ (tx_mono (tx_at (tx_blame (tx_lt ht hl)) (by decide)) (by decide))) ?_
    refine ax_ist2 dX8_readPerson_35 rfl rfl (Nat.le_of_ble_eq_true rfl) rfl ?_
    refine ax_aload_n (j := 0) dX8_readPerson_36 rfl rfl rfl ?_
    refine ax_bipush (v := 7) dX8_readPerson_37 (by decide) rfl ?_
    refine ad_V1 ksX8_readNumber lkX8_61 dX8_readPerson_39 rfl is1 rfl (Nat.le_of_ble_eq_true rfl) (Nat.le_of_ble_eq_true rfl) (s_X8_readNumber _ _ (tx_mono (tx_num (tx_at (tx_blame (tx_lt ht hl)) (by decide)) (by decide)) (by decide))) ?_
    refine ax_ist3 dX8_readPerson_42 rfl rfl (Nat.le_of_ble_eq_true rfl) rfl ?_
    refine ax_aload_n (j := 0) dX8_readPerson_43 rfl rfl rfl ?_
    refine ad_V0v ksX8_readEndOfClause lkX8_65 dX8_readPerson_44 rfl is1 rfl (Nat.le_of_ble_eq_true rfl) (Nat.le_of_ble_eq_true rfl) (s_X8_readEndOfClause _ (tx_mono (tx_num (tx_num (tx_at (tx_blame (tx_lt ht hl)) (by decide)) (by decide)) (by decide)) (by decide))) ?_
    refine ax_aload_n (j := 0) dX8_readPerson_47 rfl rfl rfl ?_
    refine am_getI flX8_34 dX8_readPerson_48 rfl is1 rfl ?_
    refine ax_if_ne (tgt := 60) dX8_readPerson_51 (by decide) rfl (fun c51 => ?_) (fun c51 => ?_)
    · exact ax_vreturn rfl dX8_readPerson_60 ⟨rfl, by simp only [F_X8_readPerson, if_neg c6, if_neg c51]⟩
    · refine ax_aload_n (j := 1) dX8_readPerson_54 rfl rfl rfl ?_
      refine ax_iload_n (j := 2) dX8_readPerson_55 rfl rfl rfl ?_
      refine ax_iload_n (j := 3) dX8_readPerson_56 rfl rfl rfl ?_
      refine ad_V2v ksX5_add lkX8_68 dX8_readPerson_57 rfl hP.o rfl (Nat.le_of_ble_eq_true rfl) (Nat.le_of_ble_eq_true rfl) (s_X5_add _ hP _ _) ?_
      exact ax_vreturn rfl dX8_readPerson_60 ⟨rfl, by simp only [F_X8_readPerson, if_neg c6, if_pos c51]⟩

def F_X8_readAcquaintance (mem : ax_Me) (a : Nat) : ax_Me :=
  (if (F_X8_readNumber (F_X8_readNumber (ax_u mem 1 4 ((mem 1 4) + 1)) (((ax_u mem 1 4 ((mem 1 4) + 1)) a 4) - 1)).2 (((F_X8_readNumber (ax_u mem 1 4 ((mem 1 4) + 1)) (((ax_u mem 1 4 ((mem 1 4) + 1)) a 4) - 1)).2 a 4) - 1)).1 = (F_X8_readNumber (ax_u mem 1 4 ((mem 1 4) + 1)) (((ax_u mem 1 4 ((mem 1 4) + 1)) a 4) - 1)).1 then (if ((F_X8_readEndOfClause (F_X8_blame (F_X8_readNumber (F_X8_readNumber (ax_u mem 1 4 ((mem 1 4) + 1)) (((ax_u mem 1 4 ((mem 1 4) + 1)) a 4) - 1)).2 (((F_X8_readNumber (ax_u mem 1 4 ((mem 1 4) + 1)) (((ax_u mem 1 4 ((mem 1 4) + 1)) a 4) - 1)).2 a 4) - 1)).2 4 ((F_X8_readNumber (F_X8_readNumber (ax_u mem 1 4 ((mem 1 4) + 1)) (((ax_u mem 1 4 ((mem 1 4) + 1)) a 4) - 1)).2 (((F_X8_readNumber (ax_u mem 1 4 ((mem 1 4) + 1)) (((ax_u mem 1 4 ((mem 1 4) + 1)) a 4) - 1)).2 a 4) - 1)).2 1 5))) 1 3) = 0 then (F_X5_learn (F_X8_readEndOfClause (F_X8_blame (F_X8_readNumber (F_X8_readNumber (ax_u mem 1 4 ((mem 1 4) + 1)) (((ax_u mem 1 4 ((mem 1 4) + 1)) a 4) - 1)).2 (((F_X8_readNumber (ax_u mem 1 4 ((mem 1 4) + 1)) (((ax_u mem 1 4 ((mem 1 4) + 1)) a 4) - 1)).2 a 4) - 1)).2 4 ((F_X8_readNumber (F_X8_readNumber (ax_u mem 1 4 ((mem 1 4) + 1)) (((ax_u mem 1 4 ((mem 1 4) + 1)) a 4) - 1)).2 (((F_X8_readNumber (ax_u mem 1 4 ((mem 1 4) + 1)) (((ax_u mem 1 4 ((mem 1 4) + 1)) a 4) - 1)).2 a 4) - 1)).2 1 5))) a (F_X8_readNumber (ax_u mem 1 4 ((mem 1 4) + 1)) (((ax_u mem 1 4 ((mem 1 4) + 1)) a 4) - 1)).1 (F_X8_readNumber (F_X8_readNumber (ax_u mem 1 4 ((mem 1 4) + 1)) (((ax_u mem 1 4 ((mem 1 4) + 1)) a 4) - 1)).2 (((F_X8_readNumber (ax_u mem 1 4 ((mem 1 4) + 1)) (((ax_u mem 1 4 ((mem 1 4) + 1)) a 4) - 1)).2 a 4) - 1)).1) else (F_X8_readEndOfClause (F_X8_blame (F_X8_readNumber (F_X8_readNumber (ax_u mem 1 4 ((mem 1 4) + 1)) (((ax_u mem 1 4 ((mem 1 4) + 1)) a 4) - 1)).2 (((F_X8_readNumber (ax_u mem 1 4 ((mem 1 4) + 1)) (((ax_u mem 1 4 ((mem 1 4) + 1)) a 4) - 1)).2 a 4) - 1)).2 4 ((F_X8_readNumber (F_X8_readNumber (ax_u mem 1 4 ((mem 1 4) + 1)) (((ax_u mem 1 4 ((mem 1 4) + 1)) a 4) - 1)).2 (((F_X8_readNumber (ax_u mem 1 4 ((mem 1 4) + 1)) (((ax_u mem 1 4 ((mem 1 4) + 1)) a 4) - 1)).2 a 4) - 1)).2 1 5)))) else (if (F_X5_knows (F_X8_readNumber (F_X8_readNumber (ax_u mem 1 4 ((mem 1 4) + 1)) (((ax_u mem 1 4 ((mem 1 4) + 1)) a 4) - 1)).2 (((F_X8_readNumber (ax_u mem 1 4 ((mem 1 4) + 1)) (((ax_u mem 1 4 ((mem 1 4) + 1)) a 4) - 1)).2 a 4) - 1)).2 a (F_X8_readNumber (ax_u mem 1 4 ((mem 1 4) + 1)) (((ax_u mem 1 4 ((mem 1 4) + 1)) a 4) - 1)).1 (F_X8_readNumber (F_X8_readNumber (ax_u mem 1 4 ((mem 1 4) + 1)) (((ax_u mem 1 4 ((mem 1 4) + 1)) a 4) - 1)).2 (((F_X8_readNumber (ax_u mem 1 4 ((mem 1 4) + 1)) (((ax_u mem 1 4 ((mem 1 4) + 1)) a 4) - 1)).2 a 4) - 1)).1) = 0 then (if ((F_X8_readEndOfClause (F_X8_readNumber (F_X8_readNumber (ax_u mem 1 4 ((mem 1 4) + 1)) (((ax_u mem 1 4 ((mem 1 4) + 1)) a 4) - 1)).2 (((F_X8_readNumber (ax_u mem 1 4 ((mem 1 4) + 1)) (((ax_u mem 1 4 ((mem 1 4) + 1)) a 4) - 1)).2 a 4) - 1)).2) 1 3) = 0 then (F_X5_learn (F_X8_readEndOfClause (F_X8_readNumber (F_X8_readNumber (ax_u mem 1 4 ((mem 1 4) + 1)) (((ax_u mem 1 4 ((mem 1 4) + 1)) a 4) - 1)).2 (((F_X8_readNumber (ax_u mem 1 4 ((mem 1 4) + 1)) (((ax_u mem 1 4 ((mem 1 4) + 1)) a 4) - 1)).2 a 4) - 1)).2) a (F_X8_readNumber (ax_u mem 1 4 ((mem 1 4) + 1)) (((ax_u mem 1 4 ((mem 1 4) + 1)) a 4) - 1)).1 (F_X8_readNumber (F_X8_readNumber (ax_u mem 1 4 ((mem 1 4) + 1)) (((ax_u mem 1 4 ((mem 1 4) + 1)) a 4) - 1)).2 (((F_X8_readNumber (ax_u mem 1 4 ((mem 1 4) + 1)) (((ax_u mem 1 4 ((mem 1 4) + 1)) a 4) - 1)).2 a 4) - 1)).1) else (F_X8_readEndOfClause (F_X8_readNumber (F_X8_readNumber (ax_u mem 1 4 ((mem 1 4) + 1)) (((ax_u mem 1 4 ((mem 1 4) + 1)) a 4) - 1)).2 (((F_X8_readNumber (ax_u mem 1 4 ((mem 1 4) + 1)) (((ax_u mem 1 4 ((mem 1 4) + 1)) a 4) - 1)).2 a 4) - 1)).2)) else (if ((F_X8_readEndOfClause (F_X8_blame (F_X8_readNumber (F_X8_readNumber (ax_u mem 1 4 ((mem 1 4) + 1)) (((ax_u mem 1 4 ((mem 1 4) + 1)) a 4) - 1)).2 (((F_X8_readNumber (ax_u mem 1 4 ((mem 1 4) + 1)) (((ax_u mem 1 4 ((mem 1 4) + 1)) a 4) - 1)).2 a 4) - 1)).2 4 ((F_X8_readNumber (F_X8_readNumber (ax_u mem 1 4 ((mem 1 4) + 1)) (((ax_u mem 1 4 ((mem 1 4) + 1)) a 4) - 1)).2 (((F_X8_readNumber (ax_u mem 1 4 ((mem 1 4) + 1)) (((ax_u mem 1 4 ((mem 1 4) + 1)) a 4) - 1)).2 a 4) - 1)).2 1 5))) 1 3) = 0 then (F_X5_learn (F_X8_readEndOfClause (F_X8_blame (F_X8_readNumber (F_X8_readNumber (ax_u mem 1 4 ((mem 1 4) + 1)) (((ax_u mem 1 4 ((mem 1 4) + 1)) a 4) - 1)).2 (((F_X8_readNumber (ax_u mem 1 4 ((mem 1 4) + 1)) (((ax_u mem 1 4 ((mem 1 4) + 1)) a 4) - 1)).2 a 4) - 1)).2 4 ((F_X8_readNumber (F_X8_readNumber (ax_u mem 1 4 ((mem 1 4) + 1)) (((ax_u mem 1 4 ((mem 1 4) + 1)) a 4) - 1)).2 (((F_X8_readNumber (ax_u mem 1 4 ((mem 1 4) + 1)) (((ax_u mem 1 4 ((mem 1 4) + 1)) a 4) - 1)).2 a 4) - 1)).2 1 5))) a (F_X8_readNumber (ax_u mem 1 4 ((mem 1 4) + 1)) (((ax_u mem 1 4 ((mem 1 4) + 1)) a 4) - 1)).1 (F_X8_readNumber (F_X8_readNumber (ax_u mem 1 4 ((mem 1 4) + 1)) (((ax_u mem 1 4 ((mem 1 4) + 1)) a 4) - 1)).2 (((F_X8_readNumber (ax_u mem 1 4 ((mem 1 4) + 1)) (((ax_u mem 1 4 ((mem 1 4) + 1)) a 4) - 1)).2 a 4) - 1)).1) else (F_X8_readEndOfClause (F_X8_blame (F_X8_readNumber (F_X8_readNumber (ax_u mem 1 4 ((mem 1 4) + 1)) (((ax_u mem 1 4 ((mem 1 4) + 1)) a 4) - 1)).2 (((F_X8_readNumber (ax_u mem 1 4 ((mem 1 4) + 1)) (((ax_u mem 1 4 ((mem 1 4) + 1)) a 4) - 1)).2 a 4) - 1)).2 4 ((F_X8_readNumber (F_X8_readNumber (ax_u mem 1 4 ((mem 1 4) + 1)) (((ax_u mem 1 4 ((mem 1 4) + 1)) a 4) - 1)).2 (((F_X8_readNumber (ax_u mem 1 4 ((mem 1 4) + 1)) (((ax_u mem 1 4 ((mem 1 4) + 1)) a 4) - 1)).2 a 4) - 1)).2 1 5))))))
set_option maxRecDepth 20000 in
theorem s_X8_readAcquaintance {G : ax_G} {l : Launch} (mem : ax_Me) {a : Nat} (hP : ax_isP a) (ht : tx 241 mem) (hl : ¬ mem 1 1 ≤ mem 1 4) : AD G l 4 mX8_readAcquaintance [.ref 1, .ref a] mem none (F_X8_readAcquaintance mem a) := by
  refine ax_start (ls := [.ref 1, .ref a, .float 0, .float 0]) (u := 2) (by decide +kernel) (Nat.le_of_ble_eq_true rfl) (Nat.le_refl _) (Nat.le_refl _) rfl ?_
  refine ax_aload_n (j := 0) dX8_readAcquaintance_0 rfl rfl rfl ?_
  refine ax_dup dX8_readAcquaintance_1 rfl rfl ?_
  refine am_getI flX8_31 dX8_readAcquaintance_2 rfl is1 rfl ?_
  refine ax_iconst (v := 1) dX8_readAcquaintance_5 (by decide) rfl ?_
  refine ax_iadd dX8_readAcquaintance_6 rfl ?_
  refine am_putI flX8_31 dX8_readAcquaintance_7 rfl is1 rfl rfl rfl ?_
  refine ax_aload_n (j := 0) dX8_readAcquaintance_10 rfl rfl rfl ?_
  refine ax_aload_n (j := 1) dX8_readAcquaintance_11 rfl rfl rfl ?_
  refine am_getI flX8_58 dX8_readAcquaintance_12 rfl hP.o rfl ?_
  refine ax_iconst (v := 1) dX8_readAcquaintance_15 (by decide) rfl ?_
  refine ax_isub dX8_readAcquaintance_16 rfl ?_
  refine ad_V1 ksX8_readNumber lkX8_61 dX8_readAcquaintance_17 rfl is1 rfl (Nat.le_of_ble_eq_true rfl) (Nat.le_of_ble_eq_true rfl) (s_X8_readNumber _ _ (tx_mono (tx_at (tx_lt ht hl) (by decide)) (by decide))) ?_
  refine ax_ist2 dX8_readAcquaintance_20 rfl rfl (Nat.le_of_ble_eq_true rfl) rfl ?_
  refine ax_aload_n (j := 0) dX8_readAcquaintance_21 rfl rfl rfl ?_
  refine ax_aload_n (j := 1) dX8_readAcquaintance_22 rfl rfl rfl ?_
  refine am_getI flX8_58 dX8_readAcquaintance_23 rfl hP.o rfl ?_
  refine ax_iconst (v := 1) dX8_readAcquaintance_26 (by decide) rfl ?_
  refine ax_isub dX8_readAcquaintance_27 rfl ?_
  refine ad_V1 ksX8_readNumber lkX8_61 dX8_readAcquaintance_28 rfl is1 rfl (Nat.le_of_ble_eq_true rfl) (Nat.le_of_ble_eq_true rfl) (s_X8_readNumber _ _ (tx_mono (tx_num (tx_at (tx_lt ht hl) (by decide)) (by decide)) (by decide))) ?_
  refine ax_ist3 dX8_readAcquaintance_31 rfl rfl (Nat.le_of_ble_eq_true rfl) rfl ?_
  refine ax_iload_n (j := 3) dX8_readAcquaintance_32 rfl rfl rfl ?_
  refine ax_iload_n (j := 2) dX8_readAcquaintance_33 rfl rfl rfl ?_
  refine ax_icmp_eq (tgt := 46) dX8_readAcquaintance_34 (by decide) rfl (fun c34 => ?_) (fun c34 => ?_)
  · refine ax_aload_n (j := 0) dX8_readAcquaintance_46 rfl rfl rfl ?_
    refine ax_iconst (v := 4) dX8_readAcquaintance_47 (by decide) rfl ?_
    refine ax_aload_n (j := 0) dX8_readAcquaintance_48 rfl rfl rfl ?_
    refine am_getI flX8_75 dX8_readAcquaintance_49 rfl is1 rfl ?_
    refine ad_V2v ksX8_blame lkX8_54 dX8_readAcquaintance_52 rfl is1 rfl (Nat.le_of_ble_eq_true rfl) (Nat.le_of_ble_eq_true rfl) (s_X8_blame _ _ _) ?_
    refine ax_aload_n (j := 0) dX8_readAcquaintance_55 rfl rfl rfl ?_
    refine ad_V0v ksX8_readEndOfClause lkX8_65 dX8_readAcquaintance_56 rfl is1 rfl (Nat.le_of_ble_eq_true rfl) (Nat.le_of_ble_eq_true rfl) (s_X8_readEndOfClause _ (tx_mono (tx_blame (tx_num (tx_num (tx_at (tx_lt ht hl) (by decide)) (by decide)) (by decide))) (by decide))) ?_
    refine ax_aload_n (j := 0) dX8_readAcquaintance_59 rfl rfl rfl ?_
    refine am_getI flX8_34 dX8_readAcquaintance_60 rfl is1 rfl ?_
    refine ax_if_ne (tgt := 72) dX8_readAcquaintance_63 (by decide) rfl (fun c63 => ?_) (fun c63 => ?_)
    · exact ax_vreturn rfl dX8_readAcquaintance_72 ⟨rfl, by simp only [F_X8_readAcquaintance, if_pos c34, if_neg c63]⟩
    · refine ax_aload_n (j := 1) dX8_readAcquaintance_66 rfl rfl rfl ?_
      refine ax_iload_n (j := 2) dX8_readAcquaintance_67 rfl rfl rfl ?_
      refine ax_iload_n (j := 3) dX8_readAcquaintance_68 rfl rfl rfl ?_
      refine ad_V2v ksX5_learn lkX8_78 dX8_readAcquaintance_69 rfl hP.o rfl (Nat.le_of_ble_eq_true rfl) (Nat.le_of_ble_eq_true rfl) (s_X5_learn _ hP _ _) ?_
      exact ax_vreturn rfl dX8_readAcquaintance_72 ⟨rfl, by simp only [F_X8_readAcquaintance, if_pos c34, if_pos c63]⟩
  · refine ax_aload_n (j := 1) dX8_readAcquaintance_37 rfl rfl rfl ?_
    refine ax_iload_n (j := 2) dX8_readAcquaintance_38 rfl rfl rfl ?_
    refine ax_iload_n (j := 3) dX8_readAcquaintance_39 rfl rfl rfl ?_
    refine ad_V2 ksX5_knows lkX8_71 dX8_readAcquaintance_40 rfl hP.o rfl (Nat.le_of_ble_eq_true rfl) (Nat.le_of_ble_eq_true rfl) (s_X5_knows _ hP _ _) ?_
    refine ax_if_eq (tgt := 55) dX8_readAcquaintance_43 (by decide) rfl (fun c43 => ?_) (fun c43 => ?_)
    · refine ax_aload_n (j := 0) dX8_readAcquaintance_55 rfl rfl rfl ?_
      refine ad_V0v ksX8_readEndOfClause lkX8_65 dX8_readAcquaintance_56 rfl is1 rfl (Nat.le_of_ble_eq_true rfl) (Nat.le_of_ble_eq_true rfl) (s_X8_readEndOfClause _ (tx_mono (tx_num (tx_num (tx_at (tx_lt ht hl) (by decide)) (by decide)) (by decide)) (by decide))) ?_
      refine ax_aload_n (j := 0) dX8_readAcquaintance_59 rfl rfl rfl ?_
      refine am_getI flX8_34 dX8_readAcquaintance_60 rfl is1 rfl ?_
      refine ax_if_ne (tgt := 72) dX8_readAcquaintance_63 (by decide) rfl (fun c63 => ?_) (fun c63 => ?_)
      · exact ax_vreturn rfl dX8_readAcquaintance_72 ⟨rfl, by simp only [F_X8_readAcquaintance, if_neg c34, if_pos c43, if_neg c63]⟩
      · refine ax_aload_n (j := 1) dX8_readAcquaintance_66 rfl rfl rfl ?_
        refine ax_iload_n (j := 2) dX8_readAcquaintance_67 rfl rfl rfl ?_
        refine ax_iload_n (j := 3) dX8_readAcquaintance_68 rfl rfl rfl ?_
        refine ad_V2v ksX5_learn lkX8_78 dX8_readAcquaintance_69 rfl hP.o rfl (Nat.le_of_ble_eq_true rfl) (Nat.le_of_ble_eq_true rfl) (s_X5_learn _ hP _ _) ?_
        exact ax_vreturn rfl dX8_readAcquaintance_72 ⟨rfl, by simp only [F_X8_readAcquaintance, if_neg c34, if_pos c43, if_pos c63]⟩
    · refine ax_aload_n (j := 0) dX8_readAcquaintance_46 rfl rfl rfl ?_
      refine ax_iconst (v := 4) dX8_readAcquaintance_47 (by decide) rfl ?_
      refine ax_aload_n (j := 0) dX8_readAcquaintance_48 rfl rfl rfl ?_
      refine am_getI flX8_75 dX8_readAcquaintance_49 rfl is1 rfl ?_
      refine ad_V2v ksX8_blame lkX8_54 dX8_readAcquaintance_52 rfl is1 rfl (Nat.le_of_ble_eq_true rfl) (Nat.le_of_ble_eq_true rfl) (s_X8_blame _ _ _) ?_
      refine ax_aload_n (j := 0) dX8_readAcquaintance_55 rfl rfl rfl ?_
      refine ad_V0v ksX8_readEndOfClause lkX8_65 dX8_readAcquaintance_56 rfl is1 rfl (Nat.le_of_ble_eq_true rfl) (Nat.le_of_ble_eq_true rfl) (s_X8_readEndOfClause _ (tx_mono (tx_blame (tx_num (tx_num (tx_at (tx_lt ht hl) (by decide)) (by decide)) (by decide))) (by decide))) ?_
      refine ax_aload_n (j := 0) dX8_readAcquaintance_59 rfl rfl rfl ?_
      refine am_getI flX8_34 dX8_readAcquaintance_60 rfl is1 rfl ?_
      refine ax_if_ne (tgt := 72) dX8_readAcquaintance_63 (by decide) rfl (fun c63 => ?_) (fun c63 => ?_)
      · exact ax_vreturn rfl dX8_readAcquaintance_72 ⟨rfl, by simp only [F_X8_readAcquaintance, if_neg c34, if_neg c43, if_neg c63]⟩
      · refine ax_aload_n (j := 1) dX8_readAcquaintance_66 rfl rfl rfl ?_
        refine ax_iload_n (j := 2) dX8_readAcquaintance_67 rfl rfl rfl ?_
        refine ax_iload_n (j := 3) dX8_readAcquaintance_68 rfl rfl rfl ?_
        refine ad_V2v ksX5_learn lkX8_78 dX8_readAcquaintance_69 rfl hP.o rfl (Nat.le_of_ble_eq_true rfl) (Nat.le_of_ble_eq_true rfl) (s_X5_learn _ hP _ _) ?_
        exact ax_vreturn rfl dX8_readAcquaintance_72 ⟨rfl, by simp only [F_X8_readAcquaintance, if_neg c34, if_neg c43, if_pos c63]⟩

def F_X8_readClause (mem : ax_Me) (a : Nat) : ax_Me :=
  (if (F_X8_letterHere mem) = 112 then (F_X8_readPerson mem a) else (if (F_X8_letterHere mem) = 107 then (F_X8_readAcquaintance mem a) else (F_X8_blame mem 1 (mem 1 4))))
set_option maxRecDepth 20000 in
theorem s_X8_readClause {G : ax_G} {l : Launch} (mem : ax_Me) {a : Nat} (hP : ax_isP a) (ht : tx 241 mem) (hl : ¬ mem 1 1 ≤ mem 1 4) : AD G l 5 mX8_readClause [.ref 1, .ref a] mem none (F_X8_readClause mem a) := by
  refine ax_start (ls := [.ref 1, .ref a, .float 0]) (u := 1) (by decide +kernel) (Nat.le_of_ble_eq_true rfl) (Nat.le_refl _) (Nat.le_refl _) rfl ?_
  refine ax_aload_n (j := 0) dX8_readClause_0 rfl rfl rfl ?_
  refine ad_V0 ksX8_letterHere lkX8_44 dX8_readClause_1 rfl is1 rfl (Nat.le_of_ble_eq_true rfl) (Nat.le_of_ble_eq_true rfl) (s_X8_letterHere _ ) ?_
  refine ax_ist2 dX8_readClause_4 rfl rfl (Nat.le_of_ble_eq_true rfl) rfl ?_
  refine ax_iload_n (j := 2) dX8_readClause_5 rfl rfl rfl ?_
  refine ax_bipush (v := 112) dX8_readClause_6 (by decide) rfl ?_
  refine ax_icmp_ne (tgt := 19) dX8_readClause_8 (by decide) rfl (fun c8 => ?_) (fun c8 => ?_)
  · refine ax_iload_n (j := 2) dX8_readClause_19 rfl rfl rfl ?_
    refine ax_bipush (v := 107) dX8_readClause_20 (by decide) rfl ?_
    refine ax_icmp_ne (tgt := 33) dX8_readClause_22 (by decide) rfl (fun c22 => ?_) (fun c22 => ?_)
    · refine ax_aload_n (j := 0) dX8_readClause_33 rfl rfl rfl ?_
      refine ax_iconst (v := 1) dX8_readClause_34 (by decide) rfl ?_
      refine ax_aload_n (j := 0) dX8_readClause_35 rfl rfl rfl ?_
      refine am_getI flX8_31 dX8_readClause_36 rfl is1 rfl ?_
      refine ad_V2v ksX8_blame lkX8_54 dX8_readClause_39 rfl is1 rfl (Nat.le_of_ble_eq_true rfl) (Nat.le_of_ble_eq_true rfl) (s_X8_blame _ _ _) ?_
      exact ax_vreturn rfl dX8_readClause_42 ⟨rfl, by simp only [F_X8_readClause, if_neg c8, if_neg c22]⟩
    · refine ax_aload_n (j := 0) dX8_readClause_25 rfl rfl rfl ?_
      refine ax_aload_n (j := 1) dX8_readClause_26 rfl rfl rfl ?_
      refine ad_V1v ksX8_readAcquaintance lkX8_51 dX8_readClause_27 rfl is1 rfl (Nat.le_of_ble_eq_true rfl) (Nat.le_of_ble_eq_true rfl) (s_X8_readAcquaintance _ hP (by assumption) (by assumption)) ?_
      refine ax_goto (tgt := 42) dX8_readClause_30 (by decide) ?_
      exact ax_vreturn rfl dX8_readClause_42 ⟨rfl, by simp only [F_X8_readClause, if_neg c8, if_pos c22]⟩
  · refine ax_aload_n (j := 0) dX8_readClause_11 rfl rfl rfl ?_
    refine ax_aload_n (j := 1) dX8_readClause_12 rfl rfl rfl ?_
    refine ad_V1v ksX8_readPerson lkX8_48 dX8_readClause_13 rfl is1 rfl (Nat.le_of_ble_eq_true rfl) (Nat.le_of_ble_eq_true rfl) (s_X8_readPerson _ hP (by assumption) (by assumption)) ?_
    refine ax_goto (tgt := 42) dX8_readClause_16 (by decide) ?_
    exact ax_vreturn rfl dX8_readClause_42 ⟨rfl, by simp only [F_X8_readClause, if_pos c8]⟩

theorem tx_off {k : Int} {m m' : ax_Me} (h : tx k m) (e : m' 1 = m 1) : tx k m' := by
  unfold tx
  rw [e]
  exact h
theorem add_1 {m : ax_Me} {a : Nat} {x y : Int32} (h : ax_isP a) : F_X5_add m a x y 1 = m 1 := by
  have := isP_1 h
  unfold F_X5_add
  split
  · rfl
  · rw [ax_u_off (by omega), ax_u_off (by omega), ax_u_off (by omega), ax_u_off (by omega)]
theorem learn_1 {m : ax_Me} {a : Nat} {x y : Int32} (h : ax_isP a) : F_X5_learn m a x y 1 = m 1 := by
  have := isP_1 h
  unfold F_X5_learn
  split
  · rfl
  · rw [ax_u_off (by omega)]
theorem tx_if {k : Int} {c : Prop} [Decidable c] {A B : ax_Me} (hA : c → tx k A) (hB : ¬ c → tx k B) : tx k (if c then A else B) := by
  by_cases h : c
  · rw [if_pos h]
    exact hA h
  · rw [if_neg h]
    exact hB h
theorem tx_person {m : ax_Me} {a : Nat} (h : ax_isP a) (ht : tx 241 m) (hl : ¬ m 1 1 ≤ m 1 4) : tx 241 (F_X8_readPerson m a) := by
  have t1 : tx 240 (ax_u m 1 4 (m 1 4 + 1)) := tx_mono (tx_at (tx_lt ht hl) (by decide)) (by decide)
  have t2 : ∀ x y, tx 240 (ax_u (F_X8_blame m x y) 1 4 (F_X8_blame m x y 1 4 + 1)) := fun x y => tx_mono (tx_at (tx_blame (tx_lt ht hl)) (by decide)) (by decide)
  have key : ∀ m1, tx 240 m1 → tx 241 (F_X8_readEndOfClause (F_X8_readNumber (F_X8_readNumber m1 255).2 7).2) := fun m1 q => tx_mono (tx_end (tx_num (tx_num q (by decide)) (by decide)) (by decide) (by decide)) (by decide)
  rw [F_X8_readPerson]
  refine tx_if (fun _ => ?_) (fun _ => ?_)
  · refine tx_if (fun _ => ?_) (fun _ => ?_)
    · exact tx_off (key _ t1) (add_1 h)
    · exact key _ t1
  · refine tx_if (fun _ => ?_) (fun _ => ?_)
    · exact tx_off (key _ (t2 _ _)) (add_1 h)
    · exact key _ (t2 _ _)
theorem tx_acq {m : ax_Me} {a : Nat} (h : ax_isP a) (ht : tx 241 m) (hl : ¬ m 1 1 ≤ m 1 4) : tx 241 (F_X8_readAcquaintance m a) := by
  have t1 : tx 240 (ax_u m 1 4 (m 1 4 + 1)) := tx_mono (tx_at (tx_lt ht hl) (by decide)) (by decide)
  have n2 : ∀ x y, tx 240 (F_X8_readNumber (F_X8_readNumber (ax_u m 1 4 (m 1 4 + 1)) x).2 y).2 := fun x y => tx_num (tx_num t1 (by decide)) (by decide)
  have k1 : ∀ x y, tx 241 (F_X8_readEndOfClause (F_X8_readNumber (F_X8_readNumber (ax_u m 1 4 (m 1 4 + 1)) x).2 y).2) := fun x y => tx_mono (tx_end (n2 x y) (by decide) (by decide)) (by decide)
  have k2 : ∀ x y u v, tx 241 (F_X8_readEndOfClause (F_X8_blame (F_X8_readNumber (F_X8_readNumber (ax_u m 1 4 (m 1 4 + 1)) x).2 y).2 u v)) := fun x y u v => tx_mono (tx_end (tx_blame (n2 x y)) (by decide) (by decide)) (by decide)
  rw [F_X8_readAcquaintance]
  refine tx_if (fun _ => ?_) (fun _ => ?_)
  · refine tx_if (fun _ => ?_) (fun _ => ?_)
    · exact tx_off (k2 _ _ _ _) (learn_1 h)
    · exact k2 _ _ _ _
  · refine tx_if (fun _ => ?_) (fun _ => ?_)
    · refine tx_if (fun _ => ?_) (fun _ => ?_)
      · exact tx_off (k1 _ _) (learn_1 h)
      · exact k1 _ _
    · refine tx_if (fun _ => ?_) (fun _ => ?_)
      · exact tx_off (k2 _ _ _ _) (learn_1 h)
      · exact k2 _ _ _ _
theorem tx_clause {m : ax_Me} {a : Nat} (h : ax_isP a) (ht : tx 241 m) (hl : ¬ m 1 1 ≤ m 1 4) : tx 241 (F_X8_readClause m a) := by
  rw [F_X8_readClause]
  refine tx_if (fun _ => ?_) (fun _ => ?_)
  · exact tx_person h ht hl
  · refine tx_if (fun _ => ?_) (fun _ => ?_)
    · exact tx_acq h ht hl
    · exact tx_blame ht
theorem cnt_up {x : Int32} (h0 : ¬ x < 0) (h : ¬ 240 ≤ x) : (x + 1).toNatClampNeg = x.toNatClampNeg + 1 ∧ x.toNatClampNeg < 240 ∧ ¬ x + 1 < 0 := by
  rw [Int32.lt_iff_toInt_lt] at h0
  rw [Int32.le_iff_toInt_le] at h
  have e0 : (0 : Int32).toInt = 0 := rfl
  have e9 : (240 : Int32).toInt = 240 := rfl
  have e := inc_toInt (x := x) (by omega)
  have n1 : x.toNatClampNeg = x.toInt.toNat := rfl
  have n2 : (x + 1).toNatClampNeg = (x + 1).toInt.toNat := rfl
  refine ⟨by omega, by omega, fun q => ?_⟩
  rw [Int32.lt_iff_toInt_lt] at q
  omega
theorem tx_start {m : ax_Me} {a : Nat} (h : ax_isP a) (hl : (m 1 1).toInt ≤ 240) : tx 241 (ax_u (ax_u (ax_u (F_X5_empty m a) 1 4 0) 1 3 0) 1 2 (-1)) := by
  have := isP_1 h
  have e : F_X5_empty m a 1 = m 1 := by
    unfold F_X5_empty
    funext k
    unfold F_J7_fill_53178
    rw [if_neg (by omega), ax_u_off (by omega), ax_u_off (by omega)]
  refine ⟨?_, ?_, ?_⟩
  · rw [ax_u_ne (by decide), ax_u_ne (by decide), ax_u_self]; decide
  · rw [ax_u_ne (by decide), ax_u_ne (by decide), ax_u_self]; decide
  · rw [ax_u_ne (by decide), ax_u_ne (by decide), ax_u_ne (by decide), e]; exact hl
def f_X8_tellInto_25 (a : Nat)  (s : Int32 × ax_Me) : Option (Int32 × ax_Me) :=
  match s with
  | (x0, m) => (if 240 ≤ x0 then none else (if (m 1 1) ≤ (m 1 4) then none else (if (m 1 3) = 0 then (some ((x0 + 1), (F_X8_skipBlanks (F_X8_readClause m a)))) else none)))
def F_X8_tellInto (mem : ax_Me) (a : Nat) : Int32 × ax_Me :=
  (((ax_wh (f_X8_tellInto_25 a) (241) (0, (F_X8_skipBlanks (ax_u (ax_u (ax_u (F_X5_empty mem a) 1 4 0) 1 3 0) 1 2 (-1))))).2 1 3), (ax_wh (f_X8_tellInto_25 a) (241) (0, (F_X8_skipBlanks (ax_u (ax_u (ax_u (F_X5_empty mem a) 1 4 0) 1 3 0) 1 2 (-1))))).2)
set_option maxRecDepth 20000 in
theorem lp_X8_tellInto_25 {G : ax_G} {l : Launch} {Q : Option Value → ax_H → Prop} {a : Nat} (hP : ax_isP a)   : ∀ (n : Nat) (x0 : Int32) (m : ax_Me), (240 - x0.toNatClampNeg) < n → (tx 241 m ∧ ¬ x0 < 0) → AX G l mX8_tellInto 6 65 [.ref 1, .ref a, .int (ax_wh (f_X8_tellInto_25 a) n (x0, m)).1] [] 153 0 (ax_hm (ax_wh (f_X8_tellInto_25 a) n (x0, m)).2) 153 0 Q → AX G l mX8_tellInto 6 25 [.ref 1, .ref a, .int x0] [] 153 0 (ax_hm m) 153 0 Q := by
  intro n
  induction n with
  | zero =>
    intro x0 m hmu
    exact absurd hmu (Nat.not_lt_zero _)
  | succ n ih =>
    intro x0 m hmu hi hx
    refine ax_iload_n (j := 2) dX8_tellInto_25 rfl rfl rfl ?_
    refine ax_sipush (v := 240) dX8_tellInto_26 (by decide) rfl ?_
    refine ax_icmp_ge (tgt := 65) dX8_tellInto_29 (by decide) rfl (fun c29 => ?_) (fun c29 => ?_)
    · have e1 : f_X8_tellInto_25 a (x0, m) = none := by simp only [f_X8_tellInto_25, if_pos c29]
      simp only [ax_wh, e1] at hx
      exact hx
    · refine ax_aload_n (j := 0) dX8_tellInto_32 rfl rfl rfl ?_
      refine am_getI flX8_31 dX8_tellInto_33 rfl is1 rfl ?_
      refine ax_aload_n (j := 0) dX8_tellInto_36 rfl rfl rfl ?_
      refine am_getI flX8_19 dX8_tellInto_37 rfl is1 rfl ?_
      refine ax_icmp_ge (tgt := 65) dX8_tellInto_40 (by decide) rfl (fun c40 => ?_) (fun c40 => ?_)
      · have e1 : f_X8_tellInto_25 a (x0, m) = none := by simp only [f_X8_tellInto_25, if_neg c29, if_pos c40]
        simp only [ax_wh, e1] at hx
        exact hx
      · refine ax_aload_n (j := 0) dX8_tellInto_43 rfl rfl rfl ?_
        refine am_getI flX8_34 dX8_tellInto_44 rfl is1 rfl ?_
        refine ax_if_ne (tgt := 65) dX8_tellInto_47 (by decide) rfl (fun c47 => ?_) (fun c47 => ?_)
        · have e1 : f_X8_tellInto_25 a (x0, m) = none := by simp only [f_X8_tellInto_25, if_neg c29, if_neg c40, if_neg c47]
          simp only [ax_wh, e1] at hx
          exact hx
        · refine ax_aload_n (j := 0) dX8_tellInto_50 rfl rfl rfl ?_
          refine ax_aload_n (j := 1) dX8_tellInto_51 rfl rfl rfl ?_
          refine ad_V1v ksX8_readClause lkX8_40 dX8_tellInto_52 rfl is1 rfl (Nat.le_of_ble_eq_true rfl) (Nat.le_of_ble_eq_true rfl) (s_X8_readClause _ hP hi.1 c40) ?_
          refine ax_aload_n (j := 0) dX8_tellInto_55 rfl rfl rfl ?_
          refine ad_V0v ksX8_skipBlanks lkX8_37 dX8_tellInto_56 rfl is1 rfl (Nat.le_of_ble_eq_true rfl) (Nat.le_of_ble_eq_true rfl) (s_X8_skipBlanks _ (tx_mono (tx_clause hP hi.1 c40) (by decide))) ?_
          refine ax_iinc2 (v := (x0 + 1)) dX8_tellInto_59 rfl rfl (Nat.le_of_ble_eq_true rfl) rfl ?_
          refine ax_goto (tgt := 25) dX8_tellInto_62 (by decide) ?_
          have e1 : f_X8_tellInto_25 a (x0, m) = some ((x0 + 1), (F_X8_skipBlanks (F_X8_readClause m a))) := by simp only [f_X8_tellInto_25, if_neg c29, if_neg c40, if_pos c47]
          simp only [ax_wh, e1] at hx
          exact ih ((x0 + 1)) ((F_X8_skipBlanks (F_X8_readClause m a))) (by have q := cnt_up hi.2 c29; omega) ⟨tx_skip (tx_clause hP hi.1 c40) (by decide), (cnt_up hi.2 c29).2.2⟩ hx
set_option maxRecDepth 20000 in
theorem s_X8_tellInto {G : ax_G} {l : Launch} (mem : ax_Me) {a : Nat} (hP : ax_isP a) (hl : (mem 1 1).toInt ≤ 240) : AD G l 6 mX8_tellInto [.ref 1, .ref a] mem (some (.int (F_X8_tellInto mem a).1)) (F_X8_tellInto mem a).2 := by
  refine ax_start (ls := [.ref 1, .ref a, .float 0]) (u := 1) (by decide +kernel) (Nat.le_of_ble_eq_true rfl) (Nat.le_refl _) (Nat.le_refl _) rfl ?_
  refine ax_aload_n (j := 1) dX8_tellInto_0 rfl rfl rfl ?_
  refine ad_V0v ksX5_empty lkX8_26 dX8_tellInto_1 rfl hP.o rfl (Nat.le_of_ble_eq_true rfl) (Nat.le_of_ble_eq_true rfl) (s_X5_empty _ hP) ?_
  refine ax_aload_n (j := 0) dX8_tellInto_4 rfl rfl rfl ?_
  refine ax_iconst (v := 0) dX8_tellInto_5 (by decide) rfl ?_
  refine am_putI flX8_31 dX8_tellInto_6 rfl is1 rfl rfl rfl ?_
  refine ax_aload_n (j := 0) dX8_tellInto_9 rfl rfl rfl ?_
  refine ax_iconst (v := 0) dX8_tellInto_10 (by decide) rfl ?_
  refine am_putI flX8_34 dX8_tellInto_11 rfl is1 rfl rfl rfl ?_
  refine ax_aload_n (j := 0) dX8_tellInto_14 rfl rfl rfl ?_
  refine ax_iconst (v := (-1)) dX8_tellInto_15 (by decide) rfl ?_
  refine am_putI flX8_15 dX8_tellInto_16 rfl is1 rfl rfl rfl ?_
  refine ax_aload_n (j := 0) dX8_tellInto_19 rfl rfl rfl ?_
  refine ad_V0v ksX8_skipBlanks lkX8_37 dX8_tellInto_20 rfl is1 rfl (Nat.le_of_ble_eq_true rfl) (Nat.le_of_ble_eq_true rfl) (s_X8_skipBlanks _ (tx_mono (tx_start hP hl) (by decide))) ?_
  refine ax_iconst (v := 0) dX8_tellInto_23 (by decide) rfl ?_
  refine ax_ist2 dX8_tellInto_24 rfl rfl (Nat.le_of_ble_eq_true rfl) rfl ?_
  refine lp_X8_tellInto_25 hP   (241) (0) ((F_X8_skipBlanks (ax_u (ax_u (ax_u (F_X5_empty mem a) 1 4 0) 1 3 0) 1 2 (-1)))) (by decide) ⟨tx_skip (tx_start hP hl) (by decide), by decide⟩ ?_
  refine ax_aload_n (j := 0) dX8_tellInto_65 rfl rfl rfl ?_
  refine am_getI flX8_34 dX8_tellInto_66 rfl is1 rfl ?_
  exact ax_ireturn rfl dX8_tellInto_69 ⟨by simp only [F_X8_tellInto], by simp only [F_X8_tellInto]⟩

def F_X9_feed (mem : ax_Me) (p0 : Int32) : Int32 × ax_Me :=
  (if (F_X9_refusal mem 1 (F_X9_isWithin mem p0 0 255) 1 (F_X8_hasRoom mem)) = 0 then ((F_X8_append mem p0).1, (F_X8_append mem p0).2) else ((F_X9_refusal mem 1 (F_X9_isWithin mem p0 0 255) 1 (F_X8_hasRoom mem)), mem))
set_option maxRecDepth 20000 in
theorem s_X9_feed {G : ax_G} {l : Launch} (mem : ax_Me) (p0 : Int32)  : AD G l 2 mX9_feed [.ref 0, .int p0] mem (some (.int (F_X9_feed mem p0).1)) (F_X9_feed mem p0).2 := by
  refine ax_start (ls := [.ref 0, .int p0, .float 0]) (u := 1) (by decide +kernel) (Nat.le_of_ble_eq_true rfl) (Nat.le_refl _) (Nat.le_refl _) rfl ?_
  refine ax_iconst (v := 1) dX9_feed_0 (by decide) rfl ?_
  refine ax_iload_n (j := 1) dX9_feed_1 rfl rfl rfl ?_
  refine ax_iconst (v := 0) dX9_feed_2 (by decide) rfl ?_
  refine ax_sipush (v := 255) dX9_feed_3 (by decide) rfl ?_
  refine ad_S3 ksX9_isWithin lkX9_64 dX9_feed_6 rfl (Nat.le_of_ble_eq_true rfl) (Nat.le_of_ble_eq_true rfl) (s_X9_isWithin _ _ _ _) ?_
  refine ax_iconst (v := 1) dX9_feed_9 (by decide) rfl ?_
  refine ax_aload_n (j := 0) dX9_feed_10 rfl rfl rfl ?_
  refine am_getR flX9_10 dX9_feed_11 rfl is0 rfl ?_
  refine ad_V0 ksX8_hasRoom lkX9_68 dX9_feed_14 rfl is1 rfl (Nat.le_of_ble_eq_true rfl) (Nat.le_of_ble_eq_true rfl) (s_X8_hasRoom _ ) ?_
  refine ad_S4 ksX9_refusal lkX9_72 dX9_feed_17 rfl (Nat.le_of_ble_eq_true rfl) (Nat.le_of_ble_eq_true rfl) (s_X9_refusal _ _ _ _ _) ?_
  refine ax_ist2 dX9_feed_20 rfl rfl (Nat.le_of_ble_eq_true rfl) rfl ?_
  refine ax_iload_n (j := 2) dX9_feed_21 rfl rfl rfl ?_
  refine ax_if_eq (tgt := 29) dX9_feed_22 (by decide) rfl (fun c22 => ?_) (fun c22 => ?_)
  · refine ax_aload_n (j := 0) dX9_feed_29 rfl rfl rfl ?_
    refine am_getR flX9_10 dX9_feed_30 rfl is0 rfl ?_
    refine ax_iload_n (j := 1) dX9_feed_33 rfl rfl rfl ?_
    refine ad_V1 ksX8_append lkX9_76 dX9_feed_34 rfl is1 rfl (Nat.le_of_ble_eq_true rfl) (Nat.le_of_ble_eq_true rfl) (s_X8_append _ _) ?_
    exact ax_ireturn rfl dX9_feed_37 ⟨by simp only [F_X9_feed, if_pos c22], by simp only [F_X9_feed, if_pos c22]⟩
  · refine ax_iload_n (j := 2) dX9_feed_25 rfl rfl rfl ?_
    refine ax_goto (tgt := 37) dX9_feed_26 (by decide) ?_
    exact ax_ireturn rfl dX9_feed_37 ⟨by simp only [F_X9_feed, if_neg c22], by simp only [F_X9_feed, if_neg c22]⟩

def F_X9_place (mem : ax_Me)  : Int32 × ax_Me :=
  (if (F_X8_tellInto mem 8).1 = 0 then (((F_X3_drop (F_X3_drop (F_X0_empty (F_X7_empty (F_X4_empty (F_X5_become (F_X8_empty (F_X8_tellInto mem 8).2) 3 8)))) 124) 130) 3 4), (F_X3_drop (F_X3_drop (F_X0_empty (F_X7_empty (F_X4_empty (F_X5_become (F_X8_empty (F_X8_tellInto mem 8).2) 3 8)))) 124) 130)) else (((-10) - (F_X8_tellInto mem 8).1), (F_X8_empty (F_X8_tellInto mem 8).2)))
set_option maxRecDepth 20000 in
theorem s_X9_place {G : ax_G} {l : Launch} (mem : ax_Me)  (hl : (mem 1 1).toInt ≤ 240) : AD G l 7 mX9_place [.ref 0] mem (some (.int (F_X9_place mem).1)) (F_X9_place mem).2 := by
  refine ax_start (ls := [.ref 0, .float 0]) (u := 1) (by decide +kernel) (Nat.le_of_ble_eq_true rfl) (Nat.le_refl _) (Nat.le_refl _) rfl ?_
  refine ax_aload_n (j := 0) dX9_place_0 rfl rfl rfl ?_
  refine am_getR flX9_10 dX9_place_1 rfl is0 rfl ?_
  refine ax_aload_n (j := 0) dX9_place_4 rfl rfl rfl ?_
  refine am_getR flX9_23 dX9_place_5 rfl is0 rfl ?_
  refine ad_V1 ksX8_tellInto lkX9_80 dX9_place_8 rfl is1 rfl (Nat.le_of_ble_eq_true rfl) (Nat.le_of_ble_eq_true rfl) (s_X8_tellInto _ isP8 (by assumption)) ?_
  refine ax_ist1 dX9_place_11 rfl rfl (Nat.le_of_ble_eq_true rfl) rfl ?_
  refine ax_aload_n (j := 0) dX9_place_12 rfl rfl rfl ?_
  refine am_getR flX9_10 dX9_place_13 rfl is0 rfl ?_
  refine ad_V0v ksX8_empty lkX9_84 dX9_place_16 rfl is1 rfl (Nat.le_of_ble_eq_true rfl) (Nat.le_of_ble_eq_true rfl) (s_X8_empty _ ) ?_
  refine ax_iload_n (j := 1) dX9_place_19 rfl rfl rfl ?_
  refine ax_if_eq (tgt := 28) dX9_place_20 (by decide) rfl (fun c20 => ?_) (fun c20 => ?_)
  · refine ax_aload_n (j := 0) dX9_place_28 rfl rfl rfl ?_
    refine am_getR flX9_19 dX9_place_29 rfl is0 rfl ?_
    refine ax_aload_n (j := 0) dX9_place_32 rfl rfl rfl ?_
    refine am_getR flX9_23 dX9_place_33 rfl is0 rfl ?_
    refine ad_V1v ksX5_become lkX9_87 dX9_place_36 rfl isP3.o rfl (Nat.le_of_ble_eq_true rfl) (Nat.le_of_ble_eq_true rfl) (s_X5_become _ isP3 isP8) ?_
    refine ax_aload_n (j := 0) dX9_place_39 rfl rfl rfl ?_
    refine am_getR flX9_29 dX9_place_40 rfl is0 rfl ?_
    refine ad_V0v ksX4_empty lkX9_91 dX9_place_43 rfl is13 rfl (Nat.le_of_ble_eq_true rfl) (Nat.le_of_ble_eq_true rfl) (s_X4_empty _ ) ?_
    refine ax_aload_n (j := 0) dX9_place_46 rfl rfl rfl ?_
    refine am_getR flX9_36 dX9_place_47 rfl is0 rfl ?_
    refine ad_V0v ksX7_empty lkX9_92 dX9_place_50 rfl is115 rfl (Nat.le_of_ble_eq_true rfl) (Nat.le_of_ble_eq_true rfl) (s_X7_empty _ ) ?_
    refine ax_aload_n (j := 0) dX9_place_53 rfl rfl rfl ?_
    refine am_getR flX9_43 dX9_place_54 rfl is0 rfl ?_
    refine ad_V0v ksX0_empty lkX9_93 dX9_place_57 rfl is120 rfl (Nat.le_of_ble_eq_true rfl) (Nat.le_of_ble_eq_true rfl) (s_X0_empty _ ) ?_
    refine ax_aload_n (j := 0) dX9_place_60 rfl rfl rfl ?_
    refine am_getR flX9_57 dX9_place_61 rfl is0 rfl ?_
    refine ad_V0v ksX3_drop lkX9_94 dX9_place_64 rfl isI124.o rfl (Nat.le_of_ble_eq_true rfl) (Nat.le_of_ble_eq_true rfl) (s_X3_drop _ isI124) ?_
    refine ax_aload_n (j := 0) dX9_place_67 rfl rfl rfl ?_
    refine am_getR flX9_61 dX9_place_68 rfl is0 rfl ?_
    refine ad_V0v ksX3_drop lkX9_94 dX9_place_71 rfl isI130.o rfl (Nat.le_of_ble_eq_true rfl) (Nat.le_of_ble_eq_true rfl) (s_X3_drop _ isI130) ?_
    refine ax_aload_n (j := 0) dX9_place_74 rfl rfl rfl ?_
    refine am_getR flX9_19 dX9_place_75 rfl is0 rfl ?_
    refine am_getI flX9_97 dX9_place_78 rfl isP3.o rfl ?_
    exact ax_ireturn rfl dX9_place_81 ⟨by simp only [F_X9_place, if_pos c20], by simp only [F_X9_place, if_pos c20]⟩
  · refine ax_bipush (v := (-10)) dX9_place_23 (by decide) rfl ?_
    refine ax_iload_n (j := 1) dX9_place_25 rfl rfl rfl ?_
    refine ax_isub dX9_place_26 rfl ?_
    exact ax_ireturn rfl dX9_place_27 ⟨by simp only [F_X9_place, if_neg c20], by simp only [F_X9_place, if_neg c20]⟩

