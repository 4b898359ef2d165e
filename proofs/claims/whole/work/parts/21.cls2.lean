/-! ===== the class: loops over persons ===== -/
theorem cl_ngt {x : Int32} {j : Nat} (h : j < x.toNatClampNeg + 1) (h1 : 1 ≤ j ∨ ¬ x < 0) : ¬ x < nI j := fun q => by
  have e1 : x.toNatClampNeg = x.toInt.toNat := rfl
  have e2 := Int32.toInt_lt x
  have e0 : (0 : Int32).toInt = 0 := rfl
  rw [Int32.lt_iff_toInt_lt, nI_toInt (by omega)] at q
  rcases h1 with h1 | h1
  · omega
  · rw [Int32.lt_iff_toInt_lt] at h1
    omega
theorem cl_gt {x : Int32} {j : Nat} (h : j = x.toNatClampNeg + 1) (h2 : x.toNatClampNeg + 1 < 2147483648) : x < nI j := by
  have e1 : x.toNatClampNeg = x.toInt.toNat := rfl
  rw [Int32.lt_iff_toInt_lt, nI_toInt (by omega)]
  omega
theorem two_ge {x b : Int32} {k j : Nat} (hb : b.toNatClampNeg = k) (hj : j + 0 = min x.toNatClampNeg k) (c : ¬ x ≤ nI j) : b ≤ nI j := by
  by_cases hx : x.toNatClampNeg ≤ k
  · exact absurd (cl_ge (by omega)) c
  · exact cl_ge (by omega)
/-- there are 0 to 8 persons -/
def ok8 (mem : ax_Me) (a : Nat) : Prop := ¬ mem a 4 < 0 ∧ mem a 4 ≤ 8
theorem ok8.of {mem : ax_Me} {a : Nat} (h : ok8 mem a) : ∃ c : Nat, c ≤ 8 ∧ mem a 4 = nI c := nI_of2 (M := 8) (n := 8) rfl h.1 h.2
theorem ok8.le {mem : ax_Me} {a : Nat} (h : ok8 mem a) : (mem a 4).toNatClampNeg ≤ 8 := by
  obtain ⟨c, hc, e⟩ := h.of
  rw [e, nI_clamp (by omega)]
  exact hc
theorem every_of {mem : ax_Me} {a c : Nat} (hc : c ≤ 8) (e : mem a 4 = nI c) : F_X5_everybody mem a = nI (2 ^ c - 1) := by
  unfold F_X5_everybody
  rw [e]
  match c, hc with
  | 0, _ => rfl
  | 1, _ => rfl
  | 2, _ => rfl
  | 3, _ => rfl
  | 4, _ => rfl
  | 5, _ => rfl
  | 6, _ => rfl
  | 7, _ => rfl
  | 8, _ => rfl
theorem ev_ok {mem : ax_Me} {a : Nat} (h : ok8 mem a) : ¬ F_X5_everybody mem a < 0 ∧ (F_X5_everybody mem a).toNatClampNeg < 1000 := by
  obtain ⟨c, hc, e⟩ := h.of
  have h2 : 2 ^ c ≤ 2 ^ 8 := Nat.pow_le_pow_right (by decide) hc
  rw [every_of hc e, nI_clamp (by omega)]
  exact ⟨nI_pos (by omega), by omega⟩
def f_X5_knownBy_4 (mem : ax_Me) (a : Nat) (p0 : Int32)  (j : Nat) (s : Int32) : Int32 :=
  match s with
  | x0 => (if (F_X5_knows mem a p0 (nI j)) = 0 then x0 else (x0 ||| (1 <<< ((nI j) &&& 31))))
def F_X5_knownBy (mem : ax_Me) (a : Nat) (p0 : Int32) : Int32 :=
  (ax_it (f_X5_knownBy_4 mem a p0) (((mem a 4) : Int32).toNatClampNeg) (0) 0)
set_option maxRecDepth 20000 in
theorem lp_X5_knownBy_4 {G : ax_G} {l : Launch} {Q : Option Value → ax_H → Prop} (mem : ax_Me) {a : Nat} (hP : ax_isP a) (p0 : Int32)   : ∀ (n j : Nat) (x0 : Int32), j + n = ((mem a 4) : Int32).toNatClampNeg → AX G l mX5_knownBy 4 33 [.ref a, .int p0, .int (ax_it (f_X5_knownBy_4 mem a p0) n j x0), .int (nI (((mem a 4) : Int32).toNatClampNeg))] [] 153 0 (ax_hm mem) 153 0 Q → AX G l mX5_knownBy 4 4 [.ref a, .int p0, .int x0, .int (nI j)] [] 153 0 (ax_hm mem) 153 0 Q := by
  intro n
  induction n with
  | zero =>
    intro j x0 hj hx
    refine ax_iload_n (j := 3) dX5_knownBy_4 rfl rfl rfl ?_
    refine ax_aload_n (j := 0) dX5_knownBy_5 rfl rfl rfl ?_
    refine am_getI flX5_30 dX5_knownBy_6 rfl hP.o rfl ?_
    refine ax_icmp_ge (tgt := 33) dX5_knownBy_9 (by decide) rfl (fun c9 => ?_) (fun c9 => ?_)
    · have q := hx
      simp only [ax_it] at q
      rw [show (((mem a 4) : Int32).toNatClampNeg) = j by omega] at q
      exact q
    · exact absurd (cl_ge (by omega)) c9
  | succ n ih =>
    intro j x0 hj hx
    refine ax_iload_n (j := 3) dX5_knownBy_4 rfl rfl rfl ?_
    refine ax_aload_n (j := 0) dX5_knownBy_5 rfl rfl rfl ?_
    refine am_getI flX5_30 dX5_knownBy_6 rfl hP.o rfl ?_
    refine ax_icmp_ge (tgt := 33) dX5_knownBy_9 (by decide) rfl (fun c9 => ?_) (fun c9 => ?_)
    · exact absurd c9 (cl_nle (by omega))
    · refine ax_aload_n (j := 0) dX5_knownBy_12 rfl rfl rfl ?_
      refine ax_iload_n (j := 1) dX5_knownBy_13 rfl rfl rfl ?_
      refine ax_iload_n (j := 3) dX5_knownBy_14 rfl rfl rfl ?_
      refine ad_V2 ksX5_knows lkX5_74 dX5_knownBy_15 rfl hP.o rfl (Nat.le_of_ble_eq_true rfl) (Nat.le_of_ble_eq_true rfl) (s_X5_knows _ hP _ _) ?_
      refine ax_if_eq (tgt := 27) dX5_knownBy_18 (by decide) rfl (fun c18 => ?_) (fun c18 => ?_)
      · refine ax_iinc3 (v := nI (j + 1)) dX5_knownBy_27 rfl (cl_inc j) (Nat.le_of_ble_eq_true rfl) rfl ?_
        refine ax_goto (tgt := 4) dX5_knownBy_30 (by decide) ?_
        have e1 : f_X5_knownBy_4 mem a p0 j x0 = x0 := by simp only [f_X5_knownBy_4, if_pos c18]
        simp only [ax_it, e1] at hx
        exact ih (j + 1) (x0) (by omega) hx
      · refine ax_iload_n (j := 2) dX5_knownBy_21 rfl rfl rfl ?_
        refine ax_iconst (v := 1) dX5_knownBy_22 (by decide) rfl ?_
        refine ax_iload_n (j := 3) dX5_knownBy_23 rfl rfl rfl ?_
        refine ax_ishl dX5_knownBy_24 rfl ?_
        refine ax_ior dX5_knownBy_25 rfl ?_
        refine ax_ist2 dX5_knownBy_26 rfl rfl (Nat.le_of_ble_eq_true rfl) rfl ?_
        refine ax_iinc3 (v := nI (j + 1)) dX5_knownBy_27 rfl (cl_inc j) (Nat.le_of_ble_eq_true rfl) rfl ?_
        refine ax_goto (tgt := 4) dX5_knownBy_30 (by decide) ?_
        have e1 : f_X5_knownBy_4 mem a p0 j x0 = (x0 ||| (1 <<< ((nI j) &&& 31))) := by simp only [f_X5_knownBy_4, if_neg c18]
        simp only [ax_it, e1] at hx
        exact ih (j + 1) ((x0 ||| (1 <<< ((nI j) &&& 31)))) (by omega) hx
set_option maxRecDepth 20000 in
theorem s_X5_knownBy {G : ax_G} {l : Launch} (mem : ax_Me) {a : Nat} (hP : ax_isP a) (p0 : Int32)  : AD G l 4 mX5_knownBy [.ref a, .int p0] mem (some (.int (F_X5_knownBy mem a p0))) mem := by
  refine ax_start (ls := [.ref a, .int p0, .float 0, .float 0]) (u := 2) (by decide +kernel) (Nat.le_of_ble_eq_true rfl) (Nat.le_refl _) (Nat.le_refl _) rfl ?_
  refine ax_iconst (v := 0) dX5_knownBy_0 (by decide) rfl ?_
  refine ax_ist2 dX5_knownBy_1 rfl rfl (Nat.le_of_ble_eq_true rfl) rfl ?_
  refine ax_iconst (v := 0) dX5_knownBy_2 (by decide) rfl ?_
  refine ax_ist3 dX5_knownBy_3 rfl rfl (Nat.le_of_ble_eq_true rfl) rfl ?_
  refine lp_X5_knownBy_4 mem hP p0    (((mem a 4) : Int32).toNatClampNeg) (0) (0) (Nat.zero_add _)  ?_
  refine ax_iload_n (j := 2) dX5_knownBy_33 rfl rfl rfl ?_
  exact ax_ireturn rfl dX5_knownBy_34 ⟨by simp only [F_X5_knownBy], rfl⟩

def f_X5_knowersOf_4 (mem : ax_Me) (a : Nat) (p0 : Int32)  (j : Nat) (s : Int32) : Int32 :=
  match s with
  | x0 => (if (F_X5_knows mem a (nI j) p0) = 0 then x0 else (x0 ||| (1 <<< ((nI j) &&& 31))))
def F_X5_knowersOf (mem : ax_Me) (a : Nat) (p0 : Int32) : Int32 :=
  (ax_it (f_X5_knowersOf_4 mem a p0) (((mem a 4) : Int32).toNatClampNeg) (0) 0)
set_option maxRecDepth 20000 in
theorem lp_X5_knowersOf_4 {G : ax_G} {l : Launch} {Q : Option Value → ax_H → Prop} (mem : ax_Me) {a : Nat} (hP : ax_isP a) (p0 : Int32)   : ∀ (n j : Nat) (x0 : Int32), j + n = ((mem a 4) : Int32).toNatClampNeg → AX G l mX5_knowersOf 4 33 [.ref a, .int p0, .int (ax_it (f_X5_knowersOf_4 mem a p0) n j x0), .int (nI (((mem a 4) : Int32).toNatClampNeg))] [] 153 0 (ax_hm mem) 153 0 Q → AX G l mX5_knowersOf 4 4 [.ref a, .int p0, .int x0, .int (nI j)] [] 153 0 (ax_hm mem) 153 0 Q := by
  intro n
  induction n with
  | zero =>
    intro j x0 hj hx
    refine ax_iload_n (j := 3) dX5_knowersOf_4 rfl rfl rfl ?_
    refine ax_aload_n (j := 0) dX5_knowersOf_5 rfl rfl rfl ?_
    refine am_getI flX5_30 dX5_knowersOf_6 rfl hP.o rfl ?_
    refine ax_icmp_ge (tgt := 33) dX5_knowersOf_9 (by decide) rfl (fun c9 => ?_) (fun c9 => ?_)
    · have q := hx
      simp only [ax_it] at q
      rw [show (((mem a 4) : Int32).toNatClampNeg) = j by omega] at q
      exact q
    · exact absurd (cl_ge (by omega)) c9
  | succ n ih =>
    intro j x0 hj hx
    refine ax_iload_n (j := 3) dX5_knowersOf_4 rfl rfl rfl ?_
    refine ax_aload_n (j := 0) dX5_knowersOf_5 rfl rfl rfl ?_
    refine am_getI flX5_30 dX5_knowersOf_6 rfl hP.o rfl ?_
    refine ax_icmp_ge (tgt := 33) dX5_knowersOf_9 (by decide) rfl (fun c9 => ?_) (fun c9 => ?_)
    · exact absurd c9 (cl_nle (by omega))
    · refine ax_aload_n (j := 0) dX5_knowersOf_12 rfl rfl rfl ?_
      refine ax_iload_n (j := 3) dX5_knowersOf_13 rfl rfl rfl ?_
      refine ax_iload_n (j := 1) dX5_knowersOf_14 rfl rfl rfl ?_
      refine ad_V2 ksX5_knows lkX5_74 dX5_knowersOf_15 rfl hP.o rfl (Nat.le_of_ble_eq_true rfl) (Nat.le_of_ble_eq_true rfl) (s_X5_knows _ hP _ _) ?_
      refine ax_if_eq (tgt := 27) dX5_knowersOf_18 (by decide) rfl (fun c18 => ?_) (fun c18 => ?_)
      · refine ax_iinc3 (v := nI (j + 1)) dX5_knowersOf_27 rfl (cl_inc j) (Nat.le_of_ble_eq_true rfl) rfl ?_
        refine ax_goto (tgt := 4) dX5_knowersOf_30 (by decide) ?_
        have e1 : f_X5_knowersOf_4 mem a p0 j x0 = x0 := by simp only [f_X5_knowersOf_4, if_pos c18]
        simp only [ax_it, e1] at hx
        exact ih (j + 1) (x0) (by omega) hx
      · refine ax_iload_n (j := 2) dX5_knowersOf_21 rfl rfl rfl ?_
        refine ax_iconst (v := 1) dX5_knowersOf_22 (by decide) rfl ?_
        refine ax_iload_n (j := 3) dX5_knowersOf_23 rfl rfl rfl ?_
        refine ax_ishl dX5_knowersOf_24 rfl ?_
        refine ax_ior dX5_knowersOf_25 rfl ?_
        refine ax_ist2 dX5_knowersOf_26 rfl rfl (Nat.le_of_ble_eq_true rfl) rfl ?_
        refine ax_iinc3 (v := nI (j + 1)) dX5_knowersOf_27 rfl (cl_inc j) (Nat.le_of_ble_eq_true rfl) rfl ?_
        refine ax_goto (tgt := 4) dX5_knowersOf_30 (by decide) ?_
        have e1 : f_X5_knowersOf_4 mem a p0 j x0 = (x0 ||| (1 <<< ((nI j) &&& 31))) := by simp only [f_X5_knowersOf_4, if_neg c18]
        simp only [ax_it, e1] at hx
        exact ih (j + 1) ((x0 ||| (1 <<< ((nI j) &&& 31)))) (by omega) hx
set_option maxRecDepth 20000 in
theorem s_X5_knowersOf {G : ax_G} {l : Launch} (mem : ax_Me) {a : Nat} (hP : ax_isP a) (p0 : Int32)  : AD G l 4 mX5_knowersOf [.ref a, .int p0] mem (some (.int (F_X5_knowersOf mem a p0))) mem := by
  refine ax_start (ls := [.ref a, .int p0, .float 0, .float 0]) (u := 2) (by decide +kernel) (Nat.le_of_ble_eq_true rfl) (Nat.le_refl _) (Nat.le_refl _) rfl ?_
  refine ax_iconst (v := 0) dX5_knowersOf_0 (by decide) rfl ?_
  refine ax_ist2 dX5_knowersOf_1 rfl rfl (Nat.le_of_ble_eq_true rfl) rfl ?_
  refine ax_iconst (v := 0) dX5_knowersOf_2 (by decide) rfl ?_
  refine ax_ist3 dX5_knowersOf_3 rfl rfl (Nat.le_of_ble_eq_true rfl) rfl ?_
  refine lp_X5_knowersOf_4 mem hP p0    (((mem a 4) : Int32).toNatClampNeg) (0) (0) (Nat.zero_add _)  ?_
  refine ax_iload_n (j := 2) dX5_knowersOf_33 rfl rfl rfl ?_
  exact ax_ireturn rfl dX5_knowersOf_34 ⟨by simp only [F_X5_knowersOf], rfl⟩

def f_X5_countAcquaintances_4 (mem : ax_Me) (a : Nat)  (j : Nat) (s : Int32) : Int32 :=
  match s with
  | x0 => (x0 + (F_J6_bitCount_0f7a4 mem (F_X5_knownBy mem a (nI j))))
def F_X5_countAcquaintances (mem : ax_Me) (a : Nat) : Int32 :=
  (ax_it (f_X5_countAcquaintances_4 mem a) (((mem a 4) : Int32).toNatClampNeg) (0) 0)
set_option maxRecDepth 20000 in
theorem lp_X5_countAcquaintances_4 {G : ax_G} {l : Launch} {Q : Option Value → ax_H → Prop} (mem : ax_Me) {a : Nat} (hP : ax_isP a)   : ∀ (n j : Nat) (x0 : Int32), j + n = ((mem a 4) : Int32).toNatClampNeg → AX G l mX5_countAcquaintances 5 29 [.ref a, .int (ax_it (f_X5_countAcquaintances_4 mem a) n j x0), .int (nI (((mem a 4) : Int32).toNatClampNeg))] [] 153 0 (ax_hm mem) 153 0 Q → AX G l mX5_countAcquaintances 5 4 [.ref a, .int x0, .int (nI j)] [] 153 0 (ax_hm mem) 153 0 Q := by
  intro n
  induction n with
  | zero =>
    intro j x0 hj hx
    refine ax_iload_n (j := 2) dX5_countAcquaintances_4 rfl rfl rfl ?_
    refine ax_aload_n (j := 0) dX5_countAcquaintances_5 rfl rfl rfl ?_
    refine am_getI flX5_30 dX5_countAcquaintances_6 rfl hP.o rfl ?_
    refine ax_icmp_ge (tgt := 29) dX5_countAcquaintances_9 (by decide) rfl (fun c9 => ?_) (fun c9 => ?_)
    · have q := hx
      simp only [ax_it] at q
      rw [show (((mem a 4) : Int32).toNatClampNeg) = j by omega] at q
      exact q
    · exact absurd (cl_ge (by omega)) c9
  | succ n ih =>
    intro j x0 hj hx
    refine ax_iload_n (j := 2) dX5_countAcquaintances_4 rfl rfl rfl ?_
    refine ax_aload_n (j := 0) dX5_countAcquaintances_5 rfl rfl rfl ?_
    refine am_getI flX5_30 dX5_countAcquaintances_6 rfl hP.o rfl ?_
    refine ax_icmp_ge (tgt := 29) dX5_countAcquaintances_9 (by decide) rfl (fun c9 => ?_) (fun c9 => ?_)
    · exact absurd c9 (cl_nle (by omega))
    · refine ax_iload_n (j := 1) dX5_countAcquaintances_12 rfl rfl rfl ?_
      refine ax_aload_n (j := 0) dX5_countAcquaintances_13 rfl rfl rfl ?_
      refine ax_iload_n (j := 2) dX5_countAcquaintances_14 rfl rfl rfl ?_
      refine ad_V1 ksX5_knownBy lkX5_77 dX5_countAcquaintances_15 rfl hP.o rfl (Nat.le_of_ble_eq_true rfl) (Nat.le_of_ble_eq_true rfl) (s_X5_knownBy _ hP _) ?_
      refine ad_S1 ksJ6_bitCount_0f7a4 lkX5_80 dX5_countAcquaintances_18 rfl (Nat.le_of_ble_eq_true rfl) (Nat.le_of_ble_eq_true rfl) (s_J6_bitCount_0f7a4 _ _) ?_
      refine ax_iadd dX5_countAcquaintances_21 rfl ?_
      refine ax_ist1 dX5_countAcquaintances_22 rfl rfl (Nat.le_of_ble_eq_true rfl) rfl ?_
      refine ax_iinc2 (v := nI (j + 1)) dX5_countAcquaintances_23 rfl (cl_inc j) (Nat.le_of_ble_eq_true rfl) rfl ?_
      refine ax_goto (tgt := 4) dX5_countAcquaintances_26 (by decide) ?_
      have e1 : f_X5_countAcquaintances_4 mem a j x0 = (x0 + (F_J6_bitCount_0f7a4 mem (F_X5_knownBy mem a (nI j)))) := by simp only [f_X5_countAcquaintances_4]
      simp only [ax_it, e1] at hx
      exact ih (j + 1) ((x0 + (F_J6_bitCount_0f7a4 mem (F_X5_knownBy mem a (nI j))))) (by omega) hx
set_option maxRecDepth 20000 in
theorem s_X5_countAcquaintances {G : ax_G} {l : Launch} (mem : ax_Me) {a : Nat} (hP : ax_isP a)  : AD G l 5 mX5_countAcquaintances [.ref a] mem (some (.int (F_X5_countAcquaintances mem a))) mem := by
  refine ax_start (ls := [.ref a, .float 0, .float 0]) (u := 2) (by decide +kernel) (Nat.le_of_ble_eq_true rfl) (Nat.le_refl _) (Nat.le_refl _) rfl ?_
  refine ax_iconst (v := 0) dX5_countAcquaintances_0 (by decide) rfl ?_
  refine ax_ist1 dX5_countAcquaintances_1 rfl rfl (Nat.le_of_ble_eq_true rfl) rfl ?_
  refine ax_iconst (v := 0) dX5_countAcquaintances_2 (by decide) rfl ?_
  refine ax_ist2 dX5_countAcquaintances_3 rfl rfl (Nat.le_of_ble_eq_true rfl) rfl ?_
  refine lp_X5_countAcquaintances_4 mem hP    (((mem a 4) : Int32).toNatClampNeg) (0) (0) (Nat.zero_add _)  ?_
  refine ax_iload_n (j := 1) dX5_countAcquaintances_29 rfl rfl rfl ?_
  exact ax_ireturn rfl dX5_countAcquaintances_30 ⟨by simp only [F_X5_countAcquaintances], rfl⟩

def f_X5_whoAre_4 (mem : ax_Me) (a : Nat) (p0 : Int32)  (j : Nat) (s : Int32) : Int32 :=
  match s with
  | x0 => (if (F_X5_identityOf mem a (nI j)) = p0 then (x0 ||| (1 <<< ((nI j) &&& 31))) else x0)
def F_X5_whoAre (mem : ax_Me) (a : Nat) (p0 : Int32) : Int32 :=
  (ax_it (f_X5_whoAre_4 mem a p0) (((mem a 4) : Int32).toNatClampNeg) (0) 0)
set_option maxRecDepth 20000 in
theorem lp_X5_whoAre_4 {G : ax_G} {l : Launch} {Q : Option Value → ax_H → Prop} (mem : ax_Me) {a : Nat} (hP : ax_isP a) (p0 : Int32)   : ∀ (n j : Nat) (x0 : Int32), j + n = ((mem a 4) : Int32).toNatClampNeg → AX G l mX5_whoAre 2 33 [.ref a, .int p0, .int (ax_it (f_X5_whoAre_4 mem a p0) n j x0), .int (nI (((mem a 4) : Int32).toNatClampNeg))] [] 153 0 (ax_hm mem) 153 0 Q → AX G l mX5_whoAre 2 4 [.ref a, .int p0, .int x0, .int (nI j)] [] 153 0 (ax_hm mem) 153 0 Q := by
  intro n
  induction n with
  | zero =>
    intro j x0 hj hx
    refine ax_iload_n (j := 3) dX5_whoAre_4 rfl rfl rfl ?_
    refine ax_aload_n (j := 0) dX5_whoAre_5 rfl rfl rfl ?_
    refine am_getI flX5_30 dX5_whoAre_6 rfl hP.o rfl ?_
    refine ax_icmp_ge (tgt := 33) dX5_whoAre_9 (by decide) rfl (fun c9 => ?_) (fun c9 => ?_)
    · have q := hx
      simp only [ax_it] at q
      rw [show (((mem a 4) : Int32).toNatClampNeg) = j by omega] at q
      exact q
    · exact absurd (cl_ge (by omega)) c9
  | succ n ih =>
    intro j x0 hj hx
    refine ax_iload_n (j := 3) dX5_whoAre_4 rfl rfl rfl ?_
    refine ax_aload_n (j := 0) dX5_whoAre_5 rfl rfl rfl ?_
    refine am_getI flX5_30 dX5_whoAre_6 rfl hP.o rfl ?_
    refine ax_icmp_ge (tgt := 33) dX5_whoAre_9 (by decide) rfl (fun c9 => ?_) (fun c9 => ?_)
    · exact absurd c9 (cl_nle (by omega))
    · refine ax_aload_n (j := 0) dX5_whoAre_12 rfl rfl rfl ?_
      refine ax_iload_n (j := 3) dX5_whoAre_13 rfl rfl rfl ?_
      refine ad_V1 ksX5_identityOf lkX5_85 dX5_whoAre_14 rfl hP.o rfl (Nat.le_of_ble_eq_true rfl) (Nat.le_of_ble_eq_true rfl) (s_X5_identityOf _ hP _) ?_
      refine ax_iload_n (j := 1) dX5_whoAre_17 rfl rfl rfl ?_
      refine ax_icmp_ne (tgt := 27) dX5_whoAre_18 (by decide) rfl (fun c18 => ?_) (fun c18 => ?_)
      · refine ax_iinc3 (v := nI (j + 1)) dX5_whoAre_27 rfl (cl_inc j) (Nat.le_of_ble_eq_true rfl) rfl ?_
        refine ax_goto (tgt := 4) dX5_whoAre_30 (by decide) ?_
        have e1 : f_X5_whoAre_4 mem a p0 j x0 = x0 := by simp only [f_X5_whoAre_4, if_neg c18]
        simp only [ax_it, e1] at hx
        exact ih (j + 1) (x0) (by omega) hx
      · refine ax_iload_n (j := 2) dX5_whoAre_21 rfl rfl rfl ?_
        refine ax_iconst (v := 1) dX5_whoAre_22 (by decide) rfl ?_
        refine ax_iload_n (j := 3) dX5_whoAre_23 rfl rfl rfl ?_
        refine ax_ishl dX5_whoAre_24 rfl ?_
        refine ax_ior dX5_whoAre_25 rfl ?_
        refine ax_ist2 dX5_whoAre_26 rfl rfl (Nat.le_of_ble_eq_true rfl) rfl ?_
        refine ax_iinc3 (v := nI (j + 1)) dX5_whoAre_27 rfl (cl_inc j) (Nat.le_of_ble_eq_true rfl) rfl ?_
        refine ax_goto (tgt := 4) dX5_whoAre_30 (by decide) ?_
        have e1 : f_X5_whoAre_4 mem a p0 j x0 = (x0 ||| (1 <<< ((nI j) &&& 31))) := by simp only [f_X5_whoAre_4, if_pos c18]
        simp only [ax_it, e1] at hx
        exact ih (j + 1) ((x0 ||| (1 <<< ((nI j) &&& 31)))) (by omega) hx
set_option maxRecDepth 20000 in
theorem s_X5_whoAre {G : ax_G} {l : Launch} (mem : ax_Me) {a : Nat} (hP : ax_isP a) (p0 : Int32)  : AD G l 2 mX5_whoAre [.ref a, .int p0] mem (some (.int (F_X5_whoAre mem a p0))) mem := by
  refine ax_start (ls := [.ref a, .int p0, .float 0, .float 0]) (u := 2) (by decide +kernel) (Nat.le_of_ble_eq_true rfl) (Nat.le_refl _) (Nat.le_refl _) rfl ?_
  refine ax_iconst (v := 0) dX5_whoAre_0 (by decide) rfl ?_
  refine ax_ist2 dX5_whoAre_1 rfl rfl (Nat.le_of_ble_eq_true rfl) rfl ?_
  refine ax_iconst (v := 0) dX5_whoAre_2 (by decide) rfl ?_
  refine ax_ist3 dX5_whoAre_3 rfl rfl (Nat.le_of_ble_eq_true rfl) rfl ?_
  refine lp_X5_whoAre_4 mem hP p0    (((mem a 4) : Int32).toNatClampNeg) (0) (0) (Nat.zero_add _)  ?_
  refine ax_iload_n (j := 2) dX5_whoAre_33 rfl rfl rfl ?_
  exact ax_ireturn rfl dX5_whoAre_34 ⟨by simp only [F_X5_whoAre], rfl⟩

def f_X5_twoOfOne_4 (mem : ax_Me) (a : Nat)  (j : Nat) (s : Int32) : Int32 :=
  match s with
  | x0 => (if (F_J6_bitCount_0f7a4 mem (F_X5_whoAre mem a (nI j))) ≤ 1 then x0 else (x0 ||| (F_X5_whoAre mem a (nI j))))
def F_X5_twoOfOne (mem : ax_Me) (a : Nat) : Int32 :=
  (ax_it (f_X5_twoOfOne_4 mem a) (((mem a 4) : Int32).toNatClampNeg) (0) 0)
set_option maxRecDepth 20000 in
theorem lp_X5_twoOfOne_4 {G : ax_G} {l : Launch} {Q : Option Value → ax_H → Prop} (mem : ax_Me) {a : Nat} (hP : ax_isP a)   : ∀ (n j : Nat) (x0 : Int32), j + n = ((mem a 4) : Int32).toNatClampNeg → AX G l mX5_twoOfOne 3 36 [.ref a, .int (ax_it (f_X5_twoOfOne_4 mem a) n j x0), .int (nI (((mem a 4) : Int32).toNatClampNeg)), .float 0] [] 153 0 (ax_hm mem) 153 0 Q → AX G l mX5_twoOfOne 3 4 [.ref a, .int x0, .int (nI j), .float 0] [] 153 0 (ax_hm mem) 153 0 Q := by
  intro n
  induction n with
  | zero =>
    intro j x0 hj hx
    refine ax_iload_n (j := 2) dX5_twoOfOne_4 rfl rfl rfl ?_
    refine ax_aload_n (j := 0) dX5_twoOfOne_5 rfl rfl rfl ?_
    refine am_getI flX5_30 dX5_twoOfOne_6 rfl hP.o rfl ?_
    refine ax_icmp_ge (tgt := 36) dX5_twoOfOne_9 (by decide) rfl (fun c9 => ?_) (fun c9 => ?_)
    · have q := hx
      simp only [ax_it] at q
      rw [show (((mem a 4) : Int32).toNatClampNeg) = j by omega] at q
      exact q
    · exact absurd (cl_ge (by omega)) c9
  | succ n ih =>
    intro j x0 hj hx
    refine ax_iload_n (j := 2) dX5_twoOfOne_4 rfl rfl rfl ?_
    refine ax_aload_n (j := 0) dX5_twoOfOne_5 rfl rfl rfl ?_
    refine am_getI flX5_30 dX5_twoOfOne_6 rfl hP.o rfl ?_
    refine ax_icmp_ge (tgt := 36) dX5_twoOfOne_9 (by decide) rfl (fun c9 => ?_) (fun c9 => ?_)
    · exact absurd c9 (cl_nle (by omega))
    · refine ax_aload_n (j := 0) dX5_twoOfOne_12 rfl rfl rfl ?_
      refine ax_iload_n (j := 2) dX5_twoOfOne_13 rfl rfl rfl ?_
      refine ad_V1 ksX5_whoAre lkX5_88 dX5_twoOfOne_14 rfl hP.o rfl (Nat.le_of_ble_eq_true rfl) (Nat.le_of_ble_eq_true rfl) (s_X5_whoAre _ hP _) ?_
      refine ax_ist3 dX5_twoOfOne_17 rfl rfl (Nat.le_of_ble_eq_true rfl) rfl ?_
      refine ax_iload_n (j := 3) dX5_twoOfOne_18 rfl rfl rfl ?_
      refine ad_S1 ksJ6_bitCount_0f7a4 lkX5_80 dX5_twoOfOne_19 rfl (Nat.le_of_ble_eq_true rfl) (Nat.le_of_ble_eq_true rfl) (s_J6_bitCount_0f7a4 _ _) ?_
      refine ax_iconst (v := 1) dX5_twoOfOne_22 (by decide) rfl ?_
      refine ax_icmp_le (tgt := 30) dX5_twoOfOne_23 (by decide) rfl (fun c23 => ?_) (fun c23 => ?_)
      · refine ax_iinc2 (v := nI (j + 1)) dX5_twoOfOne_30 rfl (cl_inc j) (Nat.le_of_ble_eq_true rfl) rfl ?_
        refine ax_goto (tgt := 4) dX5_twoOfOne_33 (by decide) ?_
        refine ax_fg3 ?_
        have e1 : f_X5_twoOfOne_4 mem a j x0 = x0 := by simp only [f_X5_twoOfOne_4, if_pos c23]
        simp only [ax_it, e1] at hx
        exact ih (j + 1) (x0) (by omega) hx
      · refine ax_iload_n (j := 1) dX5_twoOfOne_26 rfl rfl rfl ?_
        refine ax_iload_n (j := 3) dX5_twoOfOne_27 rfl rfl rfl ?_
        refine ax_ior dX5_twoOfOne_28 rfl ?_
        refine ax_ist1 dX5_twoOfOne_29 rfl rfl (Nat.le_of_ble_eq_true rfl) rfl ?_
        refine ax_iinc2 (v := nI (j + 1)) dX5_twoOfOne_30 rfl (cl_inc j) (Nat.le_of_ble_eq_true rfl) rfl ?_
        refine ax_goto (tgt := 4) dX5_twoOfOne_33 (by decide) ?_
        refine ax_fg3 ?_
        have e1 : f_X5_twoOfOne_4 mem a j x0 = (x0 ||| (F_X5_whoAre mem a (nI j))) := by simp only [f_X5_twoOfOne_4, if_neg c23]
        simp only [ax_it, e1] at hx
        exact ih (j + 1) ((x0 ||| (F_X5_whoAre mem a (nI j)))) (by omega) hx
set_option maxRecDepth 20000 in
theorem s_X5_twoOfOne {G : ax_G} {l : Launch} (mem : ax_Me) {a : Nat} (hP : ax_isP a)  : AD G l 3 mX5_twoOfOne [.ref a] mem (some (.int (F_X5_twoOfOne mem a))) mem := by
  refine ax_start (ls := [.ref a, .float 0, .float 0, .float 0]) (u := 3) (by decide +kernel) (Nat.le_of_ble_eq_true rfl) (Nat.le_refl _) (Nat.le_refl _) rfl ?_
  refine ax_iconst (v := 0) dX5_twoOfOne_0 (by decide) rfl ?_
  refine ax_ist1 dX5_twoOfOne_1 rfl rfl (Nat.le_of_ble_eq_true rfl) rfl ?_
  refine ax_iconst (v := 0) dX5_twoOfOne_2 (by decide) rfl ?_
  refine ax_ist2 dX5_twoOfOne_3 rfl rfl (Nat.le_of_ble_eq_true rfl) rfl ?_
  refine lp_X5_twoOfOne_4 mem hP    (((mem a 4) : Int32).toNatClampNeg) (0) (0) (Nat.zero_add _)  ?_
  refine ax_iload_n (j := 1) dX5_twoOfOne_36 rfl rfl rfl ?_
  exact ax_ireturn rfl dX5_twoOfOne_37 ⟨by simp only [F_X5_twoOfOne], rfl⟩

def f_X5_nobodies_4 (mem : ax_Me) (a : Nat)  (j : Nat) (s : Int32) : Int32 :=
  match s with
  | x0 => (if (F_X5_whoAre mem a (nI j)) = 0 then (x0 ||| (1 <<< ((nI j) &&& 31))) else x0)
def F_X5_nobodies (mem : ax_Me) (a : Nat) : Int32 :=
  (ax_it (f_X5_nobodies_4 mem a) (((mem a 4) : Int32).toNatClampNeg) (0) 0)
set_option maxRecDepth 20000 in
theorem lp_X5_nobodies_4 {G : ax_G} {l : Launch} {Q : Option Value → ax_H → Prop} (mem : ax_Me) {a : Nat} (hP : ax_isP a)   : ∀ (n j : Nat) (x0 : Int32), j + n = ((mem a 4) : Int32).toNatClampNeg → AX G l mX5_nobodies 3 32 [.ref a, .int (ax_it (f_X5_nobodies_4 mem a) n j x0), .int (nI (((mem a 4) : Int32).toNatClampNeg))] [] 153 0 (ax_hm mem) 153 0 Q → AX G l mX5_nobodies 3 4 [.ref a, .int x0, .int (nI j)] [] 153 0 (ax_hm mem) 153 0 Q := by
  intro n
  induction n with
  | zero =>
    intro j x0 hj hx
    refine ax_iload_n (j := 2) dX5_nobodies_4 rfl rfl rfl ?_
    refine ax_aload_n (j := 0) dX5_nobodies_5 rfl rfl rfl ?_
    refine am_getI flX5_30 dX5_nobodies_6 rfl hP.o rfl ?_
    refine ax_icmp_ge (tgt := 32) dX5_nobodies_9 (by decide) rfl (fun c9 => ?_) (fun c9 => ?_)
    · have q := hx
      simp only [ax_it] at q
      rw [show (((mem a 4) : Int32).toNatClampNeg) = j by omega] at q
      exact q
    · exact absurd (cl_ge (by omega)) c9
  | succ n ih =>
    intro j x0 hj hx
    refine ax_iload_n (j := 2) dX5_nobodies_4 rfl rfl rfl ?_
    refine ax_aload_n (j := 0) dX5_nobodies_5 rfl rfl rfl ?_
    refine am_getI flX5_30 dX5_nobodies_6 rfl hP.o rfl ?_
    refine ax_icmp_ge (tgt := 32) dX5_nobodies_9 (by decide) rfl (fun c9 => ?_) (fun c9 => ?_)
    · exact absurd c9 (cl_nle (by omega))
    · refine ax_aload_n (j := 0) dX5_nobodies_12 rfl rfl rfl ?_
      refine ax_iload_n (j := 2) dX5_nobodies_13 rfl rfl rfl ?_
      refine ad_V1 ksX5_whoAre lkX5_88 dX5_nobodies_14 rfl hP.o rfl (Nat.le_of_ble_eq_true rfl) (Nat.le_of_ble_eq_true rfl) (s_X5_whoAre _ hP _) ?_
      refine ax_if_ne (tgt := 26) dX5_nobodies_17 (by decide) rfl (fun c17 => ?_) (fun c17 => ?_)
      · refine ax_iinc2 (v := nI (j + 1)) dX5_nobodies_26 rfl (cl_inc j) (Nat.le_of_ble_eq_true rfl) rfl ?_
        refine ax_goto (tgt := 4) dX5_nobodies_29 (by decide) ?_
        have e1 : f_X5_nobodies_4 mem a j x0 = x0 := by simp only [f_X5_nobodies_4, if_neg c17]
        simp only [ax_it, e1] at hx
        exact ih (j + 1) (x0) (by omega) hx
      · refine ax_iload_n (j := 1) dX5_nobodies_20 rfl rfl rfl ?_
        refine ax_iconst (v := 1) dX5_nobodies_21 (by decide) rfl ?_
        refine ax_iload_n (j := 2) dX5_nobodies_22 rfl rfl rfl ?_
        refine ax_ishl dX5_nobodies_23 rfl ?_
        refine ax_ior dX5_nobodies_24 rfl ?_
        refine ax_ist1 dX5_nobodies_25 rfl rfl (Nat.le_of_ble_eq_true rfl) rfl ?_
        refine ax_iinc2 (v := nI (j + 1)) dX5_nobodies_26 rfl (cl_inc j) (Nat.le_of_ble_eq_true rfl) rfl ?_
        refine ax_goto (tgt := 4) dX5_nobodies_29 (by decide) ?_
        have e1 : f_X5_nobodies_4 mem a j x0 = (x0 ||| (1 <<< ((nI j) &&& 31))) := by simp only [f_X5_nobodies_4, if_pos c17]
        simp only [ax_it, e1] at hx
        exact ih (j + 1) ((x0 ||| (1 <<< ((nI j) &&& 31)))) (by omega) hx
set_option maxRecDepth 20000 in
theorem s_X5_nobodies {G : ax_G} {l : Launch} (mem : ax_Me) {a : Nat} (hP : ax_isP a)  : AD G l 3 mX5_nobodies [.ref a] mem (some (.int (F_X5_nobodies mem a))) mem := by
  refine ax_start (ls := [.ref a, .float 0, .float 0]) (u := 2) (by decide +kernel) (Nat.le_of_ble_eq_true rfl) (Nat.le_refl _) (Nat.le_refl _) rfl ?_
  refine ax_iconst (v := 0) dX5_nobodies_0 (by decide) rfl ?_
  refine ax_ist1 dX5_nobodies_1 rfl rfl (Nat.le_of_ble_eq_true rfl) rfl ?_
  refine ax_iconst (v := 0) dX5_nobodies_2 (by decide) rfl ?_
  refine ax_ist2 dX5_nobodies_3 rfl rfl (Nat.le_of_ble_eq_true rfl) rfl ?_
  refine lp_X5_nobodies_4 mem hP    (((mem a 4) : Int32).toNatClampNeg) (0) (0) (Nat.zero_add _)  ?_
  refine ax_iload_n (j := 1) dX5_nobodies_32 rfl rfl rfl ?_
  exact ax_ireturn rfl dX5_nobodies_33 ⟨by simp only [F_X5_nobodies], rfl⟩

def f_X5_countAstray_4 (mem : ax_Me) (a : Nat)  (j : Nat) (s : Int32) : Int32 :=
  match s with
  | x0 => (if (F_X5_identityOf mem a (nI j)) = (nI j) then x0 else (x0 + 1))
def F_X5_countAstray (mem : ax_Me) (a : Nat) : Int32 :=
  (ax_it (f_X5_countAstray_4 mem a) (((mem a 4) : Int32).toNatClampNeg) (0) 0)
set_option maxRecDepth 20000 in
theorem lp_X5_countAstray_4 {G : ax_G} {l : Launch} {Q : Option Value → ax_H → Prop} (mem : ax_Me) {a : Nat} (hP : ax_isP a)   : ∀ (n j : Nat) (x0 : Int32), j + n = ((mem a 4) : Int32).toNatClampNeg → AX G l mX5_countAstray 2 30 [.ref a, .int (ax_it (f_X5_countAstray_4 mem a) n j x0), .int (nI (((mem a 4) : Int32).toNatClampNeg))] [] 153 0 (ax_hm mem) 153 0 Q → AX G l mX5_countAstray 2 4 [.ref a, .int x0, .int (nI j)] [] 153 0 (ax_hm mem) 153 0 Q := by
  intro n
  induction n with
  | zero =>
    intro j x0 hj hx
    refine ax_iload_n (j := 2) dX5_countAstray_4 rfl rfl rfl ?_
    refine ax_aload_n (j := 0) dX5_countAstray_5 rfl rfl rfl ?_
    refine am_getI flX5_30 dX5_countAstray_6 rfl hP.o rfl ?_
    refine ax_icmp_ge (tgt := 30) dX5_countAstray_9 (by decide) rfl (fun c9 => ?_) (fun c9 => ?_)
    · have q := hx
      simp only [ax_it] at q
      rw [show (((mem a 4) : Int32).toNatClampNeg) = j by omega] at q
      exact q
    · exact absurd (cl_ge (by omega)) c9
  | succ n ih =>
    intro j x0 hj hx
    refine ax_iload_n (j := 2) dX5_countAstray_4 rfl rfl rfl ?_
    refine ax_aload_n (j := 0) dX5_countAstray_5 rfl rfl rfl ?_
    refine am_getI flX5_30 dX5_countAstray_6 rfl hP.o rfl ?_
    refine ax_icmp_ge (tgt := 30) dX5_countAstray_9 (by decide) rfl (fun c9 => ?_) (fun c9 => ?_)
    · exact absurd c9 (cl_nle (by omega))
    · refine ax_aload_n (j := 0) dX5_countAstray_12 rfl rfl rfl ?_
      refine ax_iload_n (j := 2) dX5_countAstray_13 rfl rfl rfl ?_
      refine ad_V1 ksX5_identityOf lkX5_85 dX5_countAstray_14 rfl hP.o rfl (Nat.le_of_ble_eq_true rfl) (Nat.le_of_ble_eq_true rfl) (s_X5_identityOf _ hP _) ?_
      refine ax_iload_n (j := 2) dX5_countAstray_17 rfl rfl rfl ?_
      refine ax_icmp_eq (tgt := 24) dX5_countAstray_18 (by decide) rfl (fun c18 => ?_) (fun c18 => ?_)
      · refine ax_iinc2 (v := nI (j + 1)) dX5_countAstray_24 rfl (cl_inc j) (Nat.le_of_ble_eq_true rfl) rfl ?_
        refine ax_goto (tgt := 4) dX5_countAstray_27 (by decide) ?_
        have e1 : f_X5_countAstray_4 mem a j x0 = x0 := by simp only [f_X5_countAstray_4, if_pos c18]
        simp only [ax_it, e1] at hx
        exact ih (j + 1) (x0) (by omega) hx
      · refine ax_iinc1 (v := (x0 + 1)) dX5_countAstray_21 rfl rfl (Nat.le_of_ble_eq_true rfl) rfl ?_
        refine ax_iinc2 (v := nI (j + 1)) dX5_countAstray_24 rfl (cl_inc j) (Nat.le_of_ble_eq_true rfl) rfl ?_
        refine ax_goto (tgt := 4) dX5_countAstray_27 (by decide) ?_
        have e1 : f_X5_countAstray_4 mem a j x0 = (x0 + 1) := by simp only [f_X5_countAstray_4, if_neg c18]
        simp only [ax_it, e1] at hx
        exact ih (j + 1) ((x0 + 1)) (by omega) hx
set_option maxRecDepth 20000 in
theorem s_X5_countAstray {G : ax_G} {l : Launch} (mem : ax_Me) {a : Nat} (hP : ax_isP a)  : AD G l 2 mX5_countAstray [.ref a] mem (some (.int (F_X5_countAstray mem a))) mem := by
  refine ax_start (ls := [.ref a, .float 0, .float 0]) (u := 2) (by decide +kernel) (Nat.le_of_ble_eq_true rfl) (Nat.le_refl _) (Nat.le_refl _) rfl ?_
  refine ax_iconst (v := 0) dX5_countAstray_0 (by decide) rfl ?_
  refine ax_ist1 dX5_countAstray_1 rfl rfl (Nat.le_of_ble_eq_true rfl) rfl ?_
  refine ax_iconst (v := 0) dX5_countAstray_2 (by decide) rfl ?_
  refine ax_ist2 dX5_countAstray_3 rfl rfl (Nat.le_of_ble_eq_true rfl) rfl ?_
  refine lp_X5_countAstray_4 mem hP    (((mem a 4) : Int32).toNatClampNeg) (0) (0) (Nat.zero_add _)  ?_
  refine ax_iload_n (j := 1) dX5_countAstray_30 rfl rfl rfl ?_
  exact ax_ireturn rfl dX5_countAstray_31 ⟨by simp only [F_X5_countAstray], rfl⟩

def f_X5_countAstrayAndKnown_4 (mem : ax_Me) (a : Nat)  (j : Nat) (s : Int32) : Int32 :=
  match s with
  | x0 => (if (F_X5_identityOf mem a (nI j)) = (nI j) then x0 else (if (F_X5_knowersOf mem a (nI j)) = 0 then x0 else (x0 + 1)))
def F_X5_countAstrayAndKnown (mem : ax_Me) (a : Nat) : Int32 :=
  (ax_it (f_X5_countAstrayAndKnown_4 mem a) (((mem a 4) : Int32).toNatClampNeg) (0) 0)
set_option maxRecDepth 20000 in
theorem lp_X5_countAstrayAndKnown_4 {G : ax_G} {l : Launch} {Q : Option Value → ax_H → Prop} (mem : ax_Me) {a : Nat} (hP : ax_isP a)   : ∀ (n j : Nat) (x0 : Int32), j + n = ((mem a 4) : Int32).toNatClampNeg → AX G l mX5_countAstrayAndKnown 5 38 [.ref a, .int (ax_it (f_X5_countAstrayAndKnown_4 mem a) n j x0), .int (nI (((mem a 4) : Int32).toNatClampNeg))] [] 153 0 (ax_hm mem) 153 0 Q → AX G l mX5_countAstrayAndKnown 5 4 [.ref a, .int x0, .int (nI j)] [] 153 0 (ax_hm mem) 153 0 Q := by
  intro n
  induction n with
  | zero =>
    intro j x0 hj hx
    refine ax_iload_n (j := 2) dX5_countAstrayAndKnown_4 rfl rfl rfl ?_
    refine ax_aload_n (j := 0) dX5_countAstrayAndKnown_5 rfl rfl rfl ?_
    refine am_getI flX5_30 dX5_countAstrayAndKnown_6 rfl hP.o rfl ?_
    refine ax_icmp_ge (tgt := 38) dX5_countAstrayAndKnown_9 (by decide) rfl (fun c9 => ?_) (fun c9 => ?_)
    · have q := hx
      simp only [ax_it] at q
      rw [show (((mem a 4) : Int32).toNatClampNeg) = j by omega] at q
      exact q
    · exact absurd (cl_ge (by omega)) c9
  | succ n ih =>
    intro j x0 hj hx
    refine ax_iload_n (j := 2) dX5_countAstrayAndKnown_4 rfl rfl rfl ?_
    refine ax_aload_n (j := 0) dX5_countAstrayAndKnown_5 rfl rfl rfl ?_
    refine am_getI flX5_30 dX5_countAstrayAndKnown_6 rfl hP.o rfl ?_
    refine ax_icmp_ge (tgt := 38) dX5_countAstrayAndKnown_9 (by decide) rfl (fun c9 => ?_) (fun c9 => ?_)
    · exact absurd c9 (cl_nle (by omega))
    · refine ax_aload_n (j := 0) dX5_countAstrayAndKnown_12 rfl rfl rfl ?_
      refine ax_iload_n (j := 2) dX5_countAstrayAndKnown_13 rfl rfl rfl ?_
      refine ad_V1 ksX5_identityOf lkX5_85 dX5_countAstrayAndKnown_14 rfl hP.o rfl (Nat.le_of_ble_eq_true rfl) (Nat.le_of_ble_eq_true rfl) (s_X5_identityOf _ hP _) ?_
      refine ax_iload_n (j := 2) dX5_countAstrayAndKnown_17 rfl rfl rfl ?_
      refine ax_icmp_eq (tgt := 32) dX5_countAstrayAndKnown_18 (by decide) rfl (fun c18 => ?_) (fun c18 => ?_)
      · refine ax_iinc2 (v := nI (j + 1)) dX5_countAstrayAndKnown_32 rfl (cl_inc j) (Nat.le_of_ble_eq_true rfl) rfl ?_
        refine ax_goto (tgt := 4) dX5_countAstrayAndKnown_35 (by decide) ?_
        have e1 : f_X5_countAstrayAndKnown_4 mem a j x0 = x0 := by simp only [f_X5_countAstrayAndKnown_4, if_pos c18]
        simp only [ax_it, e1] at hx
        exact ih (j + 1) (x0) (by omega) hx
      · refine ax_aload_n (j := 0) dX5_countAstrayAndKnown_21 rfl rfl rfl ?_
        refine ax_iload_n (j := 2) dX5_countAstrayAndKnown_22 rfl rfl rfl ?_
        refine ad_V1 ksX5_knowersOf lkX5_94 dX5_countAstrayAndKnown_23 rfl hP.o rfl (Nat.le_of_ble_eq_true rfl) (Nat.le_of_ble_eq_true rfl) (s_X5_knowersOf _ hP _) ?_
        refine ax_if_eq (tgt := 32) dX5_countAstrayAndKnown_26 (by decide) rfl (fun c26 => ?_) (fun c26 => ?_)
        · refine ax_iinc2 (v := nI (j + 1)) dX5_countAstrayAndKnown_32 rfl (cl_inc j) (Nat.le_of_ble_eq_true rfl) rfl ?_
          refine ax_goto (tgt := 4) dX5_countAstrayAndKnown_35 (by decide) ?_
          have e1 : f_X5_countAstrayAndKnown_4 mem a j x0 = x0 := by simp only [f_X5_countAstrayAndKnown_4, if_neg c18, if_pos c26]
          simp only [ax_it, e1] at hx
          exact ih (j + 1) (x0) (by omega) hx
        · refine ax_iinc1 (v := (x0 + 1)) dX5_countAstrayAndKnown_29 rfl rfl (Nat.le_of_ble_eq_true rfl) rfl ?_
          refine ax_iinc2 (v := nI (j + 1)) dX5_countAstrayAndKnown_32 rfl (cl_inc j) (Nat.le_of_ble_eq_true rfl) rfl ?_
          refine ax_goto (tgt := 4) dX5_countAstrayAndKnown_35 (by decide) ?_
          have e1 : f_X5_countAstrayAndKnown_4 mem a j x0 = (x0 + 1) := by simp only [f_X5_countAstrayAndKnown_4, if_neg c18, if_neg c26]
          simp only [ax_it, e1] at hx
          exact ih (j + 1) ((x0 + 1)) (by omega) hx
set_option maxRecDepth 20000 in
theorem s_X5_countAstrayAndKnown {G : ax_G} {l : Launch} (mem : ax_Me) {a : Nat} (hP : ax_isP a)  : AD G l 5 mX5_countAstrayAndKnown [.ref a] mem (some (.int (F_X5_countAstrayAndKnown mem a))) mem := by
  refine ax_start (ls := [.ref a, .float 0, .float 0]) (u := 2) (by decide +kernel) (Nat.le_of_ble_eq_true rfl) (Nat.le_refl _) (Nat.le_refl _) rfl ?_
  refine ax_iconst (v := 0) dX5_countAstrayAndKnown_0 (by decide) rfl ?_
  refine ax_ist1 dX5_countAstrayAndKnown_1 rfl rfl (Nat.le_of_ble_eq_true rfl) rfl ?_
  refine ax_iconst (v := 0) dX5_countAstrayAndKnown_2 (by decide) rfl ?_
  refine ax_ist2 dX5_countAstrayAndKnown_3 rfl rfl (Nat.le_of_ble_eq_true rfl) rfl ?_
  refine lp_X5_countAstrayAndKnown_4 mem hP    (((mem a 4) : Int32).toNatClampNeg) (0) (0) (Nat.zero_add _)  ?_
  refine ax_iload_n (j := 1) dX5_countAstrayAndKnown_38 rfl rfl rfl ?_
  exact ax_ireturn rfl dX5_countAstrayAndKnown_39 ⟨by simp only [F_X5_countAstrayAndKnown], rfl⟩

def f_X5_stepsBackTo_4 (mem : ax_Me) (a : Nat) (p0 : Int32)  (j : Nat) (s : Int32) : Int32 ⊕ Int32 :=
  match s with
  | x0 => (if (F_X5_identityOf mem a x0) = p0 then (Sum.inl (nI j)) else (Sum.inr (F_X5_identityOf mem a x0)))
def F_X5_stepsBackTo (mem : ax_Me) (a : Nat) (p0 : Int32) : Int32 :=
  (match (ax_lp (f_X5_stepsBackTo_4 mem a p0) (((mem a 4)).toNatClampNeg) (1) p0) with | .inl b => b | .inr y0_4 => (-1))
set_option maxRecDepth 20000 in
theorem lp_X5_stepsBackTo_4 {G : ax_G} {l : Launch} {Q : Option Value → ax_H → Prop} (mem : ax_Me) {a : Nat} (hP : ax_isP a) (p0 : Int32)  (hc : ok8 mem a) : ∀ (n j : Nat) (x0 : Int32), j + n = ((mem a 4)).toNatClampNeg + 1 → 1 ≤ j → (∀ b : Int32, ax_lp (f_X5_stepsBackTo_4 mem a p0) n j x0 = .inl b → Q (some (.int b)) (ax_hm mem)) → (∀ (y0 : Int32), ax_lp (f_X5_stepsBackTo_4 mem a p0) n j x0 = .inr y0 → AX G l mX5_stepsBackTo 2 31 [.ref a, .int p0, .int y0, .int (nI (((mem a 4)).toNatClampNeg + 1))] [] 153 0 (ax_hm mem) 153 0 Q) → AX G l mX5_stepsBackTo 2 4 [.ref a, .int p0, .int x0, .int (nI j)] [] 153 0 (ax_hm mem) 153 0 Q := by
  intro n
  induction n with
  | zero =>
    intro j x0 hj hi hr hx
    refine ax_iload_n (j := 3) dX5_stepsBackTo_4 rfl rfl rfl ?_
    refine ax_aload_n (j := 0) dX5_stepsBackTo_5 rfl rfl rfl ?_
    refine am_getI flX5_30 dX5_stepsBackTo_6 rfl hP.o rfl ?_
    refine ax_icmp_gt (tgt := 31) dX5_stepsBackTo_9 (by decide) rfl (fun c9 => ?_) (fun c9 => ?_)
    · have q := hx x0 rfl
      rw [show (((mem a 4)).toNatClampNeg + 1) = j by omega] at q
      exact q
    · exact absurd (cl_gt (by omega) (by have := hc.le; omega)) c9
  | succ n ih =>
    intro j x0 hj hi hr hx
    refine ax_iload_n (j := 3) dX5_stepsBackTo_4 rfl rfl rfl ?_
    refine ax_aload_n (j := 0) dX5_stepsBackTo_5 rfl rfl rfl ?_
    refine am_getI flX5_30 dX5_stepsBackTo_6 rfl hP.o rfl ?_
    refine ax_icmp_gt (tgt := 31) dX5_stepsBackTo_9 (by decide) rfl (fun c9 => ?_) (fun c9 => ?_)
    · exact absurd c9 (cl_ngt (by omega) (Or.inl hi))
    · refine ax_aload_n (j := 0) dX5_stepsBackTo_12 rfl rfl rfl ?_
      refine ax_iload_n (j := 2) dX5_stepsBackTo_13 rfl rfl rfl ?_
      refine ad_V1 ksX5_identityOf lkX5_85 dX5_stepsBackTo_14 rfl hP.o rfl (Nat.le_of_ble_eq_true rfl) (Nat.le_of_ble_eq_true rfl) (s_X5_identityOf _ hP _) ?_
      refine ax_ist2 dX5_stepsBackTo_17 rfl rfl (Nat.le_of_ble_eq_true rfl) rfl ?_
      refine ax_iload_n (j := 2) dX5_stepsBackTo_18 rfl rfl rfl ?_
      refine ax_iload_n (j := 1) dX5_stepsBackTo_19 rfl rfl rfl ?_
      refine ax_icmp_ne (tgt := 25) dX5_stepsBackTo_20 (by decide) rfl (fun c20 => ?_) (fun c20 => ?_)
      · refine ax_iinc3 (v := nI (j + 1)) dX5_stepsBackTo_25 rfl (cl_inc j) (Nat.le_of_ble_eq_true rfl) rfl ?_
        refine ax_goto (tgt := 4) dX5_stepsBackTo_28 (by decide) ?_
        have e1 : f_X5_stepsBackTo_4 mem a p0 j x0 = .inr (F_X5_identityOf mem a x0) := by simp only [f_X5_stepsBackTo_4, if_neg c20]
        exact ih (j + 1) ((F_X5_identityOf mem a x0)) (by omega) (by omega) (fun b q => hr b (by simp only [ax_lp, e1]; exact q)) (fun y0 q => hx y0 (by simp only [ax_lp, e1]; exact q))
      · refine ax_iload_n (j := 3) dX5_stepsBackTo_23 rfl rfl rfl ?_
        exact ax_ireturn rfl dX5_stepsBackTo_24 (hr ((nI j)) (by simp only [ax_lp, f_X5_stepsBackTo_4, if_pos c20]))
set_option maxRecDepth 20000 in
theorem s_X5_stepsBackTo {G : ax_G} {l : Launch} (mem : ax_Me) {a : Nat} (hP : ax_isP a) (p0 : Int32) (hc : ok8 mem a) : AD G l 2 mX5_stepsBackTo [.ref a, .int p0] mem (some (.int (F_X5_stepsBackTo mem a p0))) mem := by
  refine ax_start (ls := [.ref a, .int p0, .float 0, .float 0]) (u := 2) (by decide +kernel) (Nat.le_of_ble_eq_true rfl) (Nat.le_refl _) (Nat.le_refl _) rfl ?_
  refine ax_iload_n (j := 1) dX5_stepsBackTo_0 rfl rfl rfl ?_
  refine ax_ist2 dX5_stepsBackTo_1 rfl rfl (Nat.le_of_ble_eq_true rfl) rfl ?_
  refine ax_iconst (v := 1) dX5_stepsBackTo_2 (by decide) rfl ?_
  refine ax_ist3 dX5_stepsBackTo_3 rfl rfl (Nat.le_of_ble_eq_true rfl) rfl ?_
  refine lp_X5_stepsBackTo_4 mem hP p0  hc  (((mem a 4)).toNatClampNeg) (1) (p0) (Nat.add_comm _ _) (Nat.le_refl _) (fun b h4 => ?_) (fun y0_4 h4 => ?_)
  · exact ⟨by simp only [F_X5_stepsBackTo, h4], rfl⟩
  · refine ax_iconst (v := (-1)) dX5_stepsBackTo_31 (by decide) rfl ?_
    exact ax_ireturn rfl dX5_stepsBackTo_32 ⟨by simp only [F_X5_stepsBackTo, h4], rfl⟩

def f_X5_countInRings_4 (mem : ax_Me) (a : Nat)  (j : Nat) (s : Int32) : Int32 :=
  match s with
  | x0 => (if (F_X5_stepsBackTo mem a (nI j)) ≤ 1 then x0 else (x0 + 1))
def F_X5_countInRings (mem : ax_Me) (a : Nat) : Int32 :=
  (ax_it (f_X5_countInRings_4 mem a) (((mem a 4) : Int32).toNatClampNeg) (0) 0)
set_option maxRecDepth 20000 in
theorem lp_X5_countInRings_4 {G : ax_G} {l : Launch} {Q : Option Value → ax_H → Prop} (mem : ax_Me) {a : Nat} (hP : ax_isP a)  (hc : ok8 mem a) : ∀ (n j : Nat) (x0 : Int32), j + n = ((mem a 4) : Int32).toNatClampNeg → AX G l mX5_countInRings 3 30 [.ref a, .int (ax_it (f_X5_countInRings_4 mem a) n j x0), .int (nI (((mem a 4) : Int32).toNatClampNeg))] [] 153 0 (ax_hm mem) 153 0 Q → AX G l mX5_countInRings 3 4 [.ref a, .int x0, .int (nI j)] [] 153 0 (ax_hm mem) 153 0 Q := by
  intro n
  induction n with
  | zero =>
    intro j x0 hj hx
    refine ax_iload_n (j := 2) dX5_countInRings_4 rfl rfl rfl ?_
    refine ax_aload_n (j := 0) dX5_countInRings_5 rfl rfl rfl ?_
    refine am_getI flX5_30 dX5_countInRings_6 rfl hP.o rfl ?_
    refine ax_icmp_ge (tgt := 30) dX5_countInRings_9 (by decide) rfl (fun c9 => ?_) (fun c9 => ?_)
    · have q := hx
      simp only [ax_it] at q
      rw [show (((mem a 4) : Int32).toNatClampNeg) = j by omega] at q
      exact q
    · exact absurd (cl_ge (by omega)) c9
  | succ n ih =>
    intro j x0 hj hx
    refine ax_iload_n (j := 2) dX5_countInRings_4 rfl rfl rfl ?_
    refine ax_aload_n (j := 0) dX5_countInRings_5 rfl rfl rfl ?_
    refine am_getI flX5_30 dX5_countInRings_6 rfl hP.o rfl ?_
    refine ax_icmp_ge (tgt := 30) dX5_countInRings_9 (by decide) rfl (fun c9 => ?_) (fun c9 => ?_)
    · exact absurd c9 (cl_nle (by omega))
    · refine ax_aload_n (j := 0) dX5_countInRings_12 rfl rfl rfl ?_
      refine ax_iload_n (j := 2) dX5_countInRings_13 rfl rfl rfl ?_
      refine ad_V1 ksX5_stepsBackTo lkX5_91 dX5_countInRings_14 rfl hP.o rfl (Nat.le_of_ble_eq_true rfl) (Nat.le_of_ble_eq_true rfl) (s_X5_stepsBackTo _ hP _ (by assumption)) ?_
      refine ax_iconst (v := 1) dX5_countInRings_17 (by decide) rfl ?_
      refine ax_icmp_le (tgt := 24) dX5_countInRings_18 (by decide) rfl (fun c18 => ?_) (fun c18 => ?_)
      · refine ax_iinc2 (v := nI (j + 1)) dX5_countInRings_24 rfl (cl_inc j) (Nat.le_of_ble_eq_true rfl) rfl ?_
        refine ax_goto (tgt := 4) dX5_countInRings_27 (by decide) ?_
        have e1 : f_X5_countInRings_4 mem a j x0 = x0 := by simp only [f_X5_countInRings_4, if_pos c18]
        simp only [ax_it, e1] at hx
        exact ih (j + 1) (x0) (by omega) hx
      · refine ax_iinc1 (v := (x0 + 1)) dX5_countInRings_21 rfl rfl (Nat.le_of_ble_eq_true rfl) rfl ?_
        refine ax_iinc2 (v := nI (j + 1)) dX5_countInRings_24 rfl (cl_inc j) (Nat.le_of_ble_eq_true rfl) rfl ?_
        refine ax_goto (tgt := 4) dX5_countInRings_27 (by decide) ?_
        have e1 : f_X5_countInRings_4 mem a j x0 = (x0 + 1) := by simp only [f_X5_countInRings_4, if_neg c18]
        simp only [ax_it, e1] at hx
        exact ih (j + 1) ((x0 + 1)) (by omega) hx
set_option maxRecDepth 20000 in
theorem s_X5_countInRings {G : ax_G} {l : Launch} (mem : ax_Me) {a : Nat} (hP : ax_isP a) (hc : ok8 mem a) : AD G l 3 mX5_countInRings [.ref a] mem (some (.int (F_X5_countInRings mem a))) mem := by
  refine ax_start (ls := [.ref a, .float 0, .float 0]) (u := 2) (by decide +kernel) (Nat.le_of_ble_eq_true rfl) (Nat.le_refl _) (Nat.le_refl _) rfl ?_
  refine ax_iconst (v := 0) dX5_countInRings_0 (by decide) rfl ?_
  refine ax_ist1 dX5_countInRings_1 rfl rfl (Nat.le_of_ble_eq_true rfl) rfl ?_
  refine ax_iconst (v := 0) dX5_countInRings_2 (by decide) rfl ?_
  refine ax_ist2 dX5_countInRings_3 rfl rfl (Nat.le_of_ble_eq_true rfl) rfl ?_
  refine lp_X5_countInRings_4 mem hP  hc  (((mem a 4) : Int32).toNatClampNeg) (0) (0) (Nat.zero_add _)  ?_
  refine ax_iload_n (j := 1) dX5_countInRings_30 rfl rfl rfl ?_
  exact ax_ireturn rfl dX5_countInRings_31 ⟨by simp only [F_X5_countInRings], rfl⟩

def F_X5_isFaded (mem : ax_Me) (a : Nat) (p0 : Int32) (p1 : Int32) : Int32 :=
  (if (F_X5_knows mem a p0 p1) = 0 then 0 else (if (F_X2_apart mem (F_X5_memoryOf mem a p0 p1) (F_X5_marksOf mem a p1)) < 3 then 0 else 1))
set_option maxRecDepth 20000 in
theorem s_X5_isFaded {G : ax_G} {l : Launch} (mem : ax_Me) {a : Nat} (hP : ax_isP a) (p0 : Int32) (p1 : Int32)  : AD G l 4 mX5_isFaded [.ref a, .int p0, .int p1] mem (some (.int (F_X5_isFaded mem a p0 p1))) mem := by
  refine ax_start (ls := [.ref a, .int p0, .int p1]) (u := 0) (by decide +kernel) (Nat.le_of_ble_eq_true rfl) (Nat.le_refl _) (Nat.le_refl _) rfl ?_
  refine ax_aload_n (j := 0) dX5_isFaded_0 rfl rfl rfl ?_
  refine ax_iload_n (j := 1) dX5_isFaded_1 rfl rfl rfl ?_
  refine ax_iload_n (j := 2) dX5_isFaded_2 rfl rfl rfl ?_
  refine ad_V2 ksX5_knows lkX5_74 dX5_isFaded_3 rfl hP.o rfl (Nat.le_of_ble_eq_true rfl) (Nat.le_of_ble_eq_true rfl) (s_X5_knows _ hP _ _) ?_
  refine ax_if_eq (tgt := 31) dX5_isFaded_6 (by decide) rfl (fun c6 => ?_) (fun c6 => ?_)
  · refine ax_iconst (v := 0) dX5_isFaded_31 (by decide) rfl ?_
    exact ax_zreturn rfl dX5_isFaded_32 rfl ⟨by simp only [F_X5_isFaded, if_pos c6], rfl⟩
  · refine ax_aload_n (j := 0) dX5_isFaded_9 rfl rfl rfl ?_
    refine ax_iload_n (j := 1) dX5_isFaded_10 rfl rfl rfl ?_
    refine ax_iload_n (j := 2) dX5_isFaded_11 rfl rfl rfl ?_
    refine ad_V2 ksX5_memoryOf lkX5_59 dX5_isFaded_12 rfl hP.o rfl (Nat.le_of_ble_eq_true rfl) (Nat.le_of_ble_eq_true rfl) (s_X5_memoryOf _ hP _ _) ?_
    refine ax_aload_n (j := 0) dX5_isFaded_15 rfl rfl rfl ?_
    refine ax_iload_n (j := 2) dX5_isFaded_16 rfl rfl rfl ?_
    refine ad_V1 ksX5_marksOf lkX5_63 dX5_isFaded_17 rfl hP.o rfl (Nat.le_of_ble_eq_true rfl) (Nat.le_of_ble_eq_true rfl) (s_X5_marksOf _ hP _) ?_
    refine ad_S2 ksX2_apart lkX5_97 dX5_isFaded_20 rfl (Nat.le_of_ble_eq_true rfl) (Nat.le_of_ble_eq_true rfl) (s_X2_apart _ _ _) ?_
    refine ax_iconst (v := 3) dX5_isFaded_23 (by decide) rfl ?_
    refine ax_icmp_lt (tgt := 31) dX5_isFaded_24 (by decide) rfl (fun c24 => ?_) (fun c24 => ?_)
    · refine ax_iconst (v := 0) dX5_isFaded_31 (by decide) rfl ?_
      exact ax_zreturn rfl dX5_isFaded_32 rfl ⟨by simp only [F_X5_isFaded, if_neg c6, if_pos c24], rfl⟩
    · refine ax_iconst (v := 1) dX5_isFaded_27 (by decide) rfl ?_
      refine ax_goto (tgt := 32) dX5_isFaded_28 (by decide) ?_
      exact ax_zreturn rfl dX5_isFaded_32 rfl ⟨by simp only [F_X5_isFaded, if_neg c6, if_neg c24], rfl⟩

def f_X5_fadedPair_15 (mem : ax_Me) (a : Nat) (p0 : Int32) (v3 : Int32) (j : Nat) (s : Int32) : Int32 ⊕ Int32 :=
  match s with
  | x0 => (if (F_X5_isFaded mem a v3 (nI j)) = 0 then (Sum.inr x0) else (if x0 = p0 then (Sum.inl ((10 * v3) + (nI j))) else (Sum.inr (x0 + 1))))
def f_X5_fadedPair_4 (mem : ax_Me) (a : Nat) (p0 : Int32)  (j : Nat) (s : Int32) : Int32 ⊕ Int32 :=
  match s with
  | x0 => (match (ax_lp (f_X5_fadedPair_15 mem a p0 ((nI j))) (((mem a 4) : Int32).toNatClampNeg) (0) x0) with | .inl b => (Sum.inl b) | .inr y0_15 => (Sum.inr y0_15))
def F_X5_fadedPair (mem : ax_Me) (a : Nat) (p0 : Int32) : Int32 :=
  (match (ax_lp (f_X5_fadedPair_4 mem a p0) (((mem a 4) : Int32).toNatClampNeg) (0) 0) with | .inl b => b | .inr y0_4 => (if p0 = (-1) then y0_4 else (-1)))
set_option maxRecDepth 20000 in
theorem lp_X5_fadedPair_15 {G : ax_G} {l : Launch} {Q : Option Value → ax_H → Prop} (mem : ax_Me) {a : Nat} (hP : ax_isP a) (p0 : Int32) (v3 : Int32)  : ∀ (n j : Nat) (x0 : Int32), j + n = ((mem a 4) : Int32).toNatClampNeg → (∀ b : Int32, ax_lp (f_X5_fadedPair_15 mem a p0 v3) n j x0 = .inl b → Q (some (.int b)) (ax_hm mem)) → (∀ (y0 : Int32), ax_lp (f_X5_fadedPair_15 mem a p0 v3) n j x0 = .inr y0 → AX G l mX5_fadedPair 5 56 [.ref a, .int p0, .int y0, .int v3, .int (nI (((mem a 4) : Int32).toNatClampNeg))] [] 153 0 (ax_hm mem) 153 0 Q) → AX G l mX5_fadedPair 5 15 [.ref a, .int p0, .int x0, .int v3, .int (nI j)] [] 153 0 (ax_hm mem) 153 0 Q := by
  intro n
  induction n with
  | zero =>
    intro j x0 hj hr hx
    refine ax_iload dX5_fadedPair_15 rfl rfl ?_
    refine ax_aload_n (j := 0) dX5_fadedPair_17 rfl rfl rfl ?_
    refine am_getI flX5_30 dX5_fadedPair_18 rfl hP.o rfl ?_
    refine ax_icmp_ge (tgt := 56) dX5_fadedPair_21 (by decide) rfl (fun c21 => ?_) (fun c21 => ?_)
    · have q := hx x0 rfl
      rw [show (((mem a 4) : Int32).toNatClampNeg) = j by omega] at q
      exact q
    · exact absurd (cl_ge (by omega)) c21
  | succ n ih =>
    intro j x0 hj hr hx
    refine ax_iload dX5_fadedPair_15 rfl rfl ?_
    refine ax_aload_n (j := 0) dX5_fadedPair_17 rfl rfl rfl ?_
    refine am_getI flX5_30 dX5_fadedPair_18 rfl hP.o rfl ?_
    refine ax_icmp_ge (tgt := 56) dX5_fadedPair_21 (by decide) rfl (fun c21 => ?_) (fun c21 => ?_)
    · exact absurd c21 (cl_nle (by omega))
    · refine ax_aload_n (j := 0) dX5_fadedPair_24 rfl rfl rfl ?_
      refine ax_iload_n (j := 3) dX5_fadedPair_25 rfl rfl rfl ?_
      refine ax_iload dX5_fadedPair_26 rfl rfl ?_
      refine ad_V2 ksX5_isFaded lkX5_102 dX5_fadedPair_28 rfl hP.o rfl (Nat.le_of_ble_eq_true rfl) (Nat.le_of_ble_eq_true rfl) (s_X5_isFaded _ hP _ _) ?_
      refine ax_if_eq (tgt := 50) dX5_fadedPair_31 (by decide) rfl (fun c31 => ?_) (fun c31 => ?_)
      · refine ax_iinc4 (v := nI (j + 1)) dX5_fadedPair_50 rfl (cl_inc j) (Nat.le_of_ble_eq_true rfl) rfl ?_
        refine ax_goto (tgt := 15) dX5_fadedPair_53 (by decide) ?_
        have e1 : f_X5_fadedPair_15 mem a p0 v3 j x0 = .inr x0 := by simp only [f_X5_fadedPair_15, if_pos c31]
        exact ih (j + 1) (x0) (by omega) (fun b q => hr b (by simp only [ax_lp, e1]; exact q)) (fun y0 q => hx y0 (by simp only [ax_lp, e1]; exact q))
      · refine ax_iload_n (j := 2) dX5_fadedPair_34 rfl rfl rfl ?_
        refine ax_iload_n (j := 1) dX5_fadedPair_35 rfl rfl rfl ?_
        refine ax_icmp_ne (tgt := 47) dX5_fadedPair_36 (by decide) rfl (fun c36 => ?_) (fun c36 => ?_)
        · refine ax_iinc2 (v := (x0 + 1)) dX5_fadedPair_47 rfl rfl (Nat.le_of_ble_eq_true rfl) rfl ?_
          refine ax_iinc4 (v := nI (j + 1)) dX5_fadedPair_50 rfl (cl_inc j) (Nat.le_of_ble_eq_true rfl) rfl ?_
          refine ax_goto (tgt := 15) dX5_fadedPair_53 (by decide) ?_
          have e1 : f_X5_fadedPair_15 mem a p0 v3 j x0 = .inr (x0 + 1) := by simp only [f_X5_fadedPair_15, if_neg c31, if_neg c36]
          exact ih (j + 1) ((x0 + 1)) (by omega) (fun b q => hr b (by simp only [ax_lp, e1]; exact q)) (fun y0 q => hx y0 (by simp only [ax_lp, e1]; exact q))
        · refine ax_bipush (v := 10) dX5_fadedPair_39 (by decide) rfl ?_
          refine ax_iload_n (j := 3) dX5_fadedPair_41 rfl rfl rfl ?_
          refine ax_imul dX5_fadedPair_42 rfl ?_
          refine ax_iload dX5_fadedPair_43 rfl rfl ?_
          refine ax_iadd dX5_fadedPair_45 rfl ?_
          exact ax_ireturn rfl dX5_fadedPair_46 (hr (((10 * v3) + (nI j))) (by simp only [ax_lp, f_X5_fadedPair_15, if_neg c31, if_pos c36]))
set_option maxRecDepth 20000 in
theorem lp_X5_fadedPair_4 {G : ax_G} {l : Launch} {Q : Option Value → ax_H → Prop} (mem : ax_Me) {a : Nat} (hP : ax_isP a) (p0 : Int32)   : ∀ (n j : Nat) (x0 : Int32), j + n = ((mem a 4) : Int32).toNatClampNeg → (∀ b : Int32, ax_lp (f_X5_fadedPair_4 mem a p0) n j x0 = .inl b → Q (some (.int b)) (ax_hm mem)) → (∀ (y0 : Int32), ax_lp (f_X5_fadedPair_4 mem a p0) n j x0 = .inr y0 → AX G l mX5_fadedPair 5 62 [.ref a, .int p0, .int y0, .int (nI (((mem a 4) : Int32).toNatClampNeg)), .float 0] [] 153 0 (ax_hm mem) 153 0 Q) → AX G l mX5_fadedPair 5 4 [.ref a, .int p0, .int x0, .int (nI j), .float 0] [] 153 0 (ax_hm mem) 153 0 Q := by
  intro n
  induction n with
  | zero =>
    intro j x0 hj hr hx
    refine ax_iload_n (j := 3) dX5_fadedPair_4 rfl rfl rfl ?_
    refine ax_aload_n (j := 0) dX5_fadedPair_5 rfl rfl rfl ?_
    refine am_getI flX5_30 dX5_fadedPair_6 rfl hP.o rfl ?_
    refine ax_icmp_ge (tgt := 62) dX5_fadedPair_9 (by decide) rfl (fun c9 => ?_) (fun c9 => ?_)
    · have q := hx x0 rfl
      rw [show (((mem a 4) : Int32).toNatClampNeg) = j by omega] at q
      exact q
    · exact absurd (cl_ge (by omega)) c9
  | succ n ih =>
    intro j x0 hj hr hx
    refine ax_iload_n (j := 3) dX5_fadedPair_4 rfl rfl rfl ?_
    refine ax_aload_n (j := 0) dX5_fadedPair_5 rfl rfl rfl ?_
    refine am_getI flX5_30 dX5_fadedPair_6 rfl hP.o rfl ?_
    refine ax_icmp_ge (tgt := 62) dX5_fadedPair_9 (by decide) rfl (fun c9 => ?_) (fun c9 => ?_)
    · exact absurd c9 (cl_nle (by omega))
    · refine ax_iconst (v := 0) dX5_fadedPair_12 (by decide) rfl ?_
      refine ax_ist4 dX5_fadedPair_13 rfl (Nat.le_of_ble_eq_true rfl) rfl ?_
      refine lp_X5_fadedPair_15 mem hP p0 ((nI j))   (((mem a 4) : Int32).toNatClampNeg) (0) (x0) (Nat.zero_add _)  (fun b h15 => ?_) (fun y0_15 h15 => ?_)
      · exact (hr (b) (by simp only [ax_lp, f_X5_fadedPair_4, h15]))
      · refine ax_iinc3 (v := nI (j + 1)) dX5_fadedPair_56 rfl (cl_inc j) (Nat.le_of_ble_eq_true rfl) rfl ?_
        refine ax_goto (tgt := 4) dX5_fadedPair_59 (by decide) ?_
        refine ax_fg4 ?_
        have e1 : f_X5_fadedPair_4 mem a p0 j x0 = .inr y0_15 := by simp only [f_X5_fadedPair_4, h15]
        exact ih (j + 1) (y0_15) (by omega) (fun b q => hr b (by simp only [ax_lp, e1]; exact q)) (fun y0 q => hx y0 (by simp only [ax_lp, e1]; exact q))
set_option maxRecDepth 20000 in
theorem s_X5_fadedPair {G : ax_G} {l : Launch} (mem : ax_Me) {a : Nat} (hP : ax_isP a) (p0 : Int32)  : AD G l 5 mX5_fadedPair [.ref a, .int p0] mem (some (.int (F_X5_fadedPair mem a p0))) mem := by
  refine ax_start (ls := [.ref a, .int p0, .float 0, .float 0, .float 0]) (u := 3) (by decide +kernel) (Nat.le_of_ble_eq_true rfl) (Nat.le_refl _) (Nat.le_refl _) rfl ?_
  refine ax_iconst (v := 0) dX5_fadedPair_0 (by decide) rfl ?_
  refine ax_ist2 dX5_fadedPair_1 rfl rfl (Nat.le_of_ble_eq_true rfl) rfl ?_
  refine ax_iconst (v := 0) dX5_fadedPair_2 (by decide) rfl ?_
  refine ax_ist3 dX5_fadedPair_3 rfl rfl (Nat.le_of_ble_eq_true rfl) rfl ?_
  refine lp_X5_fadedPair_4 mem hP p0    (((mem a 4) : Int32).toNatClampNeg) (0) (0) (Nat.zero_add _)  (fun b h4 => ?_) (fun y0_4 h4 => ?_)
  · exact ⟨by simp only [F_X5_fadedPair, h4], rfl⟩
  · refine ax_iload_n (j := 1) dX5_fadedPair_62 rfl rfl rfl ?_
    refine ax_iconst (v := (-1)) dX5_fadedPair_63 (by decide) rfl ?_
    refine ax_icmp_ne (tgt := 71) dX5_fadedPair_64 (by decide) rfl (fun c64 => ?_) (fun c64 => ?_)
    · refine ax_iconst (v := (-1)) dX5_fadedPair_71 (by decide) rfl ?_
      exact ax_ireturn rfl dX5_fadedPair_72 ⟨by simp only [F_X5_fadedPair, h4, if_neg c64], rfl⟩
    · refine ax_iload_n (j := 2) dX5_fadedPair_67 rfl rfl rfl ?_
      refine ax_goto (tgt := 72) dX5_fadedPair_68 (by decide) ?_
      exact ax_ireturn rfl dX5_fadedPair_72 ⟨by simp only [F_X5_fadedPair, h4, if_pos c64], rfl⟩

def f_X5_firstTwins_14 (mem : ax_Me) (a : Nat) (v1 : Int32) (j : Nat) (s : Unit) : Int32 ⊕ (Unit) :=
  match s with
  | () => (if (F_X5_marksOf mem a v1) = (F_X5_marksOf mem a (nI j)) then (Sum.inl ((10 * v1) + (nI j))) else (Sum.inr ()))
def f_X5_firstTwins_2 (mem : ax_Me) (a : Nat)  (j : Nat) (s : Unit) : Int32 ⊕ (Unit) :=
  match s with
  | () => (match (ax_lp (f_X5_firstTwins_14 mem a ((nI j))) (((mem a 4) : Int32).toNatClampNeg - (j + 1)) (j + 1) ()) with | .inl b => (Sum.inl b) | .inr () => (Sum.inr ()))
def F_X5_firstTwins (mem : ax_Me) (a : Nat) : Int32 :=
  (match (ax_lp (f_X5_firstTwins_2 mem a) (((mem a 4) : Int32).toNatClampNeg) (0) ()) with | .inl b => b | .inr () => (-1))
set_option maxRecDepth 20000 in
theorem lp_X5_firstTwins_14 {G : ax_G} {l : Launch} {Q : Option Value → ax_H → Prop} (mem : ax_Me) {a : Nat} (hP : ax_isP a) (v1 : Int32)  : ∀ (n j : Nat), j + n = ((mem a 4) : Int32).toNatClampNeg → (∀ b : Int32, ax_lp (f_X5_firstTwins_14 mem a v1) n j () = .inl b → Q (some (.int b)) (ax_hm mem)) → (ax_lp (f_X5_firstTwins_14 mem a v1) n j () = .inr () → AX G l mX5_firstTwins 2 48 [.ref a, .int v1, .int (nI (((mem a 4) : Int32).toNatClampNeg))] [] 153 0 (ax_hm mem) 153 0 Q) → AX G l mX5_firstTwins 2 14 [.ref a, .int v1, .int (nI j)] [] 153 0 (ax_hm mem) 153 0 Q := by
  intro n
  induction n with
  | zero =>
    intro j  hj hr hx
    refine ax_iload_n (j := 2) dX5_firstTwins_14 rfl rfl rfl ?_
    refine ax_aload_n (j := 0) dX5_firstTwins_15 rfl rfl rfl ?_
    refine am_getI flX5_30 dX5_firstTwins_16 rfl hP.o rfl ?_
    refine ax_icmp_ge (tgt := 48) dX5_firstTwins_19 (by decide) rfl (fun c19 => ?_) (fun c19 => ?_)
    · have q := hx  rfl
      rw [show (((mem a 4) : Int32).toNatClampNeg) = j by omega] at q
      exact q
    · exact absurd (cl_ge (by omega)) c19
  | succ n ih =>
    intro j  hj hr hx
    refine ax_iload_n (j := 2) dX5_firstTwins_14 rfl rfl rfl ?_
    refine ax_aload_n (j := 0) dX5_firstTwins_15 rfl rfl rfl ?_
    refine am_getI flX5_30 dX5_firstTwins_16 rfl hP.o rfl ?_
    refine ax_icmp_ge (tgt := 48) dX5_firstTwins_19 (by decide) rfl (fun c19 => ?_) (fun c19 => ?_)
    · exact absurd c19 (cl_nle (by omega))
    · refine ax_aload_n (j := 0) dX5_firstTwins_22 rfl rfl rfl ?_
      refine ax_iload_n (j := 1) dX5_firstTwins_23 rfl rfl rfl ?_
      refine ad_V1 ksX5_marksOf lkX5_63 dX5_firstTwins_24 rfl hP.o rfl (Nat.le_of_ble_eq_true rfl) (Nat.le_of_ble_eq_true rfl) (s_X5_marksOf _ hP _) ?_
      refine ax_aload_n (j := 0) dX5_firstTwins_27 rfl rfl rfl ?_
      refine ax_iload_n (j := 2) dX5_firstTwins_28 rfl rfl rfl ?_
      refine ad_V1 ksX5_marksOf lkX5_63 dX5_firstTwins_29 rfl hP.o rfl (Nat.le_of_ble_eq_true rfl) (Nat.le_of_ble_eq_true rfl) (s_X5_marksOf _ hP _) ?_
      refine ax_icmp_ne (tgt := 42) dX5_firstTwins_32 (by decide) rfl (fun c32 => ?_) (fun c32 => ?_)
      · refine ax_iinc2 (v := nI (j + 1)) dX5_firstTwins_42 rfl (cl_inc j) (Nat.le_of_ble_eq_true rfl) rfl ?_
        refine ax_goto (tgt := 14) dX5_firstTwins_45 (by decide) ?_
        have e1 : f_X5_firstTwins_14 mem a v1 j () = .inr () := by simp only [f_X5_firstTwins_14, if_neg c32]
        exact ih (j + 1)  (by omega) (fun b q => hr b (by simp only [ax_lp, e1]; exact q)) (fun q => hx (by simp only [ax_lp, e1]; exact q))
      · refine ax_bipush (v := 10) dX5_firstTwins_35 (by decide) rfl ?_
        refine ax_iload_n (j := 1) dX5_firstTwins_37 rfl rfl rfl ?_
        refine ax_imul dX5_firstTwins_38 rfl ?_
        refine ax_iload_n (j := 2) dX5_firstTwins_39 rfl rfl rfl ?_
        refine ax_iadd dX5_firstTwins_40 rfl ?_
        exact ax_ireturn rfl dX5_firstTwins_41 (hr (((10 * v1) + (nI j))) (by simp only [ax_lp, f_X5_firstTwins_14, if_pos c32]))
set_option maxRecDepth 20000 in
theorem lp_X5_firstTwins_2 {G : ax_G} {l : Launch} {Q : Option Value → ax_H → Prop} (mem : ax_Me) {a : Nat} (hP : ax_isP a)   : ∀ (n j : Nat), j + n = ((mem a 4) : Int32).toNatClampNeg → (∀ b : Int32, ax_lp (f_X5_firstTwins_2 mem a) n j () = .inl b → Q (some (.int b)) (ax_hm mem)) → (ax_lp (f_X5_firstTwins_2 mem a) n j () = .inr () → AX G l mX5_firstTwins 2 54 [.ref a, .int (nI (((mem a 4) : Int32).toNatClampNeg)), .float 0] [] 153 0 (ax_hm mem) 153 0 Q) → AX G l mX5_firstTwins 2 2 [.ref a, .int (nI j), .float 0] [] 153 0 (ax_hm mem) 153 0 Q := by
  intro n
  induction n with
  | zero =>
    intro j  hj hr hx
    refine ax_iload_n (j := 1) dX5_firstTwins_2 rfl rfl rfl ?_
    refine ax_aload_n (j := 0) dX5_firstTwins_3 rfl rfl rfl ?_
    refine am_getI flX5_30 dX5_firstTwins_4 rfl hP.o rfl ?_
    refine ax_icmp_ge (tgt := 54) dX5_firstTwins_7 (by decide) rfl (fun c7 => ?_) (fun c7 => ?_)
    · have q := hx  rfl
      rw [show (((mem a 4) : Int32).toNatClampNeg) = j by omega] at q
      exact q
    · exact absurd (cl_ge (by omega)) c7
  | succ n ih =>
    intro j  hj hr hx
    refine ax_iload_n (j := 1) dX5_firstTwins_2 rfl rfl rfl ?_
    refine ax_aload_n (j := 0) dX5_firstTwins_3 rfl rfl rfl ?_
    refine am_getI flX5_30 dX5_firstTwins_4 rfl hP.o rfl ?_
    refine ax_icmp_ge (tgt := 54) dX5_firstTwins_7 (by decide) rfl (fun c7 => ?_) (fun c7 => ?_)
    · exact absurd c7 (cl_nle (by omega))
    · refine ax_iload_n (j := 1) dX5_firstTwins_10 rfl rfl rfl ?_
      refine ax_iconst (v := 1) dX5_firstTwins_11 (by decide) rfl ?_
      refine ax_iadd dX5_firstTwins_12 rfl ?_
      refine ax_ist2 dX5_firstTwins_13 rfl rfl (Nat.le_of_ble_eq_true rfl) rfl ?_
      rw [nI_1 j]
      refine lp_X5_firstTwins_14 mem hP ((nI j))   (((mem a 4) : Int32).toNatClampNeg - (j + 1)) (j + 1)  (by omega)  (fun b h14 => ?_) (fun h14 => ?_)
      · exact (hr (b) (by simp only [ax_lp, f_X5_firstTwins_2, h14]))
      · refine ax_iinc1 (v := nI (j + 1)) dX5_firstTwins_48 rfl (cl_inc j) (Nat.le_of_ble_eq_true rfl) rfl ?_
        refine ax_goto (tgt := 2) dX5_firstTwins_51 (by decide) ?_
        refine ax_fg2 ?_
        have e1 : f_X5_firstTwins_2 mem a j () = .inr () := by simp only [f_X5_firstTwins_2, h14]
        exact ih (j + 1)  (by omega) (fun b q => hr b (by simp only [ax_lp, e1]; exact q)) (fun q => hx (by simp only [ax_lp, e1]; exact q))
set_option maxRecDepth 20000 in
theorem s_X5_firstTwins {G : ax_G} {l : Launch} (mem : ax_Me) {a : Nat} (hP : ax_isP a)  : AD G l 2 mX5_firstTwins [.ref a] mem (some (.int (F_X5_firstTwins mem a))) mem := by
  refine ax_start (ls := [.ref a, .float 0, .float 0]) (u := 2) (by decide +kernel) (Nat.le_of_ble_eq_true rfl) (Nat.le_refl _) (Nat.le_refl _) rfl ?_
  refine ax_iconst (v := 0) dX5_firstTwins_0 (by decide) rfl ?_
  refine ax_ist1 dX5_firstTwins_1 rfl rfl (Nat.le_of_ble_eq_true rfl) rfl ?_
  refine lp_X5_firstTwins_2 mem hP    (((mem a 4) : Int32).toNatClampNeg) (0)  (Nat.zero_add _)  (fun b h2 => ?_) (fun h2 => ?_)
  · exact ⟨by simp only [F_X5_firstTwins, h2], rfl⟩
  · refine ax_iconst (v := (-1)) dX5_firstTwins_54 (by decide) rfl ?_
    exact ax_ireturn rfl dX5_firstTwins_55 ⟨by simp only [F_X5_firstTwins, h2], rfl⟩

def F_X2_apartOf (mem : ax_Me) (a : Nat) (p0 : Int32) (p1 : Int32) : Int32 :=
  (F_X2_apart mem p0 (F_X5_marksOf mem a p1))
set_option maxRecDepth 20000 in
theorem s_X2_apartOf {G : ax_G} {l : Launch} (mem : ax_Me) {a : Nat} (hP : ax_isP a) (p0 : Int32) (p1 : Int32)  : AD G l 2 mX2_apartOf [.ref a, .int p0, .int p1] mem (some (.int (F_X2_apartOf mem a p0 p1))) mem := by
  refine ax_start (ls := [.ref a, .int p0, .int p1]) (u := 0) (by decide +kernel) (Nat.le_of_ble_eq_true rfl) (Nat.le_refl _) (Nat.le_refl _) rfl ?_
  refine ax_iload_n (j := 1) dX2_apartOf_0 rfl rfl rfl ?_
  refine ax_aload_n (j := 0) dX2_apartOf_1 rfl rfl rfl ?_
  refine ax_iload_n (j := 2) dX2_apartOf_2 rfl rfl rfl ?_
  refine ad_V1 ksX5_marksOf lkX2_15 dX2_apartOf_3 rfl hP.o rfl (Nat.le_of_ble_eq_true rfl) (Nat.le_of_ble_eq_true rfl) (s_X5_marksOf _ hP _) ?_
  refine ad_S2 ksX2_apart lkX2_20 dX2_apartOf_6 rfl (Nat.le_of_ble_eq_true rfl) (Nat.le_of_ble_eq_true rfl) (s_X2_apart _ _ _) ?_
  exact ax_ireturn rfl dX2_apartOf_9 ⟨by simp only [F_X2_apartOf], rfl⟩

def f_X2_pick_9 (mem : ax_Me) (a : Nat) (p0 : Int32) (p1 : Int32)  (j : Nat) (s : Int32 × Int32) : Int32 × Int32 :=
  match s with
  | (x0, x1) => (if (F_X9_hasBit mem p1 (nI j)) = 0 then (x0, x1) else (if x1 ≤ (F_X2_apartOf mem a p0 (nI j)) then (x0, x1) else ((nI j), (F_X2_apartOf mem a p0 (nI j)))))
def F_X2_pick (mem : ax_Me) (a : Nat) (p0 : Int32) (p1 : Int32) : Int32 :=
  (ax_it (f_X2_pick_9 mem a p0 p1) (((mem a 4) : Int32).toNatClampNeg) (0) ((-1), 9)).1
set_option maxRecDepth 20000 in
theorem lp_X2_pick_9 {G : ax_G} {l : Launch} {Q : Option Value → ax_H → Prop} (mem : ax_Me) {a : Nat} (hP : ax_isP a) (p0 : Int32) (p1 : Int32)   : ∀ (n j : Nat) (x0 : Int32) (x1 : Int32), j + n = ((mem a 4) : Int32).toNatClampNeg → AX G l mX2_pick 3 57 [.ref a, .int p0, .int p1, .int (ax_it (f_X2_pick_9 mem a p0 p1) n j (x0, x1)).1, .int (ax_it (f_X2_pick_9 mem a p0 p1) n j (x0, x1)).2, .int (nI (((mem a 4) : Int32).toNatClampNeg))] [] 153 0 (ax_hm mem) 153 0 Q → AX G l mX2_pick 3 9 [.ref a, .int p0, .int p1, .int x0, .int x1, .int (nI j)] [] 153 0 (ax_hm mem) 153 0 Q := by
  intro n
  induction n with
  | zero =>
    intro j x0 x1 hj hx
    refine ax_iload dX2_pick_9 rfl rfl ?_
    refine ax_aload_n (j := 0) dX2_pick_11 rfl rfl rfl ?_
    refine am_getI flX2_26 dX2_pick_12 rfl hP.o rfl ?_
    refine ax_icmp_ge (tgt := 57) dX2_pick_15 (by decide) rfl (fun c15 => ?_) (fun c15 => ?_)
    · have q := hx
      simp only [ax_it] at q
      rw [show (((mem a 4) : Int32).toNatClampNeg) = j by omega] at q
      exact q
    · exact absurd (cl_ge (by omega)) c15
  | succ n ih =>
    intro j x0 x1 hj hx
    refine ax_iload dX2_pick_9 rfl rfl ?_
    refine ax_aload_n (j := 0) dX2_pick_11 rfl rfl rfl ?_
    refine am_getI flX2_26 dX2_pick_12 rfl hP.o rfl ?_
    refine ax_icmp_ge (tgt := 57) dX2_pick_15 (by decide) rfl (fun c15 => ?_) (fun c15 => ?_)
    · exact absurd c15 (cl_nle (by omega))
    · refine ax_iload_n (j := 2) dX2_pick_18 rfl rfl rfl ?_
      refine ax_iload dX2_pick_19 rfl rfl ?_
      refine ad_S2 ksX9_hasBit lkX2_30 dX2_pick_21 rfl (Nat.le_of_ble_eq_true rfl) (Nat.le_of_ble_eq_true rfl) (s_X9_hasBit _ _ _) ?_
      refine ax_if_eq (tgt := 51) dX2_pick_24 (by decide) rfl (fun c24 => ?_) (fun c24 => ?_)
      · refine ax_iinc5 (v := nI (j + 1)) dX2_pick_51 rfl (cl_inc j) (Nat.le_of_ble_eq_true rfl) rfl ?_
        refine ax_goto (tgt := 9) dX2_pick_54 (by decide) ?_
        have e1 : f_X2_pick_9 mem a p0 p1 j (x0, x1) = (x0, x1) := by simp only [f_X2_pick_9, if_pos c24]
        simp only [ax_it, e1] at hx
        exact ih (j + 1) (x0) (x1) (by omega) hx
      · refine ax_aload_n (j := 0) dX2_pick_27 rfl rfl rfl ?_
        refine ax_iload_n (j := 1) dX2_pick_28 rfl rfl rfl ?_
        refine ax_iload dX2_pick_29 rfl rfl ?_
        refine ad_S3 ksX2_apartOf lkX2_34 dX2_pick_31 rfl (Nat.le_of_ble_eq_true rfl) (Nat.le_of_ble_eq_true rfl) (s_X2_apartOf _ hP _ _) ?_
        refine ax_iload dX2_pick_34 rfl rfl ?_
        refine ax_icmp_ge (tgt := 51) dX2_pick_36 (by decide) rfl (fun c36 => ?_) (fun c36 => ?_)
        · refine ax_iinc5 (v := nI (j + 1)) dX2_pick_51 rfl (cl_inc j) (Nat.le_of_ble_eq_true rfl) rfl ?_
          refine ax_goto (tgt := 9) dX2_pick_54 (by decide) ?_
          have e1 : f_X2_pick_9 mem a p0 p1 j (x0, x1) = (x0, x1) := by simp only [f_X2_pick_9, if_neg c24, if_pos c36]
          simp only [ax_it, e1] at hx
          exact ih (j + 1) (x0) (x1) (by omega) hx
        · refine ax_aload_n (j := 0) dX2_pick_39 rfl rfl rfl ?_
          refine ax_iload_n (j := 1) dX2_pick_40 rfl rfl rfl ?_
          refine ax_iload dX2_pick_41 rfl rfl ?_
          refine ad_S3 ksX2_apartOf lkX2_34 dX2_pick_43 rfl (Nat.le_of_ble_eq_true rfl) (Nat.le_of_ble_eq_true rfl) (s_X2_apartOf _ hP _ _) ?_
          refine ax_ist4 dX2_pick_46 rfl (Nat.le_of_ble_eq_true rfl) rfl ?_
          refine ax_iload dX2_pick_48 rfl rfl ?_
          refine ax_ist3 dX2_pick_50 rfl rfl (Nat.le_of_ble_eq_true rfl) rfl ?_
          refine ax_iinc5 (v := nI (j + 1)) dX2_pick_51 rfl (cl_inc j) (Nat.le_of_ble_eq_true rfl) rfl ?_
          refine ax_goto (tgt := 9) dX2_pick_54 (by decide) ?_
          have e1 : f_X2_pick_9 mem a p0 p1 j (x0, x1) = ((nI j), (F_X2_apartOf mem a p0 (nI j))) := by simp only [f_X2_pick_9, if_neg c24, if_neg c36]
          simp only [ax_it, e1] at hx
          exact ih (j + 1) ((nI j)) ((F_X2_apartOf mem a p0 (nI j))) (by omega) hx
set_option maxRecDepth 20000 in
theorem s_X2_pick {G : ax_G} {l : Launch} (mem : ax_Me) {a : Nat} (hP : ax_isP a) (p0 : Int32) (p1 : Int32)  : AD G l 3 mX2_pick [.ref a, .int p0, .int p1] mem (some (.int (F_X2_pick mem a p0 p1))) mem := by
  refine ax_start (ls := [.ref a, .int p0, .int p1, .float 0, .float 0, .float 0]) (u := 3) (by decide +kernel) (Nat.le_of_ble_eq_true rfl) (Nat.le_refl _) (Nat.le_refl _) rfl ?_
  refine ax_iconst (v := (-1)) dX2_pick_0 (by decide) rfl ?_
  refine ax_ist3 dX2_pick_1 rfl rfl (Nat.le_of_ble_eq_true rfl) rfl ?_
  refine ax_bipush (v := 9) dX2_pick_2 (by decide) rfl ?_
  refine ax_ist4 dX2_pick_4 rfl (Nat.le_of_ble_eq_true rfl) rfl ?_
  refine ax_iconst (v := 0) dX2_pick_6 (by decide) rfl ?_
  refine ax_ist5 dX2_pick_7 rfl (Nat.le_of_ble_eq_true rfl) rfl ?_
  refine lp_X2_pick_9 mem hP p0 p1    (((mem a 4) : Int32).toNatClampNeg) (0) ((-1)) (9) (Nat.zero_add _)  ?_
  refine ax_iload_n (j := 3) dX2_pick_57 rfl rfl rfl ?_
  exact ax_ireturn rfl dX2_pick_58 ⟨by simp only [F_X2_pick], rfl⟩

def F_X2_lead (mem : ax_Me) (a : Nat) (p0 : Int32) (p1 : Int32) (p2 : Int32) (p3 : Int32) : Int32 :=
  (if (F_X2_apart mem p0 p2) < (F_X2_apartOf mem a p0 p3) then ((1 + (F_X2_apartOf mem a p0 p3)) - (F_X2_apart mem p0 p2)) else (if (F_X2_apart mem p0 p2) = (F_X2_apartOf mem a p0 p3) then (if p3 ≤ p1 then 0 else ((1 + (F_X2_apartOf mem a p0 p3)) - (F_X2_apart mem p0 p2))) else 0))
set_option maxRecDepth 20000 in
theorem s_X2_lead {G : ax_G} {l : Launch} (mem : ax_Me) {a : Nat} (hP : ax_isP a) (p0 : Int32) (p1 : Int32) (p2 : Int32) (p3 : Int32)  : AD G l 3 mX2_lead [.ref a, .int p0, .int p1, .int p2, .int p3] mem (some (.int (F_X2_lead mem a p0 p1 p2 p3))) mem := by
  refine ax_start (ls := [.ref a, .int p0, .int p1, .int p2, .int p3, .float 0, .float 0, .float 0]) (u := 3) (by decide +kernel) (Nat.le_of_ble_eq_true rfl) (Nat.le_refl _) (Nat.le_refl _) rfl ?_
  refine ax_iload_n (j := 1) dX2_lead_0 rfl rfl rfl ?_
  refine ax_iload_n (j := 3) dX2_lead_1 rfl rfl rfl ?_
  refine ad_S2 ksX2_apart lkX2_20 dX2_lead_2 rfl (Nat.le_of_ble_eq_true rfl) (Nat.le_of_ble_eq_true rfl) (s_X2_apart _ _ _) ?_
  refine ax_ist5 dX2_lead_5 rfl (Nat.le_of_ble_eq_true rfl) rfl ?_
  refine ax_aload_n (j := 0) dX2_lead_7 rfl rfl rfl ?_
  refine ax_iload_n (j := 1) dX2_lead_8 rfl rfl rfl ?_
  refine ax_iload dX2_lead_9 rfl rfl ?_
  refine ad_S3 ksX2_apartOf lkX2_34 dX2_lead_11 rfl (Nat.le_of_ble_eq_true rfl) (Nat.le_of_ble_eq_true rfl) (s_X2_apartOf _ hP _ _) ?_
  refine ax_ist6 dX2_lead_14 rfl (Nat.le_of_ble_eq_true rfl) rfl ?_
  refine ax_iload dX2_lead_16 rfl rfl ?_
  refine ax_iload dX2_lead_18 rfl rfl ?_
  refine ax_icmp_lt (tgt := 36) dX2_lead_20 (by decide) rfl (fun c20 => ?_) (fun c20 => ?_)
  · refine ax_iconst (v := 1) dX2_lead_36 (by decide) rfl ?_
    refine ax_goto (tgt := 41) dX2_lead_37 (by decide) ?_
    refine ax_ist7 dX2_lead_41 rfl (Nat.le_of_ble_eq_true rfl) rfl ?_
    refine ax_iload dX2_lead_43 rfl rfl ?_
    refine ax_if_eq (tgt := 58) dX2_lead_45 (by decide) rfl (fun c45 => ?_) (fun c45 => ?_)
    · exact absurd c45 (by decide)
    · refine ax_iconst (v := 1) dX2_lead_48 (by decide) rfl ?_
      refine ax_iload dX2_lead_49 rfl rfl ?_
      refine ax_iadd dX2_lead_51 rfl ?_
      refine ax_iload dX2_lead_52 rfl rfl ?_
      refine ax_isub dX2_lead_54 rfl ?_
      refine ax_goto (tgt := 59) dX2_lead_55 (by decide) ?_
      exact ax_ireturn rfl dX2_lead_59 ⟨by simp only [F_X2_lead, if_pos c20], rfl⟩
  · refine ax_iload dX2_lead_23 rfl rfl ?_
    refine ax_iload dX2_lead_25 rfl rfl ?_
    refine ax_icmp_ne (tgt := 40) dX2_lead_27 (by decide) rfl (fun c27 => ?_) (fun c27 => ?_)
    · refine ax_iconst (v := 0) dX2_lead_40 (by decide) rfl ?_
      refine ax_ist7 dX2_lead_41 rfl (Nat.le_of_ble_eq_true rfl) rfl ?_
      refine ax_iload dX2_lead_43 rfl rfl ?_
      refine ax_if_eq (tgt := 58) dX2_lead_45 (by decide) rfl (fun c45 => ?_) (fun c45 => ?_)
      · refine ax_iconst (v := 0) dX2_lead_58 (by decide) rfl ?_
        exact ax_ireturn rfl dX2_lead_59 ⟨by simp only [F_X2_lead, if_neg c20, if_neg c27], rfl⟩
      · exact absurd (by decide) c45
    · refine ax_iload_n (j := 2) dX2_lead_30 rfl rfl rfl ?_
      refine ax_iload dX2_lead_31 rfl rfl ?_
      refine ax_icmp_ge (tgt := 40) dX2_lead_33 (by decide) rfl (fun c33 => ?_) (fun c33 => ?_)
      · refine ax_iconst (v := 0) dX2_lead_40 (by decide) rfl ?_
        refine ax_ist7 dX2_lead_41 rfl (Nat.le_of_ble_eq_true rfl) rfl ?_
        refine ax_iload dX2_lead_43 rfl rfl ?_
        refine ax_if_eq (tgt := 58) dX2_lead_45 (by decide) rfl (fun c45 => ?_) (fun c45 => ?_)
        · refine ax_iconst (v := 0) dX2_lead_58 (by decide) rfl ?_
          exact ax_ireturn rfl dX2_lead_59 ⟨by simp only [F_X2_lead, if_neg c20, if_pos c27, if_pos c33], rfl⟩
        · exact absurd (by decide) c45
      · refine ax_iconst (v := 1) dX2_lead_36 (by decide) rfl ?_
        refine ax_goto (tgt := 41) dX2_lead_37 (by decide) ?_
        refine ax_ist7 dX2_lead_41 rfl (Nat.le_of_ble_eq_true rfl) rfl ?_
        refine ax_iload dX2_lead_43 rfl rfl ?_
        refine ax_if_eq (tgt := 58) dX2_lead_45 (by decide) rfl (fun c45 => ?_) (fun c45 => ?_)
        · exact absurd c45 (by decide)
        · refine ax_iconst (v := 1) dX2_lead_48 (by decide) rfl ?_
          refine ax_iload dX2_lead_49 rfl rfl ?_
          refine ax_iadd dX2_lead_51 rfl ?_
          refine ax_iload dX2_lead_52 rfl rfl ?_
          refine ax_isub dX2_lead_54 rfl ?_
          refine ax_goto (tgt := 59) dX2_lead_55 (by decide) ?_
          exact ax_ireturn rfl dX2_lead_59 ⟨by simp only [F_X2_lead, if_neg c20, if_pos c27, if_neg c33], rfl⟩

def F_X2_sureness (mem : ax_Me) (a : Nat) (p0 : Int32) (p1 : Int32) (p2 : Int32) : Int32 :=
  (F_X2_lead mem a p0 p2 (F_X5_marksOf mem a p2) (F_X2_pick mem a p0 (p1 &&& ((1 <<< (p2 &&& 31)) ^^^ (-1)))))
set_option maxRecDepth 20000 in
theorem s_X2_sureness {G : ax_G} {l : Launch} (mem : ax_Me) {a : Nat} (hP : ax_isP a) (p0 : Int32) (p1 : Int32) (p2 : Int32)  : AD G l 4 mX2_sureness [.ref a, .int p0, .int p1, .int p2] mem (some (.int (F_X2_sureness mem a p0 p1 p2))) mem := by
  refine ax_start (ls := [.ref a, .int p0, .int p1, .int p2, .float 0]) (u := 1) (by decide +kernel) (Nat.le_of_ble_eq_true rfl) (Nat.le_refl _) (Nat.le_refl _) rfl ?_
  refine ax_aload_n (j := 0) dX2_sureness_0 rfl rfl rfl ?_
  refine ax_iload_n (j := 1) dX2_sureness_1 rfl rfl rfl ?_
  refine ax_iload_n (j := 2) dX2_sureness_2 rfl rfl rfl ?_
  refine ax_iconst (v := 1) dX2_sureness_3 (by decide) rfl ?_
  refine ax_iload_n (j := 3) dX2_sureness_4 rfl rfl rfl ?_
  refine ax_ishl dX2_sureness_5 rfl ?_
  refine ax_iconst (v := (-1)) dX2_sureness_6 (by decide) rfl ?_
  refine ax_ixor dX2_sureness_7 rfl ?_
  refine ax_iand dX2_sureness_8 rfl ?_
  refine ad_S3 ksX2_pick lkX2_38 dX2_sureness_9 rfl (Nat.le_of_ble_eq_true rfl) (Nat.le_of_ble_eq_true rfl) (s_X2_pick _ hP _ _) ?_
  refine ax_ist4 dX2_sureness_12 rfl (Nat.le_of_ble_eq_true rfl) rfl ?_
  refine ax_aload_n (j := 0) dX2_sureness_14 rfl rfl rfl ?_
  refine ax_iload_n (j := 1) dX2_sureness_15 rfl rfl rfl ?_
  refine ax_iload_n (j := 3) dX2_sureness_16 rfl rfl rfl ?_
  refine ax_aload_n (j := 0) dX2_sureness_17 rfl rfl rfl ?_
  refine ax_iload_n (j := 3) dX2_sureness_18 rfl rfl rfl ?_
  refine ad_V1 ksX5_marksOf lkX2_15 dX2_sureness_19 rfl hP.o rfl (Nat.le_of_ble_eq_true rfl) (Nat.le_of_ble_eq_true rfl) (s_X5_marksOf _ hP _) ?_
  refine ax_iload dX2_sureness_22 rfl rfl ?_
  refine ad_S5 ksX2_lead lkX2_41 dX2_sureness_24 rfl (Nat.le_of_ble_eq_true rfl) (Nat.le_of_ble_eq_true rfl) (s_X2_lead _ hP _ _ _ _) ?_
  exact ax_ireturn rfl dX2_sureness_27 ⟨by simp only [F_X2_sureness], rfl⟩

def F_X2_weightIn (mem : ax_Me) (a : Nat) (p0 : Int32) (p1 : Int32) (p2 : Int32) : Int32 :=
  (if (F_X9_hasBit mem p1 p2) = 0 then 0 else (9 - (F_X2_apartOf mem a p0 p2)))
set_option maxRecDepth 20000 in
theorem s_X2_weightIn {G : ax_G} {l : Launch} (mem : ax_Me) {a : Nat} (hP : ax_isP a) (p0 : Int32) (p1 : Int32) (p2 : Int32)  : AD G l 3 mX2_weightIn [.ref a, .int p0, .int p1, .int p2] mem (some (.int (F_X2_weightIn mem a p0 p1 p2))) mem := by
  refine ax_start (ls := [.ref a, .int p0, .int p1, .int p2]) (u := 0) (by decide +kernel) (Nat.le_of_ble_eq_true rfl) (Nat.le_refl _) (Nat.le_refl _) rfl ?_
  refine ax_iload_n (j := 2) dX2_weightIn_0 rfl rfl rfl ?_
  refine ax_iload_n (j := 3) dX2_weightIn_1 rfl rfl rfl ?_
  refine ad_S2 ksX9_hasBit lkX2_30 dX2_weightIn_2 rfl (Nat.le_of_ble_eq_true rfl) (Nat.le_of_ble_eq_true rfl) (s_X9_hasBit _ _ _) ?_
  refine ax_if_eq (tgt := 20) dX2_weightIn_5 (by decide) rfl (fun c5 => ?_) (fun c5 => ?_)
  · refine ax_iconst (v := 0) dX2_weightIn_20 (by decide) rfl ?_
    exact ax_ireturn rfl dX2_weightIn_21 ⟨by simp only [F_X2_weightIn, if_pos c5], rfl⟩
  · refine ax_bipush (v := 9) dX2_weightIn_8 (by decide) rfl ?_
    refine ax_aload_n (j := 0) dX2_weightIn_10 rfl rfl rfl ?_
    refine ax_iload_n (j := 1) dX2_weightIn_11 rfl rfl rfl ?_
    refine ax_iload_n (j := 3) dX2_weightIn_12 rfl rfl rfl ?_
    refine ad_S3 ksX2_apartOf lkX2_34 dX2_weightIn_13 rfl (Nat.le_of_ble_eq_true rfl) (Nat.le_of_ble_eq_true rfl) (s_X2_apartOf _ hP _ _) ?_
    refine ax_isub dX2_weightIn_16 rfl ?_
    refine ax_goto (tgt := 21) dX2_weightIn_17 (by decide) ?_
    exact ax_ireturn rfl dX2_weightIn_21 ⟨by simp only [F_X2_weightIn, if_neg c5], rfl⟩

def f_X2_spread_9 (mem : ax_Me) (a : Nat) (p0 : Int32) (p1 : Int32)  (j : Nat) (s : Int32 × Int32) : Int32 × Int32 :=
  match s with
  | (x0, x1) => (if (F_X9_hasBit mem p1 (nI j)) = 0 then (x0, x1) else ((if (F_X2_apartOf mem a p0 (nI j)) < x0 then (F_X2_apartOf mem a p0 (nI j)) else x0), (if x1 < (F_X2_apartOf mem a p0 (nI j)) then (F_X2_apartOf mem a p0 (nI j)) else x1)))
def F_X2_spread (mem : ax_Me) (a : Nat) (p0 : Int32) (p1 : Int32) : Int32 :=
  ((ax_it (f_X2_spread_9 mem a p0 p1) (((mem a 4) : Int32).toNatClampNeg) (0) (8, 0)).2 - (ax_it (f_X2_spread_9 mem a p0 p1) (((mem a 4) : Int32).toNatClampNeg) (0) (8, 0)).1)
set_option maxRecDepth 20000 in
theorem lp_X2_spread_9 {G : ax_G} {l : Launch} {Q : Option Value → ax_H → Prop} (mem : ax_Me) {a : Nat} (hP : ax_isP a) (p0 : Int32) (p1 : Int32)   : ∀ (n j : Nat) (x0 : Int32) (x1 : Int32), j + n = ((mem a 4) : Int32).toNatClampNeg → AX G l mX2_spread 3 59 [.ref a, .int p0, .int p1, .int (ax_it (f_X2_spread_9 mem a p0 p1) n j (x0, x1)).1, .int (ax_it (f_X2_spread_9 mem a p0 p1) n j (x0, x1)).2, .int (nI (((mem a 4) : Int32).toNatClampNeg))] [] 153 0 (ax_hm mem) 153 0 Q → AX G l mX2_spread 3 9 [.ref a, .int p0, .int p1, .int x0, .int x1, .int (nI j)] [] 153 0 (ax_hm mem) 153 0 Q := by
  intro n
  induction n with
  | zero =>
    intro j x0 x1 hj hx
    refine ax_iload dX2_spread_9 rfl rfl ?_
    refine ax_aload_n (j := 0) dX2_spread_11 rfl rfl rfl ?_
    refine am_getI flX2_26 dX2_spread_12 rfl hP.o rfl ?_
    refine ax_icmp_ge (tgt := 59) dX2_spread_15 (by decide) rfl (fun c15 => ?_) (fun c15 => ?_)
    · have q := hx
      simp only [ax_it] at q
      rw [show (((mem a 4) : Int32).toNatClampNeg) = j by omega] at q
      exact q
    · exact absurd (cl_ge (by omega)) c15
  | succ n ih =>
    intro j x0 x1 hj hx
    refine ax_iload dX2_spread_9 rfl rfl ?_
    refine ax_aload_n (j := 0) dX2_spread_11 rfl rfl rfl ?_
    refine am_getI flX2_26 dX2_spread_12 rfl hP.o rfl ?_
    refine ax_icmp_ge (tgt := 59) dX2_spread_15 (by decide) rfl (fun c15 => ?_) (fun c15 => ?_)
    · exact absurd c15 (cl_nle (by omega))
    · refine ax_iload_n (j := 2) dX2_spread_18 rfl rfl rfl ?_
      refine ax_iload dX2_spread_19 rfl rfl ?_
      refine ad_S2 ksX9_hasBit lkX2_30 dX2_spread_21 rfl (Nat.le_of_ble_eq_true rfl) (Nat.le_of_ble_eq_true rfl) (s_X9_hasBit _ _ _) ?_
      refine ax_if_eq (tgt := 53) dX2_spread_24 (by decide) rfl (fun c24 => ?_) (fun c24 => ?_)
      · refine ax_iinc5 (v := nI (j + 1)) dX2_spread_53 rfl (cl_inc j) (Nat.le_of_ble_eq_true rfl) rfl ?_
        refine ax_goto (tgt := 9) dX2_spread_56 (by decide) ?_
        have e1 : f_X2_spread_9 mem a p0 p1 j (x0, x1) = (x0, x1) := by simp only [f_X2_spread_9, if_pos c24]
        simp only [ax_it, e1] at hx
        exact ih (j + 1) (x0) (x1) (by omega) hx
      · refine ax_iload_n (j := 3) dX2_spread_27 rfl rfl rfl ?_
        refine ax_aload_n (j := 0) dX2_spread_28 rfl rfl rfl ?_
        refine ax_iload_n (j := 1) dX2_spread_29 rfl rfl rfl ?_
        refine ax_iload dX2_spread_30 rfl rfl ?_
        refine ad_S3 ksX2_apartOf lkX2_34 dX2_spread_32 rfl (Nat.le_of_ble_eq_true rfl) (Nat.le_of_ble_eq_true rfl) (s_X2_apartOf _ hP _ _) ?_
        refine ax_mmin lmX2_50 dX2_spread_35 rfl (Nat.le_of_ble_eq_true rfl) (Nat.le_of_ble_eq_true rfl) ?_
        refine ax_ist3 dX2_spread_38 rfl rfl (Nat.le_of_ble_eq_true rfl) rfl ?_
        refine ax_iload dX2_spread_39 rfl rfl ?_
        refine ax_aload_n (j := 0) dX2_spread_41 rfl rfl rfl ?_
        refine ax_iload_n (j := 1) dX2_spread_42 rfl rfl rfl ?_
        refine ax_iload dX2_spread_43 rfl rfl ?_
        refine ad_S3 ksX2_apartOf lkX2_34 dX2_spread_45 rfl (Nat.le_of_ble_eq_true rfl) (Nat.le_of_ble_eq_true rfl) (s_X2_apartOf _ hP _ _) ?_
        refine ax_mmax lmX2_55 dX2_spread_48 rfl (Nat.le_of_ble_eq_true rfl) (Nat.le_of_ble_eq_true rfl) ?_
        refine ax_ist4 dX2_spread_51 rfl (Nat.le_of_ble_eq_true rfl) rfl ?_
        refine ax_iinc5 (v := nI (j + 1)) dX2_spread_53 rfl (cl_inc j) (Nat.le_of_ble_eq_true rfl) rfl ?_
        refine ax_goto (tgt := 9) dX2_spread_56 (by decide) ?_
        have e1 : f_X2_spread_9 mem a p0 p1 j (x0, x1) = ((if (F_X2_apartOf mem a p0 (nI j)) < x0 then (F_X2_apartOf mem a p0 (nI j)) else x0), (if x1 < (F_X2_apartOf mem a p0 (nI j)) then (F_X2_apartOf mem a p0 (nI j)) else x1)) := by simp only [f_X2_spread_9, if_neg c24]
        simp only [ax_it, e1] at hx
        exact ih (j + 1) ((if (F_X2_apartOf mem a p0 (nI j)) < x0 then (F_X2_apartOf mem a p0 (nI j)) else x0)) ((if x1 < (F_X2_apartOf mem a p0 (nI j)) then (F_X2_apartOf mem a p0 (nI j)) else x1)) (by omega) hx
set_option maxRecDepth 20000 in
theorem s_X2_spread {G : ax_G} {l : Launch} (mem : ax_Me) {a : Nat} (hP : ax_isP a) (p0 : Int32) (p1 : Int32)  : AD G l 3 mX2_spread [.ref a, .int p0, .int p1] mem (some (.int (F_X2_spread mem a p0 p1))) mem := by
  refine ax_start (ls := [.ref a, .int p0, .int p1, .float 0, .float 0, .float 0]) (u := 3) (by decide +kernel) (Nat.le_of_ble_eq_true rfl) (Nat.le_refl _) (Nat.le_refl _) rfl ?_
  refine ax_bipush (v := 8) dX2_spread_0 (by decide) rfl ?_
  refine ax_ist3 dX2_spread_2 rfl rfl (Nat.le_of_ble_eq_true rfl) rfl ?_
  refine ax_iconst (v := 0) dX2_spread_3 (by decide) rfl ?_
  refine ax_ist4 dX2_spread_4 rfl (Nat.le_of_ble_eq_true rfl) rfl ?_
  refine ax_iconst (v := 0) dX2_spread_6 (by decide) rfl ?_
  refine ax_ist5 dX2_spread_7 rfl (Nat.le_of_ble_eq_true rfl) rfl ?_
  refine lp_X2_spread_9 mem hP p0 p1    (((mem a 4) : Int32).toNatClampNeg) (0) (8) (0) (Nat.zero_add _)  ?_
  refine ax_iload dX2_spread_59 rfl rfl ?_
  refine ax_iload_n (j := 3) dX2_spread_61 rfl rfl rfl ?_
  refine ax_isub dX2_spread_62 rfl ?_
  exact ax_ireturn rfl dX2_spread_63 ⟨by simp only [F_X2_spread], rfl⟩

def F_X6_isRowOf (mem : ax_Me) (p0 : Int32) (p1 : Int32) (p2 : Int32) : Int32 :=
  (if (F_J6_bitCount_0f7a4 mem p0) = p2 then (if (F_X9_hasBit mem p0 p1) = 0 then 1 else 0) else 0)
set_option maxRecDepth 20000 in
theorem s_X6_isRowOf {G : ax_G} {l : Launch} (mem : ax_Me) (p0 : Int32) (p1 : Int32) (p2 : Int32)  : AD G l 2 mX6_isRowOf [.int p0, .int p1, .int p2] mem (some (.int (F_X6_isRowOf mem p0 p1 p2))) mem := by
  refine ax_start (ls := [.int p0, .int p1, .int p2]) (u := 0) (by decide +kernel) (Nat.le_of_ble_eq_true rfl) (Nat.le_refl _) (Nat.le_refl _) rfl ?_
  refine ax_iload_n (j := 0) dX6_isRowOf_0 rfl rfl rfl ?_
  refine ad_S1 ksJ6_bitCount_0f7a4 lkX6_46 dX6_isRowOf_1 rfl (Nat.le_of_ble_eq_true rfl) (Nat.le_of_ble_eq_true rfl) (s_J6_bitCount_0f7a4 _ _) ?_
  refine ax_iload_n (j := 2) dX6_isRowOf_4 rfl rfl rfl ?_
  refine ax_icmp_ne (tgt := 20) dX6_isRowOf_5 (by decide) rfl (fun c5 => ?_) (fun c5 => ?_)
  · refine ax_iconst (v := 0) dX6_isRowOf_20 (by decide) rfl ?_
    exact ax_zreturn rfl dX6_isRowOf_21 rfl ⟨by simp only [F_X6_isRowOf, if_neg c5], rfl⟩
  · refine ax_iload_n (j := 0) dX6_isRowOf_8 rfl rfl rfl ?_
    refine ax_iload_n (j := 1) dX6_isRowOf_9 rfl rfl rfl ?_
    refine ad_S2 ksX9_hasBit lkX6_39 dX6_isRowOf_10 rfl (Nat.le_of_ble_eq_true rfl) (Nat.le_of_ble_eq_true rfl) (s_X9_hasBit _ _ _) ?_
    refine ax_if_ne (tgt := 20) dX6_isRowOf_13 (by decide) rfl (fun c13 => ?_) (fun c13 => ?_)
    · refine ax_iconst (v := 0) dX6_isRowOf_20 (by decide) rfl ?_
      exact ax_zreturn rfl dX6_isRowOf_21 rfl ⟨by simp only [F_X6_isRowOf, if_pos c5, if_neg c13], rfl⟩
    · refine ax_iconst (v := 1) dX6_isRowOf_16 (by decide) rfl ?_
      refine ax_goto (tgt := 21) dX6_isRowOf_17 (by decide) ?_
      exact ax_zreturn rfl dX6_isRowOf_21 rfl ⟨by simp only [F_X6_isRowOf, if_pos c5, if_pos c13], rfl⟩

def F_X6_isRowWith (mem : ax_Me) (p0 : Int32) (p1 : Int32) (p2 : Int32) (p3 : Int32) : Int32 :=
  (if (F_X6_isRowOf mem p0 p1 p3) = 0 then 0 else (if (F_X9_hasBit mem p0 p2) = 0 then 0 else 1))
set_option maxRecDepth 20000 in
theorem s_X6_isRowWith {G : ax_G} {l : Launch} (mem : ax_Me) (p0 : Int32) (p1 : Int32) (p2 : Int32) (p3 : Int32)  : AD G l 3 mX6_isRowWith [.int p0, .int p1, .int p2, .int p3] mem (some (.int (F_X6_isRowWith mem p0 p1 p2 p3))) mem := by
  refine ax_start (ls := [.int p0, .int p1, .int p2, .int p3]) (u := 0) (by decide +kernel) (Nat.le_of_ble_eq_true rfl) (Nat.le_refl _) (Nat.le_refl _) rfl ?_
  refine ax_iload_n (j := 0) dX6_isRowWith_0 rfl rfl rfl ?_
  refine ax_iload_n (j := 1) dX6_isRowWith_1 rfl rfl rfl ?_
  refine ax_iload_n (j := 3) dX6_isRowWith_2 rfl rfl rfl ?_
  refine ad_S3 ksX6_isRowOf lkX6_59 dX6_isRowWith_3 rfl (Nat.le_of_ble_eq_true rfl) (Nat.le_of_ble_eq_true rfl) (s_X6_isRowOf _ _ _ _) ?_
  refine ax_if_eq (tgt := 21) dX6_isRowWith_6 (by decide) rfl (fun c6 => ?_) (fun c6 => ?_)
  · refine ax_iconst (v := 0) dX6_isRowWith_21 (by decide) rfl ?_
    exact ax_zreturn rfl dX6_isRowWith_22 rfl ⟨by simp only [F_X6_isRowWith, if_pos c6], rfl⟩
  · refine ax_iload_n (j := 0) dX6_isRowWith_9 rfl rfl rfl ?_
    refine ax_iload_n (j := 2) dX6_isRowWith_10 rfl rfl rfl ?_
    refine ad_S2 ksX9_hasBit lkX6_39 dX6_isRowWith_11 rfl (Nat.le_of_ble_eq_true rfl) (Nat.le_of_ble_eq_true rfl) (s_X9_hasBit _ _ _) ?_
    refine ax_if_eq (tgt := 21) dX6_isRowWith_14 (by decide) rfl (fun c14 => ?_) (fun c14 => ?_)
    · refine ax_iconst (v := 0) dX6_isRowWith_21 (by decide) rfl ?_
      exact ax_zreturn rfl dX6_isRowWith_22 rfl ⟨by simp only [F_X6_isRowWith, if_neg c6, if_pos c14], rfl⟩
    · refine ax_iconst (v := 1) dX6_isRowWith_17 (by decide) rfl ?_
      refine ax_goto (tgt := 22) dX6_isRowWith_18 (by decide) ?_
      exact ax_zreturn rfl dX6_isRowWith_22 rfl ⟨by simp only [F_X6_isRowWith, if_neg c6, if_neg c14], rfl⟩

def f_X6_surest_23 (mem : ax_Me) (a : Nat) (p0 : Int32) (p1 : Int32) (p2 : Int32) (v4 : Int32) (v7 : Int32) (j : Nat) (s : Int32 × Int32) : Int32 × Int32 :=
  match s with
  | (x0, x1) => (if (F_X6_isRowWith mem (nI j) p0 p1 p2) = 0 then (x0, x1) else (if (F_X2_sureness mem a v4 (nI j) p1) ≤ x1 then (x0, x1) else ((nI j), (F_X2_sureness mem a v4 (nI j) p1))))
def F_X6_surest (mem : ax_Me) (a : Nat) (p0 : Int32) (p1 : Int32) (p2 : Int32) : Int32 :=
  (ax_it (f_X6_surest_23 mem a p0 p1 p2 ((F_X5_memoryOf mem a p0 p1)) ((F_X5_everybody mem a))) (((F_X5_everybody mem a) : Int32).toNatClampNeg + 1) (0) ((-1), 0)).1
set_option maxRecDepth 20000 in
theorem lp_X6_surest_23 {G : ax_G} {l : Launch} {Q : Option Value → ax_H → Prop} (mem : ax_Me) {a : Nat} (hP : ax_isP a) (p0 : Int32) (p1 : Int32) (p2 : Int32) (v4 : Int32) (v7 : Int32) (hc : ok8 mem a) (hv : ¬ v7 < 0 ∧ (v7).toNatClampNeg < 1000) : ∀ (n j : Nat) (x0 : Int32) (x1 : Int32), j + n = (v7 : Int32).toNatClampNeg + 1 → AX G l mX6_surest 5 73 [.ref a, .int p0, .int p1, .int p2, .int v4, .int (ax_it (f_X6_surest_23 mem a p0 p1 p2 v4 v7) n j (x0, x1)).1, .int (ax_it (f_X6_surest_23 mem a p0 p1 p2 v4 v7) n j (x0, x1)).2, .int v7, .int (nI ((v7 : Int32).toNatClampNeg + 1)), .float 0] [] 153 0 (ax_hm mem) 153 0 Q → AX G l mX6_surest 5 23 [.ref a, .int p0, .int p1, .int p2, .int v4, .int x0, .int x1, .int v7, .int (nI j), .float 0] [] 153 0 (ax_hm mem) 153 0 Q := by
  intro n
  induction n with
  | zero =>
    intro j x0 x1 hj hx
    refine ax_iload dX6_surest_23 rfl rfl ?_
    refine ax_iload dX6_surest_25 rfl rfl ?_
    refine ax_icmp_gt (tgt := 73) dX6_surest_27 (by decide) rfl (fun c27 => ?_) (fun c27 => ?_)
    · have q := hx
      simp only [ax_it] at q
      rw [show ((v7 : Int32).toNatClampNeg + 1) = j by omega] at q
      exact q
    · exact absurd (cl_gt (by omega) (by have := hv.2; omega)) c27
  | succ n ih =>
    intro j x0 x1 hj hx
    refine ax_iload dX6_surest_23 rfl rfl ?_
    refine ax_iload dX6_surest_25 rfl rfl ?_
    refine ax_icmp_gt (tgt := 73) dX6_surest_27 (by decide) rfl (fun c27 => ?_) (fun c27 => ?_)
    · exact absurd c27 (cl_ngt (by omega) (Or.inr hv.1))
    · refine ax_iload dX6_surest_30 rfl rfl ?_
      refine ax_iload_n (j := 1) dX6_surest_32 rfl rfl rfl ?_
      refine ax_iload_n (j := 2) dX6_surest_33 rfl rfl rfl ?_
      refine ax_iload_n (j := 3) dX6_surest_34 rfl rfl rfl ?_
      refine ad_S4 ksX6_isRowWith lkX6_19 dX6_surest_35 rfl (Nat.le_of_ble_eq_true rfl) (Nat.le_of_ble_eq_true rfl) (s_X6_isRowWith _ _ _ _ _) ?_
      refine ax_if_eq (tgt := 67) dX6_surest_38 (by decide) rfl (fun c38 => ?_) (fun c38 => ?_)
      · refine ax_iinc8 (v := nI (j + 1)) dX6_surest_67 rfl (cl_inc j) (Nat.le_of_ble_eq_true rfl) rfl ?_
        refine ax_goto (tgt := 23) dX6_surest_70 (by decide) ?_
        have e1 : f_X6_surest_23 mem a p0 p1 p2 v4 v7 j (x0, x1) = (x0, x1) := by simp only [f_X6_surest_23, if_pos c38]
        simp only [ax_it, e1] at hx
        exact ih (j + 1) (x0) (x1) (by omega) hx
      · refine ax_aload_n (j := 0) dX6_surest_41 rfl rfl rfl ?_
        refine ax_iload dX6_surest_42 rfl rfl ?_
        refine ax_iload dX6_surest_44 rfl rfl ?_
        refine ax_iload_n (j := 2) dX6_surest_46 rfl rfl rfl ?_
        refine ad_S4 ksX2_sureness lkX6_25 dX6_surest_47 rfl (Nat.le_of_ble_eq_true rfl) (Nat.le_of_ble_eq_true rfl) (s_X2_sureness _ hP _ _ _) ?_
        refine ax_ist9 dX6_surest_50 rfl (Nat.le_of_ble_eq_true rfl) rfl ?_
        refine ax_iload dX6_surest_52 rfl rfl ?_
        refine ax_iload dX6_surest_54 rfl rfl ?_
        refine ax_icmp_le (tgt := 67) dX6_surest_56 (by decide) rfl (fun c56 => ?_) (fun c56 => ?_)
        · refine ax_iinc8 (v := nI (j + 1)) dX6_surest_67 rfl (cl_inc j) (Nat.le_of_ble_eq_true rfl) rfl ?_
          refine ax_goto (tgt := 23) dX6_surest_70 (by decide) ?_
          refine ax_fg9 ?_
          have e1 : f_X6_surest_23 mem a p0 p1 p2 v4 v7 j (x0, x1) = (x0, x1) := by simp only [f_X6_surest_23, if_neg c38, if_pos c56]
          simp only [ax_it, e1] at hx
          exact ih (j + 1) (x0) (x1) (by omega) hx
        · refine ax_iload dX6_surest_59 rfl rfl ?_
          refine ax_ist6 dX6_surest_61 rfl (Nat.le_of_ble_eq_true rfl) rfl ?_
          refine ax_iload dX6_surest_63 rfl rfl ?_
          refine ax_ist5 dX6_surest_65 rfl (Nat.le_of_ble_eq_true rfl) rfl ?_
          refine ax_iinc8 (v := nI (j + 1)) dX6_surest_67 rfl (cl_inc j) (Nat.le_of_ble_eq_true rfl) rfl ?_
          refine ax_goto (tgt := 23) dX6_surest_70 (by decide) ?_
          refine ax_fg9 ?_
          have e1 : f_X6_surest_23 mem a p0 p1 p2 v4 v7 j (x0, x1) = ((nI j), (F_X2_sureness mem a v4 (nI j) p1)) := by simp only [f_X6_surest_23, if_neg c38, if_neg c56]
          simp only [ax_it, e1] at hx
          exact ih (j + 1) ((nI j)) ((F_X2_sureness mem a v4 (nI j) p1)) (by omega) hx
set_option maxRecDepth 20000 in
theorem s_X6_surest {G : ax_G} {l : Launch} (mem : ax_Me) {a : Nat} (hP : ax_isP a) (p0 : Int32) (p1 : Int32) (p2 : Int32) (hc : ok8 mem a) : AD G l 5 mX6_surest [.ref a, .int p0, .int p1, .int p2] mem (some (.int (F_X6_surest mem a p0 p1 p2))) mem := by
  refine ax_start (ls := [.ref a, .int p0, .int p1, .int p2, .float 0, .float 0, .float 0, .float 0, .float 0, .float 0]) (u := 6) (by decide +kernel) (Nat.le_of_ble_eq_true rfl) (Nat.le_refl _) (Nat.le_refl _) rfl ?_
  refine ax_aload_n (j := 0) dX6_surest_0 rfl rfl rfl ?_
  refine ax_iload_n (j := 1) dX6_surest_1 rfl rfl rfl ?_
  refine ax_iload_n (j := 2) dX6_surest_2 rfl rfl rfl ?_
  refine ad_V2 ksX5_memoryOf lkX6_9 dX6_surest_3 rfl hP.o rfl (Nat.le_of_ble_eq_true rfl) (Nat.le_of_ble_eq_true rfl) (s_X5_memoryOf _ hP _ _) ?_
  refine ax_ist4 dX6_surest_6 rfl (Nat.le_of_ble_eq_true rfl) rfl ?_
  refine ax_iconst (v := (-1)) dX6_surest_8 (by decide) rfl ?_
  refine ax_ist5 dX6_surest_9 rfl (Nat.le_of_ble_eq_true rfl) rfl ?_
  refine ax_iconst (v := 0) dX6_surest_11 (by decide) rfl ?_
  refine ax_ist6 dX6_surest_12 rfl (Nat.le_of_ble_eq_true rfl) rfl ?_
  refine ax_aload_n (j := 0) dX6_surest_14 rfl rfl rfl ?_
  refine ad_V0 ksX5_everybody lkX6_15 dX6_surest_15 rfl hP.o rfl (Nat.le_of_ble_eq_true rfl) (Nat.le_of_ble_eq_true rfl) (s_X5_everybody _ hP) ?_
  refine ax_ist7 dX6_surest_18 rfl (Nat.le_of_ble_eq_true rfl) rfl ?_
  refine ax_iconst (v := 0) dX6_surest_20 (by decide) rfl ?_
  refine ax_ist8 dX6_surest_21 rfl (Nat.le_of_ble_eq_true rfl) rfl ?_
  refine lp_X6_surest_23 mem hP p0 p1 p2 ((F_X5_memoryOf mem a p0 p1)) ((F_X5_everybody mem a)) hc (ev_ok hc) (((F_X5_everybody mem a) : Int32).toNatClampNeg + 1) (0) ((-1)) (0) (Nat.zero_add _)  ?_
  refine ax_iload dX6_surest_73 rfl rfl ?_
  exact ax_ireturn rfl dX6_surest_75 ⟨by simp only [F_X6_surest], rfl⟩

def f_X6_surestWitness_8 (mem : ax_Me) (a : Nat) (p0 : Int32) (p1 : Int32)  (j : Nat) (s : Int32 × Int32) : Int32 × Int32 :=
  match s with
  | (x0, x1) => (if (F_X5_knows mem a (nI j) p0) = 0 then (x0, x1) else (if (F_X9_hasBit mem p1 (nI j)) = 0 then (if (F_X2_sureness mem a (F_X5_memoryOf mem a (nI j) p0) p1 p0) ≤ x1 then (x0, x1) else ((nI j), (F_X2_sureness mem a (F_X5_memoryOf mem a (nI j) p0) p1 p0))) else (x0, x1)))
def F_X6_surestWitness (mem : ax_Me) (a : Nat) (p0 : Int32) (p1 : Int32) : Int32 :=
  (ax_it (f_X6_surestWitness_8 mem a p0 p1) (((mem a 4) : Int32).toNatClampNeg) (0) ((-1), 0)).1
set_option maxRecDepth 20000 in
theorem lp_X6_surestWitness_8 {G : ax_G} {l : Launch} {Q : Option Value → ax_H → Prop} (mem : ax_Me) {a : Nat} (hP : ax_isP a) (p0 : Int32) (p1 : Int32)   : ∀ (n j : Nat) (x0 : Int32) (x1 : Int32), j + n = ((mem a 4) : Int32).toNatClampNeg → AX G l mX6_surestWitness 5 71 [.ref a, .int p0, .int p1, .int (ax_it (f_X6_surestWitness_8 mem a p0 p1) n j (x0, x1)).1, .int (ax_it (f_X6_surestWitness_8 mem a p0 p1) n j (x0, x1)).2, .int (nI (((mem a 4) : Int32).toNatClampNeg)), .float 0] [] 153 0 (ax_hm mem) 153 0 Q → AX G l mX6_surestWitness 5 8 [.ref a, .int p0, .int p1, .int x0, .int x1, .int (nI j), .float 0] [] 153 0 (ax_hm mem) 153 0 Q := by
  intro n
  induction n with
  | zero =>
    intro j x0 x1 hj hx
    refine ax_iload dX6_surestWitness_8 rfl rfl ?_
    refine ax_aload_n (j := 0) dX6_surestWitness_10 rfl rfl rfl ?_
    refine am_getI flX6_31 dX6_surestWitness_11 rfl hP.o rfl ?_
    refine ax_icmp_ge (tgt := 71) dX6_surestWitness_14 (by decide) rfl (fun c14 => ?_) (fun c14 => ?_)
    · have q := hx
      simp only [ax_it] at q
      rw [show (((mem a 4) : Int32).toNatClampNeg) = j by omega] at q
      exact q
    · exact absurd (cl_ge (by omega)) c14
  | succ n ih =>
    intro j x0 x1 hj hx
    refine ax_iload dX6_surestWitness_8 rfl rfl ?_
    refine ax_aload_n (j := 0) dX6_surestWitness_10 rfl rfl rfl ?_
    refine am_getI flX6_31 dX6_surestWitness_11 rfl hP.o rfl ?_
    refine ax_icmp_ge (tgt := 71) dX6_surestWitness_14 (by decide) rfl (fun c14 => ?_) (fun c14 => ?_)
    · exact absurd c14 (cl_nle (by omega))
    · refine ax_aload_n (j := 0) dX6_surestWitness_17 rfl rfl rfl ?_
      refine ax_iload dX6_surestWitness_18 rfl rfl ?_
      refine ax_iload_n (j := 1) dX6_surestWitness_20 rfl rfl rfl ?_
      refine ad_V2 ksX5_knows lkX6_35 dX6_surestWitness_21 rfl hP.o rfl (Nat.le_of_ble_eq_true rfl) (Nat.le_of_ble_eq_true rfl) (s_X5_knows _ hP _ _) ?_
      refine ax_if_eq (tgt := 65) dX6_surestWitness_24 (by decide) rfl (fun c24 => ?_) (fun c24 => ?_)
      · refine ax_iinc5 (v := nI (j + 1)) dX6_surestWitness_65 rfl (cl_inc j) (Nat.le_of_ble_eq_true rfl) rfl ?_
        refine ax_goto (tgt := 8) dX6_surestWitness_68 (by decide) ?_
        have e1 : f_X6_surestWitness_8 mem a p0 p1 j (x0, x1) = (x0, x1) := by simp only [f_X6_surestWitness_8, if_pos c24]
        simp only [ax_it, e1] at hx
        exact ih (j + 1) (x0) (x1) (by omega) hx
      · refine ax_iload_n (j := 2) dX6_surestWitness_27 rfl rfl rfl ?_
        refine ax_iload dX6_surestWitness_28 rfl rfl ?_
        refine ad_S2 ksX9_hasBit lkX6_39 dX6_surestWitness_30 rfl (Nat.le_of_ble_eq_true rfl) (Nat.le_of_ble_eq_true rfl) (s_X9_hasBit _ _ _) ?_
        refine ax_if_ne (tgt := 65) dX6_surestWitness_33 (by decide) rfl (fun c33 => ?_) (fun c33 => ?_)
        · refine ax_iinc5 (v := nI (j + 1)) dX6_surestWitness_65 rfl (cl_inc j) (Nat.le_of_ble_eq_true rfl) rfl ?_
          refine ax_goto (tgt := 8) dX6_surestWitness_68 (by decide) ?_
          have e1 : f_X6_surestWitness_8 mem a p0 p1 j (x0, x1) = (x0, x1) := by simp only [f_X6_surestWitness_8, if_neg c24, if_neg c33]
          simp only [ax_it, e1] at hx
          exact ih (j + 1) (x0) (x1) (by omega) hx
        · refine ax_aload_n (j := 0) dX6_surestWitness_36 rfl rfl rfl ?_
          refine ax_aload_n (j := 0) dX6_surestWitness_37 rfl rfl rfl ?_
          refine ax_iload dX6_surestWitness_38 rfl rfl ?_
          refine ax_iload_n (j := 1) dX6_surestWitness_40 rfl rfl rfl ?_
          refine ad_V2 ksX5_memoryOf lkX6_9 dX6_surestWitness_41 rfl hP.o rfl (Nat.le_of_ble_eq_true rfl) (Nat.le_of_ble_eq_true rfl) (s_X5_memoryOf _ hP _ _) ?_
          refine ax_iload_n (j := 2) dX6_surestWitness_44 rfl rfl rfl ?_
          refine ax_iload_n (j := 1) dX6_surestWitness_45 rfl rfl rfl ?_
          refine ad_S4 ksX2_sureness lkX6_25 dX6_surestWitness_46 rfl (Nat.le_of_ble_eq_true rfl) (Nat.le_of_ble_eq_true rfl) (s_X2_sureness _ hP _ _ _) ?_
          refine ax_ist6 dX6_surestWitness_49 rfl (Nat.le_of_ble_eq_true rfl) rfl ?_
          refine ax_iload dX6_surestWitness_51 rfl rfl ?_
          refine ax_iload dX6_surestWitness_53 rfl rfl ?_
          refine ax_icmp_le (tgt := 65) dX6_surestWitness_55 (by decide) rfl (fun c55 => ?_) (fun c55 => ?_)
          · refine ax_iinc5 (v := nI (j + 1)) dX6_surestWitness_65 rfl (cl_inc j) (Nat.le_of_ble_eq_true rfl) rfl ?_
            refine ax_goto (tgt := 8) dX6_surestWitness_68 (by decide) ?_
            refine ax_fg6 ?_
            have e1 : f_X6_surestWitness_8 mem a p0 p1 j (x0, x1) = (x0, x1) := by simp only [f_X6_surestWitness_8, if_neg c24, if_pos c33, if_pos c55]
            simp only [ax_it, e1] at hx
            exact ih (j + 1) (x0) (x1) (by omega) hx
          · refine ax_iload dX6_surestWitness_58 rfl rfl ?_
            refine ax_ist4 dX6_surestWitness_60 rfl (Nat.le_of_ble_eq_true rfl) rfl ?_
            refine ax_iload dX6_surestWitness_62 rfl rfl ?_
            refine ax_ist3 dX6_surestWitness_64 rfl rfl (Nat.le_of_ble_eq_true rfl) rfl ?_
            refine ax_iinc5 (v := nI (j + 1)) dX6_surestWitness_65 rfl (cl_inc j) (Nat.le_of_ble_eq_true rfl) rfl ?_
            refine ax_goto (tgt := 8) dX6_surestWitness_68 (by decide) ?_
            refine ax_fg6 ?_
            have e1 : f_X6_surestWitness_8 mem a p0 p1 j (x0, x1) = ((nI j), (F_X2_sureness mem a (F_X5_memoryOf mem a (nI j) p0) p1 p0)) := by simp only [f_X6_surestWitness_8, if_neg c24, if_pos c33, if_neg c55]
            simp only [ax_it, e1] at hx
            exact ih (j + 1) ((nI j)) ((F_X2_sureness mem a (F_X5_memoryOf mem a (nI j) p0) p1 p0)) (by omega) hx
set_option maxRecDepth 20000 in
theorem s_X6_surestWitness {G : ax_G} {l : Launch} (mem : ax_Me) {a : Nat} (hP : ax_isP a) (p0 : Int32) (p1 : Int32)  : AD G l 5 mX6_surestWitness [.ref a, .int p0, .int p1] mem (some (.int (F_X6_surestWitness mem a p0 p1))) mem := by
  refine ax_start (ls := [.ref a, .int p0, .int p1, .float 0, .float 0, .float 0, .float 0]) (u := 4) (by decide +kernel) (Nat.le_of_ble_eq_true rfl) (Nat.le_refl _) (Nat.le_refl _) rfl ?_
  refine ax_iconst (v := (-1)) dX6_surestWitness_0 (by decide) rfl ?_
  refine ax_ist3 dX6_surestWitness_1 rfl rfl (Nat.le_of_ble_eq_true rfl) rfl ?_
  refine ax_iconst (v := 0) dX6_surestWitness_2 (by decide) rfl ?_
  refine ax_ist4 dX6_surestWitness_3 rfl (Nat.le_of_ble_eq_true rfl) rfl ?_
  refine ax_iconst (v := 0) dX6_surestWitness_5 (by decide) rfl ?_
  refine ax_ist5 dX6_surestWitness_6 rfl (Nat.le_of_ble_eq_true rfl) rfl ?_
  refine lp_X6_surestWitness_8 mem hP p0 p1    (((mem a 4) : Int32).toNatClampNeg) (0) ((-1)) (0) (Nat.zero_add _)  ?_
  refine ax_iload_n (j := 3) dX6_surestWitness_71 rfl rfl rfl ?_
  exact ax_ireturn rfl dX6_surestWitness_72 ⟨by simp only [F_X6_surestWitness], rfl⟩

def f_X6_fewestMarks_24 (mem : ax_Me) (a : Nat) (p0 : Int32) (p1 : Int32) (p2 : Int32) (p3 : Int32) (v5 : Int32) (j : Nat) (s : Int32 × Int32) : Int32 × Int32 :=
  match s with
  | (x0, x1) => (if x1 ≤ (F_J6_bitCount_0f7a4 mem (nI j)) then (x0, x1) else (if (F_X2_lead mem a p0 p2 ((F_X5_marksOf mem a p2) ^^^ (nI j)) v5) < p3 then (x0, x1) else ((nI j), (F_J6_bitCount_0f7a4 mem (nI j)))))
def F_X6_fewestMarks (mem : ax_Me) (a : Nat) (p0 : Int32) (p1 : Int32) (p2 : Int32) (p3 : Int32) : Int32 :=
  (ax_it (f_X6_fewestMarks_24 mem a p0 p1 p2 p3 ((F_X2_pick mem a p0 (p1 &&& ((1 <<< (p2 &&& 31)) ^^^ (-1)))))) (256) (0) ((-1), 9)).1
set_option maxRecDepth 20000 in
theorem lp_X6_fewestMarks_24 {G : ax_G} {l : Launch} {Q : Option Value → ax_H → Prop} (mem : ax_Me) {a : Nat} (hP : ax_isP a) (p0 : Int32) (p1 : Int32) (p2 : Int32) (p3 : Int32) (v5 : Int32)  : ∀ (n j : Nat) (x0 : Int32) (x1 : Int32), j + n = 256 → AX G l mX6_fewestMarks 4 81 [.ref a, .int p0, .int p1, .int p2, .int p3, .int v5, .int (ax_it (f_X6_fewestMarks_24 mem a p0 p1 p2 p3 v5) n j (x0, x1)).1, .int (ax_it (f_X6_fewestMarks_24 mem a p0 p1 p2 p3 v5) n j (x0, x1)).2, .int (nI (256)), .float 0] [] 153 0 (ax_hm mem) 153 0 Q → AX G l mX6_fewestMarks 4 24 [.ref a, .int p0, .int p1, .int p2, .int p3, .int v5, .int x0, .int x1, .int (nI j), .float 0] [] 153 0 (ax_hm mem) 153 0 Q := by
  intro n
  induction n with
  | zero =>
    intro j x0 x1 hj hx
    refine ax_iload dX6_fewestMarks_24 rfl rfl ?_
    refine ax_sipush (v := 255) dX6_fewestMarks_26 (by decide) rfl ?_
    refine ax_icmp_gt (tgt := 81) dX6_fewestMarks_29 (by decide) rfl (fun c29 => ?_) (fun c29 => ?_)
    · have q := hx
      simp only [ax_it] at q
      rw [show (256) = j by omega] at q
      exact q
    · exact absurd (cl_gt (x := 255) (by have : (255 : Int32).toNatClampNeg = 255 := rfl; omega) (by decide)) c29
  | succ n ih =>
    intro j x0 x1 hj hx
    refine ax_iload dX6_fewestMarks_24 rfl rfl ?_
    refine ax_sipush (v := 255) dX6_fewestMarks_26 (by decide) rfl ?_
    refine ax_icmp_gt (tgt := 81) dX6_fewestMarks_29 (by decide) rfl (fun c29 => ?_) (fun c29 => ?_)
    · exact absurd c29 (cl_ngt (x := 255) (by have : (255 : Int32).toNatClampNeg = 255 := rfl; omega) (Or.inr (by decide)))
    · refine ax_iload dX6_fewestMarks_32 rfl rfl ?_
      refine ad_S1 ksJ6_bitCount_0f7a4 lkX6_46 dX6_fewestMarks_34 rfl (Nat.le_of_ble_eq_true rfl) (Nat.le_of_ble_eq_true rfl) (s_J6_bitCount_0f7a4 _ _) ?_
      refine ax_ist9 dX6_fewestMarks_37 rfl (Nat.le_of_ble_eq_true rfl) rfl ?_
      refine ax_iload dX6_fewestMarks_39 rfl rfl ?_
      refine ax_iload dX6_fewestMarks_41 rfl rfl ?_
      refine ax_icmp_ge (tgt := 75) dX6_fewestMarks_43 (by decide) rfl (fun c43 => ?_) (fun c43 => ?_)
      · refine ax_iinc8 (v := nI (j + 1)) dX6_fewestMarks_75 rfl (cl_inc j) (Nat.le_of_ble_eq_true rfl) rfl ?_
        refine ax_goto (tgt := 24) dX6_fewestMarks_78 (by decide) ?_
        refine ax_fg9 ?_
        have e1 : f_X6_fewestMarks_24 mem a p0 p1 p2 p3 v5 j (x0, x1) = (x0, x1) := by simp only [f_X6_fewestMarks_24, if_pos c43]
        simp only [ax_it, e1] at hx
        exact ih (j + 1) (x0) (x1) (by omega) hx
      · refine ax_aload_n (j := 0) dX6_fewestMarks_46 rfl rfl rfl ?_
        refine ax_iload_n (j := 1) dX6_fewestMarks_47 rfl rfl rfl ?_
        refine ax_iload_n (j := 3) dX6_fewestMarks_48 rfl rfl rfl ?_
        refine ax_aload_n (j := 0) dX6_fewestMarks_49 rfl rfl rfl ?_
        refine ax_iload_n (j := 3) dX6_fewestMarks_50 rfl rfl rfl ?_
        refine ad_V1 ksX5_marksOf lkX6_52 dX6_fewestMarks_51 rfl hP.o rfl (Nat.le_of_ble_eq_true rfl) (Nat.le_of_ble_eq_true rfl) (s_X5_marksOf _ hP _) ?_
        refine ax_iload dX6_fewestMarks_54 rfl rfl ?_
        refine ax_ixor dX6_fewestMarks_56 rfl ?_
        refine ax_iload dX6_fewestMarks_57 rfl rfl ?_
        refine ad_S5 ksX2_lead lkX6_55 dX6_fewestMarks_59 rfl (Nat.le_of_ble_eq_true rfl) (Nat.le_of_ble_eq_true rfl) (s_X2_lead _ hP _ _ _ _) ?_
        refine ax_iload dX6_fewestMarks_62 rfl rfl ?_
        refine ax_icmp_lt (tgt := 75) dX6_fewestMarks_64 (by decide) rfl (fun c64 => ?_) (fun c64 => ?_)
        · refine ax_iinc8 (v := nI (j + 1)) dX6_fewestMarks_75 rfl (cl_inc j) (Nat.le_of_ble_eq_true rfl) rfl ?_
          refine ax_goto (tgt := 24) dX6_fewestMarks_78 (by decide) ?_
          refine ax_fg9 ?_
          have e1 : f_X6_fewestMarks_24 mem a p0 p1 p2 p3 v5 j (x0, x1) = (x0, x1) := by simp only [f_X6_fewestMarks_24, if_neg c43, if_pos c64]
          simp only [ax_it, e1] at hx
          exact ih (j + 1) (x0) (x1) (by omega) hx
        · refine ax_iload dX6_fewestMarks_67 rfl rfl ?_
          refine ax_ist7 dX6_fewestMarks_69 rfl (Nat.le_of_ble_eq_true rfl) rfl ?_
          refine ax_iload dX6_fewestMarks_71 rfl rfl ?_
          refine ax_ist6 dX6_fewestMarks_73 rfl (Nat.le_of_ble_eq_true rfl) rfl ?_
          refine ax_iinc8 (v := nI (j + 1)) dX6_fewestMarks_75 rfl (cl_inc j) (Nat.le_of_ble_eq_true rfl) rfl ?_
          refine ax_goto (tgt := 24) dX6_fewestMarks_78 (by decide) ?_
          refine ax_fg9 ?_
          have e1 : f_X6_fewestMarks_24 mem a p0 p1 p2 p3 v5 j (x0, x1) = ((nI j), (F_J6_bitCount_0f7a4 mem (nI j))) := by simp only [f_X6_fewestMarks_24, if_neg c43, if_neg c64]
          simp only [ax_it, e1] at hx
          exact ih (j + 1) ((nI j)) ((F_J6_bitCount_0f7a4 mem (nI j))) (by omega) hx
set_option maxRecDepth 20000 in
theorem s_X6_fewestMarks {G : ax_G} {l : Launch} (mem : ax_Me) {a : Nat} (hP : ax_isP a) (p0 : Int32) (p1 : Int32) (p2 : Int32) (p3 : Int32)  : AD G l 4 mX6_fewestMarks [.ref a, .int p0, .int p1, .int p2, .int p3] mem (some (.int (F_X6_fewestMarks mem a p0 p1 p2 p3))) mem := by
  refine ax_start (ls := [.ref a, .int p0, .int p1, .int p2, .int p3, .float 0, .float 0, .float 0, .float 0, .float 0]) (u := 5) (by decide +kernel) (Nat.le_of_ble_eq_true rfl) (Nat.le_refl _) (Nat.le_refl _) rfl ?_
  refine ax_aload_n (j := 0) dX6_fewestMarks_0 rfl rfl rfl ?_
  refine ax_iload_n (j := 1) dX6_fewestMarks_1 rfl rfl rfl ?_
  refine ax_iload_n (j := 2) dX6_fewestMarks_2 rfl rfl rfl ?_
  refine ax_iconst (v := 1) dX6_fewestMarks_3 (by decide) rfl ?_
  refine ax_iload_n (j := 3) dX6_fewestMarks_4 rfl rfl rfl ?_
  refine ax_ishl dX6_fewestMarks_5 rfl ?_
  refine ax_iconst (v := (-1)) dX6_fewestMarks_6 (by decide) rfl ?_
  refine ax_ixor dX6_fewestMarks_7 rfl ?_
  refine ax_iand dX6_fewestMarks_8 rfl ?_
  refine ad_S3 ksX2_pick lkX6_42 dX6_fewestMarks_9 rfl (Nat.le_of_ble_eq_true rfl) (Nat.le_of_ble_eq_true rfl) (s_X2_pick _ hP _ _) ?_
  refine ax_ist5 dX6_fewestMarks_12 rfl (Nat.le_of_ble_eq_true rfl) rfl ?_
  refine ax_iconst (v := (-1)) dX6_fewestMarks_14 (by decide) rfl ?_
  refine ax_ist6 dX6_fewestMarks_15 rfl (Nat.le_of_ble_eq_true rfl) rfl ?_
  refine ax_bipush (v := 9) dX6_fewestMarks_17 (by decide) rfl ?_
  refine ax_ist7 dX6_fewestMarks_19 rfl (Nat.le_of_ble_eq_true rfl) rfl ?_
  refine ax_iconst (v := 0) dX6_fewestMarks_21 (by decide) rfl ?_
  refine ax_ist8 dX6_fewestMarks_22 rfl (Nat.le_of_ble_eq_true rfl) rfl ?_
  refine lp_X6_fewestMarks_24 mem hP p0 p1 p2 p3 ((F_X2_pick mem a p0 (p1 &&& ((1 <<< (p2 &&& 31)) ^^^ (-1)))))   (256) (0) ((-1)) (9) (Nat.zero_add _)  ?_
  refine ax_iload dX6_fewestMarks_81 rfl rfl ?_
  exact ax_ireturn rfl dX6_fewestMarks_83 ⟨by simp only [F_X6_fewestMarks], rfl⟩

def f_X6_countPicking_12 (mem : ax_Me) (a : Nat) (p0 : Int32) (p1 : Int32) (p2 : Int32) (p3 : Int32) (v6 : Int32) (j : Nat) (s : Int32) : Int32 :=
  match s with
  | x0 => (if (F_X6_isRowWith mem (nI j) p1 p2 p3) = 0 then x0 else (if (F_X2_pick mem a p0 (nI j)) = p2 then (x0 + 1) else x0))
def F_X6_countPicking (mem : ax_Me) (a : Nat) (p0 : Int32) (p1 : Int32) (p2 : Int32) (p3 : Int32) : Int32 :=
  (ax_it (f_X6_countPicking_12 mem a p0 p1 p2 p3 ((F_X5_everybody mem a))) (((F_X5_everybody mem a) : Int32).toNatClampNeg + 1) (0) 0)
set_option maxRecDepth 20000 in
theorem lp_X6_countPicking_12 {G : ax_G} {l : Launch} {Q : Option Value → ax_H → Prop} (mem : ax_Me) {a : Nat} (hP : ax_isP a) (p0 : Int32) (p1 : Int32) (p2 : Int32) (p3 : Int32) (v6 : Int32) (hc : ok8 mem a) (hv : ¬ v6 < 0 ∧ (v6).toNatClampNeg < 1000) : ∀ (n j : Nat) (x0 : Int32), j + n = (v6 : Int32).toNatClampNeg + 1 → AX G l mX6_countPicking 4 51 [.ref a, .int p0, .int p1, .int p2, .int p3, .int (ax_it (f_X6_countPicking_12 mem a p0 p1 p2 p3 v6) n j x0), .int v6, .int (nI ((v6 : Int32).toNatClampNeg + 1))] [] 153 0 (ax_hm mem) 153 0 Q → AX G l mX6_countPicking 4 12 [.ref a, .int p0, .int p1, .int p2, .int p3, .int x0, .int v6, .int (nI j)] [] 153 0 (ax_hm mem) 153 0 Q := by
  intro n
  induction n with
  | zero =>
    intro j x0 hj hx
    refine ax_iload dX6_countPicking_12 rfl rfl ?_
    refine ax_iload dX6_countPicking_14 rfl rfl ?_
    refine ax_icmp_gt (tgt := 51) dX6_countPicking_16 (by decide) rfl (fun c16 => ?_) (fun c16 => ?_)
    · have q := hx
      simp only [ax_it] at q
      rw [show ((v6 : Int32).toNatClampNeg + 1) = j by omega] at q
      exact q
    · exact absurd (cl_gt (by omega) (by have := hv.2; omega)) c16
  | succ n ih =>
    intro j x0 hj hx
    refine ax_iload dX6_countPicking_12 rfl rfl ?_
    refine ax_iload dX6_countPicking_14 rfl rfl ?_
    refine ax_icmp_gt (tgt := 51) dX6_countPicking_16 (by decide) rfl (fun c16 => ?_) (fun c16 => ?_)
    · exact absurd c16 (cl_ngt (by omega) (Or.inr hv.1))
    · refine ax_iload dX6_countPicking_19 rfl rfl ?_
      refine ax_iload_n (j := 2) dX6_countPicking_21 rfl rfl rfl ?_
      refine ax_iload_n (j := 3) dX6_countPicking_22 rfl rfl rfl ?_
      refine ax_iload dX6_countPicking_23 rfl rfl ?_
      refine ad_S4 ksX6_isRowWith lkX6_19 dX6_countPicking_25 rfl (Nat.le_of_ble_eq_true rfl) (Nat.le_of_ble_eq_true rfl) (s_X6_isRowWith _ _ _ _ _) ?_
      refine ax_if_eq (tgt := 45) dX6_countPicking_28 (by decide) rfl (fun c28 => ?_) (fun c28 => ?_)
      · refine ax_iinc7 (v := nI (j + 1)) dX6_countPicking_45 rfl (cl_inc j) (Nat.le_of_ble_eq_true rfl) rfl ?_
        refine ax_goto (tgt := 12) dX6_countPicking_48 (by decide) ?_
        have e1 : f_X6_countPicking_12 mem a p0 p1 p2 p3 v6 j x0 = x0 := by simp only [f_X6_countPicking_12, if_pos c28]
        simp only [ax_it, e1] at hx
        exact ih (j + 1) (x0) (by omega) hx
      · refine ax_aload_n (j := 0) dX6_countPicking_31 rfl rfl rfl ?_
        refine ax_iload_n (j := 1) dX6_countPicking_32 rfl rfl rfl ?_
        refine ax_iload dX6_countPicking_33 rfl rfl ?_
        refine ad_S3 ksX2_pick lkX6_42 dX6_countPicking_35 rfl (Nat.le_of_ble_eq_true rfl) (Nat.le_of_ble_eq_true rfl) (s_X2_pick _ hP _ _) ?_
        refine ax_iload_n (j := 3) dX6_countPicking_38 rfl rfl rfl ?_
        refine ax_icmp_ne (tgt := 45) dX6_countPicking_39 (by decide) rfl (fun c39 => ?_) (fun c39 => ?_)
        · refine ax_iinc7 (v := nI (j + 1)) dX6_countPicking_45 rfl (cl_inc j) (Nat.le_of_ble_eq_true rfl) rfl ?_
          refine ax_goto (tgt := 12) dX6_countPicking_48 (by decide) ?_
          have e1 : f_X6_countPicking_12 mem a p0 p1 p2 p3 v6 j x0 = x0 := by simp only [f_X6_countPicking_12, if_neg c28, if_neg c39]
          simp only [ax_it, e1] at hx
          exact ih (j + 1) (x0) (by omega) hx
        · refine ax_iinc5 (v := (x0 + 1)) dX6_countPicking_42 rfl rfl (Nat.le_of_ble_eq_true rfl) rfl ?_
          refine ax_iinc7 (v := nI (j + 1)) dX6_countPicking_45 rfl (cl_inc j) (Nat.le_of_ble_eq_true rfl) rfl ?_
          refine ax_goto (tgt := 12) dX6_countPicking_48 (by decide) ?_
          have e1 : f_X6_countPicking_12 mem a p0 p1 p2 p3 v6 j x0 = (x0 + 1) := by simp only [f_X6_countPicking_12, if_neg c28, if_pos c39]
          simp only [ax_it, e1] at hx
          exact ih (j + 1) ((x0 + 1)) (by omega) hx
set_option maxRecDepth 20000 in
theorem s_X6_countPicking {G : ax_G} {l : Launch} (mem : ax_Me) {a : Nat} (hP : ax_isP a) (p0 : Int32) (p1 : Int32) (p2 : Int32) (p3 : Int32) (hc : ok8 mem a) : AD G l 4 mX6_countPicking [.ref a, .int p0, .int p1, .int p2, .int p3] mem (some (.int (F_X6_countPicking mem a p0 p1 p2 p3))) mem := by
  refine ax_start (ls := [.ref a, .int p0, .int p1, .int p2, .int p3, .float 0, .float 0, .float 0]) (u := 3) (by decide +kernel) (Nat.le_of_ble_eq_true rfl) (Nat.le_refl _) (Nat.le_refl _) rfl ?_
  refine ax_iconst (v := 0) dX6_countPicking_0 (by decide) rfl ?_
  refine ax_ist5 dX6_countPicking_1 rfl (Nat.le_of_ble_eq_true rfl) rfl ?_
  refine ax_aload_n (j := 0) dX6_countPicking_3 rfl rfl rfl ?_
  refine ad_V0 ksX5_everybody lkX6_15 dX6_countPicking_4 rfl hP.o rfl (Nat.le_of_ble_eq_true rfl) (Nat.le_of_ble_eq_true rfl) (s_X5_everybody _ hP) ?_
  refine ax_ist6 dX6_countPicking_7 rfl (Nat.le_of_ble_eq_true rfl) rfl ?_
  refine ax_iconst (v := 0) dX6_countPicking_9 (by decide) rfl ?_
  refine ax_ist7 dX6_countPicking_10 rfl (Nat.le_of_ble_eq_true rfl) rfl ?_
  refine lp_X6_countPicking_12 mem hP p0 p1 p2 p3 ((F_X5_everybody mem a)) hc (ev_ok hc) (((F_X5_everybody mem a) : Int32).toNatClampNeg + 1) (0) (0) (Nat.zero_add _)  ?_
  refine ax_iload dX6_countPicking_51 rfl rfl ?_
  exact ax_ireturn rfl dX6_countPicking_53 ⟨by simp only [F_X6_countPicking], rfl⟩

def f_X6_leastPicking_9 (mem : ax_Me) (a : Nat) (p0 : Int32) (p1 : Int32) (p2 : Int32) (p3 : Int32) (v5 : Int32) (j : Nat) (s : Unit) : Int32 ⊕ (Unit) :=
  match s with
  | () => (if (F_X6_isRowWith mem (nI j) p1 p2 p3) = 0 then (Sum.inr ()) else (if (F_X2_pick mem a p0 (nI j)) = p2 then (Sum.inl (nI j)) else (Sum.inr ())))
def F_X6_leastPicking (mem : ax_Me) (a : Nat) (p0 : Int32) (p1 : Int32) (p2 : Int32) (p3 : Int32) : Int32 :=
  (match (ax_lp (f_X6_leastPicking_9 mem a p0 p1 p2 p3 ((F_X5_everybody mem a))) (((F_X5_everybody mem a) : Int32).toNatClampNeg + 1) (0) ()) with | .inl b => b | .inr () => (-1))
set_option maxRecDepth 20000 in
theorem lp_X6_leastPicking_9 {G : ax_G} {l : Launch} {Q : Option Value → ax_H → Prop} (mem : ax_Me) {a : Nat} (hP : ax_isP a) (p0 : Int32) (p1 : Int32) (p2 : Int32) (p3 : Int32) (v5 : Int32) (hc : ok8 mem a) (hv : ¬ v5 < 0 ∧ (v5).toNatClampNeg < 1000) : ∀ (n j : Nat), j + n = (v5 : Int32).toNatClampNeg + 1 → (∀ b : Int32, ax_lp (f_X6_leastPicking_9 mem a p0 p1 p2 p3 v5) n j () = .inl b → Q (some (.int b)) (ax_hm mem)) → (ax_lp (f_X6_leastPicking_9 mem a p0 p1 p2 p3 v5) n j () = .inr () → AX G l mX6_leastPicking 4 48 [.ref a, .int p0, .int p1, .int p2, .int p3, .int v5, .int (nI ((v5 : Int32).toNatClampNeg + 1))] [] 153 0 (ax_hm mem) 153 0 Q) → AX G l mX6_leastPicking 4 9 [.ref a, .int p0, .int p1, .int p2, .int p3, .int v5, .int (nI j)] [] 153 0 (ax_hm mem) 153 0 Q := by
  intro n
  induction n with
  | zero =>
    intro j  hj hr hx
    refine ax_iload dX6_leastPicking_9 rfl rfl ?_
    refine ax_iload dX6_leastPicking_11 rfl rfl ?_
    refine ax_icmp_gt (tgt := 48) dX6_leastPicking_13 (by decide) rfl (fun c13 => ?_) (fun c13 => ?_)
    · have q := hx  rfl
      rw [show ((v5 : Int32).toNatClampNeg + 1) = j by omega] at q
      exact q
    · exact absurd (cl_gt (by omega) (by have := hv.2; omega)) c13
  | succ n ih =>
    intro j  hj hr hx
    refine ax_iload dX6_leastPicking_9 rfl rfl ?_
    refine ax_iload dX6_leastPicking_11 rfl rfl ?_
    refine ax_icmp_gt (tgt := 48) dX6_leastPicking_13 (by decide) rfl (fun c13 => ?_) (fun c13 => ?_)
    · exact absurd c13 (cl_ngt (by omega) (Or.inr hv.1))
    · refine ax_iload dX6_leastPicking_16 rfl rfl ?_
      refine ax_iload_n (j := 2) dX6_leastPicking_18 rfl rfl rfl ?_
      refine ax_iload_n (j := 3) dX6_leastPicking_19 rfl rfl rfl ?_
      refine ax_iload dX6_leastPicking_20 rfl rfl ?_
      refine ad_S4 ksX6_isRowWith lkX6_19 dX6_leastPicking_22 rfl (Nat.le_of_ble_eq_true rfl) (Nat.le_of_ble_eq_true rfl) (s_X6_isRowWith _ _ _ _ _) ?_
      refine ax_if_eq (tgt := 42) dX6_leastPicking_25 (by decide) rfl (fun c25 => ?_) (fun c25 => ?_)
      · refine ax_iinc6 (v := nI (j + 1)) dX6_leastPicking_42 rfl (cl_inc j) (Nat.le_of_ble_eq_true rfl) rfl ?_
        refine ax_goto (tgt := 9) dX6_leastPicking_45 (by decide) ?_
        have e1 : f_X6_leastPicking_9 mem a p0 p1 p2 p3 v5 j () = .inr () := by simp only [f_X6_leastPicking_9, if_pos c25]
        exact ih (j + 1)  (by omega) (fun b q => hr b (by simp only [ax_lp, e1]; exact q)) (fun q => hx (by simp only [ax_lp, e1]; exact q))
      · refine ax_aload_n (j := 0) dX6_leastPicking_28 rfl rfl rfl ?_
        refine ax_iload_n (j := 1) dX6_leastPicking_29 rfl rfl rfl ?_
        refine ax_iload dX6_leastPicking_30 rfl rfl ?_
        refine ad_S3 ksX2_pick lkX6_42 dX6_leastPicking_32 rfl (Nat.le_of_ble_eq_true rfl) (Nat.le_of_ble_eq_true rfl) (s_X2_pick _ hP _ _) ?_
        refine ax_iload_n (j := 3) dX6_leastPicking_35 rfl rfl rfl ?_
        refine ax_icmp_ne (tgt := 42) dX6_leastPicking_36 (by decide) rfl (fun c36 => ?_) (fun c36 => ?_)
        · refine ax_iinc6 (v := nI (j + 1)) dX6_leastPicking_42 rfl (cl_inc j) (Nat.le_of_ble_eq_true rfl) rfl ?_
          refine ax_goto (tgt := 9) dX6_leastPicking_45 (by decide) ?_
          have e1 : f_X6_leastPicking_9 mem a p0 p1 p2 p3 v5 j () = .inr () := by simp only [f_X6_leastPicking_9, if_neg c25, if_neg c36]
          exact ih (j + 1)  (by omega) (fun b q => hr b (by simp only [ax_lp, e1]; exact q)) (fun q => hx (by simp only [ax_lp, e1]; exact q))
        · refine ax_iload dX6_leastPicking_39 rfl rfl ?_
          exact ax_ireturn rfl dX6_leastPicking_41 (hr ((nI j)) (by simp only [ax_lp, f_X6_leastPicking_9, if_neg c25, if_pos c36]))
set_option maxRecDepth 20000 in
theorem s_X6_leastPicking {G : ax_G} {l : Launch} (mem : ax_Me) {a : Nat} (hP : ax_isP a) (p0 : Int32) (p1 : Int32) (p2 : Int32) (p3 : Int32) (hc : ok8 mem a) : AD G l 4 mX6_leastPicking [.ref a, .int p0, .int p1, .int p2, .int p3] mem (some (.int (F_X6_leastPicking mem a p0 p1 p2 p3))) mem := by
  refine ax_start (ls := [.ref a, .int p0, .int p1, .int p2, .int p3, .float 0, .float 0]) (u := 2) (by decide +kernel) (Nat.le_of_ble_eq_true rfl) (Nat.le_refl _) (Nat.le_refl _) rfl ?_
  refine ax_aload_n (j := 0) dX6_leastPicking_0 rfl rfl rfl ?_
  refine ad_V0 ksX5_everybody lkX6_15 dX6_leastPicking_1 rfl hP.o rfl (Nat.le_of_ble_eq_true rfl) (Nat.le_of_ble_eq_true rfl) (s_X5_everybody _ hP) ?_
  refine ax_ist5 dX6_leastPicking_4 rfl (Nat.le_of_ble_eq_true rfl) rfl ?_
  refine ax_iconst (v := 0) dX6_leastPicking_6 (by decide) rfl ?_
  refine ax_ist6 dX6_leastPicking_7 rfl (Nat.le_of_ble_eq_true rfl) rfl ?_
  refine lp_X6_leastPicking_9 mem hP p0 p1 p2 p3 ((F_X5_everybody mem a)) hc (ev_ok hc) (((F_X5_everybody mem a) : Int32).toNatClampNeg + 1) (0)  (Nat.zero_add _)  (fun b h9 => ?_) (fun h9 => ?_)
  · exact ⟨by simp only [F_X6_leastPicking, h9], rfl⟩
  · refine ax_iconst (v := (-1)) dX6_leastPicking_48 (by decide) rfl ?_
    exact ax_ireturn rfl dX6_leastPicking_49 ⟨by simp only [F_X6_leastPicking, h9], rfl⟩

def f_X6_widest_14 (mem : ax_Me) (a : Nat) (p0 : Int32) (p1 : Int32) (v5 : Int32) (j : Nat) (s : Int32 × Int32) : Int32 × Int32 :=
  match s with
  | (x0, x1) => (if (F_X6_isRowOf mem (nI j) p1 3) = 0 then (x0, x1) else (if (F_X2_spread mem a p0 (nI j)) ≤ x1 then (x0, x1) else ((nI j), (F_X2_spread mem a p0 (nI j)))))
def F_X6_widest (mem : ax_Me) (a : Nat) (p0 : Int32) (p1 : Int32) : Int32 :=
  (ax_it (f_X6_widest_14 mem a p0 p1 ((F_X5_everybody mem a))) (((F_X5_everybody mem a) : Int32).toNatClampNeg + 1) (0) ((-1), (-1))).1
set_option maxRecDepth 20000 in
theorem lp_X6_widest_14 {G : ax_G} {l : Launch} {Q : Option Value → ax_H → Prop} (mem : ax_Me) {a : Nat} (hP : ax_isP a) (p0 : Int32) (p1 : Int32) (v5 : Int32) (hc : ok8 mem a) (hv : ¬ v5 < 0 ∧ (v5).toNatClampNeg < 1000) : ∀ (n j : Nat) (x0 : Int32) (x1 : Int32), j + n = (v5 : Int32).toNatClampNeg + 1 → AX G l mX6_widest 4 60 [.ref a, .int p0, .int p1, .int (ax_it (f_X6_widest_14 mem a p0 p1 v5) n j (x0, x1)).1, .int (ax_it (f_X6_widest_14 mem a p0 p1 v5) n j (x0, x1)).2, .int v5, .int (nI ((v5 : Int32).toNatClampNeg + 1)), .float 0] [] 153 0 (ax_hm mem) 153 0 Q → AX G l mX6_widest 4 14 [.ref a, .int p0, .int p1, .int x0, .int x1, .int v5, .int (nI j), .float 0] [] 153 0 (ax_hm mem) 153 0 Q := by
  intro n
  induction n with
  | zero =>
    intro j x0 x1 hj hx
    refine ax_iload dX6_widest_14 rfl rfl ?_
    refine ax_iload dX6_widest_16 rfl rfl ?_
    refine ax_icmp_gt (tgt := 60) dX6_widest_18 (by decide) rfl (fun c18 => ?_) (fun c18 => ?_)
    · have q := hx
      simp only [ax_it] at q
      rw [show ((v5 : Int32).toNatClampNeg + 1) = j by omega] at q
      exact q
    · exact absurd (cl_gt (by omega) (by have := hv.2; omega)) c18
  | succ n ih =>
    intro j x0 x1 hj hx
    refine ax_iload dX6_widest_14 rfl rfl ?_
    refine ax_iload dX6_widest_16 rfl rfl ?_
    refine ax_icmp_gt (tgt := 60) dX6_widest_18 (by decide) rfl (fun c18 => ?_) (fun c18 => ?_)
    · exact absurd c18 (cl_ngt (by omega) (Or.inr hv.1))
    · refine ax_iload dX6_widest_21 rfl rfl ?_
      refine ax_iload_n (j := 2) dX6_widest_23 rfl rfl rfl ?_
      refine ax_iconst (v := 3) dX6_widest_24 (by decide) rfl ?_
      refine ad_S3 ksX6_isRowOf lkX6_59 dX6_widest_25 rfl (Nat.le_of_ble_eq_true rfl) (Nat.le_of_ble_eq_true rfl) (s_X6_isRowOf _ _ _ _) ?_
      refine ax_if_eq (tgt := 54) dX6_widest_28 (by decide) rfl (fun c28 => ?_) (fun c28 => ?_)
      · refine ax_iinc6 (v := nI (j + 1)) dX6_widest_54 rfl (cl_inc j) (Nat.le_of_ble_eq_true rfl) rfl ?_
        refine ax_goto (tgt := 14) dX6_widest_57 (by decide) ?_
        have e1 : f_X6_widest_14 mem a p0 p1 v5 j (x0, x1) = (x0, x1) := by simp only [f_X6_widest_14, if_pos c28]
        simp only [ax_it, e1] at hx
        exact ih (j + 1) (x0) (x1) (by omega) hx
      · refine ax_aload_n (j := 0) dX6_widest_31 rfl rfl rfl ?_
        refine ax_iload_n (j := 1) dX6_widest_32 rfl rfl rfl ?_
        refine ax_iload dX6_widest_33 rfl rfl ?_
        refine ad_S3 ksX2_spread lkX6_63 dX6_widest_35 rfl (Nat.le_of_ble_eq_true rfl) (Nat.le_of_ble_eq_true rfl) (s_X2_spread _ hP _ _) ?_
        refine ax_ist7 dX6_widest_38 rfl (Nat.le_of_ble_eq_true rfl) rfl ?_
        refine ax_iload dX6_widest_40 rfl rfl ?_
        refine ax_iload dX6_widest_42 rfl rfl ?_
        refine ax_icmp_le (tgt := 54) dX6_widest_44 (by decide) rfl (fun c44 => ?_) (fun c44 => ?_)
        · refine ax_iinc6 (v := nI (j + 1)) dX6_widest_54 rfl (cl_inc j) (Nat.le_of_ble_eq_true rfl) rfl ?_
          refine ax_goto (tgt := 14) dX6_widest_57 (by decide) ?_
          refine ax_fg7 ?_
          have e1 : f_X6_widest_14 mem a p0 p1 v5 j (x0, x1) = (x0, x1) := by simp only [f_X6_widest_14, if_neg c28, if_pos c44]
          simp only [ax_it, e1] at hx
          exact ih (j + 1) (x0) (x1) (by omega) hx
        · refine ax_iload dX6_widest_47 rfl rfl ?_
          refine ax_ist4 dX6_widest_49 rfl (Nat.le_of_ble_eq_true rfl) rfl ?_
          refine ax_iload dX6_widest_51 rfl rfl ?_
          refine ax_ist3 dX6_widest_53 rfl rfl (Nat.le_of_ble_eq_true rfl) rfl ?_
          refine ax_iinc6 (v := nI (j + 1)) dX6_widest_54 rfl (cl_inc j) (Nat.le_of_ble_eq_true rfl) rfl ?_
          refine ax_goto (tgt := 14) dX6_widest_57 (by decide) ?_
          refine ax_fg7 ?_
          have e1 : f_X6_widest_14 mem a p0 p1 v5 j (x0, x1) = ((nI j), (F_X2_spread mem a p0 (nI j))) := by simp only [f_X6_widest_14, if_neg c28, if_neg c44]
          simp only [ax_it, e1] at hx
          exact ih (j + 1) ((nI j)) ((F_X2_spread mem a p0 (nI j))) (by omega) hx
set_option maxRecDepth 20000 in
theorem s_X6_widest {G : ax_G} {l : Launch} (mem : ax_Me) {a : Nat} (hP : ax_isP a) (p0 : Int32) (p1 : Int32) (hc : ok8 mem a) : AD G l 4 mX6_widest [.ref a, .int p0, .int p1] mem (some (.int (F_X6_widest mem a p0 p1))) mem := by
  refine ax_start (ls := [.ref a, .int p0, .int p1, .float 0, .float 0, .float 0, .float 0, .float 0]) (u := 5) (by decide +kernel) (Nat.le_of_ble_eq_true rfl) (Nat.le_refl _) (Nat.le_refl _) rfl ?_
  refine ax_iconst (v := (-1)) dX6_widest_0 (by decide) rfl ?_
  refine ax_ist3 dX6_widest_1 rfl rfl (Nat.le_of_ble_eq_true rfl) rfl ?_
  refine ax_iconst (v := (-1)) dX6_widest_2 (by decide) rfl ?_
  refine ax_ist4 dX6_widest_3 rfl (Nat.le_of_ble_eq_true rfl) rfl ?_
  refine ax_aload_n (j := 0) dX6_widest_5 rfl rfl rfl ?_
  refine ad_V0 ksX5_everybody lkX6_15 dX6_widest_6 rfl hP.o rfl (Nat.le_of_ble_eq_true rfl) (Nat.le_of_ble_eq_true rfl) (s_X5_everybody _ hP) ?_
  refine ax_ist5 dX6_widest_9 rfl (Nat.le_of_ble_eq_true rfl) rfl ?_
  refine ax_iconst (v := 0) dX6_widest_11 (by decide) rfl ?_
  refine ax_ist6 dX6_widest_12 rfl (Nat.le_of_ble_eq_true rfl) rfl ?_
  refine lp_X6_widest_14 mem hP p0 p1 ((F_X5_everybody mem a)) hc (ev_ok hc) (((F_X5_everybody mem a) : Int32).toNatClampNeg + 1) (0) ((-1)) ((-1)) (Nat.zero_add _)  ?_
  refine ax_iload_n (j := 3) dX6_widest_60 rfl rfl rfl ?_
  exact ax_ireturn rfl dX6_widest_61 ⟨by simp only [F_X6_widest], rfl⟩

def F_X7_pickNow (mem : ax_Me) (a : Nat) (p0 : Int32) (p1 : Int32) (p2 : Int32) : Int32 :=
  (if (F_X5_knows mem a p0 p1) = 0 then (-1) else (F_X2_pick mem a (F_X5_memoryOf mem a p0 p1) p2))
set_option maxRecDepth 20000 in
theorem s_X7_pickNow {G : ax_G} {l : Launch} (mem : ax_Me) {a : Nat} (hP : ax_isP a) (p0 : Int32) (p1 : Int32) (p2 : Int32)  : AD G l 4 mX7_pickNow [.ref a, .int p0, .int p1, .int p2] mem (some (.int (F_X7_pickNow mem a p0 p1 p2))) mem := by
  refine ax_start (ls := [.ref a, .int p0, .int p1, .int p2]) (u := 0) (by decide +kernel) (Nat.le_of_ble_eq_true rfl) (Nat.le_refl _) (Nat.le_refl _) rfl ?_
  refine ax_aload_n (j := 0) dX7_pickNow_0 rfl rfl rfl ?_
  refine ax_iload_n (j := 1) dX7_pickNow_1 rfl rfl rfl ?_
  refine ax_iload_n (j := 2) dX7_pickNow_2 rfl rfl rfl ?_
  refine ad_V2 ksX5_knows lkX7_36 dX7_pickNow_3 rfl hP.o rfl (Nat.le_of_ble_eq_true rfl) (Nat.le_of_ble_eq_true rfl) (s_X5_knows _ hP _ _) ?_
  refine ax_if_eq (tgt := 23) dX7_pickNow_6 (by decide) rfl (fun c6 => ?_) (fun c6 => ?_)
  · refine ax_iconst (v := (-1)) dX7_pickNow_23 (by decide) rfl ?_
    exact ax_ireturn rfl dX7_pickNow_24 ⟨by simp only [F_X7_pickNow, if_pos c6], rfl⟩
  · refine ax_aload_n (j := 0) dX7_pickNow_9 rfl rfl rfl ?_
    refine ax_aload_n (j := 0) dX7_pickNow_10 rfl rfl rfl ?_
    refine ax_iload_n (j := 1) dX7_pickNow_11 rfl rfl rfl ?_
    refine ax_iload_n (j := 2) dX7_pickNow_12 rfl rfl rfl ?_
    refine ad_V2 ksX5_memoryOf lkX7_42 dX7_pickNow_13 rfl hP.o rfl (Nat.le_of_ble_eq_true rfl) (Nat.le_of_ble_eq_true rfl) (s_X5_memoryOf _ hP _ _) ?_
    refine ax_iload_n (j := 3) dX7_pickNow_16 rfl rfl rfl ?_
    refine ad_S3 ksX2_pick lkX7_46 dX7_pickNow_17 rfl (Nat.le_of_ble_eq_true rfl) (Nat.le_of_ble_eq_true rfl) (s_X2_pick _ hP _ _) ?_
    refine ax_goto (tgt := 24) dX7_pickNow_20 (by decide) ?_
    exact ax_ireturn rfl dX7_pickNow_24 ⟨by simp only [F_X7_pickNow, if_neg c6], rfl⟩

def f_X7_countOtherwise_5 (mem : ax_Me) (a : Nat) (p0 : Int32)  (j : Nat) (s : Int32) : Int32 :=
  match s with
  | x0 => (if (mem 116 (nI j).toNatClampNeg) = p0 then (if (mem 119 (nI j).toNatClampNeg) = (F_X7_pickNow mem a p0 (mem 117 (nI j).toNatClampNeg) (mem 118 (nI j).toNatClampNeg)) then x0 else (x0 + 1)) else x0)
def F_X7_countOtherwise (mem : ax_Me) (a : Nat) (p0 : Int32) : Int32 :=
  (ax_it (f_X7_countOtherwise_5 mem a p0) (min (mem 115 4 : Int32).toNatClampNeg 8) (0) 0)
set_option maxRecDepth 20000 in
theorem lp_X7_countOtherwise_5 {G : ax_G} {l : Launch} {Q : Option Value → ax_H → Prop} (mem : ax_Me) {a : Nat} (hP : ax_isP a) (p0 : Int32)   : ∀ (n j : Nat) (x0 : Int32), j + n = min (mem 115 4 : Int32).toNatClampNeg 8 → AX G l mX7_countOtherwise 5 70 [.ref 115, .ref a, .int p0, .int (ax_it (f_X7_countOtherwise_5 mem a p0) n j x0), .int (nI (min (mem 115 4 : Int32).toNatClampNeg 8))] [] 153 0 (ax_hm mem) 153 0 Q → AX G l mX7_countOtherwise 5 5 [.ref 115, .ref a, .int p0, .int x0, .int (nI j)] [] 153 0 (ax_hm mem) 153 0 Q := by
  intro n
  induction n with
  | zero =>
    intro j x0 hj hx
    refine ax_iload dX7_countOtherwise_5 rfl rfl ?_
    refine ax_aload_n (j := 0) dX7_countOtherwise_7 rfl rfl rfl ?_
    refine am_getI flX7_24 dX7_countOtherwise_8 rfl is115 rfl ?_
    refine ax_icmp_ge (tgt := 70) dX7_countOtherwise_11 (by decide) rfl (fun c11 => ?_) (fun c11 => ?_)
    · have q := hx
      simp only [ax_it] at q
      rw [show (min (mem 115 4 : Int32).toNatClampNeg 8) = j by omega] at q
      exact q
    · refine ax_iload dX7_countOtherwise_14 rfl rfl ?_
      refine ax_bipush (v := 8) dX7_countOtherwise_16 (by decide) rfl ?_
      refine ax_icmp_ge (tgt := 70) dX7_countOtherwise_18 (by decide) rfl (fun c18 => ?_) (fun c18 => ?_)
      · have q := hx
        simp only [ax_it] at q
        rw [show (min (mem 115 4 : Int32).toNatClampNeg 8) = j by omega] at q
        exact q
      · exact absurd (two_ge (b := 8) (k := 8) rfl hj c11) c18
  | succ n ih =>
    intro j x0 hj hx
    refine ax_iload dX7_countOtherwise_5 rfl rfl ?_
    refine ax_aload_n (j := 0) dX7_countOtherwise_7 rfl rfl rfl ?_
    refine am_getI flX7_24 dX7_countOtherwise_8 rfl is115 rfl ?_
    refine ax_icmp_ge (tgt := 70) dX7_countOtherwise_11 (by decide) rfl (fun c11 => ?_) (fun c11 => ?_)
    · exact absurd c11 (cl_nle (by omega))
    · refine ax_iload dX7_countOtherwise_14 rfl rfl ?_
      refine ax_bipush (v := 8) dX7_countOtherwise_16 (by decide) rfl ?_
      refine ax_icmp_ge (tgt := 70) dX7_countOtherwise_18 (by decide) rfl (fun c18 => ?_) (fun c18 => ?_)
      · exact absurd c18 (cl_nle (x := 8) (by have : (8 : Int32).toNatClampNeg = 8 := rfl; omega))
      · refine ax_aload_n (j := 0) dX7_countOtherwise_21 rfl rfl rfl ?_
        refine am_getR flX7_9 dX7_countOtherwise_22 rfl is115 rfl ?_
        refine ax_iload dX7_countOtherwise_25 rfl rfl ?_
        refine am_iald dX7_countOtherwise_27 rfl is116 (vp_in_nI (by omega) (by decide)) ?_
        refine ax_iload_n (j := 2) dX7_countOtherwise_28 rfl rfl rfl ?_
        refine ax_icmp_ne (tgt := 64) dX7_countOtherwise_29 (by decide) rfl (fun c29 => ?_) (fun c29 => ?_)
        · refine ax_iinc4 (v := nI (j + 1)) dX7_countOtherwise_64 rfl (cl_inc j) (Nat.le_of_ble_eq_true rfl) rfl ?_
          refine ax_goto (tgt := 5) dX7_countOtherwise_67 (by decide) ?_
          have e1 : f_X7_countOtherwise_5 mem a p0 j x0 = x0 := by simp only [f_X7_countOtherwise_5, if_neg c29]
          simp only [ax_it, e1] at hx
          exact ih (j + 1) (x0) (by omega) hx
        · refine ax_aload_n (j := 0) dX7_countOtherwise_32 rfl rfl rfl ?_
          refine am_getR flX7_21 dX7_countOtherwise_33 rfl is115 rfl ?_
          refine ax_iload dX7_countOtherwise_36 rfl rfl ?_
          refine am_iald dX7_countOtherwise_38 rfl is119 (vp_in_nI (by omega) (by decide)) ?_
          refine ax_aload_n (j := 1) dX7_countOtherwise_39 rfl rfl rfl ?_
          refine ax_iload_n (j := 2) dX7_countOtherwise_40 rfl rfl rfl ?_
          refine ax_aload_n (j := 0) dX7_countOtherwise_41 rfl rfl rfl ?_
          refine am_getR flX7_15 dX7_countOtherwise_42 rfl is115 rfl ?_
          refine ax_iload dX7_countOtherwise_45 rfl rfl ?_
          refine am_iald dX7_countOtherwise_47 rfl is117 (vp_in_nI (by omega) (by decide)) ?_
          refine ax_aload_n (j := 0) dX7_countOtherwise_48 rfl rfl rfl ?_
          refine am_getR flX7_18 dX7_countOtherwise_49 rfl is115 rfl ?_
          refine ax_iload dX7_countOtherwise_52 rfl rfl ?_
          refine am_iald dX7_countOtherwise_54 rfl is118 (vp_in_nI (by omega) (by decide)) ?_
          refine ad_S4 ksX7_pickNow lkX7_32 dX7_countOtherwise_55 rfl (Nat.le_of_ble_eq_true rfl) (Nat.le_of_ble_eq_true rfl) (s_X7_pickNow _ hP _ _ _) ?_
          refine ax_icmp_eq (tgt := 64) dX7_countOtherwise_58 (by decide) rfl (fun c58 => ?_) (fun c58 => ?_)
          · refine ax_iinc4 (v := nI (j + 1)) dX7_countOtherwise_64 rfl (cl_inc j) (Nat.le_of_ble_eq_true rfl) rfl ?_
            refine ax_goto (tgt := 5) dX7_countOtherwise_67 (by decide) ?_
            have e1 : f_X7_countOtherwise_5 mem a p0 j x0 = x0 := by simp only [f_X7_countOtherwise_5, if_pos c29, if_pos c58]
            simp only [ax_it, e1] at hx
            exact ih (j + 1) (x0) (by omega) hx
          · refine ax_iinc3 (v := (x0 + 1)) dX7_countOtherwise_61 rfl rfl (Nat.le_of_ble_eq_true rfl) rfl ?_
            refine ax_iinc4 (v := nI (j + 1)) dX7_countOtherwise_64 rfl (cl_inc j) (Nat.le_of_ble_eq_true rfl) rfl ?_
            refine ax_goto (tgt := 5) dX7_countOtherwise_67 (by decide) ?_
            have e1 : f_X7_countOtherwise_5 mem a p0 j x0 = (x0 + 1) := by simp only [f_X7_countOtherwise_5, if_pos c29, if_neg c58]
            simp only [ax_it, e1] at hx
            exact ih (j + 1) ((x0 + 1)) (by omega) hx
set_option maxRecDepth 20000 in
theorem s_X7_countOtherwise {G : ax_G} {l : Launch} (mem : ax_Me) {a : Nat} (hP : ax_isP a) (p0 : Int32)  : AD G l 5 mX7_countOtherwise [.ref 115, .ref a, .int p0] mem (some (.int (F_X7_countOtherwise mem a p0))) mem := by
  refine ax_start (ls := [.ref 115, .ref a, .int p0, .float 0, .float 0]) (u := 2) (by decide +kernel) (Nat.le_of_ble_eq_true rfl) (Nat.le_refl _) (Nat.le_refl _) rfl ?_
  refine ax_iconst (v := 0) dX7_countOtherwise_0 (by decide) rfl ?_
  refine ax_ist3 dX7_countOtherwise_1 rfl rfl (Nat.le_of_ble_eq_true rfl) rfl ?_
  refine ax_iconst (v := 0) dX7_countOtherwise_2 (by decide) rfl ?_
  refine ax_ist4 dX7_countOtherwise_3 rfl (Nat.le_of_ble_eq_true rfl) rfl ?_
  refine lp_X7_countOtherwise_5 mem hP p0    (min (mem 115 4 : Int32).toNatClampNeg 8) (0) (0) (Nat.zero_add _)  ?_
  refine ax_iload_n (j := 3) dX7_countOtherwise_70 rfl rfl rfl ?_
  exact ax_ireturn rfl dX7_countOtherwise_71 ⟨by simp only [F_X7_countOtherwise], rfl⟩

def f_X0_firstWrong_2 (mem : ax_Me) (a : Nat)  (j : Nat) (s : Unit) : Int32 ⊕ (Unit) :=
  match s with
  | () => (if (F_X5_identityOf mem a (mem 121 (nI j).toNatClampNeg)) = (mem 122 (nI j).toNatClampNeg) then (Sum.inr ()) else (Sum.inl (nI j)))
def F_X0_firstWrong (mem : ax_Me) (a : Nat) : Int32 :=
  (match (ax_lp (f_X0_firstWrong_2 mem a) (min (mem 120 2 : Int32).toNatClampNeg 15) (0) ()) with | .inl b => b | .inr () => (-1))
set_option maxRecDepth 20000 in
theorem lp_X0_firstWrong_2 {G : ax_G} {l : Launch} {Q : Option Value → ax_H → Prop} (mem : ax_Me) {a : Nat} (hP : ax_isP a)   : ∀ (n j : Nat), j + n = min (mem 120 2 : Int32).toNatClampNeg 15 → (∀ b : Int32, ax_lp (f_X0_firstWrong_2 mem a) n j () = .inl b → Q (some (.int b)) (ax_hm mem)) → (ax_lp (f_X0_firstWrong_2 mem a) n j () = .inr () → AX G l mX0_firstWrong 2 43 [.ref 120, .ref a, .int (nI (min (mem 120 2 : Int32).toNatClampNeg 15))] [] 153 0 (ax_hm mem) 153 0 Q) → AX G l mX0_firstWrong 2 2 [.ref 120, .ref a, .int (nI j)] [] 153 0 (ax_hm mem) 153 0 Q := by
  intro n
  induction n with
  | zero =>
    intro j  hj hr hx
    refine ax_iload_n (j := 2) dX0_firstWrong_2 rfl rfl rfl ?_
    refine ax_aload_n (j := 0) dX0_firstWrong_3 rfl rfl rfl ?_
    refine am_getI flX0_18 dX0_firstWrong_4 rfl is120 rfl ?_
    refine ax_icmp_ge (tgt := 43) dX0_firstWrong_7 (by decide) rfl (fun c7 => ?_) (fun c7 => ?_)
    · have q := hx  rfl
      rw [show (min (mem 120 2 : Int32).toNatClampNeg 15) = j by omega] at q
      exact q
    · refine ax_iload_n (j := 2) dX0_firstWrong_10 rfl rfl rfl ?_
      refine ax_bipush (v := 15) dX0_firstWrong_11 (by decide) rfl ?_
      refine ax_icmp_ge (tgt := 43) dX0_firstWrong_13 (by decide) rfl (fun c13 => ?_) (fun c13 => ?_)
      · have q := hx  rfl
        rw [show (min (mem 120 2 : Int32).toNatClampNeg 15) = j by omega] at q
        exact q
      · exact absurd (two_ge (b := 15) (k := 15) rfl hj c7) c13
  | succ n ih =>
    intro j  hj hr hx
    refine ax_iload_n (j := 2) dX0_firstWrong_2 rfl rfl rfl ?_
    refine ax_aload_n (j := 0) dX0_firstWrong_3 rfl rfl rfl ?_
    refine am_getI flX0_18 dX0_firstWrong_4 rfl is120 rfl ?_
    refine ax_icmp_ge (tgt := 43) dX0_firstWrong_7 (by decide) rfl (fun c7 => ?_) (fun c7 => ?_)
    · exact absurd c7 (cl_nle (by omega))
    · refine ax_iload_n (j := 2) dX0_firstWrong_10 rfl rfl rfl ?_
      refine ax_bipush (v := 15) dX0_firstWrong_11 (by decide) rfl ?_
      refine ax_icmp_ge (tgt := 43) dX0_firstWrong_13 (by decide) rfl (fun c13 => ?_) (fun c13 => ?_)
      · exact absurd c13 (cl_nle (x := 15) (by have : (15 : Int32).toNatClampNeg = 15 := rfl; omega))
      · refine ax_aload_n (j := 1) dX0_firstWrong_16 rfl rfl rfl ?_
        refine ax_aload_n (j := 0) dX0_firstWrong_17 rfl rfl rfl ?_
        refine am_getR flX0_9 dX0_firstWrong_18 rfl is120 rfl ?_
        refine ax_iload_n (j := 2) dX0_firstWrong_21 rfl rfl rfl ?_
        refine am_iald dX0_firstWrong_22 rfl is121 (vp_in_nI (by omega) (by decide)) ?_
        refine ad_V1 ksX5_identityOf lkX0_26 dX0_firstWrong_23 rfl hP.o rfl (Nat.le_of_ble_eq_true rfl) (Nat.le_of_ble_eq_true rfl) (s_X5_identityOf _ hP _) ?_
        refine ax_aload_n (j := 0) dX0_firstWrong_26 rfl rfl rfl ?_
        refine am_getR flX0_15 dX0_firstWrong_27 rfl is120 rfl ?_
        refine ax_iload_n (j := 2) dX0_firstWrong_30 rfl rfl rfl ?_
        refine am_iald dX0_firstWrong_31 rfl is122 (vp_in_nI (by omega) (by decide)) ?_
        refine ax_icmp_eq (tgt := 37) dX0_firstWrong_32 (by decide) rfl (fun c32 => ?_) (fun c32 => ?_)
        · refine ax_iinc2 (v := nI (j + 1)) dX0_firstWrong_37 rfl (cl_inc j) (Nat.le_of_ble_eq_true rfl) rfl ?_
          refine ax_goto (tgt := 2) dX0_firstWrong_40 (by decide) ?_
          have e1 : f_X0_firstWrong_2 mem a j () = .inr () := by simp only [f_X0_firstWrong_2, if_pos c32]
          exact ih (j + 1)  (by omega) (fun b q => hr b (by simp only [ax_lp, e1]; exact q)) (fun q => hx (by simp only [ax_lp, e1]; exact q))
        · refine ax_iload_n (j := 2) dX0_firstWrong_35 rfl rfl rfl ?_
          exact ax_ireturn rfl dX0_firstWrong_36 (hr ((nI j)) (by simp only [ax_lp, f_X0_firstWrong_2, if_neg c32]))
set_option maxRecDepth 20000 in
theorem s_X0_firstWrong {G : ax_G} {l : Launch} (mem : ax_Me) {a : Nat} (hP : ax_isP a)  : AD G l 2 mX0_firstWrong [.ref 120, .ref a] mem (some (.int (F_X0_firstWrong mem a))) mem := by
  refine ax_start (ls := [.ref 120, .ref a, .float 0]) (u := 1) (by decide +kernel) (Nat.le_of_ble_eq_true rfl) (Nat.le_refl _) (Nat.le_refl _) rfl ?_
  refine ax_iconst (v := 0) dX0_firstWrong_0 (by decide) rfl ?_
  refine ax_ist2 dX0_firstWrong_1 rfl rfl (Nat.le_of_ble_eq_true rfl) rfl ?_
  refine lp_X0_firstWrong_2 mem hP    (min (mem 120 2 : Int32).toNatClampNeg 15) (0)  (Nat.zero_add _)  (fun b h2 => ?_) (fun h2 => ?_)
  · exact ⟨by simp only [F_X0_firstWrong, h2], rfl⟩
  · refine ax_iconst (v := (-1)) dX0_firstWrong_43 (by decide) rfl ?_
    exact ax_ireturn rfl dX0_firstWrong_44 ⟨by simp only [F_X0_firstWrong, h2], rfl⟩

def F_X7_empty (mem : ax_Me)  : ax_Me :=
  (ax_u mem 115 4 0)
set_option maxRecDepth 20000 in
theorem s_X7_empty {G : ax_G} {l : Launch} (mem : ax_Me)   : AD G l 0 mX7_empty [.ref 115] mem none (F_X7_empty mem) := by
  refine ax_start (ls := [.ref 115]) (u := 0) (by decide +kernel) (Nat.le_of_ble_eq_true rfl) (Nat.le_refl _) (Nat.le_refl _) rfl ?_
  refine ax_aload_n (j := 0) dX7_empty_0 rfl rfl rfl ?_
  refine ax_iconst (v := 0) dX7_empty_1 (by decide) rfl ?_
  refine am_putI flX7_24 dX7_empty_2 rfl is115 rfl rfl rfl ?_
  exact ax_vreturn rfl dX7_empty_5 ⟨rfl, by simp only [F_X7_empty]⟩

def F_X7_hasRoom (mem : ax_Me)  : Int32 :=
  (if 8 ≤ (mem 115 4) then 0 else 1)
set_option maxRecDepth 20000 in
theorem s_X7_hasRoom {G : ax_G} {l : Launch} (mem : ax_Me)   : AD G l 0 mX7_hasRoom [.ref 115] mem (some (.int (F_X7_hasRoom mem))) mem := by
  refine ax_start (ls := [.ref 115]) (u := 0) (by decide +kernel) (Nat.le_of_ble_eq_true rfl) (Nat.le_refl _) (Nat.le_refl _) rfl ?_
  refine ax_aload_n (j := 0) dX7_hasRoom_0 rfl rfl rfl ?_
  refine am_getI flX7_24 dX7_hasRoom_1 rfl is115 rfl ?_
  refine ax_bipush (v := 8) dX7_hasRoom_4 (by decide) rfl ?_
  refine ax_icmp_ge (tgt := 13) dX7_hasRoom_6 (by decide) rfl (fun c6 => ?_) (fun c6 => ?_)
  · refine ax_iconst (v := 0) dX7_hasRoom_13 (by decide) rfl ?_
    exact ax_zreturn rfl dX7_hasRoom_14 rfl ⟨by simp only [F_X7_hasRoom, if_pos c6], rfl⟩
  · refine ax_iconst (v := 1) dX7_hasRoom_9 (by decide) rfl ?_
    refine ax_goto (tgt := 14) dX7_hasRoom_10 (by decide) ?_
    exact ax_zreturn rfl dX7_hasRoom_14 rfl ⟨by simp only [F_X7_hasRoom, if_neg c6], rfl⟩

def F_X0_empty (mem : ax_Me)  : ax_Me :=
  (ax_u mem 120 2 0)
set_option maxRecDepth 20000 in
theorem s_X0_empty {G : ax_G} {l : Launch} (mem : ax_Me)   : AD G l 0 mX0_empty [.ref 120] mem none (F_X0_empty mem) := by
  refine ax_start (ls := [.ref 120]) (u := 0) (by decide +kernel) (Nat.le_of_ble_eq_true rfl) (Nat.le_refl _) (Nat.le_refl _) rfl ?_
  refine ax_aload_n (j := 0) dX0_empty_0 rfl rfl rfl ?_
  refine ax_iconst (v := 0) dX0_empty_1 (by decide) rfl ?_
  refine am_putI flX0_18 dX0_empty_2 rfl is120 rfl rfl rfl ?_
  exact ax_vreturn rfl dX0_empty_5 ⟨rfl, by simp only [F_X0_empty]⟩

def F_X0_hasRoom (mem : ax_Me)  : Int32 :=
  (if 15 ≤ (mem 120 2) then 0 else 1)
set_option maxRecDepth 20000 in
theorem s_X0_hasRoom {G : ax_G} {l : Launch} (mem : ax_Me)   : AD G l 0 mX0_hasRoom [.ref 120] mem (some (.int (F_X0_hasRoom mem))) mem := by
  refine ax_start (ls := [.ref 120]) (u := 0) (by decide +kernel) (Nat.le_of_ble_eq_true rfl) (Nat.le_refl _) (Nat.le_refl _) rfl ?_
  refine ax_aload_n (j := 0) dX0_hasRoom_0 rfl rfl rfl ?_
  refine am_getI flX0_18 dX0_hasRoom_1 rfl is120 rfl ?_
  refine ax_bipush (v := 15) dX0_hasRoom_4 (by decide) rfl ?_
  refine ax_icmp_ge (tgt := 13) dX0_hasRoom_6 (by decide) rfl (fun c6 => ?_) (fun c6 => ?_)
  · refine ax_iconst (v := 0) dX0_hasRoom_13 (by decide) rfl ?_
    exact ax_zreturn rfl dX0_hasRoom_14 rfl ⟨by simp only [F_X0_hasRoom, if_pos c6], rfl⟩
  · refine ax_iconst (v := 1) dX0_hasRoom_9 (by decide) rfl ?_
    refine ax_goto (tgt := 14) dX0_hasRoom_10 (by decide) ?_
    exact ax_zreturn rfl dX0_hasRoom_14 rfl ⟨by simp only [F_X0_hasRoom, if_neg c6], rfl⟩

def F_X8_empty (mem : ax_Me)  : ax_Me :=
  (ax_u mem 1 1 0)
set_option maxRecDepth 20000 in
theorem s_X8_empty {G : ax_G} {l : Launch} (mem : ax_Me)   : AD G l 0 mX8_empty [.ref 1] mem none (F_X8_empty mem) := by
  refine ax_start (ls := [.ref 1]) (u := 0) (by decide +kernel) (Nat.le_of_ble_eq_true rfl) (Nat.le_refl _) (Nat.le_refl _) rfl ?_
  refine ax_aload_n (j := 0) dX8_empty_0 rfl rfl rfl ?_
  refine ax_iconst (v := 0) dX8_empty_1 (by decide) rfl ?_
  refine am_putI flX8_19 dX8_empty_2 rfl is1 rfl rfl rfl ?_
  exact ax_vreturn rfl dX8_empty_5 ⟨rfl, by simp only [F_X8_empty]⟩

def F_X8_hasRoom (mem : ax_Me)  : Int32 :=
  (if 240 ≤ (mem 1 1) then 0 else 1)
set_option maxRecDepth 20000 in
theorem s_X8_hasRoom {G : ax_G} {l : Launch} (mem : ax_Me)   : AD G l 0 mX8_hasRoom [.ref 1] mem (some (.int (F_X8_hasRoom mem))) mem := by
  refine ax_start (ls := [.ref 1]) (u := 0) (by decide +kernel) (Nat.le_of_ble_eq_true rfl) (Nat.le_refl _) (Nat.le_refl _) rfl ?_
  refine ax_aload_n (j := 0) dX8_hasRoom_0 rfl rfl rfl ?_
  refine am_getI flX8_19 dX8_hasRoom_1 rfl is1 rfl ?_
  refine ax_sipush (v := 240) dX8_hasRoom_4 (by decide) rfl ?_
  refine ax_icmp_ge (tgt := 14) dX8_hasRoom_7 (by decide) rfl (fun c7 => ?_) (fun c7 => ?_)
  · refine ax_iconst (v := 0) dX8_hasRoom_14 (by decide) rfl ?_
    exact ax_zreturn rfl dX8_hasRoom_15 rfl ⟨by simp only [F_X8_hasRoom, if_pos c7], rfl⟩
  · refine ax_iconst (v := 1) dX8_hasRoom_10 (by decide) rfl ?_
    refine ax_goto (tgt := 15) dX8_hasRoom_11 (by decide) ?_
    exact ax_zreturn rfl dX8_hasRoom_15 rfl ⟨by simp only [F_X8_hasRoom, if_neg c7], rfl⟩

def F_X4_empty (mem : ax_Me)  : ax_Me :=
  (ax_u mem 13 2 0)
set_option maxRecDepth 20000 in
theorem s_X4_empty {G : ax_G} {l : Launch} (mem : ax_Me)   : AD G l 0 mX4_empty [.ref 13] mem none (F_X4_empty mem) := by
  refine ax_start (ls := [.ref 13]) (u := 0) (by decide +kernel) (Nat.le_of_ble_eq_true rfl) (Nat.le_refl _) (Nat.le_refl _) rfl ?_
  refine ax_aload_n (j := 0) dX4_empty_0 rfl rfl rfl ?_
  refine ax_iconst (v := 0) dX4_empty_1 (by decide) rfl ?_
  refine am_putI flX4_18 dX4_empty_2 rfl is13 rfl rfl rfl ?_
  exact ax_vreturn rfl dX4_empty_5 ⟨rfl, by simp only [F_X4_empty]⟩

def F_X3_drop (mem : ax_Me) (g : Nat) : ax_Me :=
  (ax_u mem g 2 0)
set_option maxRecDepth 20000 in
theorem s_X3_drop {G : ax_G} {l : Launch} (mem : ax_Me) {g : Nat} (hg : ax_isI g)  : AD G l 0 mX3_drop [.ref g] mem none (F_X3_drop mem g) := by
  refine ax_start (ls := [.ref g]) (u := 0) (by decide +kernel) (Nat.le_of_ble_eq_true rfl) (Nat.le_refl _) (Nat.le_refl _) rfl ?_
  refine ax_aload_n (j := 0) dX3_drop_0 rfl rfl rfl ?_
  refine ax_iconst (v := 0) dX3_drop_1 (by decide) rfl ?_
  refine am_putI flX3_24 dX3_drop_2 rfl hg.o rfl rfl rfl ?_
  exact ax_vreturn rfl dX3_drop_5 ⟨rfl, by simp only [F_X3_drop]⟩

