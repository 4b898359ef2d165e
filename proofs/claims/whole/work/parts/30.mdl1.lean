/-! ===== the reference: what it reads ===== -/
def F_X10_in (mem : ax_Me) (p0 : Int64) (p1 : Int64) (p2 : Int64) : Int32 :=
  (if (lg_cmp p0 p1) < 0 then 0 else (if 0 < (lg_cmp p0 p2) then 0 else 1))
set_option maxRecDepth 20000 in
theorem s_X10_in {G : ax_G} {l : Launch} (mem : ax_Me) (p0 : Int64) (p1 : Int64) (p2 : Int64)  : AD G l 0 mX10_in [.long p0, .long p1, .long p2] mem (some (.int (F_X10_in mem p0 p1 p2))) mem := by
  refine ax_start (ls := [.long p0, .float 0, .long p1, .float 0, .long p2, .float 0]) (u := 0) (by decide +kernel) (Nat.le_of_ble_eq_true rfl) (Nat.le_refl _) (Nat.le_refl _) rfl ?_
  refine ax_lload_n (j := 0) dX10_in_0 rfl rfl rfl ?_
  refine ax_lload_n (j := 2) dX10_in_1 rfl rfl rfl ?_
  refine ax_lcmp dX10_in_2 rfl ?_
  refine ax_if_lt (tgt := 17) dX10_in_3 (by decide) rfl (fun c3 => ?_) (fun c3 => ?_)
  · refine ax_iconst (v := 0) dX10_in_17 (by decide) rfl ?_
    exact ax_zreturn rfl dX10_in_18 rfl ⟨by simp only [F_X10_in, if_pos c3], rfl⟩
  · refine ax_lload_n (j := 0) dX10_in_6 rfl rfl rfl ?_
    refine ax_lload dX10_in_7 rfl rfl ?_
    refine ax_lcmp dX10_in_9 rfl ?_
    refine ax_if_gt (tgt := 17) dX10_in_10 (by decide) rfl (fun c10 => ?_) (fun c10 => ?_)
    · refine ax_iconst (v := 0) dX10_in_17 (by decide) rfl ?_
      exact ax_zreturn rfl dX10_in_18 rfl ⟨by simp only [F_X10_in, if_neg c3, if_pos c10], rfl⟩
    · refine ax_iconst (v := 1) dX10_in_13 (by decide) rfl ?_
      refine ax_goto (tgt := 18) dX10_in_14 (by decide) ?_
      exact ax_zreturn rfl dX10_in_18 rfl ⟨by simp only [F_X10_in, if_neg c3, if_neg c10], rfl⟩

def F_X10_has (mem : ax_Me) (p0 : Int32) (p1 : Int32) : Int32 :=
  (if ((p0 >>> (p1 &&& 31)) &&& 1) = 1 then 1 else 0)
set_option maxRecDepth 20000 in
theorem s_X10_has {G : ax_G} {l : Launch} (mem : ax_Me) (p0 : Int32) (p1 : Int32)  : AD G l 0 mX10_has [.int p0, .int p1] mem (some (.int (F_X10_has mem p0 p1))) mem := by
  refine ax_start (ls := [.int p0, .int p1]) (u := 0) (by decide +kernel) (Nat.le_of_ble_eq_true rfl) (Nat.le_refl _) (Nat.le_refl _) rfl ?_
  refine ax_iload_n (j := 0) dX10_has_0 rfl rfl rfl ?_
  refine ax_iload_n (j := 1) dX10_has_1 rfl rfl rfl ?_
  refine ax_ishr dX10_has_2 rfl ?_
  refine ax_iconst (v := 1) dX10_has_3 (by decide) rfl ?_
  refine ax_iand dX10_has_4 rfl ?_
  refine ax_iconst (v := 1) dX10_has_5 (by decide) rfl ?_
  refine ax_icmp_ne (tgt := 13) dX10_has_6 (by decide) rfl (fun c6 => ?_) (fun c6 => ?_)
  · refine ax_iconst (v := 0) dX10_has_13 (by decide) rfl ?_
    exact ax_zreturn rfl dX10_has_14 rfl ⟨by simp only [F_X10_has, if_neg c6], rfl⟩
  · refine ax_iconst (v := 1) dX10_has_9 (by decide) rfl ?_
    refine ax_goto (tgt := 14) dX10_has_10 (by decide) ?_
    exact ax_zreturn rfl dX10_has_14 rfl ⟨by simp only [F_X10_has, if_pos c6], rfl⟩

def f_X10_bits_4 (mem : ax_Me) (p0 : Int32)  (j : Nat) (s : Int32) : Int32 :=
  match s with
  | x0 => (x0 + ((p0 >>> ((nI j) &&& 31)) &&& 1))
def F_X10_bits (mem : ax_Me) (p0 : Int32) : Int32 :=
  (ax_it (f_X10_bits_4 mem p0) ((8 : Int32).toNatClampNeg) (0) 0)
set_option maxRecDepth 20000 in
theorem lp_X10_bits_4 {G : ax_G} {l : Launch} {Q : Option Value → ax_H → Prop} (mem : ax_Me) (p0 : Int32)   : ∀ (n j : Nat) (x0 : Int32), j + n = (8 : Int32).toNatClampNeg → AX G l mX10_bits 0 24 [.int p0, .int (ax_it (f_X10_bits_4 mem p0) n j x0), .int (nI ((8 : Int32).toNatClampNeg))] [] 153 0 (ax_hm mem) 153 0 Q → AX G l mX10_bits 0 4 [.int p0, .int x0, .int (nI j)] [] 153 0 (ax_hm mem) 153 0 Q := by
  intro n
  induction n with
  | zero =>
    intro j x0 hj hx
    refine ax_iload_n (j := 2) dX10_bits_4 rfl rfl rfl ?_
    refine ax_bipush (v := 8) dX10_bits_5 (by decide) rfl ?_
    refine ax_icmp_ge (tgt := 24) dX10_bits_7 (by decide) rfl (fun c7 => ?_) (fun c7 => ?_)
    · have q := hx
      simp only [ax_it] at q
      rw [show ((8 : Int32).toNatClampNeg) = j by omega] at q
      exact q
    · exact absurd (cl_ge (by omega)) c7
  | succ n ih =>
    intro j x0 hj hx
    refine ax_iload_n (j := 2) dX10_bits_4 rfl rfl rfl ?_
    refine ax_bipush (v := 8) dX10_bits_5 (by decide) rfl ?_
    refine ax_icmp_ge (tgt := 24) dX10_bits_7 (by decide) rfl (fun c7 => ?_) (fun c7 => ?_)
    · exact absurd c7 (cl_nle (by omega))
    · refine ax_iload_n (j := 1) dX10_bits_10 rfl rfl rfl ?_
      refine ax_iload_n (j := 0) dX10_bits_11 rfl rfl rfl ?_
      refine ax_iload_n (j := 2) dX10_bits_12 rfl rfl rfl ?_
      refine ax_ishr dX10_bits_13 rfl ?_
      refine ax_iconst (v := 1) dX10_bits_14 (by decide) rfl ?_
      refine ax_iand dX10_bits_15 rfl ?_
      refine ax_iadd dX10_bits_16 rfl ?_
      refine ax_ist1 dX10_bits_17 rfl rfl (Nat.le_of_ble_eq_true rfl) rfl ?_
      refine ax_iinc2 (v := nI (j + 1)) dX10_bits_18 rfl (cl_inc j) (Nat.le_of_ble_eq_true rfl) rfl ?_
      refine ax_goto (tgt := 4) dX10_bits_21 (by decide) ?_
      have e1 : f_X10_bits_4 mem p0 j x0 = (x0 + ((p0 >>> ((nI j) &&& 31)) &&& 1)) := by simp only [f_X10_bits_4]
      simp only [ax_it, e1] at hx
      exact ih (j + 1) ((x0 + ((p0 >>> ((nI j) &&& 31)) &&& 1))) (by omega) hx
set_option maxRecDepth 20000 in
theorem s_X10_bits {G : ax_G} {l : Launch} (mem : ax_Me) (p0 : Int32)  : AD G l 0 mX10_bits [.int p0] mem (some (.int (F_X10_bits mem p0))) mem := by
  refine ax_start (ls := [.int p0, .float 0, .float 0]) (u := 2) (by decide +kernel) (Nat.le_of_ble_eq_true rfl) (Nat.le_refl _) (Nat.le_refl _) rfl ?_
  refine ax_iconst (v := 0) dX10_bits_0 (by decide) rfl ?_
  refine ax_ist1 dX10_bits_1 rfl rfl (Nat.le_of_ble_eq_true rfl) rfl ?_
  refine ax_iconst (v := 0) dX10_bits_2 (by decide) rfl ?_
  refine ax_ist2 dX10_bits_3 rfl rfl (Nat.le_of_ble_eq_true rfl) rfl ?_
  refine lp_X10_bits_4 mem p0    ((8 : Int32).toNatClampNeg) (0) (0) (Nat.zero_add _)  ?_
  refine ax_iload_n (j := 1) dX10_bits_24 rfl rfl rfl ?_
  exact ax_ireturn rfl dX10_bits_25 ⟨by simp only [F_X10_bits], rfl⟩

theorem inz {mem : ax_Me} {x a b : Int64} : narrow .boolean (.int (F_X10_in mem x a b)) = .int (F_X10_in mem x a b) := by
  unfold F_X10_in
  split
  · rfl
  · split <;> rfl
def F_X10_isPerson (mem : ax_Me) (p0 : Int32) : Int32 :=
  (F_X10_in mem p0.toInt64 0 ((mem 136 0) - 1).toInt64)
set_option maxRecDepth 20000 in
theorem s_X10_isPerson {G : ax_G} {l : Launch} (mem : ax_Me) (p0 : Int32)  : AD G l 1 mX10_isPerson [.ref 136, .int p0] mem (some (.int (F_X10_isPerson mem p0))) mem := by
  refine ax_start (ls := [.ref 136, .int p0]) (u := 0) (by decide +kernel) (Nat.le_of_ble_eq_true rfl) (Nat.le_refl _) (Nat.le_refl _) rfl ?_
  refine ax_iload_n (j := 1) dX10_isPerson_0 rfl rfl rfl ?_
  refine ax_i2l dX10_isPerson_1 rfl ?_
  refine ax_lconst (v := 0) dX10_isPerson_2 (by decide) rfl ?_
  refine ax_aload_n (j := 0) dX10_isPerson_3 rfl rfl rfl ?_
  refine am_getI flX10_63 dX10_isPerson_4 rfl is136 rfl ?_
  refine ax_iconst (v := 1) dX10_isPerson_7 (by decide) rfl ?_
  refine ax_isub dX10_isPerson_8 rfl ?_
  refine ax_i2l dX10_isPerson_9 rfl ?_
  refine ad_S3 ksX10_in lkX10_66 dX10_isPerson_10 rfl (Nat.le_of_ble_eq_true rfl) (Nat.le_of_ble_eq_true rfl) (s_X10_in _ _ _ _) ?_
  exact ax_zreturn rfl dX10_isPerson_13 inz ⟨by simp only [F_X10_isPerson], rfl⟩

def F_X10_areTwo (mem : ax_Me) (p0 : Int32) (p1 : Int32) : Int32 :=
  (if (F_X10_isPerson mem p0) = 0 then 0 else (if (F_X10_isPerson mem p1) = 0 then 0 else (if p0 = p1 then 0 else 1)))
set_option maxRecDepth 20000 in
theorem s_X10_areTwo {G : ax_G} {l : Launch} (mem : ax_Me) (p0 : Int32) (p1 : Int32)  : AD G l 2 mX10_areTwo [.ref 136, .int p0, .int p1] mem (some (.int (F_X10_areTwo mem p0 p1))) mem := by
  refine ax_start (ls := [.ref 136, .int p0, .int p1]) (u := 0) (by decide +kernel) (Nat.le_of_ble_eq_true rfl) (Nat.le_refl _) (Nat.le_refl _) rfl ?_
  refine ax_aload_n (j := 0) dX10_areTwo_0 rfl rfl rfl ?_
  refine ax_iload_n (j := 1) dX10_areTwo_1 rfl rfl rfl ?_
  refine ad_V1 ksX10_isPerson lkX10_70 dX10_areTwo_2 rfl is136 rfl (Nat.le_of_ble_eq_true rfl) (Nat.le_of_ble_eq_true rfl) (s_X10_isPerson _ _) ?_
  refine ax_if_eq (tgt := 25) dX10_areTwo_5 (by decide) rfl (fun c5 => ?_) (fun c5 => ?_)
  · refine ax_iconst (v := 0) dX10_areTwo_25 (by decide) rfl ?_
    exact ax_zreturn rfl dX10_areTwo_26 rfl ⟨by simp only [F_X10_areTwo, if_pos c5], rfl⟩
  · refine ax_aload_n (j := 0) dX10_areTwo_8 rfl rfl rfl ?_
    refine ax_iload_n (j := 2) dX10_areTwo_9 rfl rfl rfl ?_
    refine ad_V1 ksX10_isPerson lkX10_70 dX10_areTwo_10 rfl is136 rfl (Nat.le_of_ble_eq_true rfl) (Nat.le_of_ble_eq_true rfl) (s_X10_isPerson _ _) ?_
    refine ax_if_eq (tgt := 25) dX10_areTwo_13 (by decide) rfl (fun c13 => ?_) (fun c13 => ?_)
    · refine ax_iconst (v := 0) dX10_areTwo_25 (by decide) rfl ?_
      exact ax_zreturn rfl dX10_areTwo_26 rfl ⟨by simp only [F_X10_areTwo, if_neg c5, if_pos c13], rfl⟩
    · refine ax_iload_n (j := 1) dX10_areTwo_16 rfl rfl rfl ?_
      refine ax_iload_n (j := 2) dX10_areTwo_17 rfl rfl rfl ?_
      refine ax_icmp_eq (tgt := 25) dX10_areTwo_18 (by decide) rfl (fun c18 => ?_) (fun c18 => ?_)
      · refine ax_iconst (v := 0) dX10_areTwo_25 (by decide) rfl ?_
        exact ax_zreturn rfl dX10_areTwo_26 rfl ⟨by simp only [F_X10_areTwo, if_neg c5, if_neg c13, if_pos c18], rfl⟩
      · refine ax_iconst (v := 1) dX10_areTwo_21 (by decide) rfl ?_
        refine ax_goto (tgt := 26) dX10_areTwo_22 (by decide) ?_
        exact ax_zreturn rfl dX10_areTwo_26 rfl ⟨by simp only [F_X10_areTwo, if_neg c5, if_neg c13, if_neg c18], rfl⟩

def F_X10_isRow (mem : ax_Me) (p0 : Int32) : Int32 :=
  (F_X10_in mem p0.toInt64 0 ((1 <<< ((mem 136 0) &&& 31)) - 1).toInt64)
set_option maxRecDepth 20000 in
theorem s_X10_isRow {G : ax_G} {l : Launch} (mem : ax_Me) (p0 : Int32)  : AD G l 1 mX10_isRow [.ref 136, .int p0] mem (some (.int (F_X10_isRow mem p0))) mem := by
  refine ax_start (ls := [.ref 136, .int p0]) (u := 0) (by decide +kernel) (Nat.le_of_ble_eq_true rfl) (Nat.le_refl _) (Nat.le_refl _) rfl ?_
  refine ax_iload_n (j := 1) dX10_isRow_0 rfl rfl rfl ?_
  refine ax_i2l dX10_isRow_1 rfl ?_
  refine ax_lconst (v := 0) dX10_isRow_2 (by decide) rfl ?_
  refine ax_iconst (v := 1) dX10_isRow_3 (by decide) rfl ?_
  refine ax_aload_n (j := 0) dX10_isRow_4 rfl rfl rfl ?_
  refine am_getI flX10_63 dX10_isRow_5 rfl is136 rfl ?_
  refine ax_ishl dX10_isRow_8 rfl ?_
  refine ax_iconst (v := 1) dX10_isRow_9 (by decide) rfl ?_
  refine ax_isub dX10_isRow_10 rfl ?_
  refine ax_i2l dX10_isRow_11 rfl ?_
  refine ad_S3 ksX10_in lkX10_66 dX10_isRow_12 rfl (Nat.le_of_ble_eq_true rfl) (Nat.le_of_ble_eq_true rfl) (s_X10_in _ _ _ _) ?_
  exact ax_zreturn rfl dX10_isRow_15 inz ⟨by simp only [F_X10_isRow], rfl⟩

/-- there are 0 to 8 persons -/
def mp (m : ax_Me) : Prop := ¬ m 136 0 < 0 ∧ m 136 0 ≤ 8
theorem mp.of {m : ax_Me} (h : mp m) : ∃ c : Nat, c ≤ 8 ∧ m 136 0 = nI c := nI_of2 (M := 8) (n := 8) rfl h.1 h.2
theorem mp.le {m : ax_Me} (h : mp m) : (m 136 0).toNatClampNeg ≤ 8 := by
  obtain ⟨c, hc, e⟩ := h.of
  rw [e, nI_clamp (by omega)]
  exact hc
theorem mp_off {m m' : ax_Me} (h : mp m) (e : m' 136 0 = m 136 0) : mp m' := by
  unfold mp
  rw [e]
  exact h
theorem lg_lt {x y : Int64} : lg_cmp x y < 0 ↔ x < y := by
  unfold lg_cmp
  split
  · next h =>
    constructor
    · intro q; exact absurd q (by decide)
    · intro q; exact absurd h (lg_lt_not q)
  · next h1 =>
    split
    · next h2 =>
      rw [h2]
      constructor
      · intro q; exact absurd q (by decide)
      · intro q; exact absurd q (lg_lt_not q)
    · next h2 =>
      refine ⟨fun _ => ?_, fun _ => by decide⟩
      have h1 : ¬ y < x := h1
      rw [Int64.lt_iff_toInt_lt] at h1 ⊢
      have h3 : ¬ x.toInt = y.toInt := fun q => h2 (Int64.toInt_inj.mp q)
      omega
theorem lg_gt {x y : Int64} : 0 < lg_cmp x y ↔ y < x := by
  unfold lg_cmp
  split
  · next h => exact ⟨fun _ => h, fun _ => by decide⟩
  · next h1 =>
    split
    · exact ⟨fun q => absurd q (by decide), fun q => absurd q h1⟩
    · exact ⟨fun q => absurd q (by decide), fun q => absurd q h1⟩
theorem i64 (x : Int32) : x.toInt64.toInt = x.toInt := Int32.toInt_toInt64 x
/-- 'in' of ints -/
theorem in_iff {mem : ax_Me} {x a b : Int64} : (¬ F_X10_in mem x a b = 0) ↔ a.toInt ≤ x.toInt ∧ x.toInt ≤ b.toInt := by
  unfold F_X10_in
  simp only [lg_lt, lg_gt, Int64.lt_iff_toInt_lt]
  by_cases h1 : x.toInt < a.toInt
  · rw [if_pos h1]
    constructor
    · intro q; exact absurd rfl q
    · intro q; omega
  · rw [if_neg h1]
    by_cases h2 : b.toInt < x.toInt
    · rw [if_pos h2]
      constructor
      · intro q; exact absurd rfl q
      · intro q; omega
    · rw [if_neg h2]
      exact ⟨fun _ => by omega, fun _ => by decide⟩
theorem isp_iff {m : ax_Me} {p : Int32} (hc : mp m) : (¬ F_X10_isPerson m p = 0) ↔ 0 ≤ p.toInt ∧ p.toInt < (m 136 0).toInt := by
  unfold F_X10_isPerson
  obtain ⟨c, hc, e⟩ := hc.of
  rw [in_iff, i64, i64, e]
  have e1 : (0 : Int64).toInt = 0 := rfl
  have e2 : (nI c - 1).toInt = (c : Int) - 1 := by
    have := pk_sub_toInt (a := c) (b := 1) (by omega) (by omega)
    exact this
  rw [e1, e2, nI_toInt (by omega)]
  omega
theorem vp_mono {x : Int32} {a b : Nat} (h : vp_in x a) (hab : a ≤ b) : vp_in x b := by
  rw [vp_in_iff] at h ⊢
  omega
theorem mp.toInt {m : ax_Me} (h : mp m) : (m 136 0).toInt ≤ 8 := by
  have h2 := h.2
  rw [Int32.le_iff_toInt_le] at h2
  exact h2
theorem isp_in {m : ax_Me} {p : Int32} (hc : mp m) (h : ¬ F_X10_isPerson m p = 0) : vp_in p 8 := by
  have h1 := (isp_iff hc).mp h
  have h2 := hc.toInt
  rw [vp_in_iff]
  omega
theorem two_of {m : ax_Me} {w p : Int32} (h : ¬ F_X10_areTwo m w p = 0) : (¬ F_X10_isPerson m w = 0) ∧ (¬ F_X10_isPerson m p = 0) ∧ ¬ w = p := by
  unfold F_X10_areTwo at h
  refine ⟨fun q => h (by rw [if_pos q]), fun q => ?_, fun q => ?_⟩
  · by_cases q0 : F_X10_isPerson m w = 0
    · exact h (by rw [if_pos q0])
    · exact h (by rw [if_neg q0, if_pos q])
  · by_cases q0 : F_X10_isPerson m w = 0
    · exact h (by rw [if_pos q0])
    · by_cases q1 : F_X10_isPerson m p = 0
      · exact h (by rw [if_neg q0, if_pos q1])
      · exact h (by rw [if_neg q0, if_neg q1, if_pos q])
theorem in_8 {p : Int32} (h : vp_in p 8) : vp_in (8 + p) 81 ∧ (8 + p).toNatClampNeg = 8 + p.toNatClampNeg := by
  obtain ⟨j, hj, rfl⟩ := vp_in_of h (by decide)
  rw [show (8 : Int32) = nI 8 from rfl, nI_add, nI_clamp (by omega), nI_clamp (by omega)]
  exact ⟨vp_in_nI (by omega) (by decide), rfl⟩
theorem in_mem {w p : Int32} (hw : vp_in w 8) (hp : vp_in p 8) : vp_in ((16 + (8 * w)) + p) 81 ∧ ((16 + (8 * w)) + p).toNatClampNeg = 16 + 8 * w.toNatClampNeg + p.toNatClampNeg := by
  obtain ⟨i, hi, rfl⟩ := vp_in_of hw (by decide)
  obtain ⟨j, hj, rfl⟩ := vp_in_of hp (by decide)
  rw [show (8 : Int32) = nI 8 from rfl, show (16 : Int32) = nI 16 from rfl, pk_mul, nI_add, nI_add, nI_clamp (by omega), nI_clamp (by omega), nI_clamp (by omega)]
  exact ⟨vp_in_nI (by omega) (by decide), rfl⟩
def f_X10_twoOfOne_14 (mem : ax_Me)  (v2 : Int32) (j : Nat) (s : Int32) : Int32 :=
  match s with
  | x0 => (if v2 = (nI j) then (x0 ||| 0) else (if (mem 138 (8 + v2).toNatClampNeg) = (mem 138 (8 + (nI j)).toNatClampNeg) then (x0 ||| (1 <<< (v2 &&& 31))) else (x0 ||| 0)))
def f_X10_twoOfOne_4 (mem : ax_Me)   (j : Nat) (s : Int32) : Int32 :=
  match s with
  | x0 => (ax_it (f_X10_twoOfOne_14 mem  ((nI j))) (((mem 136 0) : Int32).toNatClampNeg) (0) x0)
def F_X10_twoOfOne (mem : ax_Me)  : Int32 :=
  (ax_it (f_X10_twoOfOne_4 mem) (((mem 136 0) : Int32).toNatClampNeg) (0) 0)
set_option maxRecDepth 20000 in
theorem lp_X10_twoOfOne_14 {G : ax_G} {l : Launch} {Q : Option Value → ax_H → Prop} (mem : ax_Me)  (v2 : Int32) (hc : mp mem) (h2 : vp_in v2 8) : ∀ (n j : Nat) (x0 : Int32), j + n = ((mem 136 0) : Int32).toNatClampNeg → AX G l mX10_twoOfOne 0 64 [.ref 136, .int (ax_it (f_X10_twoOfOne_14 mem  v2) n j x0), .int v2, .int (nI (((mem 136 0) : Int32).toNatClampNeg))] [] 153 0 (ax_hm mem) 153 0 Q → AX G l mX10_twoOfOne 0 14 [.ref 136, .int x0, .int v2, .int (nI j)] [] 153 0 (ax_hm mem) 153 0 Q := by
  intro n
  induction n with
  | zero =>
    intro j x0 hj hx
    refine ax_iload_n (j := 3) dX10_twoOfOne_14 rfl rfl rfl ?_
    refine ax_aload_n (j := 0) dX10_twoOfOne_15 rfl rfl rfl ?_
    refine am_getI flX10_63 dX10_twoOfOne_16 rfl is136 rfl ?_
    refine ax_icmp_ge (tgt := 64) dX10_twoOfOne_19 (by decide) rfl (fun c19 => ?_) (fun c19 => ?_)
    · have q := hx
      simp only [ax_it] at q
      rw [show (((mem 136 0) : Int32).toNatClampNeg) = j by omega] at q
      exact q
    · exact absurd (cl_ge (by omega)) c19
  | succ n ih =>
    intro j x0 hj hx
    refine ax_iload_n (j := 3) dX10_twoOfOne_14 rfl rfl rfl ?_
    refine ax_aload_n (j := 0) dX10_twoOfOne_15 rfl rfl rfl ?_
    refine am_getI flX10_63 dX10_twoOfOne_16 rfl is136 rfl ?_
    refine ax_icmp_ge (tgt := 64) dX10_twoOfOne_19 (by decide) rfl (fun c19 => ?_) (fun c19 => ?_)
    · exact absurd c19 (cl_nle (by omega))
    · refine ax_iload_n (j := 1) dX10_twoOfOne_22 rfl rfl rfl ?_
      refine ax_iload_n (j := 2) dX10_twoOfOne_23 rfl rfl rfl ?_
      refine ax_iload_n (j := 3) dX10_twoOfOne_24 rfl rfl rfl ?_
      refine ax_icmp_eq (tgt := 55) dX10_twoOfOne_25 (by decide) rfl (fun c25 => ?_) (fun c25 => ?_)
      · refine ax_iconst (v := 0) dX10_twoOfOne_55 (by decide) rfl ?_
        refine ax_ior dX10_twoOfOne_56 rfl ?_
        refine ax_ist1 dX10_twoOfOne_57 rfl rfl (Nat.le_of_ble_eq_true rfl) rfl ?_
        refine ax_iinc3 (v := nI (j + 1)) dX10_twoOfOne_58 rfl (cl_inc j) (Nat.le_of_ble_eq_true rfl) rfl ?_
        refine ax_goto (tgt := 14) dX10_twoOfOne_61 (by decide) ?_
        have e1 : f_X10_twoOfOne_14 mem  v2 j x0 = (x0 ||| 0) := by simp only [f_X10_twoOfOne_14, if_pos c25]
        simp only [ax_it, e1] at hx
        exact ih (j + 1) ((x0 ||| 0)) (by omega) hx
      · refine ax_aload_n (j := 0) dX10_twoOfOne_28 rfl rfl rfl ?_
        refine am_getR flX10_13 dX10_twoOfOne_29 rfl is136 rfl ?_
        refine ax_bipush (v := 8) dX10_twoOfOne_32 (by decide) rfl ?_
        refine ax_iload_n (j := 2) dX10_twoOfOne_34 rfl rfl rfl ?_
        refine ax_iadd dX10_twoOfOne_35 rfl ?_
        refine am_iald dX10_twoOfOne_36 rfl is138 (in_8 h2).1 ?_
        refine ax_aload_n (j := 0) dX10_twoOfOne_37 rfl rfl rfl ?_
        refine am_getR flX10_13 dX10_twoOfOne_38 rfl is136 rfl ?_
        refine ax_bipush (v := 8) dX10_twoOfOne_41 (by decide) rfl ?_
        refine ax_iload_n (j := 3) dX10_twoOfOne_43 rfl rfl rfl ?_
        refine ax_iadd dX10_twoOfOne_44 rfl ?_
        refine am_iald dX10_twoOfOne_45 rfl is138 (in_8 (vp_in_nI (by have := hc.le; omega) (by decide))).1 ?_
        refine ax_icmp_ne (tgt := 55) dX10_twoOfOne_46 (by decide) rfl (fun c46 => ?_) (fun c46 => ?_)
        · refine ax_iconst (v := 0) dX10_twoOfOne_55 (by decide) rfl ?_
          refine ax_ior dX10_twoOfOne_56 rfl ?_
          refine ax_ist1 dX10_twoOfOne_57 rfl rfl (Nat.le_of_ble_eq_true rfl) rfl ?_
          refine ax_iinc3 (v := nI (j + 1)) dX10_twoOfOne_58 rfl (cl_inc j) (Nat.le_of_ble_eq_true rfl) rfl ?_
          refine ax_goto (tgt := 14) dX10_twoOfOne_61 (by decide) ?_
          have e1 : f_X10_twoOfOne_14 mem  v2 j x0 = (x0 ||| 0) := by simp only [f_X10_twoOfOne_14, if_neg c25, if_neg c46]
          simp only [ax_it, e1] at hx
          exact ih (j + 1) ((x0 ||| 0)) (by omega) hx
        · refine ax_iconst (v := 1) dX10_twoOfOne_49 (by decide) rfl ?_
          refine ax_iload_n (j := 2) dX10_twoOfOne_50 rfl rfl rfl ?_
          refine ax_ishl dX10_twoOfOne_51 rfl ?_
          refine ax_goto (tgt := 56) dX10_twoOfOne_52 (by decide) ?_
          refine ax_ior dX10_twoOfOne_56 rfl ?_
          refine ax_ist1 dX10_twoOfOne_57 rfl rfl (Nat.le_of_ble_eq_true rfl) rfl ?_
          refine ax_iinc3 (v := nI (j + 1)) dX10_twoOfOne_58 rfl (cl_inc j) (Nat.le_of_ble_eq_true rfl) rfl ?_
          refine ax_goto (tgt := 14) dX10_twoOfOne_61 (by decide) ?_
          have e1 : f_X10_twoOfOne_14 mem  v2 j x0 = (x0 ||| (1 <<< (v2 &&& 31))) := by simp only [f_X10_twoOfOne_14, if_neg c25, if_pos c46]
          simp only [ax_it, e1] at hx
          exact ih (j + 1) ((x0 ||| (1 <<< (v2 &&& 31)))) (by omega) hx
set_option maxRecDepth 20000 in
theorem lp_X10_twoOfOne_4 {G : ax_G} {l : Launch} {Q : Option Value → ax_H → Prop} (mem : ax_Me)   (hc : mp mem) : ∀ (n j : Nat) (x0 : Int32), j + n = ((mem 136 0) : Int32).toNatClampNeg → AX G l mX10_twoOfOne 0 70 [.ref 136, .int (ax_it (f_X10_twoOfOne_4 mem) n j x0), .int (nI (((mem 136 0) : Int32).toNatClampNeg)), .float 0] [] 153 0 (ax_hm mem) 153 0 Q → AX G l mX10_twoOfOne 0 4 [.ref 136, .int x0, .int (nI j), .float 0] [] 153 0 (ax_hm mem) 153 0 Q := by
  intro n
  induction n with
  | zero =>
    intro j x0 hj hx
    refine ax_iload_n (j := 2) dX10_twoOfOne_4 rfl rfl rfl ?_
    refine ax_aload_n (j := 0) dX10_twoOfOne_5 rfl rfl rfl ?_
    refine am_getI flX10_63 dX10_twoOfOne_6 rfl is136 rfl ?_
    refine ax_icmp_ge (tgt := 70) dX10_twoOfOne_9 (by decide) rfl (fun c9 => ?_) (fun c9 => ?_)
    · have q := hx
      simp only [ax_it] at q
      rw [show (((mem 136 0) : Int32).toNatClampNeg) = j by omega] at q
      exact q
    · exact absurd (cl_ge (by omega)) c9
  | succ n ih =>
    intro j x0 hj hx
    refine ax_iload_n (j := 2) dX10_twoOfOne_4 rfl rfl rfl ?_
    refine ax_aload_n (j := 0) dX10_twoOfOne_5 rfl rfl rfl ?_
    refine am_getI flX10_63 dX10_twoOfOne_6 rfl is136 rfl ?_
    refine ax_icmp_ge (tgt := 70) dX10_twoOfOne_9 (by decide) rfl (fun c9 => ?_) (fun c9 => ?_)
    · exact absurd c9 (cl_nle (by omega))
    · refine ax_iconst (v := 0) dX10_twoOfOne_12 (by decide) rfl ?_
      refine ax_ist3 dX10_twoOfOne_13 rfl rfl (Nat.le_of_ble_eq_true rfl) rfl ?_
      refine lp_X10_twoOfOne_14 mem  ((nI j)) hc (vp_in_nI (by have := hc.le; omega) (by decide)) (((mem 136 0) : Int32).toNatClampNeg) (0) (x0) (Nat.zero_add _)  ?_
      refine ax_iinc2 (v := nI (j + 1)) dX10_twoOfOne_64 rfl (cl_inc j) (Nat.le_of_ble_eq_true rfl) rfl ?_
      refine ax_goto (tgt := 4) dX10_twoOfOne_67 (by decide) ?_
      refine ax_fg3 ?_
      have e1 : f_X10_twoOfOne_4 mem j x0 = (ax_it (f_X10_twoOfOne_14 mem  ((nI j))) (((mem 136 0) : Int32).toNatClampNeg) (0) x0) := by simp only [f_X10_twoOfOne_4]
      simp only [ax_it, e1] at hx
      exact ih (j + 1) ((ax_it (f_X10_twoOfOne_14 mem  ((nI j))) (((mem 136 0) : Int32).toNatClampNeg) (0) x0)) (by omega) hx
set_option maxRecDepth 20000 in
theorem s_X10_twoOfOne {G : ax_G} {l : Launch} (mem : ax_Me)  (hc : mp mem) : AD G l 0 mX10_twoOfOne [.ref 136] mem (some (.int (F_X10_twoOfOne mem))) mem := by
  refine ax_start (ls := [.ref 136, .float 0, .float 0, .float 0]) (u := 3) (by decide +kernel) (Nat.le_of_ble_eq_true rfl) (Nat.le_refl _) (Nat.le_refl _) rfl ?_
  refine ax_iconst (v := 0) dX10_twoOfOne_0 (by decide) rfl ?_
  refine ax_ist1 dX10_twoOfOne_1 rfl rfl (Nat.le_of_ble_eq_true rfl) rfl ?_
  refine ax_iconst (v := 0) dX10_twoOfOne_2 (by decide) rfl ?_
  refine ax_ist2 dX10_twoOfOne_3 rfl rfl (Nat.le_of_ble_eq_true rfl) rfl ?_
  refine lp_X10_twoOfOne_4 mem   hc  (((mem 136 0) : Int32).toNatClampNeg) (0) (0) (Nat.zero_add _)  ?_
  refine ax_iload_n (j := 1) dX10_twoOfOne_70 rfl rfl rfl ?_
  exact ax_ireturn rfl dX10_twoOfOne_71 ⟨by simp only [F_X10_twoOfOne], rfl⟩

def f_X10_nobody_11 (mem : ax_Me)   (j : Nat) (s : Int32) : Int32 :=
  match s with
  | x0 => (x0 &&& ((1 <<< ((mem 138 (8 + (nI j)).toNatClampNeg) &&& 31)) ^^^ (-1)))
def F_X10_nobody (mem : ax_Me)  : Int32 :=
  (ax_it (f_X10_nobody_11 mem) (((mem 136 0) : Int32).toNatClampNeg) (0) ((1 <<< ((mem 136 0) &&& 31)) - 1))
set_option maxRecDepth 20000 in
theorem lp_X10_nobody_11 {G : ax_G} {l : Launch} {Q : Option Value → ax_H → Prop} (mem : ax_Me)   (hc : mp mem) : ∀ (n j : Nat) (x0 : Int32), j + n = ((mem 136 0) : Int32).toNatClampNeg → AX G l mX10_nobody 0 41 [.ref 136, .int (ax_it (f_X10_nobody_11 mem) n j x0), .int (nI (((mem 136 0) : Int32).toNatClampNeg))] [] 153 0 (ax_hm mem) 153 0 Q → AX G l mX10_nobody 0 11 [.ref 136, .int x0, .int (nI j)] [] 153 0 (ax_hm mem) 153 0 Q := by
  intro n
  induction n with
  | zero =>
    intro j x0 hj hx
    refine ax_iload_n (j := 2) dX10_nobody_11 rfl rfl rfl ?_
    refine ax_aload_n (j := 0) dX10_nobody_12 rfl rfl rfl ?_
    refine am_getI flX10_63 dX10_nobody_13 rfl is136 rfl ?_
    refine ax_icmp_ge (tgt := 41) dX10_nobody_16 (by decide) rfl (fun c16 => ?_) (fun c16 => ?_)
    · have q := hx
      simp only [ax_it] at q
      rw [show (((mem 136 0) : Int32).toNatClampNeg) = j by omega] at q
      exact q
    · exact absurd (cl_ge (by omega)) c16
  | succ n ih =>
    intro j x0 hj hx
    refine ax_iload_n (j := 2) dX10_nobody_11 rfl rfl rfl ?_
    refine ax_aload_n (j := 0) dX10_nobody_12 rfl rfl rfl ?_
    refine am_getI flX10_63 dX10_nobody_13 rfl is136 rfl ?_
    refine ax_icmp_ge (tgt := 41) dX10_nobody_16 (by decide) rfl (fun c16 => ?_) (fun c16 => ?_)
    · exact absurd c16 (cl_nle (by omega))
    · refine ax_iload_n (j := 1) dX10_nobody_19 rfl rfl rfl ?_
      refine ax_iconst (v := 1) dX10_nobody_20 (by decide) rfl ?_
      refine ax_aload_n (j := 0) dX10_nobody_21 rfl rfl rfl ?_
      refine am_getR flX10_13 dX10_nobody_22 rfl is136 rfl ?_
      refine ax_bipush (v := 8) dX10_nobody_25 (by decide) rfl ?_
      refine ax_iload_n (j := 2) dX10_nobody_27 rfl rfl rfl ?_
      refine ax_iadd dX10_nobody_28 rfl ?_
      refine am_iald dX10_nobody_29 rfl is138 (in_8 (vp_in_nI (by have := hc.le; omega) (by decide))).1 ?_
      refine ax_ishl dX10_nobody_30 rfl ?_
      refine ax_iconst (v := (-1)) dX10_nobody_31 (by decide) rfl ?_
      refine ax_ixor dX10_nobody_32 rfl ?_
      refine ax_iand dX10_nobody_33 rfl ?_
      refine ax_ist1 dX10_nobody_34 rfl rfl (Nat.le_of_ble_eq_true rfl) rfl ?_
      refine ax_iinc2 (v := nI (j + 1)) dX10_nobody_35 rfl (cl_inc j) (Nat.le_of_ble_eq_true rfl) rfl ?_
      refine ax_goto (tgt := 11) dX10_nobody_38 (by decide) ?_
      have e1 : f_X10_nobody_11 mem j x0 = (x0 &&& ((1 <<< ((mem 138 (8 + (nI j)).toNatClampNeg) &&& 31)) ^^^ (-1))) := by simp only [f_X10_nobody_11]
      simp only [ax_it, e1] at hx
      exact ih (j + 1) ((x0 &&& ((1 <<< ((mem 138 (8 + (nI j)).toNatClampNeg) &&& 31)) ^^^ (-1)))) (by omega) hx
set_option maxRecDepth 20000 in
theorem s_X10_nobody {G : ax_G} {l : Launch} (mem : ax_Me)  (hc : mp mem) : AD G l 0 mX10_nobody [.ref 136] mem (some (.int (F_X10_nobody mem))) mem := by
  refine ax_start (ls := [.ref 136, .float 0, .float 0]) (u := 2) (by decide +kernel) (Nat.le_of_ble_eq_true rfl) (Nat.le_refl _) (Nat.le_refl _) rfl ?_
  refine ax_iconst (v := 1) dX10_nobody_0 (by decide) rfl ?_
  refine ax_aload_n (j := 0) dX10_nobody_1 rfl rfl rfl ?_
  refine am_getI flX10_63 dX10_nobody_2 rfl is136 rfl ?_
  refine ax_ishl dX10_nobody_5 rfl ?_
  refine ax_iconst (v := 1) dX10_nobody_6 (by decide) rfl ?_
  refine ax_isub dX10_nobody_7 rfl ?_
  refine ax_ist1 dX10_nobody_8 rfl rfl (Nat.le_of_ble_eq_true rfl) rfl ?_
  refine ax_iconst (v := 0) dX10_nobody_9 (by decide) rfl ?_
  refine ax_ist2 dX10_nobody_10 rfl rfl (Nat.le_of_ble_eq_true rfl) rfl ?_
  refine lp_X10_nobody_11 mem   hc  (((mem 136 0) : Int32).toNatClampNeg) (0) (((1 <<< ((mem 136 0) &&& 31)) - 1)) (Nat.zero_add _)  ?_
  refine ax_iload_n (j := 1) dX10_nobody_41 rfl rfl rfl ?_
  exact ax_ireturn rfl dX10_nobody_42 ⟨by simp only [F_X10_nobody], rfl⟩

def F_X10_remembered (mem : ax_Me) (p0 : Int32) (p1 : Int32) : Int32 :=
  (mem 138 ((16 + (8 * p0)) + p1).toNatClampNeg)
set_option maxRecDepth 20000 in
theorem s_X10_remembered {G : ax_G} {l : Launch} (mem : ax_Me) (p0 : Int32) (p1 : Int32) (hi : vp_in ((16 + (8 * p0)) + p1) 81) : AD G l 0 mX10_remembered [.ref 136, .int p0, .int p1] mem (some (.int (F_X10_remembered mem p0 p1))) mem := by
  refine ax_start (ls := [.ref 136, .int p0, .int p1]) (u := 0) (by decide +kernel) (Nat.le_of_ble_eq_true rfl) (Nat.le_refl _) (Nat.le_refl _) rfl ?_
  refine ax_aload_n (j := 0) dX10_remembered_0 rfl rfl rfl ?_
  refine am_getR flX10_13 dX10_remembered_1 rfl is136 rfl ?_
  refine ax_bipush (v := 16) dX10_remembered_4 (by decide) rfl ?_
  refine ax_bipush (v := 8) dX10_remembered_6 (by decide) rfl ?_
  refine ax_iload_n (j := 1) dX10_remembered_8 rfl rfl rfl ?_
  refine ax_imul dX10_remembered_9 rfl ?_
  refine ax_iadd dX10_remembered_10 rfl ?_
  refine ax_iload_n (j := 2) dX10_remembered_11 rfl rfl rfl ?_
  refine ax_iadd dX10_remembered_12 rfl ?_
  refine am_iald dX10_remembered_13 rfl is138 (by assumption) ?_
  exact ax_ireturn rfl dX10_remembered_14 ⟨by simp only [F_X10_remembered], rfl⟩

def f_X10_knownBy_4 (mem : ax_Me) (p0 : Int32)  (j : Nat) (s : Int32) : Int32 :=
  match s with
  | x0 => (if (F_X10_remembered mem p0 (nI j)) < 0 then (x0 ||| 0) else (x0 ||| (1 <<< ((nI j) &&& 31))))
def F_X10_knownBy (mem : ax_Me) (p0 : Int32) : Int32 :=
  (ax_it (f_X10_knownBy_4 mem p0) (((mem 136 0) : Int32).toNatClampNeg) (0) 0)
set_option maxRecDepth 20000 in
theorem lp_X10_knownBy_4 {G : ax_G} {l : Launch} {Q : Option Value → ax_H → Prop} (mem : ax_Me) (p0 : Int32)  (hc : mp mem) (hw : vp_in p0 8) : ∀ (n j : Nat) (x0 : Int32), j + n = ((mem 136 0) : Int32).toNatClampNeg → AX G l mX10_knownBy 1 37 [.ref 136, .int p0, .int (ax_it (f_X10_knownBy_4 mem p0) n j x0), .int (nI (((mem 136 0) : Int32).toNatClampNeg))] [] 153 0 (ax_hm mem) 153 0 Q → AX G l mX10_knownBy 1 4 [.ref 136, .int p0, .int x0, .int (nI j)] [] 153 0 (ax_hm mem) 153 0 Q := by
  intro n
  induction n with
  | zero =>
    intro j x0 hj hx
    refine ax_iload_n (j := 3) dX10_knownBy_4 rfl rfl rfl ?_
    refine ax_aload_n (j := 0) dX10_knownBy_5 rfl rfl rfl ?_
    refine am_getI flX10_63 dX10_knownBy_6 rfl is136 rfl ?_
    refine ax_icmp_ge (tgt := 37) dX10_knownBy_9 (by decide) rfl (fun c9 => ?_) (fun c9 => ?_)
    · have q := hx
      simp only [ax_it] at q
      rw [show (((mem 136 0) : Int32).toNatClampNeg) = j by omega] at q
      exact q
    · exact absurd (cl_ge (by omega)) c9
  | succ n ih =>
    intro j x0 hj hx
    refine ax_iload_n (j := 3) dX10_knownBy_4 rfl rfl rfl ?_
    refine ax_aload_n (j := 0) dX10_knownBy_5 rfl rfl rfl ?_
    refine am_getI flX10_63 dX10_knownBy_6 rfl is136 rfl ?_
    refine ax_icmp_ge (tgt := 37) dX10_knownBy_9 (by decide) rfl (fun c9 => ?_) (fun c9 => ?_)
    · exact absurd c9 (cl_nle (by omega))
    · refine ax_iload_n (j := 2) dX10_knownBy_12 rfl rfl rfl ?_
      refine ax_aload_n (j := 0) dX10_knownBy_13 rfl rfl rfl ?_
      refine ax_iload_n (j := 1) dX10_knownBy_14 rfl rfl rfl ?_
      refine ax_iload_n (j := 3) dX10_knownBy_15 rfl rfl rfl ?_
      refine ad_V2 ksX10_remembered lkX10_133 dX10_knownBy_16 rfl is136 rfl (Nat.le_of_ble_eq_true rfl) (Nat.le_of_ble_eq_true rfl) (s_X10_remembered _ _ _ (in_mem hw (vp_in_nI (by have := hc.le; omega) (by decide))).1) ?_
      refine ax_if_lt (tgt := 28) dX10_knownBy_19 (by decide) rfl (fun c19 => ?_) (fun c19 => ?_)
      · refine ax_iconst (v := 0) dX10_knownBy_28 (by decide) rfl ?_
        refine ax_ior dX10_knownBy_29 rfl ?_
        refine ax_ist2 dX10_knownBy_30 rfl rfl (Nat.le_of_ble_eq_true rfl) rfl ?_
        refine ax_iinc3 (v := nI (j + 1)) dX10_knownBy_31 rfl (cl_inc j) (Nat.le_of_ble_eq_true rfl) rfl ?_
        refine ax_goto (tgt := 4) dX10_knownBy_34 (by decide) ?_
        have e1 : f_X10_knownBy_4 mem p0 j x0 = (x0 ||| 0) := by simp only [f_X10_knownBy_4, if_pos c19]
        simp only [ax_it, e1] at hx
        exact ih (j + 1) ((x0 ||| 0)) (by omega) hx
      · refine ax_iconst (v := 1) dX10_knownBy_22 (by decide) rfl ?_
        refine ax_iload_n (j := 3) dX10_knownBy_23 rfl rfl rfl ?_
        refine ax_ishl dX10_knownBy_24 rfl ?_
        refine ax_goto (tgt := 29) dX10_knownBy_25 (by decide) ?_
        refine ax_ior dX10_knownBy_29 rfl ?_
        refine ax_ist2 dX10_knownBy_30 rfl rfl (Nat.le_of_ble_eq_true rfl) rfl ?_
        refine ax_iinc3 (v := nI (j + 1)) dX10_knownBy_31 rfl (cl_inc j) (Nat.le_of_ble_eq_true rfl) rfl ?_
        refine ax_goto (tgt := 4) dX10_knownBy_34 (by decide) ?_
        have e1 : f_X10_knownBy_4 mem p0 j x0 = (x0 ||| (1 <<< ((nI j) &&& 31))) := by simp only [f_X10_knownBy_4, if_neg c19]
        simp only [ax_it, e1] at hx
        exact ih (j + 1) ((x0 ||| (1 <<< ((nI j) &&& 31)))) (by omega) hx
set_option maxRecDepth 20000 in
theorem s_X10_knownBy {G : ax_G} {l : Launch} (mem : ax_Me) (p0 : Int32) (hc : mp mem) (hw : vp_in p0 8) : AD G l 1 mX10_knownBy [.ref 136, .int p0] mem (some (.int (F_X10_knownBy mem p0))) mem := by
  refine ax_start (ls := [.ref 136, .int p0, .float 0, .float 0]) (u := 2) (by decide +kernel) (Nat.le_of_ble_eq_true rfl) (Nat.le_refl _) (Nat.le_refl _) rfl ?_
  refine ax_iconst (v := 0) dX10_knownBy_0 (by decide) rfl ?_
  refine ax_ist2 dX10_knownBy_1 rfl rfl (Nat.le_of_ble_eq_true rfl) rfl ?_
  refine ax_iconst (v := 0) dX10_knownBy_2 (by decide) rfl ?_
  refine ax_ist3 dX10_knownBy_3 rfl rfl (Nat.le_of_ble_eq_true rfl) rfl ?_
  refine lp_X10_knownBy_4 mem p0  hc hw  (((mem 136 0) : Int32).toNatClampNeg) (0) (0) (Nat.zero_add _)  ?_
  refine ax_iload_n (j := 2) dX10_knownBy_37 rfl rfl rfl ?_
  exact ax_ireturn rfl dX10_knownBy_38 ⟨by simp only [F_X10_knownBy], rfl⟩

def f_X10_whoKnow_4 (mem : ax_Me) (p0 : Int32)  (j : Nat) (s : Int32) : Int32 :=
  match s with
  | x0 => (if (F_X10_remembered mem (nI j) p0) < 0 then (x0 ||| 0) else (x0 ||| (1 <<< ((nI j) &&& 31))))
def F_X10_whoKnow (mem : ax_Me) (p0 : Int32) : Int32 :=
  (ax_it (f_X10_whoKnow_4 mem p0) (((mem 136 0) : Int32).toNatClampNeg) (0) 0)
set_option maxRecDepth 20000 in
theorem lp_X10_whoKnow_4 {G : ax_G} {l : Launch} {Q : Option Value → ax_H → Prop} (mem : ax_Me) (p0 : Int32)  (hc : mp mem) (hw : vp_in p0 8) : ∀ (n j : Nat) (x0 : Int32), j + n = ((mem 136 0) : Int32).toNatClampNeg → AX G l mX10_whoKnow 1 37 [.ref 136, .int p0, .int (ax_it (f_X10_whoKnow_4 mem p0) n j x0), .int (nI (((mem 136 0) : Int32).toNatClampNeg))] [] 153 0 (ax_hm mem) 153 0 Q → AX G l mX10_whoKnow 1 4 [.ref 136, .int p0, .int x0, .int (nI j)] [] 153 0 (ax_hm mem) 153 0 Q := by
  intro n
  induction n with
  | zero =>
    intro j x0 hj hx
    refine ax_iload_n (j := 3) dX10_whoKnow_4 rfl rfl rfl ?_
    refine ax_aload_n (j := 0) dX10_whoKnow_5 rfl rfl rfl ?_
    refine am_getI flX10_63 dX10_whoKnow_6 rfl is136 rfl ?_
    refine ax_icmp_ge (tgt := 37) dX10_whoKnow_9 (by decide) rfl (fun c9 => ?_) (fun c9 => ?_)
    · have q := hx
      simp only [ax_it] at q
      rw [show (((mem 136 0) : Int32).toNatClampNeg) = j by omega] at q
      exact q
    · exact absurd (cl_ge (by omega)) c9
  | succ n ih =>
    intro j x0 hj hx
    refine ax_iload_n (j := 3) dX10_whoKnow_4 rfl rfl rfl ?_
    refine ax_aload_n (j := 0) dX10_whoKnow_5 rfl rfl rfl ?_
    refine am_getI flX10_63 dX10_whoKnow_6 rfl is136 rfl ?_
    refine ax_icmp_ge (tgt := 37) dX10_whoKnow_9 (by decide) rfl (fun c9 => ?_) (fun c9 => ?_)
    · exact absurd c9 (cl_nle (by omega))
    · refine ax_iload_n (j := 2) dX10_whoKnow_12 rfl rfl rfl ?_
      refine ax_aload_n (j := 0) dX10_whoKnow_13 rfl rfl rfl ?_
      refine ax_iload_n (j := 3) dX10_whoKnow_14 rfl rfl rfl ?_
      refine ax_iload_n (j := 1) dX10_whoKnow_15 rfl rfl rfl ?_
      refine ad_V2 ksX10_remembered lkX10_133 dX10_whoKnow_16 rfl is136 rfl (Nat.le_of_ble_eq_true rfl) (Nat.le_of_ble_eq_true rfl) (s_X10_remembered _ _ _ (in_mem (vp_in_nI (by have := hc.le; omega) (by decide)) hw).1) ?_
      refine ax_if_lt (tgt := 28) dX10_whoKnow_19 (by decide) rfl (fun c19 => ?_) (fun c19 => ?_)
      · refine ax_iconst (v := 0) dX10_whoKnow_28 (by decide) rfl ?_
        refine ax_ior dX10_whoKnow_29 rfl ?_
        refine ax_ist2 dX10_whoKnow_30 rfl rfl (Nat.le_of_ble_eq_true rfl) rfl ?_
        refine ax_iinc3 (v := nI (j + 1)) dX10_whoKnow_31 rfl (cl_inc j) (Nat.le_of_ble_eq_true rfl) rfl ?_
        refine ax_goto (tgt := 4) dX10_whoKnow_34 (by decide) ?_
        have e1 : f_X10_whoKnow_4 mem p0 j x0 = (x0 ||| 0) := by simp only [f_X10_whoKnow_4, if_pos c19]
        simp only [ax_it, e1] at hx
        exact ih (j + 1) ((x0 ||| 0)) (by omega) hx
      · refine ax_iconst (v := 1) dX10_whoKnow_22 (by decide) rfl ?_
        refine ax_iload_n (j := 3) dX10_whoKnow_23 rfl rfl rfl ?_
        refine ax_ishl dX10_whoKnow_24 rfl ?_
        refine ax_goto (tgt := 29) dX10_whoKnow_25 (by decide) ?_
        refine ax_ior dX10_whoKnow_29 rfl ?_
        refine ax_ist2 dX10_whoKnow_30 rfl rfl (Nat.le_of_ble_eq_true rfl) rfl ?_
        refine ax_iinc3 (v := nI (j + 1)) dX10_whoKnow_31 rfl (cl_inc j) (Nat.le_of_ble_eq_true rfl) rfl ?_
        refine ax_goto (tgt := 4) dX10_whoKnow_34 (by decide) ?_
        have e1 : f_X10_whoKnow_4 mem p0 j x0 = (x0 ||| (1 <<< ((nI j) &&& 31))) := by simp only [f_X10_whoKnow_4, if_neg c19]
        simp only [ax_it, e1] at hx
        exact ih (j + 1) ((x0 ||| (1 <<< ((nI j) &&& 31)))) (by omega) hx
set_option maxRecDepth 20000 in
theorem s_X10_whoKnow {G : ax_G} {l : Launch} (mem : ax_Me) (p0 : Int32) (hc : mp mem) (hw : vp_in p0 8) : AD G l 1 mX10_whoKnow [.ref 136, .int p0] mem (some (.int (F_X10_whoKnow mem p0))) mem := by
  refine ax_start (ls := [.ref 136, .int p0, .float 0, .float 0]) (u := 2) (by decide +kernel) (Nat.le_of_ble_eq_true rfl) (Nat.le_refl _) (Nat.le_refl _) rfl ?_
  refine ax_iconst (v := 0) dX10_whoKnow_0 (by decide) rfl ?_
  refine ax_ist2 dX10_whoKnow_1 rfl rfl (Nat.le_of_ble_eq_true rfl) rfl ?_
  refine ax_iconst (v := 0) dX10_whoKnow_2 (by decide) rfl ?_
  refine ax_ist3 dX10_whoKnow_3 rfl rfl (Nat.le_of_ble_eq_true rfl) rfl ?_
  refine lp_X10_whoKnow_4 mem p0  hc hw  (((mem 136 0) : Int32).toNatClampNeg) (0) (0) (Nat.zero_add _)  ?_
  refine ax_iload_n (j := 2) dX10_whoKnow_37 rfl rfl rfl ?_
  exact ax_ireturn rfl dX10_whoKnow_38 ⟨by simp only [F_X10_whoKnow], rfl⟩

def f_X10_pairs_4 (mem : ax_Me)   (j : Nat) (s : Int32) : Int32 :=
  match s with
  | x0 => (x0 + (F_X10_bits mem (F_X10_knownBy mem (nI j))))
def F_X10_pairs (mem : ax_Me)  : Int32 :=
  (ax_it (f_X10_pairs_4 mem) (((mem 136 0) : Int32).toNatClampNeg) (0) 0)
set_option maxRecDepth 20000 in
theorem lp_X10_pairs_4 {G : ax_G} {l : Launch} {Q : Option Value → ax_H → Prop} (mem : ax_Me)   (hc : mp mem) : ∀ (n j : Nat) (x0 : Int32), j + n = ((mem 136 0) : Int32).toNatClampNeg → AX G l mX10_pairs 2 29 [.ref 136, .int (ax_it (f_X10_pairs_4 mem) n j x0), .int (nI (((mem 136 0) : Int32).toNatClampNeg))] [] 153 0 (ax_hm mem) 153 0 Q → AX G l mX10_pairs 2 4 [.ref 136, .int x0, .int (nI j)] [] 153 0 (ax_hm mem) 153 0 Q := by
  intro n
  induction n with
  | zero =>
    intro j x0 hj hx
    refine ax_iload_n (j := 2) dX10_pairs_4 rfl rfl rfl ?_
    refine ax_aload_n (j := 0) dX10_pairs_5 rfl rfl rfl ?_
    refine am_getI flX10_63 dX10_pairs_6 rfl is136 rfl ?_
    refine ax_icmp_ge (tgt := 29) dX10_pairs_9 (by decide) rfl (fun c9 => ?_) (fun c9 => ?_)
    · have q := hx
      simp only [ax_it] at q
      rw [show (((mem 136 0) : Int32).toNatClampNeg) = j by omega] at q
      exact q
    · exact absurd (cl_ge (by omega)) c9
  | succ n ih =>
    intro j x0 hj hx
    refine ax_iload_n (j := 2) dX10_pairs_4 rfl rfl rfl ?_
    refine ax_aload_n (j := 0) dX10_pairs_5 rfl rfl rfl ?_
    refine am_getI flX10_63 dX10_pairs_6 rfl is136 rfl ?_
    refine ax_icmp_ge (tgt := 29) dX10_pairs_9 (by decide) rfl (fun c9 => ?_) (fun c9 => ?_)
    · exact absurd c9 (cl_nle (by omega))
    · refine ax_iload_n (j := 1) dX10_pairs_12 rfl rfl rfl ?_
      refine ax_aload_n (j := 0) dX10_pairs_13 rfl rfl rfl ?_
      refine ax_iload_n (j := 2) dX10_pairs_14 rfl rfl rfl ?_
      refine ad_V1 ksX10_knownBy lkX10_136 dX10_pairs_15 rfl is136 rfl (Nat.le_of_ble_eq_true rfl) (Nat.le_of_ble_eq_true rfl) (s_X10_knownBy _ _ hc (vp_in_nI (by have := hc.le; omega) (by decide))) ?_
      refine ad_S1 ksX10_bits lkX10_140 dX10_pairs_18 rfl (Nat.le_of_ble_eq_true rfl) (Nat.le_of_ble_eq_true rfl) (s_X10_bits _ _) ?_
      refine ax_iadd dX10_pairs_21 rfl ?_
      refine ax_ist1 dX10_pairs_22 rfl rfl (Nat.le_of_ble_eq_true rfl) rfl ?_
      refine ax_iinc2 (v := nI (j + 1)) dX10_pairs_23 rfl (cl_inc j) (Nat.le_of_ble_eq_true rfl) rfl ?_
      refine ax_goto (tgt := 4) dX10_pairs_26 (by decide) ?_
      have e1 : f_X10_pairs_4 mem j x0 = (x0 + (F_X10_bits mem (F_X10_knownBy mem (nI j)))) := by simp only [f_X10_pairs_4]
      simp only [ax_it, e1] at hx
      exact ih (j + 1) ((x0 + (F_X10_bits mem (F_X10_knownBy mem (nI j))))) (by omega) hx
set_option maxRecDepth 20000 in
theorem s_X10_pairs {G : ax_G} {l : Launch} (mem : ax_Me)  (hc : mp mem) : AD G l 2 mX10_pairs [.ref 136] mem (some (.int (F_X10_pairs mem))) mem := by
  refine ax_start (ls := [.ref 136, .float 0, .float 0]) (u := 2) (by decide +kernel) (Nat.le_of_ble_eq_true rfl) (Nat.le_refl _) (Nat.le_refl _) rfl ?_
  refine ax_iconst (v := 0) dX10_pairs_0 (by decide) rfl ?_
  refine ax_ist1 dX10_pairs_1 rfl rfl (Nat.le_of_ble_eq_true rfl) rfl ?_
  refine ax_iconst (v := 0) dX10_pairs_2 (by decide) rfl ?_
  refine ax_ist2 dX10_pairs_3 rfl rfl (Nat.le_of_ble_eq_true rfl) rfl ?_
  refine lp_X10_pairs_4 mem   hc  (((mem 136 0) : Int32).toNatClampNeg) (0) (0) (Nat.zero_add _)  ?_
  refine ax_iload_n (j := 1) dX10_pairs_29 rfl rfl rfl ?_
  exact ax_ireturn rfl dX10_pairs_30 ⟨by simp only [F_X10_pairs], rfl⟩

def F_X10_told (mem : ax_Me) (p0 : Int32) : Int32 :=
  (if p0 = 0 then (mem 136 0) else (if p0 = 1 then (mem 136 5) else (if p0 = 2 then (mem 138 (80 : Int32).toNatClampNeg) else (if p0 = 3 then (F_X10_twoOfOne mem) else (if p0 = 4 then (F_X10_nobody mem) else (if p0 = 5 then (F_X10_pairs mem) else (if p0 = 6 then (mem 136 17) else (if p0 = 7 then (mem 136 22) else (if p0 = 8 then (mem 136 14) else (-1000000002))))))))))
set_option maxRecDepth 20000 in
theorem s_X10_told {G : ax_G} {l : Launch} (mem : ax_Me) (p0 : Int32) (hc : mp mem) : AD G l 3 mX10_told [.ref 136, .int p0] mem (some (.int (F_X10_told mem p0))) mem := by
  refine ax_start (ls := [.ref 136, .int p0]) (u := 0) (by decide +kernel) (Nat.le_of_ble_eq_true rfl) (Nat.le_refl _) (Nat.le_refl _) rfl ?_
  refine ax_iload_n (j := 1) dX10_told_0 rfl rfl rfl ?_
  by_cases s1_0 : p0 = 0
  · refine ax_tableIn (off := 51) (tgt := 52) dX10_told_1 (by rw [s1_0]; decide) (by rw [s1_0]; decide) (by rw [s1_0]; rfl) (by decide) ?_
    refine ax_aload_n (j := 0) dX10_told_52 rfl rfl rfl ?_
    refine am_getI flX10_63 dX10_told_53 rfl is136 rfl ?_
    exact ax_ireturn rfl dX10_told_56 ⟨by simp only [F_X10_told, if_pos s1_0], rfl⟩
  by_cases s1_1 : p0 = 1
  · refine ax_tableIn (off := 56) (tgt := 57) dX10_told_1 (by rw [s1_1]; decide) (by rw [s1_1]; decide) (by rw [s1_1]; rfl) (by decide) ?_
    refine ax_aload_n (j := 0) dX10_told_57 rfl rfl rfl ?_
    refine am_getI flX10_77 dX10_told_58 rfl is136 rfl ?_
    exact ax_ireturn rfl dX10_told_61 ⟨by simp only [F_X10_told, if_neg s1_0, if_pos s1_1], rfl⟩
  by_cases s1_2 : p0 = 2
  · refine ax_tableIn (off := 61) (tgt := 62) dX10_told_1 (by rw [s1_2]; decide) (by rw [s1_2]; decide) (by rw [s1_2]; rfl) (by decide) ?_
    refine ax_aload_n (j := 0) dX10_told_62 rfl rfl rfl ?_
    refine am_getR flX10_13 dX10_told_63 rfl is136 rfl ?_
    refine ax_bipush (v := 80) dX10_told_66 (by decide) rfl ?_
    refine am_iald dX10_told_68 rfl is138 (by unfold vp_in; decide) ?_
    exact ax_ireturn rfl dX10_told_69 ⟨by simp only [F_X10_told, if_neg s1_0, if_neg s1_1, if_pos s1_2], rfl⟩
  by_cases s1_3 : p0 = 3
  · refine ax_tableIn (off := 69) (tgt := 70) dX10_told_1 (by rw [s1_3]; decide) (by rw [s1_3]; decide) (by rw [s1_3]; rfl) (by decide) ?_
    refine ax_aload_n (j := 0) dX10_told_70 rfl rfl rfl ?_
    refine ad_V0 ksX10_twoOfOne lkX10_143 dX10_told_71 rfl is136 rfl (Nat.le_of_ble_eq_true rfl) (Nat.le_of_ble_eq_true rfl) (s_X10_twoOfOne _ (by assumption)) ?_
    exact ax_ireturn rfl dX10_told_74 ⟨by simp only [F_X10_told, if_neg s1_0, if_neg s1_1, if_neg s1_2, if_pos s1_3], rfl⟩
  by_cases s1_4 : p0 = 4
  · refine ax_tableIn (off := 74) (tgt := 75) dX10_told_1 (by rw [s1_4]; decide) (by rw [s1_4]; decide) (by rw [s1_4]; rfl) (by decide) ?_
    refine ax_aload_n (j := 0) dX10_told_75 rfl rfl rfl ?_
    refine ad_V0 ksX10_nobody lkX10_146 dX10_told_76 rfl is136 rfl (Nat.le_of_ble_eq_true rfl) (Nat.le_of_ble_eq_true rfl) (s_X10_nobody _ (by assumption)) ?_
    exact ax_ireturn rfl dX10_told_79 ⟨by simp only [F_X10_told, if_neg s1_0, if_neg s1_1, if_neg s1_2, if_neg s1_3, if_pos s1_4], rfl⟩
  by_cases s1_5 : p0 = 5
  · refine ax_tableIn (off := 79) (tgt := 80) dX10_told_1 (by rw [s1_5]; decide) (by rw [s1_5]; decide) (by rw [s1_5]; rfl) (by decide) ?_
    refine ax_aload_n (j := 0) dX10_told_80 rfl rfl rfl ?_
    refine ad_V0 ksX10_pairs lkX10_149 dX10_told_81 rfl is136 rfl (Nat.le_of_ble_eq_true rfl) (Nat.le_of_ble_eq_true rfl) (s_X10_pairs _ (by assumption)) ?_
    exact ax_ireturn rfl dX10_told_84 ⟨by simp only [F_X10_told, if_neg s1_0, if_neg s1_1, if_neg s1_2, if_neg s1_3, if_neg s1_4, if_pos s1_5], rfl⟩
  by_cases s1_6 : p0 = 6
  · refine ax_tableIn (off := 84) (tgt := 85) dX10_told_1 (by rw [s1_6]; decide) (by rw [s1_6]; decide) (by rw [s1_6]; rfl) (by decide) ?_
    refine ax_aload_n (j := 0) dX10_told_85 rfl rfl rfl ?_
    refine am_getI flX10_124 dX10_told_86 rfl is136 rfl ?_
    exact ax_ireturn rfl dX10_told_89 ⟨by simp only [F_X10_told, if_neg s1_0, if_neg s1_1, if_neg s1_2, if_neg s1_3, if_neg s1_4, if_neg s1_5, if_pos s1_6], rfl⟩
  by_cases s1_7 : p0 = 7
  · refine ax_tableIn (off := 89) (tgt := 90) dX10_told_1 (by rw [s1_7]; decide) (by rw [s1_7]; decide) (by rw [s1_7]; rfl) (by decide) ?_
    refine ax_aload_n (j := 0) dX10_told_90 rfl rfl rfl ?_
    refine am_getI flX10_127 dX10_told_91 rfl is136 rfl ?_
    exact ax_ireturn rfl dX10_told_94 ⟨by simp only [F_X10_told, if_neg s1_0, if_neg s1_1, if_neg s1_2, if_neg s1_3, if_neg s1_4, if_neg s1_5, if_neg s1_6, if_pos s1_7], rfl⟩
  by_cases s1_8 : p0 = 8
  · refine ax_tableIn (off := 94) (tgt := 95) dX10_told_1 (by rw [s1_8]; decide) (by rw [s1_8]; decide) (by rw [s1_8]; rfl) (by decide) ?_
    refine ax_aload_n (j := 0) dX10_told_95 rfl rfl rfl ?_
    refine am_getI flX10_130 dX10_told_96 rfl is136 rfl ?_
    exact ax_ireturn rfl dX10_told_99 ⟨by simp only [F_X10_told, if_neg s1_0, if_neg s1_1, if_neg s1_2, if_neg s1_3, if_neg s1_4, if_neg s1_5, if_neg s1_6, if_neg s1_7, if_pos s1_8], rfl⟩
  refine ax_tableOut (tgt := 100) dX10_told_1 (by have q0 := lv_neT s1_0 (a := 0) rfl; have q1 := lv_neT s1_1 (a := 1) rfl; have q2 := lv_neT s1_2 (a := 2) rfl; have q3 := lv_neT s1_3 (a := 3) rfl; have q4 := lv_neT s1_4 (a := 4) rfl; have q5 := lv_neT s1_5 (a := 5) rfl; have q6 := lv_neT s1_6 (a := 6) rfl; have q7 := lv_neT s1_7 (a := 7) rfl; have q8 := lv_neT s1_8 (a := 8) rfl; omega) (by decide) ?_
  refine ax_ldc dX10_told_100 cnX10_76 rfl ?_
  exact ax_ireturn rfl dX10_told_102 ⟨by simp only [F_X10_told, if_neg s1_0, if_neg s1_1, if_neg s1_2, if_neg s1_3, if_neg s1_4, if_neg s1_5, if_neg s1_6, if_neg s1_7, if_neg s1_8], rfl⟩

def F_X10_person (mem : ax_Me) (p0 : Int32) (p1 : Int32) : Int32 :=
  (if (F_X10_isPerson mem p0) = 0 then (-1000000001) else (if p1 = 0 then (mem 138 p0.toNatClampNeg) else (if p1 = 1 then (mem 137 p0.toNatClampNeg) else (if p1 = 2 then (mem 138 (8 + p0).toNatClampNeg) else (if p1 = 3 then (F_X10_knownBy mem p0) else (if p1 = 4 then (F_X10_whoKnow mem p0) else (-1000000002)))))))
set_option maxRecDepth 20000 in
theorem s_X10_person {G : ax_G} {l : Launch} (mem : ax_Me) (p0 : Int32) (p1 : Int32) (hc : mp mem) : AD G l 2 mX10_person [.ref 136, .int p0, .int p1] mem (some (.int (F_X10_person mem p0 p1))) mem := by
  refine ax_start (ls := [.ref 136, .int p0, .int p1]) (u := 0) (by decide +kernel) (Nat.le_of_ble_eq_true rfl) (Nat.le_refl _) (Nat.le_refl _) rfl ?_
  refine ax_aload_n (j := 0) dX10_person_0 rfl rfl rfl ?_
  refine ax_iload_n (j := 1) dX10_person_1 rfl rfl rfl ?_
  refine ad_V1 ksX10_isPerson lkX10_70 dX10_person_2 rfl is136 rfl (Nat.le_of_ble_eq_true rfl) (Nat.le_of_ble_eq_true rfl) (s_X10_isPerson _ _) ?_
  refine ax_if_ne (tgt := 11) dX10_person_5 (by decide) rfl (fun c5 => ?_) (fun c5 => ?_)
  · refine ax_iload_n (j := 2) dX10_person_11 rfl rfl rfl ?_
    by_cases s12_0 : p1 = 0
    · refine ax_tableIn (off := 36) (tgt := 48) dX10_person_12 (by rw [s12_0]; decide) (by rw [s12_0]; decide) (by rw [s12_0]; rfl) (by decide) ?_
      refine ax_aload_n (j := 0) dX10_person_48 rfl rfl rfl ?_
      refine am_getR flX10_13 dX10_person_49 rfl is136 rfl ?_
      refine ax_iload_n (j := 1) dX10_person_52 rfl rfl rfl ?_
      refine am_iald dX10_person_53 rfl is138 (vp_mono (isp_in hc c5) (by decide)) ?_
      exact ax_ireturn rfl dX10_person_54 ⟨by simp only [F_X10_person, if_neg c5, if_pos s12_0], rfl⟩
    by_cases s12_1 : p1 = 1
    · refine ax_tableIn (off := 43) (tgt := 55) dX10_person_12 (by rw [s12_1]; decide) (by rw [s12_1]; decide) (by rw [s12_1]; rfl) (by decide) ?_
      refine ax_aload_n (j := 0) dX10_person_55 rfl rfl rfl ?_
      refine am_getR flX10_7 dX10_person_56 rfl is136 rfl ?_
      refine ax_iload_n (j := 1) dX10_person_59 rfl rfl rfl ?_
      refine am_iald dX10_person_60 rfl is137 (isp_in hc c5) ?_
      exact ax_ireturn rfl dX10_person_61 ⟨by simp only [F_X10_person, if_neg c5, if_neg s12_0, if_pos s12_1], rfl⟩
    by_cases s12_2 : p1 = 2
    · refine ax_tableIn (off := 50) (tgt := 62) dX10_person_12 (by rw [s12_2]; decide) (by rw [s12_2]; decide) (by rw [s12_2]; rfl) (by decide) ?_
      refine ax_aload_n (j := 0) dX10_person_62 rfl rfl rfl ?_
      refine am_getR flX10_13 dX10_person_63 rfl is136 rfl ?_
      refine ax_bipush (v := 8) dX10_person_66 (by decide) rfl ?_
      refine ax_iload_n (j := 1) dX10_person_68 rfl rfl rfl ?_
      refine ax_iadd dX10_person_69 rfl ?_
      refine am_iald dX10_person_70 rfl is138 (in_8 (isp_in hc c5)).1 ?_
      exact ax_ireturn rfl dX10_person_71 ⟨by simp only [F_X10_person, if_neg c5, if_neg s12_0, if_neg s12_1, if_pos s12_2], rfl⟩
    by_cases s12_3 : p1 = 3
    · refine ax_tableIn (off := 60) (tgt := 72) dX10_person_12 (by rw [s12_3]; decide) (by rw [s12_3]; decide) (by rw [s12_3]; rfl) (by decide) ?_
      refine ax_aload_n (j := 0) dX10_person_72 rfl rfl rfl ?_
      refine ax_iload_n (j := 1) dX10_person_73 rfl rfl rfl ?_
      refine ad_V1 ksX10_knownBy lkX10_136 dX10_person_74 rfl is136 rfl (Nat.le_of_ble_eq_true rfl) (Nat.le_of_ble_eq_true rfl) (s_X10_knownBy _ _ hc (isp_in hc c5)) ?_
      exact ax_ireturn rfl dX10_person_77 ⟨by simp only [F_X10_person, if_neg c5, if_neg s12_0, if_neg s12_1, if_neg s12_2, if_pos s12_3], rfl⟩
    by_cases s12_4 : p1 = 4
    · refine ax_tableIn (off := 66) (tgt := 78) dX10_person_12 (by rw [s12_4]; decide) (by rw [s12_4]; decide) (by rw [s12_4]; rfl) (by decide) ?_
      refine ax_aload_n (j := 0) dX10_person_78 rfl rfl rfl ?_
      refine ax_iload_n (j := 1) dX10_person_79 rfl rfl rfl ?_
      refine ad_V1 ksX10_whoKnow lkX10_153 dX10_person_80 rfl is136 rfl (Nat.le_of_ble_eq_true rfl) (Nat.le_of_ble_eq_true rfl) (s_X10_whoKnow _ _ hc (isp_in hc c5)) ?_
      exact ax_ireturn rfl dX10_person_83 ⟨by simp only [F_X10_person, if_neg c5, if_neg s12_0, if_neg s12_1, if_neg s12_2, if_neg s12_3, if_pos s12_4], rfl⟩
    refine ax_tableOut (tgt := 84) dX10_person_12 (by have q0 := lv_neT s12_0 (a := 0) rfl; have q1 := lv_neT s12_1 (a := 1) rfl; have q2 := lv_neT s12_2 (a := 2) rfl; have q3 := lv_neT s12_3 (a := 3) rfl; have q4 := lv_neT s12_4 (a := 4) rfl; omega) (by decide) ?_
    refine ax_ldc dX10_person_84 cnX10_76 rfl ?_
    exact ax_ireturn rfl dX10_person_86 ⟨by simp only [F_X10_person, if_neg c5, if_neg s12_0, if_neg s12_1, if_neg s12_2, if_neg s12_3, if_neg s12_4], rfl⟩
  · refine ax_ldc dX10_person_8 cnX10_152 rfl ?_
    exact ax_ireturn rfl dX10_person_10 ⟨by simp only [F_X10_person, if_pos c5], rfl⟩

def F_X10_remembers (mem : ax_Me) (p0 : Int32) (p1 : Int32) : Int32 :=
  (if (F_X10_areTwo mem p0 p1) = 0 then (-1000000001) else (F_X10_remembered mem p0 p1))
set_option maxRecDepth 20000 in
theorem s_X10_remembers {G : ax_G} {l : Launch} (mem : ax_Me) (p0 : Int32) (p1 : Int32) (hc : mp mem) : AD G l 3 mX10_remembers [.ref 136, .int p0, .int p1] mem (some (.int (F_X10_remembers mem p0 p1))) mem := by
  refine ax_start (ls := [.ref 136, .int p0, .int p1]) (u := 0) (by decide +kernel) (Nat.le_of_ble_eq_true rfl) (Nat.le_refl _) (Nat.le_refl _) rfl ?_
  refine ax_aload_n (j := 0) dX10_remembers_0 rfl rfl rfl ?_
  refine ax_iload_n (j := 1) dX10_remembers_1 rfl rfl rfl ?_
  refine ax_iload_n (j := 2) dX10_remembers_2 rfl rfl rfl ?_
  refine ad_V2 ksX10_areTwo lkX10_156 dX10_remembers_3 rfl is136 rfl (Nat.le_of_ble_eq_true rfl) (Nat.le_of_ble_eq_true rfl) (s_X10_areTwo _ _ _) ?_
  refine ax_if_eq (tgt := 18) dX10_remembers_6 (by decide) rfl (fun c6 => ?_) (fun c6 => ?_)
  · refine ax_ldc dX10_remembers_18 cnX10_152 rfl ?_
    exact ax_ireturn rfl dX10_remembers_20 ⟨by simp only [F_X10_remembers, if_pos c6], rfl⟩
  · refine ax_aload_n (j := 0) dX10_remembers_9 rfl rfl rfl ?_
    refine ax_iload_n (j := 1) dX10_remembers_10 rfl rfl rfl ?_
    refine ax_iload_n (j := 2) dX10_remembers_11 rfl rfl rfl ?_
    refine ad_V2 ksX10_remembered lkX10_133 dX10_remembers_12 rfl is136 rfl (Nat.le_of_ble_eq_true rfl) (Nat.le_of_ble_eq_true rfl) (s_X10_remembered _ _ _ (in_mem (isp_in hc (two_of c6).1) (isp_in hc (two_of c6).2.1)).1) ?_
    refine ax_goto (tgt := 20) dX10_remembers_15 (by decide) ?_
    exact ax_ireturn rfl dX10_remembers_20 ⟨by simp only [F_X10_remembers, if_neg c6], rfl⟩

def F_X10_apart (mem : ax_Me) (p0 : Int32) (p1 : Int32) : Int32 :=
  (F_X10_bits mem (p0 ^^^ p1))
set_option maxRecDepth 20000 in
theorem s_X10_apart {G : ax_G} {l : Launch} (mem : ax_Me) (p0 : Int32) (p1 : Int32)  : AD G l 1 mX10_apart [.int p0, .int p1] mem (some (.int (F_X10_apart mem p0 p1))) mem := by
  refine ax_start (ls := [.int p0, .int p1]) (u := 0) (by decide +kernel) (Nat.le_of_ble_eq_true rfl) (Nat.le_refl _) (Nat.le_refl _) rfl ?_
  refine ax_iload_n (j := 0) dX10_apart_0 rfl rfl rfl ?_
  refine ax_iload_n (j := 1) dX10_apart_1 rfl rfl rfl ?_
  refine ax_ixor dX10_apart_2 rfl ?_
  refine ad_S1 ksX10_bits lkX10_140 dX10_apart_3 rfl (Nat.le_of_ble_eq_true rfl) (Nat.le_of_ble_eq_true rfl) (s_X10_bits _ _) ?_
  exact ax_ireturn rfl dX10_apart_6 ⟨by simp only [F_X10_apart], rfl⟩

def f_X10_pickBy_9 (mem : ax_Me) (p0 : Int32) (p1 : Int32)  (j : Nat) (s : Int32 × Int32) : Int32 × Int32 :=
  match s with
  | (x0, x1) => (if (F_X10_has mem p1 (nI j)) = 0 then (if x1 ≤ 99 then (x0, x1) else ((nI j), 99)) else (if x1 ≤ (F_X10_apart mem (mem 138 (nI j).toNatClampNeg) p0) then (x0, x1) else ((nI j), (F_X10_apart mem (mem 138 (nI j).toNatClampNeg) p0))))
def F_X10_pickBy (mem : ax_Me) (p0 : Int32) (p1 : Int32) : Int32 :=
  (ax_it (f_X10_pickBy_9 mem p0 p1) (((mem 136 0) : Int32).toNatClampNeg) (0) ((-1), 99)).1
set_option maxRecDepth 20000 in
theorem lp_X10_pickBy_9 {G : ax_G} {l : Launch} {Q : Option Value → ax_H → Prop} (mem : ax_Me) (p0 : Int32) (p1 : Int32)  (hc : mp mem) : ∀ (n j : Nat) (x0 : Int32) (x1 : Int32), j + n = ((mem 136 0) : Int32).toNatClampNeg → AX G l mX10_pickBy 2 81 [.ref 136, .int p0, .int p1, .int (ax_it (f_X10_pickBy_9 mem p0 p1) n j (x0, x1)).1, .int (ax_it (f_X10_pickBy_9 mem p0 p1) n j (x0, x1)).2, .int (nI (((mem 136 0) : Int32).toNatClampNeg)), .float 0] [] 153 0 (ax_hm mem) 153 0 Q → AX G l mX10_pickBy 2 9 [.ref 136, .int p0, .int p1, .int x0, .int x1, .int (nI j), .float 0] [] 153 0 (ax_hm mem) 153 0 Q := by
  intro n
  induction n with
  | zero =>
    intro j x0 x1 hj hx
    refine ax_iload dX10_pickBy_9 rfl rfl ?_
    refine ax_aload_n (j := 0) dX10_pickBy_11 rfl rfl rfl ?_
    refine am_getI flX10_63 dX10_pickBy_12 rfl is136 rfl ?_
    refine ax_icmp_ge (tgt := 81) dX10_pickBy_15 (by decide) rfl (fun c15 => ?_) (fun c15 => ?_)
    · have q := hx
      simp only [ax_it] at q
      rw [show (((mem 136 0) : Int32).toNatClampNeg) = j by omega] at q
      exact q
    · exact absurd (cl_ge (by omega)) c15
  | succ n ih =>
    intro j x0 x1 hj hx
    refine ax_iload dX10_pickBy_9 rfl rfl ?_
    refine ax_aload_n (j := 0) dX10_pickBy_11 rfl rfl rfl ?_
    refine am_getI flX10_63 dX10_pickBy_12 rfl is136 rfl ?_
    refine ax_icmp_ge (tgt := 81) dX10_pickBy_15 (by decide) rfl (fun c15 => ?_) (fun c15 => ?_)
    · exact absurd c15 (cl_nle (by omega))
    · refine ax_iload_n (j := 2) dX10_pickBy_18 rfl rfl rfl ?_
      refine ax_iload dX10_pickBy_19 rfl rfl ?_
      refine ad_S2 ksX10_has lkX10_160 dX10_pickBy_21 rfl (Nat.le_of_ble_eq_true rfl) (Nat.le_of_ble_eq_true rfl) (s_X10_has _ _ _) ?_
      refine ax_if_eq (tgt := 41) dX10_pickBy_24 (by decide) rfl (fun c24 => ?_) (fun c24 => ?_)
      · refine ax_bipush (v := 99) dX10_pickBy_41 (by decide) rfl ?_
        refine ax_ist6 dX10_pickBy_43 rfl (Nat.le_of_ble_eq_true rfl) rfl ?_
        refine ax_iload dX10_pickBy_45 rfl rfl ?_
        refine ax_iload dX10_pickBy_47 rfl rfl ?_
        refine ax_icmp_ge (tgt := 57) dX10_pickBy_49 (by decide) rfl (fun c49 => ?_) (fun c49 => ?_)
        · refine ax_iload_n (j := 3) dX10_pickBy_57 rfl rfl rfl ?_
          refine ax_ist3 dX10_pickBy_58 rfl rfl (Nat.le_of_ble_eq_true rfl) rfl ?_
          refine ax_iload dX10_pickBy_59 rfl rfl ?_
          refine ax_iload dX10_pickBy_61 rfl rfl ?_
          refine ax_icmp_ge (tgt := 71) dX10_pickBy_63 (by decide) rfl (fun c63 => ?_) (fun c63 => ?_)
          · refine ax_iload dX10_pickBy_71 rfl rfl ?_
            refine ax_ist4 dX10_pickBy_73 rfl (Nat.le_of_ble_eq_true rfl) rfl ?_
            refine ax_iinc5 (v := nI (j + 1)) dX10_pickBy_75 rfl (cl_inc j) (Nat.le_of_ble_eq_true rfl) rfl ?_
            refine ax_goto (tgt := 9) dX10_pickBy_78 (by decide) ?_
            refine ax_fg6 ?_
            have e1 : f_X10_pickBy_9 mem p0 p1 j (x0, x1) = (x0, x1) := by simp only [f_X10_pickBy_9, if_pos c24, if_pos c49]
            simp only [ax_it, e1] at hx
            exact ih (j + 1) (x0) (x1) (by omega) hx
          · exact absurd c49 c63
        · refine ax_iload dX10_pickBy_52 rfl rfl ?_
          refine ax_goto (tgt := 58) dX10_pickBy_54 (by decide) ?_
          refine ax_ist3 dX10_pickBy_58 rfl rfl (Nat.le_of_ble_eq_true rfl) rfl ?_
          refine ax_iload dX10_pickBy_59 rfl rfl ?_
          refine ax_iload dX10_pickBy_61 rfl rfl ?_
          refine ax_icmp_ge (tgt := 71) dX10_pickBy_63 (by decide) rfl (fun c63 => ?_) (fun c63 => ?_)
          · exact absurd c63 c49
          · refine ax_iload dX10_pickBy_66 rfl rfl ?_
            refine ax_goto (tgt := 73) dX10_pickBy_68 (by decide) ?_
            refine ax_ist4 dX10_pickBy_73 rfl (Nat.le_of_ble_eq_true rfl) rfl ?_
            refine ax_iinc5 (v := nI (j + 1)) dX10_pickBy_75 rfl (cl_inc j) (Nat.le_of_ble_eq_true rfl) rfl ?_
            refine ax_goto (tgt := 9) dX10_pickBy_78 (by decide) ?_
            refine ax_fg6 ?_
            have e1 : f_X10_pickBy_9 mem p0 p1 j (x0, x1) = ((nI j), 99) := by simp only [f_X10_pickBy_9, if_pos c24, if_neg c49]
            simp only [ax_it, e1] at hx
            exact ih (j + 1) ((nI j)) (99) (by omega) hx
      · refine ax_aload_n (j := 0) dX10_pickBy_27 rfl rfl rfl ?_
        refine am_getR flX10_13 dX10_pickBy_28 rfl is136 rfl ?_
        refine ax_iload dX10_pickBy_31 rfl rfl ?_
        refine am_iald dX10_pickBy_33 rfl is138 (vp_in_nI (by have := hc.le; omega) (by decide)) ?_
        refine ax_iload_n (j := 1) dX10_pickBy_34 rfl rfl rfl ?_
        refine ad_S2 ksX10_apart lkX10_163 dX10_pickBy_35 rfl (Nat.le_of_ble_eq_true rfl) (Nat.le_of_ble_eq_true rfl) (s_X10_apart _ _ _) ?_
        refine ax_goto (tgt := 43) dX10_pickBy_38 (by decide) ?_
        refine ax_ist6 dX10_pickBy_43 rfl (Nat.le_of_ble_eq_true rfl) rfl ?_
        refine ax_iload dX10_pickBy_45 rfl rfl ?_
        refine ax_iload dX10_pickBy_47 rfl rfl ?_
        refine ax_icmp_ge (tgt := 57) dX10_pickBy_49 (by decide) rfl (fun c49 => ?_) (fun c49 => ?_)
        · refine ax_iload_n (j := 3) dX10_pickBy_57 rfl rfl rfl ?_
          refine ax_ist3 dX10_pickBy_58 rfl rfl (Nat.le_of_ble_eq_true rfl) rfl ?_
          refine ax_iload dX10_pickBy_59 rfl rfl ?_
          refine ax_iload dX10_pickBy_61 rfl rfl ?_
          refine ax_icmp_ge (tgt := 71) dX10_pickBy_63 (by decide) rfl (fun c63 => ?_) (fun c63 => ?_)
          · refine ax_iload dX10_pickBy_71 rfl rfl ?_
            refine ax_ist4 dX10_pickBy_73 rfl (Nat.le_of_ble_eq_true rfl) rfl ?_
            refine ax_iinc5 (v := nI (j + 1)) dX10_pickBy_75 rfl (cl_inc j) (Nat.le_of_ble_eq_true rfl) rfl ?_
            refine ax_goto (tgt := 9) dX10_pickBy_78 (by decide) ?_
            refine ax_fg6 ?_
            have e1 : f_X10_pickBy_9 mem p0 p1 j (x0, x1) = (x0, x1) := by simp only [f_X10_pickBy_9, if_neg c24, if_pos c49]
            simp only [ax_it, e1] at hx
            exact ih (j + 1) (x0) (x1) (by omega) hx
          · exact absurd c49 c63
        · refine ax_iload dX10_pickBy_52 rfl rfl ?_
          refine ax_goto (tgt := 58) dX10_pickBy_54 (by decide) ?_
          refine ax_ist3 dX10_pickBy_58 rfl rfl (Nat.le_of_ble_eq_true rfl) rfl ?_
          refine ax_iload dX10_pickBy_59 rfl rfl ?_
          refine ax_iload dX10_pickBy_61 rfl rfl ?_
          refine ax_icmp_ge (tgt := 71) dX10_pickBy_63 (by decide) rfl (fun c63 => ?_) (fun c63 => ?_)
          · exact absurd c63 c49
          · refine ax_iload dX10_pickBy_66 rfl rfl ?_
            refine ax_goto (tgt := 73) dX10_pickBy_68 (by decide) ?_
            refine ax_ist4 dX10_pickBy_73 rfl (Nat.le_of_ble_eq_true rfl) rfl ?_
            refine ax_iinc5 (v := nI (j + 1)) dX10_pickBy_75 rfl (cl_inc j) (Nat.le_of_ble_eq_true rfl) rfl ?_
            refine ax_goto (tgt := 9) dX10_pickBy_78 (by decide) ?_
            refine ax_fg6 ?_
            have e1 : f_X10_pickBy_9 mem p0 p1 j (x0, x1) = ((nI j), (F_X10_apart mem (mem 138 (nI j).toNatClampNeg) p0)) := by simp only [f_X10_pickBy_9, if_neg c24, if_neg c49]
            simp only [ax_it, e1] at hx
            exact ih (j + 1) ((nI j)) ((F_X10_apart mem (mem 138 (nI j).toNatClampNeg) p0)) (by omega) hx
set_option maxRecDepth 20000 in
theorem s_X10_pickBy {G : ax_G} {l : Launch} (mem : ax_Me) (p0 : Int32) (p1 : Int32) (hc : mp mem) : AD G l 2 mX10_pickBy [.ref 136, .int p0, .int p1] mem (some (.int (F_X10_pickBy mem p0 p1))) mem := by
  refine ax_start (ls := [.ref 136, .int p0, .int p1, .float 0, .float 0, .float 0, .float 0]) (u := 4) (by decide +kernel) (Nat.le_of_ble_eq_true rfl) (Nat.le_refl _) (Nat.le_refl _) rfl ?_
  refine ax_iconst (v := (-1)) dX10_pickBy_0 (by decide) rfl ?_
  refine ax_ist3 dX10_pickBy_1 rfl rfl (Nat.le_of_ble_eq_true rfl) rfl ?_
  refine ax_bipush (v := 99) dX10_pickBy_2 (by decide) rfl ?_
  refine ax_ist4 dX10_pickBy_4 rfl (Nat.le_of_ble_eq_true rfl) rfl ?_
  refine ax_iconst (v := 0) dX10_pickBy_6 (by decide) rfl ?_
  refine ax_ist5 dX10_pickBy_7 rfl (Nat.le_of_ble_eq_true rfl) rfl ?_
  refine lp_X10_pickBy_9 mem p0 p1  hc  (((mem 136 0) : Int32).toNatClampNeg) (0) ((-1)) (99) (Nat.zero_add _)  ?_
  refine ax_iload_n (j := 3) dX10_pickBy_81 rfl rfl rfl ?_
  exact ax_ireturn rfl dX10_pickBy_82 ⟨by simp only [F_X10_pickBy], rfl⟩

def f_X10_sureBy_19 (mem : ax_Me) (p0 : Int32) (p1 : Int32) (p2 : Int32)  (j : Nat) (s : Int32) : Int32 :=
  match s with
  | x0 => (if (F_X10_has mem p2 (nI j)) = 0 then (if x0 ≤ 99 then x0 else 99) else (if (nI j) = p1 then (if x0 ≤ 99 then x0 else 99) else (if x0 ≤ (F_X10_apart mem (mem 138 (nI j).toNatClampNeg) p0) then x0 else (F_X10_apart mem (mem 138 (nI j).toNatClampNeg) p0))))
def F_X10_sureBy (mem : ax_Me) (p0 : Int32) (p1 : Int32) (p2 : Int32) : Int32 :=
  (if (F_X10_pickBy mem p0 p2) = p1 then ((1 + (ax_it (f_X10_sureBy_19 mem p0 p1 p2) (((mem 136 0) : Int32).toNatClampNeg) (0) 99)) - (F_X10_apart mem (mem 138 p1.toNatClampNeg) p0)) else 0)
set_option maxRecDepth 20000 in
theorem lp_X10_sureBy_19 {G : ax_G} {l : Launch} {Q : Option Value → ax_H → Prop} (mem : ax_Me) (p0 : Int32) (p1 : Int32) (p2 : Int32)  (hc : mp mem) (hq : vp_in p1 8) : ∀ (n j : Nat) (x0 : Int32), j + n = ((mem 136 0) : Int32).toNatClampNeg → AX G l mX10_sureBy 3 83 [.ref 136, .int p0, .int p1, .int p2, .int (ax_it (f_X10_sureBy_19 mem p0 p1 p2) n j x0), .int (nI (((mem 136 0) : Int32).toNatClampNeg)), .float 0] [] 153 0 (ax_hm mem) 153 0 Q → AX G l mX10_sureBy 3 19 [.ref 136, .int p0, .int p1, .int p2, .int x0, .int (nI j), .float 0] [] 153 0 (ax_hm mem) 153 0 Q := by
  intro n
  induction n with
  | zero =>
    intro j x0 hj hx
    refine ax_iload dX10_sureBy_19 rfl rfl ?_
    refine ax_aload_n (j := 0) dX10_sureBy_21 rfl rfl rfl ?_
    refine am_getI flX10_63 dX10_sureBy_22 rfl is136 rfl ?_
    refine ax_icmp_ge (tgt := 83) dX10_sureBy_25 (by decide) rfl (fun c25 => ?_) (fun c25 => ?_)
    · have q := hx
      simp only [ax_it] at q
      rw [show (((mem 136 0) : Int32).toNatClampNeg) = j by omega] at q
      exact q
    · exact absurd (cl_ge (by omega)) c25
  | succ n ih =>
    intro j x0 hj hx
    refine ax_iload dX10_sureBy_19 rfl rfl ?_
    refine ax_aload_n (j := 0) dX10_sureBy_21 rfl rfl rfl ?_
    refine am_getI flX10_63 dX10_sureBy_22 rfl is136 rfl ?_
    refine ax_icmp_ge (tgt := 83) dX10_sureBy_25 (by decide) rfl (fun c25 => ?_) (fun c25 => ?_)
    · exact absurd c25 (cl_nle (by omega))
    · refine ax_iload_n (j := 3) dX10_sureBy_28 rfl rfl rfl ?_
      refine ax_iload dX10_sureBy_29 rfl rfl ?_
      refine ad_S2 ksX10_has lkX10_160 dX10_sureBy_31 rfl (Nat.le_of_ble_eq_true rfl) (Nat.le_of_ble_eq_true rfl) (s_X10_has _ _ _) ?_
      refine ax_if_eq (tgt := 57) dX10_sureBy_34 (by decide) rfl (fun c34 => ?_) (fun c34 => ?_)
      · refine ax_bipush (v := 99) dX10_sureBy_57 (by decide) rfl ?_
        refine ax_ist6 dX10_sureBy_59 rfl (Nat.le_of_ble_eq_true rfl) rfl ?_
        refine ax_iload dX10_sureBy_61 rfl rfl ?_
        refine ax_iload dX10_sureBy_63 rfl rfl ?_
        refine ax_icmp_ge (tgt := 73) dX10_sureBy_65 (by decide) rfl (fun c65 => ?_) (fun c65 => ?_)
        · refine ax_iload dX10_sureBy_73 rfl rfl ?_
          refine ax_ist4 dX10_sureBy_75 rfl (Nat.le_of_ble_eq_true rfl) rfl ?_
          refine ax_iinc5 (v := nI (j + 1)) dX10_sureBy_77 rfl (cl_inc j) (Nat.le_of_ble_eq_true rfl) rfl ?_
          refine ax_goto (tgt := 19) dX10_sureBy_80 (by decide) ?_
          refine ax_fg6 ?_
          have e1 : f_X10_sureBy_19 mem p0 p1 p2 j x0 = x0 := by simp only [f_X10_sureBy_19, if_pos c34, if_pos c65]
          simp only [ax_it, e1] at hx
          exact ih (j + 1) (x0) (by omega) hx
        · refine ax_iload dX10_sureBy_68 rfl rfl ?_
          refine ax_goto (tgt := 75) dX10_sureBy_70 (by decide) ?_
          refine ax_ist4 dX10_sureBy_75 rfl (Nat.le_of_ble_eq_true rfl) rfl ?_
          refine ax_iinc5 (v := nI (j + 1)) dX10_sureBy_77 rfl (cl_inc j) (Nat.le_of_ble_eq_true rfl) rfl ?_
          refine ax_goto (tgt := 19) dX10_sureBy_80 (by decide) ?_
          refine ax_fg6 ?_
          have e1 : f_X10_sureBy_19 mem p0 p1 p2 j x0 = 99 := by simp only [f_X10_sureBy_19, if_pos c34, if_neg c65]
          simp only [ax_it, e1] at hx
          exact ih (j + 1) (99) (by omega) hx
      · refine ax_iload dX10_sureBy_37 rfl rfl ?_
        refine ax_iload_n (j := 2) dX10_sureBy_39 rfl rfl rfl ?_
        refine ax_icmp_eq (tgt := 57) dX10_sureBy_40 (by decide) rfl (fun c40 => ?_) (fun c40 => ?_)
        · refine ax_bipush (v := 99) dX10_sureBy_57 (by decide) rfl ?_
          refine ax_ist6 dX10_sureBy_59 rfl (Nat.le_of_ble_eq_true rfl) rfl ?_
          refine ax_iload dX10_sureBy_61 rfl rfl ?_
          refine ax_iload dX10_sureBy_63 rfl rfl ?_
          refine ax_icmp_ge (tgt := 73) dX10_sureBy_65 (by decide) rfl (fun c65 => ?_) (fun c65 => ?_)
          · refine ax_iload dX10_sureBy_73 rfl rfl ?_
            refine ax_ist4 dX10_sureBy_75 rfl (Nat.le_of_ble_eq_true rfl) rfl ?_
            refine ax_iinc5 (v := nI (j + 1)) dX10_sureBy_77 rfl (cl_inc j) (Nat.le_of_ble_eq_true rfl) rfl ?_
            refine ax_goto (tgt := 19) dX10_sureBy_80 (by decide) ?_
            refine ax_fg6 ?_
            have e1 : f_X10_sureBy_19 mem p0 p1 p2 j x0 = x0 := by simp only [f_X10_sureBy_19, if_neg c34, if_pos c40, if_pos c65]
            simp only [ax_it, e1] at hx
            exact ih (j + 1) (x0) (by omega) hx
          · refine ax_iload dX10_sureBy_68 rfl rfl ?_
            refine ax_goto (tgt := 75) dX10_sureBy_70 (by decide) ?_
            refine ax_ist4 dX10_sureBy_75 rfl (Nat.le_of_ble_eq_true rfl) rfl ?_
            refine ax_iinc5 (v := nI (j + 1)) dX10_sureBy_77 rfl (cl_inc j) (Nat.le_of_ble_eq_true rfl) rfl ?_
            refine ax_goto (tgt := 19) dX10_sureBy_80 (by decide) ?_
            refine ax_fg6 ?_
            have e1 : f_X10_sureBy_19 mem p0 p1 p2 j x0 = 99 := by simp only [f_X10_sureBy_19, if_neg c34, if_pos c40, if_neg c65]
            simp only [ax_it, e1] at hx
            exact ih (j + 1) (99) (by omega) hx
        · refine ax_aload_n (j := 0) dX10_sureBy_43 rfl rfl rfl ?_
          refine am_getR flX10_13 dX10_sureBy_44 rfl is136 rfl ?_
          refine ax_iload dX10_sureBy_47 rfl rfl ?_
          refine am_iald dX10_sureBy_49 rfl is138 (vp_in_nI (by have := hc.le; omega) (by decide)) ?_
          refine ax_iload_n (j := 1) dX10_sureBy_50 rfl rfl rfl ?_
          refine ad_S2 ksX10_apart lkX10_163 dX10_sureBy_51 rfl (Nat.le_of_ble_eq_true rfl) (Nat.le_of_ble_eq_true rfl) (s_X10_apart _ _ _) ?_
          refine ax_goto (tgt := 59) dX10_sureBy_54 (by decide) ?_
          refine ax_ist6 dX10_sureBy_59 rfl (Nat.le_of_ble_eq_true rfl) rfl ?_
          refine ax_iload dX10_sureBy_61 rfl rfl ?_
          refine ax_iload dX10_sureBy_63 rfl rfl ?_
          refine ax_icmp_ge (tgt := 73) dX10_sureBy_65 (by decide) rfl (fun c65 => ?_) (fun c65 => ?_)
          · refine ax_iload dX10_sureBy_73 rfl rfl ?_
            refine ax_ist4 dX10_sureBy_75 rfl (Nat.le_of_ble_eq_true rfl) rfl ?_
            refine ax_iinc5 (v := nI (j + 1)) dX10_sureBy_77 rfl (cl_inc j) (Nat.le_of_ble_eq_true rfl) rfl ?_
            refine ax_goto (tgt := 19) dX10_sureBy_80 (by decide) ?_
            refine ax_fg6 ?_
            have e1 : f_X10_sureBy_19 mem p0 p1 p2 j x0 = x0 := by simp only [f_X10_sureBy_19, if_neg c34, if_neg c40, if_pos c65]
            simp only [ax_it, e1] at hx
            exact ih (j + 1) (x0) (by omega) hx
          · refine ax_iload dX10_sureBy_68 rfl rfl ?_
            refine ax_goto (tgt := 75) dX10_sureBy_70 (by decide) ?_
            refine ax_ist4 dX10_sureBy_75 rfl (Nat.le_of_ble_eq_true rfl) rfl ?_
            refine ax_iinc5 (v := nI (j + 1)) dX10_sureBy_77 rfl (cl_inc j) (Nat.le_of_ble_eq_true rfl) rfl ?_
            refine ax_goto (tgt := 19) dX10_sureBy_80 (by decide) ?_
            refine ax_fg6 ?_
            have e1 : f_X10_sureBy_19 mem p0 p1 p2 j x0 = (F_X10_apart mem (mem 138 (nI j).toNatClampNeg) p0) := by simp only [f_X10_sureBy_19, if_neg c34, if_neg c40, if_neg c65]
            simp only [ax_it, e1] at hx
            exact ih (j + 1) ((F_X10_apart mem (mem 138 (nI j).toNatClampNeg) p0)) (by omega) hx
set_option maxRecDepth 20000 in
theorem s_X10_sureBy {G : ax_G} {l : Launch} (mem : ax_Me) (p0 : Int32) (p1 : Int32) (p2 : Int32) (hc : mp mem) (hq : vp_in p1 8) : AD G l 3 mX10_sureBy [.ref 136, .int p0, .int p1, .int p2] mem (some (.int (F_X10_sureBy mem p0 p1 p2))) mem := by
  refine ax_start (ls := [.ref 136, .int p0, .int p1, .int p2, .float 0, .float 0, .float 0]) (u := 3) (by decide +kernel) (Nat.le_of_ble_eq_true rfl) (Nat.le_refl _) (Nat.le_refl _) rfl ?_
  refine ax_aload_n (j := 0) dX10_sureBy_0 rfl rfl rfl ?_
  refine ax_iload_n (j := 1) dX10_sureBy_1 rfl rfl rfl ?_
  refine ax_iload_n (j := 3) dX10_sureBy_2 rfl rfl rfl ?_
  refine ad_V2 ksX10_pickBy lkX10_166 dX10_sureBy_3 rfl is136 rfl (Nat.le_of_ble_eq_true rfl) (Nat.le_of_ble_eq_true rfl) (s_X10_pickBy _ _ _ (by assumption)) ?_
  refine ax_iload_n (j := 2) dX10_sureBy_6 rfl rfl rfl ?_
  refine ax_icmp_eq (tgt := 12) dX10_sureBy_7 (by decide) rfl (fun c7 => ?_) (fun c7 => ?_)
  · refine ax_bipush (v := 99) dX10_sureBy_12 (by decide) rfl ?_
    refine ax_ist4 dX10_sureBy_14 rfl (Nat.le_of_ble_eq_true rfl) rfl ?_
    refine ax_iconst (v := 0) dX10_sureBy_16 (by decide) rfl ?_
    refine ax_ist5 dX10_sureBy_17 rfl (Nat.le_of_ble_eq_true rfl) rfl ?_
    refine lp_X10_sureBy_19 mem p0 p1 p2  hc hq  (((mem 136 0) : Int32).toNatClampNeg) (0) (99) (Nat.zero_add _)  ?_
    refine ax_iconst (v := 1) dX10_sureBy_83 (by decide) rfl ?_
    refine ax_iload dX10_sureBy_84 rfl rfl ?_
    refine ax_iadd dX10_sureBy_86 rfl ?_
    refine ax_aload_n (j := 0) dX10_sureBy_87 rfl rfl rfl ?_
    refine am_getR flX10_13 dX10_sureBy_88 rfl is136 rfl ?_
    refine ax_iload_n (j := 2) dX10_sureBy_91 rfl rfl rfl ?_
    refine am_iald dX10_sureBy_92 rfl is138 (vp_mono hq (by decide)) ?_
    refine ax_iload_n (j := 1) dX10_sureBy_93 rfl rfl rfl ?_
    refine ad_S2 ksX10_apart lkX10_163 dX10_sureBy_94 rfl (Nat.le_of_ble_eq_true rfl) (Nat.le_of_ble_eq_true rfl) (s_X10_apart _ _ _) ?_
    refine ax_isub dX10_sureBy_97 rfl ?_
    exact ax_ireturn rfl dX10_sureBy_98 ⟨by simp only [F_X10_sureBy, if_pos c7], rfl⟩
  · refine ax_iconst (v := 0) dX10_sureBy_10 (by decide) rfl ?_
    exact ax_ireturn rfl dX10_sureBy_11 ⟨by simp only [F_X10_sureBy, if_neg c7], rfl⟩

def f_X10_spread_9 (mem : ax_Me) (p0 : Int32) (p1 : Int32)  (j : Nat) (s : Int32 × Int32) : Int32 × Int32 :=
  match s with
  | (x0, x1) => (if (F_X10_has mem p1 (nI j)) = 0 then (x0, x1) else (if (F_X10_apart mem (mem 138 (nI j).toNatClampNeg) p0) ≤ x0 then (if x1 ≤ (F_X10_apart mem (mem 138 (nI j).toNatClampNeg) p0) then (x0, x1) else (x0, (F_X10_apart mem (mem 138 (nI j).toNatClampNeg) p0))) else (if x1 ≤ (F_X10_apart mem (mem 138 (nI j).toNatClampNeg) p0) then ((F_X10_apart mem (mem 138 (nI j).toNatClampNeg) p0), x1) else ((F_X10_apart mem (mem 138 (nI j).toNatClampNeg) p0), (F_X10_apart mem (mem 138 (nI j).toNatClampNeg) p0)))))
def F_X10_spread (mem : ax_Me) (p0 : Int32) (p1 : Int32) : Int32 :=
  ((ax_it (f_X10_spread_9 mem p0 p1) (((mem 136 0) : Int32).toNatClampNeg) (0) (0, 99)).1 - (ax_it (f_X10_spread_9 mem p0 p1) (((mem 136 0) : Int32).toNatClampNeg) (0) (0, 99)).2)
set_option maxRecDepth 20000 in
theorem lp_X10_spread_9 {G : ax_G} {l : Launch} {Q : Option Value → ax_H → Prop} (mem : ax_Me) (p0 : Int32) (p1 : Int32)  (hc : mp mem) : ∀ (n j : Nat) (x0 : Int32) (x1 : Int32), j + n = ((mem 136 0) : Int32).toNatClampNeg → AX G l mX10_spread 2 75 [.ref 136, .int p0, .int p1, .int (ax_it (f_X10_spread_9 mem p0 p1) n j (x0, x1)).1, .int (ax_it (f_X10_spread_9 mem p0 p1) n j (x0, x1)).2, .int (nI (((mem 136 0) : Int32).toNatClampNeg)), .float 0] [] 153 0 (ax_hm mem) 153 0 Q → AX G l mX10_spread 2 9 [.ref 136, .int p0, .int p1, .int x0, .int x1, .int (nI j), .float 0] [] 153 0 (ax_hm mem) 153 0 Q := by
  intro n
  induction n with
  | zero =>
    intro j x0 x1 hj hx
    refine ax_iload dX10_spread_9 rfl rfl ?_
    refine ax_aload_n (j := 0) dX10_spread_11 rfl rfl rfl ?_
    refine am_getI flX10_63 dX10_spread_12 rfl is136 rfl ?_
    refine ax_icmp_ge (tgt := 75) dX10_spread_15 (by decide) rfl (fun c15 => ?_) (fun c15 => ?_)
    · have q := hx
      simp only [ax_it] at q
      rw [show (((mem 136 0) : Int32).toNatClampNeg) = j by omega] at q
      exact q
    · exact absurd (cl_ge (by omega)) c15
  | succ n ih =>
    intro j x0 x1 hj hx
    refine ax_iload dX10_spread_9 rfl rfl ?_
    refine ax_aload_n (j := 0) dX10_spread_11 rfl rfl rfl ?_
    refine am_getI flX10_63 dX10_spread_12 rfl is136 rfl ?_
    refine ax_icmp_ge (tgt := 75) dX10_spread_15 (by decide) rfl (fun c15 => ?_) (fun c15 => ?_)
    · exact absurd c15 (cl_nle (by omega))
    · refine ax_iload_n (j := 2) dX10_spread_18 rfl rfl rfl ?_
      refine ax_iload dX10_spread_19 rfl rfl ?_
      refine ad_S2 ksX10_has lkX10_160 dX10_spread_21 rfl (Nat.le_of_ble_eq_true rfl) (Nat.le_of_ble_eq_true rfl) (s_X10_has _ _ _) ?_
      refine ax_if_eq (tgt := 69) dX10_spread_24 (by decide) rfl (fun c24 => ?_) (fun c24 => ?_)
      · refine ax_iinc5 (v := nI (j + 1)) dX10_spread_69 rfl (cl_inc j) (Nat.le_of_ble_eq_true rfl) rfl ?_
        refine ax_goto (tgt := 9) dX10_spread_72 (by decide) ?_
        have e1 : f_X10_spread_9 mem p0 p1 j (x0, x1) = (x0, x1) := by simp only [f_X10_spread_9, if_pos c24]
        simp only [ax_it, e1] at hx
        exact ih (j + 1) (x0) (x1) (by omega) hx
      · refine ax_aload_n (j := 0) dX10_spread_27 rfl rfl rfl ?_
        refine am_getR flX10_13 dX10_spread_28 rfl is136 rfl ?_
        refine ax_iload dX10_spread_31 rfl rfl ?_
        refine am_iald dX10_spread_33 rfl is138 (vp_in_nI (by have := hc.le; omega) (by decide)) ?_
        refine ax_iload_n (j := 1) dX10_spread_34 rfl rfl rfl ?_
        refine ad_S2 ksX10_apart lkX10_163 dX10_spread_35 rfl (Nat.le_of_ble_eq_true rfl) (Nat.le_of_ble_eq_true rfl) (s_X10_apart _ _ _) ?_
        refine ax_ist6 dX10_spread_38 rfl (Nat.le_of_ble_eq_true rfl) rfl ?_
        refine ax_iload dX10_spread_40 rfl rfl ?_
        refine ax_iload_n (j := 3) dX10_spread_42 rfl rfl rfl ?_
        refine ax_icmp_le (tgt := 51) dX10_spread_43 (by decide) rfl (fun c43 => ?_) (fun c43 => ?_)
        · refine ax_iload_n (j := 3) dX10_spread_51 rfl rfl rfl ?_
          refine ax_ist3 dX10_spread_52 rfl rfl (Nat.le_of_ble_eq_true rfl) rfl ?_
          refine ax_iload dX10_spread_53 rfl rfl ?_
          refine ax_iload dX10_spread_55 rfl rfl ?_
          refine ax_icmp_ge (tgt := 65) dX10_spread_57 (by decide) rfl (fun c57 => ?_) (fun c57 => ?_)
          · refine ax_iload dX10_spread_65 rfl rfl ?_
            refine ax_ist4 dX10_spread_67 rfl (Nat.le_of_ble_eq_true rfl) rfl ?_
            refine ax_iinc5 (v := nI (j + 1)) dX10_spread_69 rfl (cl_inc j) (Nat.le_of_ble_eq_true rfl) rfl ?_
            refine ax_goto (tgt := 9) dX10_spread_72 (by decide) ?_
            refine ax_fg6 ?_
            have e1 : f_X10_spread_9 mem p0 p1 j (x0, x1) = (x0, x1) := by simp only [f_X10_spread_9, if_neg c24, if_pos c43, if_pos c57]
            simp only [ax_it, e1] at hx
            exact ih (j + 1) (x0) (x1) (by omega) hx
          · refine ax_iload dX10_spread_60 rfl rfl ?_
            refine ax_goto (tgt := 67) dX10_spread_62 (by decide) ?_
            refine ax_ist4 dX10_spread_67 rfl (Nat.le_of_ble_eq_true rfl) rfl ?_
            refine ax_iinc5 (v := nI (j + 1)) dX10_spread_69 rfl (cl_inc j) (Nat.le_of_ble_eq_true rfl) rfl ?_
            refine ax_goto (tgt := 9) dX10_spread_72 (by decide) ?_
            refine ax_fg6 ?_
            have e1 : f_X10_spread_9 mem p0 p1 j (x0, x1) = (x0, (F_X10_apart mem (mem 138 (nI j).toNatClampNeg) p0)) := by simp only [f_X10_spread_9, if_neg c24, if_pos c43, if_neg c57]
            simp only [ax_it, e1] at hx
            exact ih (j + 1) (x0) ((F_X10_apart mem (mem 138 (nI j).toNatClampNeg) p0)) (by omega) hx
        · refine ax_iload dX10_spread_46 rfl rfl ?_
          refine ax_goto (tgt := 52) dX10_spread_48 (by decide) ?_
          refine ax_ist3 dX10_spread_52 rfl rfl (Nat.le_of_ble_eq_true rfl) rfl ?_
          refine ax_iload dX10_spread_53 rfl rfl ?_
          refine ax_iload dX10_spread_55 rfl rfl ?_
          refine ax_icmp_ge (tgt := 65) dX10_spread_57 (by decide) rfl (fun c57 => ?_) (fun c57 => ?_)
          · refine ax_iload dX10_spread_65 rfl rfl ?_
            refine ax_ist4 dX10_spread_67 rfl (Nat.le_of_ble_eq_true rfl) rfl ?_
            refine ax_iinc5 (v := nI (j + 1)) dX10_spread_69 rfl (cl_inc j) (Nat.le_of_ble_eq_true rfl) rfl ?_
            refine ax_goto (tgt := 9) dX10_spread_72 (by decide) ?_
            refine ax_fg6 ?_
            have e1 : f_X10_spread_9 mem p0 p1 j (x0, x1) = ((F_X10_apart mem (mem 138 (nI j).toNatClampNeg) p0), x1) := by simp only [f_X10_spread_9, if_neg c24, if_neg c43, if_pos c57]
            simp only [ax_it, e1] at hx
            exact ih (j + 1) ((F_X10_apart mem (mem 138 (nI j).toNatClampNeg) p0)) (x1) (by omega) hx
          · refine ax_iload dX10_spread_60 rfl rfl ?_
            refine ax_goto (tgt := 67) dX10_spread_62 (by decide) ?_
            refine ax_ist4 dX10_spread_67 rfl (Nat.le_of_ble_eq_true rfl) rfl ?_
            refine ax_iinc5 (v := nI (j + 1)) dX10_spread_69 rfl (cl_inc j) (Nat.le_of_ble_eq_true rfl) rfl ?_
            refine ax_goto (tgt := 9) dX10_spread_72 (by decide) ?_
            refine ax_fg6 ?_
            have e1 : f_X10_spread_9 mem p0 p1 j (x0, x1) = ((F_X10_apart mem (mem 138 (nI j).toNatClampNeg) p0), (F_X10_apart mem (mem 138 (nI j).toNatClampNeg) p0)) := by simp only [f_X10_spread_9, if_neg c24, if_neg c43, if_neg c57]
            simp only [ax_it, e1] at hx
            exact ih (j + 1) ((F_X10_apart mem (mem 138 (nI j).toNatClampNeg) p0)) ((F_X10_apart mem (mem 138 (nI j).toNatClampNeg) p0)) (by omega) hx
set_option maxRecDepth 20000 in
theorem s_X10_spread {G : ax_G} {l : Launch} (mem : ax_Me) (p0 : Int32) (p1 : Int32) (hc : mp mem) : AD G l 2 mX10_spread [.ref 136, .int p0, .int p1] mem (some (.int (F_X10_spread mem p0 p1))) mem := by
  refine ax_start (ls := [.ref 136, .int p0, .int p1, .float 0, .float 0, .float 0, .float 0]) (u := 4) (by decide +kernel) (Nat.le_of_ble_eq_true rfl) (Nat.le_refl _) (Nat.le_refl _) rfl ?_
  refine ax_iconst (v := 0) dX10_spread_0 (by decide) rfl ?_
  refine ax_ist3 dX10_spread_1 rfl rfl (Nat.le_of_ble_eq_true rfl) rfl ?_
  refine ax_bipush (v := 99) dX10_spread_2 (by decide) rfl ?_
  refine ax_ist4 dX10_spread_4 rfl (Nat.le_of_ble_eq_true rfl) rfl ?_
  refine ax_iconst (v := 0) dX10_spread_6 (by decide) rfl ?_
  refine ax_ist5 dX10_spread_7 rfl (Nat.le_of_ble_eq_true rfl) rfl ?_
  refine lp_X10_spread_9 mem p0 p1  hc  (((mem 136 0) : Int32).toNatClampNeg) (0) (0) (99) (Nat.zero_add _)  ?_
  refine ax_iload_n (j := 3) dX10_spread_75 rfl rfl rfl ?_
  refine ax_iload dX10_spread_76 rfl rfl ?_
  refine ax_isub dX10_spread_78 rfl ?_
  exact ax_ireturn rfl dX10_spread_79 ⟨by simp only [F_X10_spread], rfl⟩

def F_X10_yearsRefused (mem : ax_Me) (p0 : Int32) : Int32 :=
  (if (F_X10_in mem p0.toInt64 1 (60)) = 0 then (-1000000002) else (if (mem 136 0) = 0 then (-1000000003) else (if (mem 138 (80 : Int32).toNatClampNeg) ≤ 9000 then 0 else (-1000000004))))
set_option maxRecDepth 20000 in
theorem s_X10_yearsRefused {G : ax_G} {l : Launch} (mem : ax_Me) (p0 : Int32)  : AD G l 1 mX10_yearsRefused [.ref 136, .int p0] mem (some (.int (F_X10_yearsRefused mem p0))) mem := by
  refine ax_start (ls := [.ref 136, .int p0]) (u := 0) (by decide +kernel) (Nat.le_of_ble_eq_true rfl) (Nat.le_refl _) (Nat.le_refl _) rfl ?_
  refine ax_iload_n (j := 1) dX10_yearsRefused_0 rfl rfl rfl ?_
  refine ax_i2l dX10_yearsRefused_1 rfl ?_
  refine ax_lconst (v := 1) dX10_yearsRefused_2 (by decide) rfl ?_
  refine ax_ldc2 dX10_yearsRefused_3 cnX10_169 rfl ?_
  refine ad_S3 ksX10_in lkX10_66 dX10_yearsRefused_6 rfl (Nat.le_of_ble_eq_true rfl) (Nat.le_of_ble_eq_true rfl) (s_X10_in _ _ _ _) ?_
  refine ax_if_ne (tgt := 15) dX10_yearsRefused_9 (by decide) rfl (fun c9 => ?_) (fun c9 => ?_)
  · refine ax_aload_n (j := 0) dX10_yearsRefused_15 rfl rfl rfl ?_
    refine am_getI flX10_63 dX10_yearsRefused_16 rfl is136 rfl ?_
    refine ax_if_ne (tgt := 27) dX10_yearsRefused_19 (by decide) rfl (fun c19 => ?_) (fun c19 => ?_)
    · refine ax_aload_n (j := 0) dX10_yearsRefused_27 rfl rfl rfl ?_
      refine am_getR flX10_13 dX10_yearsRefused_28 rfl is136 rfl ?_
      refine ax_bipush (v := 80) dX10_yearsRefused_31 (by decide) rfl ?_
      refine am_iald dX10_yearsRefused_33 rfl is138 (by unfold vp_in; decide) ?_
      refine ax_sipush (v := 9000) dX10_yearsRefused_34 (by decide) rfl ?_
      refine ax_icmp_le (tgt := 45) dX10_yearsRefused_37 (by decide) rfl (fun c37 => ?_) (fun c37 => ?_)
      · refine ax_iconst (v := 0) dX10_yearsRefused_45 (by decide) rfl ?_
        exact ax_ireturn rfl dX10_yearsRefused_46 ⟨by simp only [F_X10_yearsRefused, if_neg c9, if_neg c19, if_pos c37], rfl⟩
      · refine ax_ldc dX10_yearsRefused_40 cnX10_80 rfl ?_
        refine ax_goto (tgt := 46) dX10_yearsRefused_42 (by decide) ?_
        exact ax_ireturn rfl dX10_yearsRefused_46 ⟨by simp only [F_X10_yearsRefused, if_neg c9, if_neg c19, if_neg c37], rfl⟩
    · refine ax_ldc dX10_yearsRefused_22 cnX10_171 rfl ?_
      refine ax_goto (tgt := 46) dX10_yearsRefused_24 (by decide) ?_
      exact ax_ireturn rfl dX10_yearsRefused_46 ⟨by simp only [F_X10_yearsRefused, if_neg c9, if_pos c19], rfl⟩
  · refine ax_ldc dX10_yearsRefused_12 cnX10_76 rfl ?_
    exact ax_ireturn rfl dX10_yearsRefused_14 ⟨by simp only [F_X10_yearsRefused, if_pos c9], rfl⟩

def F_X10_rowRefused (mem : ax_Me) (p0 : Int32) (p1 : Int32) (p2 : Int32) : Int32 :=
  (if (F_X10_areTwo mem p0 p1) = 0 then (-1000000001) else (if (F_X10_isRow mem p2) = 0 then (-1000000001) else (if (F_X10_has mem p2 p0) = 0 then (if 2 ≤ (F_X10_bits mem p2) then 0 else (-1000000002)) else (-1000000001))))
set_option maxRecDepth 20000 in
theorem s_X10_rowRefused {G : ax_G} {l : Launch} (mem : ax_Me) (p0 : Int32) (p1 : Int32) (p2 : Int32)  : AD G l 3 mX10_rowRefused [.ref 136, .int p0, .int p1, .int p2] mem (some (.int (F_X10_rowRefused mem p0 p1 p2))) mem := by
  refine ax_start (ls := [.ref 136, .int p0, .int p1, .int p2]) (u := 0) (by decide +kernel) (Nat.le_of_ble_eq_true rfl) (Nat.le_refl _) (Nat.le_refl _) rfl ?_
  refine ax_aload_n (j := 0) dX10_rowRefused_0 rfl rfl rfl ?_
  refine ax_iload_n (j := 1) dX10_rowRefused_1 rfl rfl rfl ?_
  refine ax_iload_n (j := 2) dX10_rowRefused_2 rfl rfl rfl ?_
  refine ad_V2 ksX10_areTwo lkX10_156 dX10_rowRefused_3 rfl is136 rfl (Nat.le_of_ble_eq_true rfl) (Nat.le_of_ble_eq_true rfl) (s_X10_areTwo _ _ _) ?_
  refine ax_if_eq (tgt := 25) dX10_rowRefused_6 (by decide) rfl (fun c6 => ?_) (fun c6 => ?_)
  · refine ax_ldc dX10_rowRefused_25 cnX10_152 rfl ?_
    exact ax_ireturn rfl dX10_rowRefused_27 ⟨by simp only [F_X10_rowRefused, if_pos c6], rfl⟩
  · refine ax_aload_n (j := 0) dX10_rowRefused_9 rfl rfl rfl ?_
    refine ax_iload_n (j := 3) dX10_rowRefused_10 rfl rfl rfl ?_
    refine ad_V1 ksX10_isRow lkX10_181 dX10_rowRefused_11 rfl is136 rfl (Nat.le_of_ble_eq_true rfl) (Nat.le_of_ble_eq_true rfl) (s_X10_isRow _ _) ?_
    refine ax_if_eq (tgt := 25) dX10_rowRefused_14 (by decide) rfl (fun c14 => ?_) (fun c14 => ?_)
    · refine ax_ldc dX10_rowRefused_25 cnX10_152 rfl ?_
      exact ax_ireturn rfl dX10_rowRefused_27 ⟨by simp only [F_X10_rowRefused, if_neg c6, if_pos c14], rfl⟩
    · refine ax_iload_n (j := 3) dX10_rowRefused_17 rfl rfl rfl ?_
      refine ax_iload_n (j := 1) dX10_rowRefused_18 rfl rfl rfl ?_
      refine ad_S2 ksX10_has lkX10_160 dX10_rowRefused_19 rfl (Nat.le_of_ble_eq_true rfl) (Nat.le_of_ble_eq_true rfl) (s_X10_has _ _ _) ?_
      refine ax_if_eq (tgt := 28) dX10_rowRefused_22 (by decide) rfl (fun c22 => ?_) (fun c22 => ?_)
      · refine ax_iload_n (j := 3) dX10_rowRefused_28 rfl rfl rfl ?_
        refine ad_S1 ksX10_bits lkX10_140 dX10_rowRefused_29 rfl (Nat.le_of_ble_eq_true rfl) (Nat.le_of_ble_eq_true rfl) (s_X10_bits _ _) ?_
        refine ax_iconst (v := 2) dX10_rowRefused_32 (by decide) rfl ?_
        refine ax_icmp_ge (tgt := 41) dX10_rowRefused_33 (by decide) rfl (fun c33 => ?_) (fun c33 => ?_)
        · refine ax_iconst (v := 0) dX10_rowRefused_41 (by decide) rfl ?_
          exact ax_ireturn rfl dX10_rowRefused_42 ⟨by simp only [F_X10_rowRefused, if_neg c6, if_neg c14, if_pos c22, if_pos c33], rfl⟩
        · refine ax_ldc dX10_rowRefused_36 cnX10_76 rfl ?_
          refine ax_goto (tgt := 42) dX10_rowRefused_38 (by decide) ?_
          exact ax_ireturn rfl dX10_rowRefused_42 ⟨by simp only [F_X10_rowRefused, if_neg c6, if_neg c14, if_pos c22, if_neg c33], rfl⟩
      · refine ax_ldc dX10_rowRefused_25 cnX10_152 rfl ?_
        exact ax_ireturn rfl dX10_rowRefused_27 ⟨by simp only [F_X10_rowRefused, if_neg c6, if_neg c14, if_neg c22], rfl⟩

def F_X10_unknownTo (mem : ax_Me) (p0 : Int32) (p1 : Int32) : Int32 :=
  (if 0 ≤ (F_X10_remembered mem p0 p1) then 0 else (-1000000003))
set_option maxRecDepth 20000 in
theorem s_X10_unknownTo {G : ax_G} {l : Launch} (mem : ax_Me) (p0 : Int32) (p1 : Int32) (hi : vp_in ((16 + (8 * p0)) + p1) 81) : AD G l 1 mX10_unknownTo [.ref 136, .int p0, .int p1] mem (some (.int (F_X10_unknownTo mem p0 p1))) mem := by
  refine ax_start (ls := [.ref 136, .int p0, .int p1]) (u := 0) (by decide +kernel) (Nat.le_of_ble_eq_true rfl) (Nat.le_refl _) (Nat.le_refl _) rfl ?_
  refine ax_aload_n (j := 0) dX10_unknownTo_0 rfl rfl rfl ?_
  refine ax_iload_n (j := 1) dX10_unknownTo_1 rfl rfl rfl ?_
  refine ax_iload_n (j := 2) dX10_unknownTo_2 rfl rfl rfl ?_
  refine ad_V2 ksX10_remembered lkX10_133 dX10_unknownTo_3 rfl is136 rfl (Nat.le_of_ble_eq_true rfl) (Nat.le_of_ble_eq_true rfl) (s_X10_remembered _ _ _ (by assumption)) ?_
  refine ax_if_ge (tgt := 14) dX10_unknownTo_6 (by decide) rfl (fun c6 => ?_) (fun c6 => ?_)
  · refine ax_iconst (v := 0) dX10_unknownTo_14 (by decide) rfl ?_
    exact ax_ireturn rfl dX10_unknownTo_15 ⟨by simp only [F_X10_unknownTo, if_pos c6], rfl⟩
  · refine ax_ldc dX10_unknownTo_9 cnX10_171 rfl ?_
    refine ax_goto (tgt := 15) dX10_unknownTo_11 (by decide) ?_
    exact ax_ireturn rfl dX10_unknownTo_15 ⟨by simp only [F_X10_unknownTo, if_neg c6], rfl⟩

