/-! ===== the class: what changes the memory ===== -/
def ax_wh {α : Type} (f : α → Option α) : Nat → α → α
  | 0, s => s
  | n + 1, s => match f s with
    | none => s
    | some s' => ax_wh f n s'
/-- Arrays.fill, over any heap -/
theorem fill_lp {G : ax_G} {l : Launch} {n z r N : Nat} {h : ax_H} {v : Int32} {Q : Option Value → ax_H → Prop} (hr : r < n) (hN : N < 2147483648) : ∀ (m j : Nat) (g : Nat → Int32), j + m = N →
    Q none (va_up h r (ax_arr 0 N (fun k => if j ≤ k ∧ k < N then v else g k))) → AX G l mJ7_fill_53178 0 5 [.ref r, .int v, .int (nI j), .int (nI N)] [] n z (va_up h r (ax_arr 0 N g)) n z Q := by
  intro m
  induction m with
  | zero =>
    intro j g hj hq
    refine ax_iload_n (j := 2) dJ7_fill_53178_5 rfl rfl rfl ?_
    refine ax_iload_n (j := 3) dJ7_fill_53178_6 rfl rfl rfl ?_
    refine ax_icmp_ge (tgt := 20) dJ7_fill_53178_7 (by decide) rfl (fun c7 => ?_) (fun c7 => ?_)
    · refine ax_vreturn rfl dJ7_fill_53178_20 ?_
      have e : (fun k => if j ≤ k ∧ k < N then v else g k) = g := by
        funext k
        rw [if_neg (by omega)]
      rw [e] at hq
      exact hq
    · exact absurd (nI_le (by omega) (by omega)) c7
  | succ m ih =>
    intro j g hj hq
    refine ax_iload_n (j := 2) dJ7_fill_53178_5 rfl rfl rfl ?_
    refine ax_iload_n (j := 3) dJ7_fill_53178_6 rfl rfl rfl ?_
    refine ax_icmp_ge (tgt := 20) dJ7_fill_53178_7 (by decide) rfl (fun c7 => ?_) (fun c7 => ?_)
    · exact absurd c7 (nI_ge (by omega) (by omega))
    · refine ax_aload_n (j := 0) dJ7_fill_53178_10 rfl rfl rfl ?_
      refine ax_iload_n (j := 2) dJ7_fill_53178_11 rfl rfl rfl ?_
      refine ax_iload_n (j := 1) dJ7_fill_53178_12 rfl rfl rfl ?_
      refine ax_iast (N := N) (f := g) dJ7_fill_53178_13 rfl hr (by simp [va_up]) (vp_in_nI (by omega) (by omega)) ?_
      refine ax_iinc2 (v := nI (j + 1)) dJ7_fill_53178_14 rfl (cl_inc j) (Nat.le_of_ble_eq_true rfl) rfl ?_
      refine ax_goto (tgt := 5) dJ7_fill_53178_17 (by decide) ?_
      rw [nI_clamp (by omega)]
      have e2 : va_up (va_up h r (ax_arr 0 N g)) r (ax_arr 0 N (upd g j v)) = va_up h r (ax_arr 0 N (upd g j v)) := bx_uu _ _ _ _
      rw [e2]
      refine ih (j + 1) (upd g j v) (by omega) ?_
      have e : (fun k => if j + 1 ≤ k ∧ k < N then v else upd g j v k) = (fun k => if j ≤ k ∧ k < N then v else g k) := by
        funext k
        by_cases hk : k = j
        · subst hk
          rw [if_neg (by omega), if_pos (by omega)]
          simp [upd]
        · by_cases h1 : j ≤ k ∧ k < N
          · rw [if_pos (by omega), if_pos h1]
          · rw [if_neg (by omega), if_neg h1]
            simp [upd, hk]
      rw [e]
      exact hq
theorem fill_g {G : ax_G} {l : Launch} {n z r N : Nat} {h : ax_H} {v : Int32} {f : Nat → Int32} (hr : r < n) (hc : h r = ax_arr 0 N f) (hN : N < 2147483648) : AC G l 0 mJ7_fill_53178 [.ref r, .int v] n z h n z (fun q h1 => q = none ∧ h1 = va_up h r (ax_arr 0 N (fun k => if k < N then v else f k))) := by
  refine ax_start (ls := [.ref r, .int v, .float 0, .float 0]) (u := 2) (by decide +kernel) (Nat.le_of_ble_eq_true rfl) (Nat.le_refl _) (Nat.le_refl _) rfl ?_
  refine ax_iconst (v := 0) dJ7_fill_53178_0 (by decide) rfl ?_
  refine ax_ist2 dJ7_fill_53178_1 rfl rfl (Nat.le_of_ble_eq_true rfl) rfl ?_
  refine ax_aload_n (j := 0) dJ7_fill_53178_2 rfl rfl rfl ?_
  refine ax_alen dJ7_fill_53178_3 rfl (by decide) hr hc ?_
  refine ax_ist3 dJ7_fill_53178_4 rfl rfl (Nat.le_of_ble_eq_true rfl) rfl ?_
  have e0 : h = va_up h r (ax_arr 0 N f) := by rw [← hc, ax_up_self]
  rw [e0]
  refine fill_lp hr hN N 0 f (Nat.zero_add _) ⟨rfl, ?_⟩
  rw [bx_uu]
  congr 2
  funext k
  simp
def F_J7_fill_53178 (mem : ax_Me) (r N : Nat) (v : Int32) : ax_Me := fun b k => if b = r ∧ k < N then v else mem b k
theorem s_J7_fill_53178 {G : ax_G} {l : Launch} (mem : ax_Me) {r N : Nat} (hr : ax_is r (ax_sA N)) (p0 : Int32) (hN : N < 2147483648) : AD G l 0 mJ7_fill_53178 [.ref r, .int p0] mem none (F_J7_fill_53178 mem r N p0) := by
  have h := fill_g (G := G) (l := l) (n := 153) (z := 0) (v := p0) hr.1 (ax_hm_arr (mem := mem) hr) hN
  rw [ax_hm_up (mem' := F_J7_fill_53178 mem r N p0) ?_ (fun b hb => by funext k; simp [F_J7_fill_53178, hb])] at h
  · exact h
  · rw [hr.2]
    show ax_arr 0 N _ = ax_arr 0 N _
    congr 2
    funext k
    simp [F_J7_fill_53178]
theorem within_of {mem : ax_Me} {x a b : Int32} (h : ¬ F_X9_isWithin mem x a b = 0) : ¬ x < a ∧ ¬ b < x := by
  unfold F_X9_isWithin at h
  refine ⟨fun q => h (by rw [if_pos q]), fun q => ?_⟩
  by_cases q0 : x < a
  · exact h (by rw [if_pos q0])
  · exact h (by rw [if_neg q0, if_pos q])
theorem within_in {mem : ax_Me} {x b : Int32} {k : Nat} (hb : b.toInt + 1 = k) (h : ¬ F_X9_isWithin mem x 0 b = 0) : vp_in x k := by
  obtain ⟨h1, h2⟩ := within_of h
  rw [Int32.lt_iff_toInt_lt] at h1 h2
  have e0 : (0 : Int32).toInt = 0 := rfl
  rw [vp_in_iff]
  omega
theorem le0_ne {x : Int32} (h : ¬ x ≤ 0) : ¬ x = 0 := fun e => h (by rw [e]; decide)
def f_X2_oddsOf_6 (mem : ax_Me) (a : Nat) (p0 : Int32) (p1 : Int32) (p2 : Int32)  (j : Nat) (s : Int32) : Int32 :=
  match s with
  | x0 => (x0 + (F_X2_weightIn mem a p0 p1 (nI j)))
def F_X2_oddsOf (mem : ax_Me) (a : Nat) (p0 : Int32) (p1 : Int32) (p2 : Int32) : Int32 :=
  (if (ax_it (f_X2_oddsOf_6 mem a p0 p1 p2) (((mem a 4) : Int32).toNatClampNeg) (0) 0) ≤ 0 then 0 else (((F_X2_weightIn mem a p0 p1 p2) * (1000000)) / (ax_it (f_X2_oddsOf_6 mem a p0 p1 p2) (((mem a 4) : Int32).toNatClampNeg) (0) 0)))
set_option maxRecDepth 20000 in
theorem lp_X2_oddsOf_6 {G : ax_G} {l : Launch} {Q : Option Value → ax_H → Prop} (mem : ax_Me) {a : Nat} (hP : ax_isP a) (p0 : Int32) (p1 : Int32) (p2 : Int32)   : ∀ (n j : Nat) (x0 : Int32), j + n = ((mem a 4) : Int32).toNatClampNeg → AX G l mX2_oddsOf 4 34 [.ref a, .int p0, .int p1, .int p2, .int (ax_it (f_X2_oddsOf_6 mem a p0 p1 p2) n j x0), .int (nI (((mem a 4) : Int32).toNatClampNeg))] [] 153 0 (ax_hm mem) 153 0 Q → AX G l mX2_oddsOf 4 6 [.ref a, .int p0, .int p1, .int p2, .int x0, .int (nI j)] [] 153 0 (ax_hm mem) 153 0 Q := by
  intro n
  induction n with
  | zero =>
    intro j x0 hj hx
    refine ax_iload dX2_oddsOf_6 rfl rfl ?_
    refine ax_aload_n (j := 0) dX2_oddsOf_8 rfl rfl rfl ?_
    refine am_getI flX2_26 dX2_oddsOf_9 rfl hP.o rfl ?_
    refine ax_icmp_ge (tgt := 34) dX2_oddsOf_12 (by decide) rfl (fun c12 => ?_) (fun c12 => ?_)
    · have q := hx
      simp only [ax_it] at q
      rw [show (((mem a 4) : Int32).toNatClampNeg) = j by omega] at q
      exact q
    · exact absurd (cl_ge (by omega)) c12
  | succ n ih =>
    intro j x0 hj hx
    refine ax_iload dX2_oddsOf_6 rfl rfl ?_
    refine ax_aload_n (j := 0) dX2_oddsOf_8 rfl rfl rfl ?_
    refine am_getI flX2_26 dX2_oddsOf_9 rfl hP.o rfl ?_
    refine ax_icmp_ge (tgt := 34) dX2_oddsOf_12 (by decide) rfl (fun c12 => ?_) (fun c12 => ?_)
    · exact absurd c12 (cl_nle (by omega))
    · refine ax_iload dX2_oddsOf_15 rfl rfl ?_
      refine ax_aload_n (j := 0) dX2_oddsOf_17 rfl rfl rfl ?_
      refine ax_iload_n (j := 1) dX2_oddsOf_18 rfl rfl rfl ?_
      refine ax_iload_n (j := 2) dX2_oddsOf_19 rfl rfl rfl ?_
      refine ax_iload dX2_oddsOf_20 rfl rfl ?_
      refine ad_S4 ksX2_weightIn lkX2_45 dX2_oddsOf_22 rfl (Nat.le_of_ble_eq_true rfl) (Nat.le_of_ble_eq_true rfl) (s_X2_weightIn _ hP _ _ _) ?_
      refine ax_iadd dX2_oddsOf_25 rfl ?_
      refine ax_ist4 dX2_oddsOf_26 rfl (Nat.le_of_ble_eq_true rfl) rfl ?_
      refine ax_iinc5 (v := nI (j + 1)) dX2_oddsOf_28 rfl (cl_inc j) (Nat.le_of_ble_eq_true rfl) rfl ?_
      refine ax_goto (tgt := 6) dX2_oddsOf_31 (by decide) ?_
      have e1 : f_X2_oddsOf_6 mem a p0 p1 p2 j x0 = (x0 + (F_X2_weightIn mem a p0 p1 (nI j))) := by simp only [f_X2_oddsOf_6]
      simp only [ax_it, e1] at hx
      exact ih (j + 1) ((x0 + (F_X2_weightIn mem a p0 p1 (nI j)))) (by omega) hx
set_option maxRecDepth 20000 in
theorem s_X2_oddsOf {G : ax_G} {l : Launch} (mem : ax_Me) {a : Nat} (hP : ax_isP a) (p0 : Int32) (p1 : Int32) (p2 : Int32)  : AD G l 4 mX2_oddsOf [.ref a, .int p0, .int p1, .int p2] mem (some (.int (F_X2_oddsOf mem a p0 p1 p2))) mem := by
  refine ax_start (ls := [.ref a, .int p0, .int p1, .int p2, .float 0, .float 0]) (u := 2) (by decide +kernel) (Nat.le_of_ble_eq_true rfl) (Nat.le_refl _) (Nat.le_refl _) rfl ?_
  refine ax_iconst (v := 0) dX2_oddsOf_0 (by decide) rfl ?_
  refine ax_ist4 dX2_oddsOf_1 rfl (Nat.le_of_ble_eq_true rfl) rfl ?_
  refine ax_iconst (v := 0) dX2_oddsOf_3 (by decide) rfl ?_
  refine ax_ist5 dX2_oddsOf_4 rfl (Nat.le_of_ble_eq_true rfl) rfl ?_
  refine lp_X2_oddsOf_6 mem hP p0 p1 p2    (((mem a 4) : Int32).toNatClampNeg) (0) (0) (Nat.zero_add _)  ?_
  refine ax_iload dX2_oddsOf_34 rfl rfl ?_
  refine ax_if_le (tgt := 55) dX2_oddsOf_36 (by decide) rfl (fun c36 => ?_) (fun c36 => ?_)
  · refine ax_iconst (v := 0) dX2_oddsOf_55 (by decide) rfl ?_
    exact ax_ireturn rfl dX2_oddsOf_56 ⟨by simp only [F_X2_oddsOf, if_pos c36], rfl⟩
  · refine ax_aload_n (j := 0) dX2_oddsOf_39 rfl rfl rfl ?_
    refine ax_iload_n (j := 1) dX2_oddsOf_40 rfl rfl rfl ?_
    refine ax_iload_n (j := 2) dX2_oddsOf_41 rfl rfl rfl ?_
    refine ax_iload_n (j := 3) dX2_oddsOf_42 rfl rfl rfl ?_
    refine ad_S4 ksX2_weightIn lkX2_45 dX2_oddsOf_43 rfl (Nat.le_of_ble_eq_true rfl) (Nat.le_of_ble_eq_true rfl) (s_X2_weightIn _ hP _ _ _) ?_
    refine ax_ldc dX2_oddsOf_46 cnX2_49 rfl ?_
    refine ax_imul dX2_oddsOf_48 rfl ?_
    refine ax_iload dX2_oddsOf_49 rfl rfl ?_
    refine ax_idiv dX2_oddsOf_51 (le0_ne c36) rfl ?_
    refine ax_goto (tgt := 56) dX2_oddsOf_52 (by decide) ?_
    exact ax_ireturn rfl dX2_oddsOf_56 ⟨by simp only [F_X2_oddsOf, if_neg c36], rfl⟩

def F_X5_empty (mem : ax_Me) (a : Nat) : ax_Me :=
  (F_J7_fill_53178 (ax_u (ax_u mem a 4 0) a 5 0) (a + 4) 64 (-1))
set_option maxRecDepth 20000 in
theorem s_X5_empty {G : ax_G} {l : Launch} (mem : ax_Me) {a : Nat} (hP : ax_isP a)  : AD G l 1 mX5_empty [.ref a] mem none (F_X5_empty mem a) := by
  refine ax_start (ls := [.ref a]) (u := 0) (by decide +kernel) (Nat.le_of_ble_eq_true rfl) (Nat.le_refl _) (Nat.le_refl _) rfl ?_
  refine ax_aload_n (j := 0) dX5_empty_0 rfl rfl rfl ?_
  refine ax_iconst (v := 0) dX5_empty_1 (by decide) rfl ?_
  refine am_putI flX5_30 dX5_empty_2 rfl hP.o rfl rfl rfl ?_
  refine ax_aload_n (j := 0) dX5_empty_5 rfl rfl rfl ?_
  refine ax_iconst (v := 0) dX5_empty_6 (by decide) rfl ?_
  refine am_putI flX5_34 dX5_empty_7 rfl hP.o rfl rfl rfl ?_
  refine ax_aload_n (j := 0) dX5_empty_10 rfl rfl rfl ?_
  refine am_getR flX5_21 dX5_empty_11 rfl hP.o rfl ?_
  refine ax_iconst (v := (-1)) dX5_empty_14 (by decide) rfl ?_
  refine ad_S2v ksJ7_fill_53178 lkX5_24 dX5_empty_15 rfl (Nat.le_of_ble_eq_true rfl) (Nat.le_of_ble_eq_true rfl) (s_J7_fill_53178 _ hP.m4 _ (by decide)) ?_
  exact ax_vreturn rfl dX5_empty_18 ⟨rfl, by simp only [F_X5_empty]⟩

def F_X5_become (mem : ax_Me) (a : Nat) (b : Nat) : ax_Me :=
  (ax_u (ax_u (ax_cp (ax_cp (ax_cp (ax_cp mem (b + 1) (a + 1) 8) (b + 2) (a + 2) 8) (b + 3) (a + 3) 8) (b + 4) (a + 4) 64) a 4 ((ax_cp (ax_cp (ax_cp (ax_cp mem (b + 1) (a + 1) 8) (b + 2) (a + 2) 8) (b + 3) (a + 3) 8) (b + 4) (a + 4) 64) b 4)) a 5 ((ax_u (ax_cp (ax_cp (ax_cp (ax_cp mem (b + 1) (a + 1) 8) (b + 2) (a + 2) 8) (b + 3) (a + 3) 8) (b + 4) (a + 4) 64) a 4 ((ax_cp (ax_cp (ax_cp (ax_cp mem (b + 1) (a + 1) 8) (b + 2) (a + 2) 8) (b + 3) (a + 3) 8) (b + 4) (a + 4) 64) b 4)) b 5))
set_option maxRecDepth 20000 in
theorem s_X5_become {G : ax_G} {l : Launch} (mem : ax_Me) {a : Nat} (hP : ax_isP a) {b : Nat} (hB : ax_isP b)  : AD G l 1 mX5_become [.ref a, .ref b] mem none (F_X5_become mem a b) := by
  refine ax_start (ls := [.ref a, .ref b]) (u := 0) (by decide +kernel) (Nat.le_of_ble_eq_true rfl) (Nat.le_refl _) (Nat.le_refl _) rfl ?_
  refine ax_aload_n (j := 1) dX5_become_0 rfl rfl rfl ?_
  refine am_getR flX5_9 dX5_become_1 rfl hB.o rfl ?_
  refine ax_iconst (v := 0) dX5_become_4 (by decide) rfl ?_
  refine ax_aload_n (j := 0) dX5_become_5 rfl rfl rfl ?_
  refine am_getR flX5_9 dX5_become_6 rfl hP.o rfl ?_
  refine ax_iconst (v := 0) dX5_become_9 (by decide) rfl ?_
  refine ax_bipush (v := 8) dX5_become_10 (by decide) rfl ?_
  refine am_copy lkX5_37 dX5_become_12 rfl (Nat.le_of_ble_eq_true rfl) (Nat.le_of_ble_eq_true rfl) hB.m1 hP.m1 (by decide) rfl ?_
  refine ax_aload_n (j := 1) dX5_become_15 rfl rfl rfl ?_
  refine am_getR flX5_15 dX5_become_16 rfl hB.o rfl ?_
  refine ax_iconst (v := 0) dX5_become_19 (by decide) rfl ?_
  refine ax_aload_n (j := 0) dX5_become_20 rfl rfl rfl ?_
  refine am_getR flX5_15 dX5_become_21 rfl hP.o rfl ?_
  refine ax_iconst (v := 0) dX5_become_24 (by decide) rfl ?_
  refine ax_bipush (v := 8) dX5_become_25 (by decide) rfl ?_
  refine am_copy lkX5_37 dX5_become_27 rfl (Nat.le_of_ble_eq_true rfl) (Nat.le_of_ble_eq_true rfl) hB.m2 hP.m2 (by decide) rfl ?_
  refine ax_aload_n (j := 1) dX5_become_30 rfl rfl rfl ?_
  refine am_getR flX5_18 dX5_become_31 rfl hB.o rfl ?_
  refine ax_iconst (v := 0) dX5_become_34 (by decide) rfl ?_
  refine ax_aload_n (j := 0) dX5_become_35 rfl rfl rfl ?_
  refine am_getR flX5_18 dX5_become_36 rfl hP.o rfl ?_
  refine ax_iconst (v := 0) dX5_become_39 (by decide) rfl ?_
  refine ax_bipush (v := 8) dX5_become_40 (by decide) rfl ?_
  refine am_copy lkX5_37 dX5_become_42 rfl (Nat.le_of_ble_eq_true rfl) (Nat.le_of_ble_eq_true rfl) hB.m3 hP.m3 (by decide) rfl ?_
  refine ax_aload_n (j := 1) dX5_become_45 rfl rfl rfl ?_
  refine am_getR flX5_21 dX5_become_46 rfl hB.o rfl ?_
  refine ax_iconst (v := 0) dX5_become_49 (by decide) rfl ?_
  refine ax_aload_n (j := 0) dX5_become_50 rfl rfl rfl ?_
  refine am_getR flX5_21 dX5_become_51 rfl hP.o rfl ?_
  refine ax_iconst (v := 0) dX5_become_54 (by decide) rfl ?_
  refine ax_bipush (v := 64) dX5_become_55 (by decide) rfl ?_
  refine am_copy lkX5_37 dX5_become_57 rfl (Nat.le_of_ble_eq_true rfl) (Nat.le_of_ble_eq_true rfl) hB.m4 hP.m4 (by decide) rfl ?_
  refine ax_aload_n (j := 0) dX5_become_60 rfl rfl rfl ?_
  refine ax_aload_n (j := 1) dX5_become_61 rfl rfl rfl ?_
  refine am_getI flX5_30 dX5_become_62 rfl hB.o rfl ?_
  refine am_putI flX5_30 dX5_become_65 rfl hP.o rfl rfl rfl ?_
  refine ax_aload_n (j := 0) dX5_become_68 rfl rfl rfl ?_
  refine ax_aload_n (j := 1) dX5_become_69 rfl rfl rfl ?_
  refine am_getI flX5_34 dX5_become_70 rfl hB.o rfl ?_
  refine am_putI flX5_34 dX5_become_73 rfl hP.o rfl rfl rfl ?_
  exact ax_vreturn rfl dX5_become_76 ⟨rfl, by simp only [F_X5_become]⟩

def F_X5_add (mem : ax_Me) (a : Nat) (p0 : Int32) (p1 : Int32) : ax_Me :=
  (if (F_X9_isWithin mem (mem a 4) 0 7) = 0 then mem else (ax_u (ax_u (ax_u (ax_u mem (a + 1) (mem a 4).toNatClampNeg p0) (a + 2) ((ax_u mem (a + 1) (mem a 4).toNatClampNeg p0) a 4).toNatClampNeg p1) (a + 3) ((ax_u (ax_u mem (a + 1) (mem a 4).toNatClampNeg p0) (a + 2) ((ax_u mem (a + 1) (mem a 4).toNatClampNeg p0) a 4).toNatClampNeg p1) a 4).toNatClampNeg ((ax_u (ax_u mem (a + 1) (mem a 4).toNatClampNeg p0) (a + 2) ((ax_u mem (a + 1) (mem a 4).toNatClampNeg p0) a 4).toNatClampNeg p1) a 4)) a 4 (((ax_u (ax_u (ax_u mem (a + 1) (mem a 4).toNatClampNeg p0) (a + 2) ((ax_u mem (a + 1) (mem a 4).toNatClampNeg p0) a 4).toNatClampNeg p1) (a + 3) ((ax_u (ax_u mem (a + 1) (mem a 4).toNatClampNeg p0) (a + 2) ((ax_u mem (a + 1) (mem a 4).toNatClampNeg p0) a 4).toNatClampNeg p1) a 4).toNatClampNeg ((ax_u (ax_u mem (a + 1) (mem a 4).toNatClampNeg p0) (a + 2) ((ax_u mem (a + 1) (mem a 4).toNatClampNeg p0) a 4).toNatClampNeg p1) a 4)) a 4) + 1)))
set_option maxRecDepth 20000 in
theorem s_X5_add {G : ax_G} {l : Launch} (mem : ax_Me) {a : Nat} (hP : ax_isP a) (p0 : Int32) (p1 : Int32)  : AD G l 1 mX5_add [.ref a, .int p0, .int p1] mem none (F_X5_add mem a p0 p1) := by
  refine ax_start (ls := [.ref a, .int p0, .int p1]) (u := 0) (by decide +kernel) (Nat.le_of_ble_eq_true rfl) (Nat.le_refl _) (Nat.le_refl _) rfl ?_
  refine ax_aload_n (j := 0) dX5_add_0 rfl rfl rfl ?_
  refine am_getI flX5_30 dX5_add_1 rfl hP.o rfl ?_
  refine ax_iconst (v := 0) dX5_add_4 (by decide) rfl ?_
  refine ax_bipush (v := 7) dX5_add_5 (by decide) rfl ?_
  refine ad_S3 ksX9_isWithin lkX5_43 dX5_add_7 rfl (Nat.le_of_ble_eq_true rfl) (Nat.le_of_ble_eq_true rfl) (s_X9_isWithin _ _ _ _) ?_
  refine ax_if_ne (tgt := 14) dX5_add_10 (by decide) rfl (fun c10 => ?_) (fun c10 => ?_)
  · refine ax_aload_n (j := 0) dX5_add_14 rfl rfl rfl ?_
    refine am_getR flX5_9 dX5_add_15 rfl hP.o rfl ?_
    refine ax_aload_n (j := 0) dX5_add_18 rfl rfl rfl ?_
    refine am_getI flX5_30 dX5_add_19 rfl hP.o rfl ?_
    refine ax_iload_n (j := 1) dX5_add_22 rfl rfl rfl ?_
    refine am_iast dX5_add_23 rfl hP.m1 (by have q := within_in (k := 8) (b := 7) rfl c10; simpa [ax_u] using q) ?_
    refine ax_aload_n (j := 0) dX5_add_24 rfl rfl rfl ?_
    refine am_getR flX5_15 dX5_add_25 rfl hP.o rfl ?_
    refine ax_aload_n (j := 0) dX5_add_28 rfl rfl rfl ?_
    refine am_getI flX5_30 dX5_add_29 rfl hP.o rfl ?_
    refine ax_iload_n (j := 2) dX5_add_32 rfl rfl rfl ?_
    refine am_iast dX5_add_33 rfl hP.m2 (by have q := within_in (k := 8) (b := 7) rfl c10; simpa [ax_u] using q) ?_
    refine ax_aload_n (j := 0) dX5_add_34 rfl rfl rfl ?_
    refine am_getR flX5_18 dX5_add_35 rfl hP.o rfl ?_
    refine ax_aload_n (j := 0) dX5_add_38 rfl rfl rfl ?_
    refine am_getI flX5_30 dX5_add_39 rfl hP.o rfl ?_
    refine ax_aload_n (j := 0) dX5_add_42 rfl rfl rfl ?_
    refine am_getI flX5_30 dX5_add_43 rfl hP.o rfl ?_
    refine am_iast dX5_add_46 rfl hP.m3 (by have q := within_in (k := 8) (b := 7) rfl c10; simpa [ax_u] using q) ?_
    refine ax_aload_n (j := 0) dX5_add_47 rfl rfl rfl ?_
    refine ax_dup dX5_add_48 rfl rfl ?_
    refine am_getI flX5_30 dX5_add_49 rfl hP.o rfl ?_
    refine ax_iconst (v := 1) dX5_add_52 (by decide) rfl ?_
    refine ax_iadd dX5_add_53 rfl ?_
    refine am_putI flX5_30 dX5_add_54 rfl hP.o rfl rfl rfl ?_
    exact ax_vreturn rfl dX5_add_57 ⟨rfl, by simp only [F_X5_add, if_neg c10]⟩
  · exact ax_vreturn rfl dX5_add_13 ⟨rfl, by simp only [F_X5_add, if_pos c10]⟩

theorem flip_4 {m : ax_Me} {a : Nat} {p k : Int32} : F_X5_flip m a p k a 4 = m a 4 := by
  unfold F_X5_flip
  split
  · rfl
  · exact ax_u_ne (by omega)
def f_X5_passYears_15 (mem : ax_Me) (a : Nat) (p0 : Int32) (v2 : Int32) (j : Nat) (s : ax_Me) : ax_Me :=
  match s with
  | m => (if (F_X5_changesOf m a (nI j)) ≤ 0 then m else (F_X5_flip m a (nI j) ((((m a 5) * (F_X5_changesOf m a (nI j))) + (nI j)) - (((m a 5) * (F_X5_changesOf m a (nI j))) + (nI j)) / 8 * 8)))
def f_X5_passYears_2 (mem : ax_Me) (a : Nat) (p0 : Int32)  (j : Nat) (s : ax_Me) : ax_Me :=
  match s with
  | m => (ax_u (ax_it (f_X5_passYears_15 m a p0 ((nI j))) (((m a 4) : Int32).toNatClampNeg) (0) m) a 5 (((ax_it (f_X5_passYears_15 m a p0 ((nI j))) (((m a 4) : Int32).toNatClampNeg) (0) m) a 5) + 1))
def F_X5_passYears (mem : ax_Me) (a : Nat) (p0 : Int32) : ax_Me :=
  (ax_it (f_X5_passYears_2 mem a p0) (min (p0 : Int32).toNatClampNeg 60) (0) mem)
set_option maxRecDepth 20000 in
theorem lp_X5_passYears_15 {G : ax_G} {l : Launch} {Q : Option Value → ax_H → Prop} (mem : ax_Me) {a : Nat} (hP : ax_isP a) (p0 : Int32) (v2 : Int32)  : ∀ (n j : Nat) (m : ax_Me), j + n = ((mem a 4) : Int32).toNatClampNeg → m a 4 = mem a 4 → AX G l mX5_passYears 2 57 [.ref a, .int p0, .int v2, .int (nI (((mem a 4) : Int32).toNatClampNeg))] [] 153 0 (ax_hm (ax_it (f_X5_passYears_15 mem a p0 v2) n j m)) 153 0 Q → AX G l mX5_passYears 2 15 [.ref a, .int p0, .int v2, .int (nI j)] [] 153 0 (ax_hm m) 153 0 Q := by
  intro n
  induction n with
  | zero =>
    intro j m hj hi hx
    refine ax_iload_n (j := 3) dX5_passYears_15 rfl rfl rfl ?_
    refine ax_aload_n (j := 0) dX5_passYears_16 rfl rfl rfl ?_
    refine am_getI flX5_30 dX5_passYears_17 rfl hP.o rfl ?_
    refine ax_icmp_ge (tgt := 57) dX5_passYears_20 (by decide) rfl (fun c20 => ?_) (fun c20 => ?_)
    · have q := hx
      simp only [ax_it] at q
      rw [show (((mem a 4) : Int32).toNatClampNeg) = j by omega] at q
      exact q
    · exact absurd (cl_ge (by rw [hi]; omega)) c20
  | succ n ih =>
    intro j m hj hi hx
    refine ax_iload_n (j := 3) dX5_passYears_15 rfl rfl rfl ?_
    refine ax_aload_n (j := 0) dX5_passYears_16 rfl rfl rfl ?_
    refine am_getI flX5_30 dX5_passYears_17 rfl hP.o rfl ?_
    refine ax_icmp_ge (tgt := 57) dX5_passYears_20 (by decide) rfl (fun c20 => ?_) (fun c20 => ?_)
    · exact absurd c20 (cl_nle (by rw [hi]; omega))
    · refine ax_aload_n (j := 0) dX5_passYears_23 rfl rfl rfl ?_
      refine ax_iload_n (j := 3) dX5_passYears_24 rfl rfl rfl ?_
      refine ad_V1 ksX5_changesOf lkX5_67 dX5_passYears_25 rfl hP.o rfl (Nat.le_of_ble_eq_true rfl) (Nat.le_of_ble_eq_true rfl) (s_X5_changesOf _ hP _) ?_
      refine ax_if_le (tgt := 51) dX5_passYears_28 (by decide) rfl (fun c28 => ?_) (fun c28 => ?_)
      · refine ax_iinc3 (v := nI (j + 1)) dX5_passYears_51 rfl (cl_inc j) (Nat.le_of_ble_eq_true rfl) rfl ?_
        refine ax_goto (tgt := 15) dX5_passYears_54 (by decide) ?_
        have e1 : f_X5_passYears_15 mem a p0 v2 j m = m := by simp only [f_X5_passYears_15, if_pos c28]
        simp only [ax_it, e1] at hx
        exact ih (j + 1) (m) (by omega) (by first | exact hi | exact flip_4.trans hi) hx
      · refine ax_aload_n (j := 0) dX5_passYears_31 rfl rfl rfl ?_
        refine ax_iload_n (j := 3) dX5_passYears_32 rfl rfl rfl ?_
        refine ax_aload_n (j := 0) dX5_passYears_33 rfl rfl rfl ?_
        refine am_getI flX5_34 dX5_passYears_34 rfl hP.o rfl ?_
        refine ax_aload_n (j := 0) dX5_passYears_37 rfl rfl rfl ?_
        refine ax_iload_n (j := 3) dX5_passYears_38 rfl rfl rfl ?_
        refine ad_V1 ksX5_changesOf lkX5_67 dX5_passYears_39 rfl hP.o rfl (Nat.le_of_ble_eq_true rfl) (Nat.le_of_ble_eq_true rfl) (s_X5_changesOf _ hP _) ?_
        refine ax_imul dX5_passYears_42 rfl ?_
        refine ax_iload_n (j := 3) dX5_passYears_43 rfl rfl rfl ?_
        refine ax_iadd dX5_passYears_44 rfl ?_
        refine ax_bipush (v := 8) dX5_passYears_45 (by decide) rfl ?_
        refine ax_irem dX5_passYears_47 (by decide) rfl ?_
        refine ad_V2v ksX5_flip lkX5_70 dX5_passYears_48 rfl hP.o rfl (Nat.le_of_ble_eq_true rfl) (Nat.le_of_ble_eq_true rfl) (s_X5_flip _ hP _ _) ?_
        refine ax_iinc3 (v := nI (j + 1)) dX5_passYears_51 rfl (cl_inc j) (Nat.le_of_ble_eq_true rfl) rfl ?_
        refine ax_goto (tgt := 15) dX5_passYears_54 (by decide) ?_
        have e1 : f_X5_passYears_15 mem a p0 v2 j m = (F_X5_flip m a (nI j) ((((m a 5) * (F_X5_changesOf m a (nI j))) + (nI j)) - (((m a 5) * (F_X5_changesOf m a (nI j))) + (nI j)) / 8 * 8)) := by simp only [f_X5_passYears_15, if_neg c28]
        simp only [ax_it, e1] at hx
        exact ih (j + 1) ((F_X5_flip m a (nI j) ((((m a 5) * (F_X5_changesOf m a (nI j))) + (nI j)) - (((m a 5) * (F_X5_changesOf m a (nI j))) + (nI j)) / 8 * 8))) (by omega) (by first | exact hi | exact flip_4.trans hi) hx
set_option maxRecDepth 20000 in
theorem lp_X5_passYears_2 {G : ax_G} {l : Launch} {Q : Option Value → ax_H → Prop} (mem : ax_Me) {a : Nat} (hP : ax_isP a) (p0 : Int32)   : ∀ (n j : Nat) (m : ax_Me), j + n = min (p0 : Int32).toNatClampNeg 60 → AX G l mX5_passYears 2 73 [.ref a, .int p0, .int (nI (min (p0 : Int32).toNatClampNeg 60)), .float 0] [] 153 0 (ax_hm (ax_it (f_X5_passYears_2 mem a p0) n j m)) 153 0 Q → AX G l mX5_passYears 2 2 [.ref a, .int p0, .int (nI j), .float 0] [] 153 0 (ax_hm m) 153 0 Q := by
  intro n
  induction n with
  | zero =>
    intro j m hj hx
    refine ax_iload_n (j := 2) dX5_passYears_2 rfl rfl rfl ?_
    refine ax_iload_n (j := 1) dX5_passYears_3 rfl rfl rfl ?_
    refine ax_icmp_ge (tgt := 73) dX5_passYears_4 (by decide) rfl (fun c4 => ?_) (fun c4 => ?_)
    · have q := hx
      simp only [ax_it] at q
      rw [show (min (p0 : Int32).toNatClampNeg 60) = j by omega] at q
      exact q
    · refine ax_iload_n (j := 2) dX5_passYears_7 rfl rfl rfl ?_
      refine ax_bipush (v := 60) dX5_passYears_8 (by decide) rfl ?_
      refine ax_icmp_ge (tgt := 73) dX5_passYears_10 (by decide) rfl (fun c10 => ?_) (fun c10 => ?_)
      · have q := hx
        simp only [ax_it] at q
        rw [show (min (p0 : Int32).toNatClampNeg 60) = j by omega] at q
        exact q
      · exact absurd (two_ge (b := 60) (k := 60) rfl hj c4) c10
  | succ n ih =>
    intro j m hj hx
    refine ax_iload_n (j := 2) dX5_passYears_2 rfl rfl rfl ?_
    refine ax_iload_n (j := 1) dX5_passYears_3 rfl rfl rfl ?_
    refine ax_icmp_ge (tgt := 73) dX5_passYears_4 (by decide) rfl (fun c4 => ?_) (fun c4 => ?_)
    · exact absurd c4 (cl_nle (by omega))
    · refine ax_iload_n (j := 2) dX5_passYears_7 rfl rfl rfl ?_
      refine ax_bipush (v := 60) dX5_passYears_8 (by decide) rfl ?_
      refine ax_icmp_ge (tgt := 73) dX5_passYears_10 (by decide) rfl (fun c10 => ?_) (fun c10 => ?_)
      · exact absurd c10 (cl_nle (x := 60) (by have : (60 : Int32).toNatClampNeg = 60 := rfl; omega))
      · refine ax_iconst (v := 0) dX5_passYears_13 (by decide) rfl ?_
        refine ax_ist3 dX5_passYears_14 rfl rfl (Nat.le_of_ble_eq_true rfl) rfl ?_
        refine lp_X5_passYears_15 m hP p0 ((nI j))   (((m a 4) : Int32).toNatClampNeg) (0) (m) (Nat.zero_add _) rfl ?_
        refine ax_aload_n (j := 0) dX5_passYears_57 rfl rfl rfl ?_
        refine ax_dup dX5_passYears_58 rfl rfl ?_
        refine am_getI flX5_34 dX5_passYears_59 rfl hP.o rfl ?_
        refine ax_iconst (v := 1) dX5_passYears_62 (by decide) rfl ?_
        refine ax_iadd dX5_passYears_63 rfl ?_
        refine am_putI flX5_34 dX5_passYears_64 rfl hP.o rfl rfl rfl ?_
        refine ax_iinc2 (v := nI (j + 1)) dX5_passYears_67 rfl (cl_inc j) (Nat.le_of_ble_eq_true rfl) rfl ?_
        refine ax_goto (tgt := 2) dX5_passYears_70 (by decide) ?_
        refine ax_fg3 ?_
        have e1 : f_X5_passYears_2 mem a p0 j m = (ax_u (ax_it (f_X5_passYears_15 m a p0 ((nI j))) (((m a 4) : Int32).toNatClampNeg) (0) m) a 5 (((ax_it (f_X5_passYears_15 m a p0 ((nI j))) (((m a 4) : Int32).toNatClampNeg) (0) m) a 5) + 1)) := by simp only [f_X5_passYears_2]
        simp only [ax_it, e1] at hx
        exact ih (j + 1) ((ax_u (ax_it (f_X5_passYears_15 m a p0 ((nI j))) (((m a 4) : Int32).toNatClampNeg) (0) m) a 5 (((ax_it (f_X5_passYears_15 m a p0 ((nI j))) (((m a 4) : Int32).toNatClampNeg) (0) m) a 5) + 1))) (by omega) hx
set_option maxRecDepth 20000 in
theorem s_X5_passYears {G : ax_G} {l : Launch} (mem : ax_Me) {a : Nat} (hP : ax_isP a) (p0 : Int32)  : AD G l 2 mX5_passYears [.ref a, .int p0] mem none (F_X5_passYears mem a p0) := by
  refine ax_start (ls := [.ref a, .int p0, .float 0, .float 0]) (u := 2) (by decide +kernel) (Nat.le_of_ble_eq_true rfl) (Nat.le_refl _) (Nat.le_refl _) rfl ?_
  refine ax_iconst (v := 0) dX5_passYears_0 (by decide) rfl ?_
  refine ax_ist2 dX5_passYears_1 rfl rfl (Nat.le_of_ble_eq_true rfl) rfl ?_
  refine lp_X5_passYears_2 mem hP p0    (min (p0 : Int32).toNatClampNeg 60) (0) (mem) (Nat.zero_add _)  ?_
  exact ax_vreturn rfl dX5_passYears_73 ⟨rfl, by simp only [F_X5_passYears]⟩

def F_X7_add (mem : ax_Me) (p0 : Int32) (p1 : Int32) (p2 : Int32) (p3 : Int32) : Int32 × ax_Me :=
  (if (F_X9_isWithin mem (mem 115 4) 0 7) = 0 then ((mem 115 4), mem) else (((ax_u (ax_u (ax_u (ax_u (ax_u mem 116 (mem 115 4).toNatClampNeg p0) 117 ((ax_u mem 116 (mem 115 4).toNatClampNeg p0) 115 4).toNatClampNeg p1) 118 ((ax_u (ax_u mem 116 (mem 115 4).toNatClampNeg p0) 117 ((ax_u mem 116 (mem 115 4).toNatClampNeg p0) 115 4).toNatClampNeg p1) 115 4).toNatClampNeg p2) 119 ((ax_u (ax_u (ax_u mem 116 (mem 115 4).toNatClampNeg p0) 117 ((ax_u mem 116 (mem 115 4).toNatClampNeg p0) 115 4).toNatClampNeg p1) 118 ((ax_u (ax_u mem 116 (mem 115 4).toNatClampNeg p0) 117 ((ax_u mem 116 (mem 115 4).toNatClampNeg p0) 115 4).toNatClampNeg p1) 115 4).toNatClampNeg p2) 115 4).toNatClampNeg p3) 115 4 (((ax_u (ax_u (ax_u (ax_u mem 116 (mem 115 4).toNatClampNeg p0) 117 ((ax_u mem 116 (mem 115 4).toNatClampNeg p0) 115 4).toNatClampNeg p1) 118 ((ax_u (ax_u mem 116 (mem 115 4).toNatClampNeg p0) 117 ((ax_u mem 116 (mem 115 4).toNatClampNeg p0) 115 4).toNatClampNeg p1) 115 4).toNatClampNeg p2) 119 ((ax_u (ax_u (ax_u mem 116 (mem 115 4).toNatClampNeg p0) 117 ((ax_u mem 116 (mem 115 4).toNatClampNeg p0) 115 4).toNatClampNeg p1) 118 ((ax_u (ax_u mem 116 (mem 115 4).toNatClampNeg p0) 117 ((ax_u mem 116 (mem 115 4).toNatClampNeg p0) 115 4).toNatClampNeg p1) 115 4).toNatClampNeg p2) 115 4).toNatClampNeg p3) 115 4) + 1)) 115 4), (ax_u (ax_u (ax_u (ax_u (ax_u mem 116 (mem 115 4).toNatClampNeg p0) 117 ((ax_u mem 116 (mem 115 4).toNatClampNeg p0) 115 4).toNatClampNeg p1) 118 ((ax_u (ax_u mem 116 (mem 115 4).toNatClampNeg p0) 117 ((ax_u mem 116 (mem 115 4).toNatClampNeg p0) 115 4).toNatClampNeg p1) 115 4).toNatClampNeg p2) 119 ((ax_u (ax_u (ax_u mem 116 (mem 115 4).toNatClampNeg p0) 117 ((ax_u mem 116 (mem 115 4).toNatClampNeg p0) 115 4).toNatClampNeg p1) 118 ((ax_u (ax_u mem 116 (mem 115 4).toNatClampNeg p0) 117 ((ax_u mem 116 (mem 115 4).toNatClampNeg p0) 115 4).toNatClampNeg p1) 115 4).toNatClampNeg p2) 115 4).toNatClampNeg p3) 115 4 (((ax_u (ax_u (ax_u (ax_u mem 116 (mem 115 4).toNatClampNeg p0) 117 ((ax_u mem 116 (mem 115 4).toNatClampNeg p0) 115 4).toNatClampNeg p1) 118 ((ax_u (ax_u mem 116 (mem 115 4).toNatClampNeg p0) 117 ((ax_u mem 116 (mem 115 4).toNatClampNeg p0) 115 4).toNatClampNeg p1) 115 4).toNatClampNeg p2) 119 ((ax_u (ax_u (ax_u mem 116 (mem 115 4).toNatClampNeg p0) 117 ((ax_u mem 116 (mem 115 4).toNatClampNeg p0) 115 4).toNatClampNeg p1) 118 ((ax_u (ax_u mem 116 (mem 115 4).toNatClampNeg p0) 117 ((ax_u mem 116 (mem 115 4).toNatClampNeg p0) 115 4).toNatClampNeg p1) 115 4).toNatClampNeg p2) 115 4).toNatClampNeg p3) 115 4) + 1))))
set_option maxRecDepth 20000 in
theorem s_X7_add {G : ax_G} {l : Launch} (mem : ax_Me) (p0 : Int32) (p1 : Int32) (p2 : Int32) (p3 : Int32)  : AD G l 1 mX7_add [.ref 115, .int p0, .int p1, .int p2, .int p3] mem (some (.int (F_X7_add mem p0 p1 p2 p3).1)) (F_X7_add mem p0 p1 p2 p3).2 := by
  refine ax_start (ls := [.ref 115, .int p0, .int p1, .int p2, .int p3]) (u := 0) (by decide +kernel) (Nat.le_of_ble_eq_true rfl) (Nat.le_refl _) (Nat.le_refl _) rfl ?_
  refine ax_aload_n (j := 0) dX7_add_0 rfl rfl rfl ?_
  refine am_getI flX7_24 dX7_add_1 rfl is115 rfl ?_
  refine ax_iconst (v := 0) dX7_add_4 (by decide) rfl ?_
  refine ax_bipush (v := 7) dX7_add_5 (by decide) rfl ?_
  refine ad_S3 ksX9_isWithin lkX7_28 dX7_add_7 rfl (Nat.le_of_ble_eq_true rfl) (Nat.le_of_ble_eq_true rfl) (s_X9_isWithin _ _ _ _) ?_
  refine ax_if_eq (tgt := 64) dX7_add_10 (by decide) rfl (fun c10 => ?_) (fun c10 => ?_)
  · refine ax_aload_n (j := 0) dX7_add_64 rfl rfl rfl ?_
    refine am_getI flX7_24 dX7_add_65 rfl is115 rfl ?_
    exact ax_ireturn rfl dX7_add_68 ⟨by simp only [F_X7_add, if_pos c10], by simp only [F_X7_add, if_pos c10]⟩
  · refine ax_aload_n (j := 0) dX7_add_13 rfl rfl rfl ?_
    refine am_getR flX7_9 dX7_add_14 rfl is115 rfl ?_
    refine ax_aload_n (j := 0) dX7_add_17 rfl rfl rfl ?_
    refine am_getI flX7_24 dX7_add_18 rfl is115 rfl ?_
    refine ax_iload_n (j := 1) dX7_add_21 rfl rfl rfl ?_
    refine am_iast dX7_add_22 rfl is116 (by have q := within_in (k := 8) (b := 7) rfl c10; simpa [ax_u] using q) ?_
    refine ax_aload_n (j := 0) dX7_add_23 rfl rfl rfl ?_
    refine am_getR flX7_15 dX7_add_24 rfl is115 rfl ?_
    refine ax_aload_n (j := 0) dX7_add_27 rfl rfl rfl ?_
    refine am_getI flX7_24 dX7_add_28 rfl is115 rfl ?_
    refine ax_iload_n (j := 2) dX7_add_31 rfl rfl rfl ?_
    refine am_iast dX7_add_32 rfl is117 (by have q := within_in (k := 8) (b := 7) rfl c10; simpa [ax_u] using q) ?_
    refine ax_aload_n (j := 0) dX7_add_33 rfl rfl rfl ?_
    refine am_getR flX7_18 dX7_add_34 rfl is115 rfl ?_
    refine ax_aload_n (j := 0) dX7_add_37 rfl rfl rfl ?_
    refine am_getI flX7_24 dX7_add_38 rfl is115 rfl ?_
    refine ax_iload_n (j := 3) dX7_add_41 rfl rfl rfl ?_
    refine am_iast dX7_add_42 rfl is118 (by have q := within_in (k := 8) (b := 7) rfl c10; simpa [ax_u] using q) ?_
    refine ax_aload_n (j := 0) dX7_add_43 rfl rfl rfl ?_
    refine am_getR flX7_21 dX7_add_44 rfl is115 rfl ?_
    refine ax_aload_n (j := 0) dX7_add_47 rfl rfl rfl ?_
    refine am_getI flX7_24 dX7_add_48 rfl is115 rfl ?_
    refine ax_iload dX7_add_51 rfl rfl ?_
    refine am_iast dX7_add_53 rfl is119 (by have q := within_in (k := 8) (b := 7) rfl c10; simpa [ax_u] using q) ?_
    refine ax_aload_n (j := 0) dX7_add_54 rfl rfl rfl ?_
    refine ax_dup dX7_add_55 rfl rfl ?_
    refine am_getI flX7_24 dX7_add_56 rfl is115 rfl ?_
    refine ax_iconst (v := 1) dX7_add_59 (by decide) rfl ?_
    refine ax_iadd dX7_add_60 rfl ?_
    refine am_putI flX7_24 dX7_add_61 rfl is115 rfl rfl rfl ?_
    refine ax_aload_n (j := 0) dX7_add_64 rfl rfl rfl ?_
    refine am_getI flX7_24 dX7_add_65 rfl is115 rfl ?_
    exact ax_ireturn rfl dX7_add_68 ⟨by simp only [F_X7_add, if_neg c10], by simp only [F_X7_add, if_neg c10]⟩

def F_X0_add (mem : ax_Me) (p0 : Int32) (p1 : Int32) : Int32 × ax_Me :=
  (if (F_X9_isWithin mem (mem 120 2) 0 14) = 0 then ((mem 120 2), mem) else (((ax_u (ax_u (ax_u mem 121 (mem 120 2).toNatClampNeg p0) 122 ((ax_u mem 121 (mem 120 2).toNatClampNeg p0) 120 2).toNatClampNeg p1) 120 2 (((ax_u (ax_u mem 121 (mem 120 2).toNatClampNeg p0) 122 ((ax_u mem 121 (mem 120 2).toNatClampNeg p0) 120 2).toNatClampNeg p1) 120 2) + 1)) 120 2), (ax_u (ax_u (ax_u mem 121 (mem 120 2).toNatClampNeg p0) 122 ((ax_u mem 121 (mem 120 2).toNatClampNeg p0) 120 2).toNatClampNeg p1) 120 2 (((ax_u (ax_u mem 121 (mem 120 2).toNatClampNeg p0) 122 ((ax_u mem 121 (mem 120 2).toNatClampNeg p0) 120 2).toNatClampNeg p1) 120 2) + 1))))
set_option maxRecDepth 20000 in
theorem s_X0_add {G : ax_G} {l : Launch} (mem : ax_Me) (p0 : Int32) (p1 : Int32)  : AD G l 1 mX0_add [.ref 120, .int p0, .int p1] mem (some (.int (F_X0_add mem p0 p1).1)) (F_X0_add mem p0 p1).2 := by
  refine ax_start (ls := [.ref 120, .int p0, .int p1]) (u := 0) (by decide +kernel) (Nat.le_of_ble_eq_true rfl) (Nat.le_refl _) (Nat.le_refl _) rfl ?_
  refine ax_aload_n (j := 0) dX0_add_0 rfl rfl rfl ?_
  refine am_getI flX0_18 dX0_add_1 rfl is120 rfl ?_
  refine ax_iconst (v := 0) dX0_add_4 (by decide) rfl ?_
  refine ax_bipush (v := 14) dX0_add_5 (by decide) rfl ?_
  refine ad_S3 ksX9_isWithin lkX0_22 dX0_add_7 rfl (Nat.le_of_ble_eq_true rfl) (Nat.le_of_ble_eq_true rfl) (s_X9_isWithin _ _ _ _) ?_
  refine ax_if_eq (tgt := 43) dX0_add_10 (by decide) rfl (fun c10 => ?_) (fun c10 => ?_)
  · refine ax_aload_n (j := 0) dX0_add_43 rfl rfl rfl ?_
    refine am_getI flX0_18 dX0_add_44 rfl is120 rfl ?_
    exact ax_ireturn rfl dX0_add_47 ⟨by simp only [F_X0_add, if_pos c10], by simp only [F_X0_add, if_pos c10]⟩
  · refine ax_aload_n (j := 0) dX0_add_13 rfl rfl rfl ?_
    refine am_getR flX0_9 dX0_add_14 rfl is120 rfl ?_
    refine ax_aload_n (j := 0) dX0_add_17 rfl rfl rfl ?_
    refine am_getI flX0_18 dX0_add_18 rfl is120 rfl ?_
    refine ax_iload_n (j := 1) dX0_add_21 rfl rfl rfl ?_
    refine am_iast dX0_add_22 rfl is121 (by have q := within_in (k := 15) (b := 14) rfl c10; simpa [ax_u] using q) ?_
    refine ax_aload_n (j := 0) dX0_add_23 rfl rfl rfl ?_
    refine am_getR flX0_15 dX0_add_24 rfl is120 rfl ?_
    refine ax_aload_n (j := 0) dX0_add_27 rfl rfl rfl ?_
    refine am_getI flX0_18 dX0_add_28 rfl is120 rfl ?_
    refine ax_iload_n (j := 2) dX0_add_31 rfl rfl rfl ?_
    refine am_iast dX0_add_32 rfl is122 (by have q := within_in (k := 15) (b := 14) rfl c10; simpa [ax_u] using q) ?_
    refine ax_aload_n (j := 0) dX0_add_33 rfl rfl rfl ?_
    refine ax_dup dX0_add_34 rfl rfl ?_
    refine am_getI flX0_18 dX0_add_35 rfl is120 rfl ?_
    refine ax_iconst (v := 1) dX0_add_38 (by decide) rfl ?_
    refine ax_iadd dX0_add_39 rfl ?_
    refine am_putI flX0_18 dX0_add_40 rfl is120 rfl rfl rfl ?_
    refine ax_aload_n (j := 0) dX0_add_43 rfl rfl rfl ?_
    refine am_getI flX0_18 dX0_add_44 rfl is120 rfl ?_
    exact ax_ireturn rfl dX0_add_47 ⟨by simp only [F_X0_add, if_neg c10], by simp only [F_X0_add, if_neg c10]⟩

def F_X8_append (mem : ax_Me) (p0 : Int32) : Int32 × ax_Me :=
  (if (F_X9_isWithin mem (mem 1 1) 0 239) = 0 then ((mem 1 1), mem) else (((ax_u (ax_u mem 2 (mem 1 1).toNatClampNeg p0) 1 1 (((ax_u mem 2 (mem 1 1).toNatClampNeg p0) 1 1) + 1)) 1 1), (ax_u (ax_u mem 2 (mem 1 1).toNatClampNeg p0) 1 1 (((ax_u mem 2 (mem 1 1).toNatClampNeg p0) 1 1) + 1))))
set_option maxRecDepth 20000 in
theorem s_X8_append {G : ax_G} {l : Launch} (mem : ax_Me) (p0 : Int32)  : AD G l 1 mX8_append [.ref 1, .int p0] mem (some (.int (F_X8_append mem p0).1)) (F_X8_append mem p0).2 := by
  refine ax_start (ls := [.ref 1, .int p0]) (u := 0) (by decide +kernel) (Nat.le_of_ble_eq_true rfl) (Nat.le_refl _) (Nat.le_refl _) rfl ?_
  refine ax_aload_n (j := 0) dX8_append_0 rfl rfl rfl ?_
  refine am_getI flX8_19 dX8_append_1 rfl is1 rfl ?_
  refine ax_iconst (v := 0) dX8_append_4 (by decide) rfl ?_
  refine ax_sipush (v := 239) dX8_append_5 (by decide) rfl ?_
  refine ad_S3 ksX9_isWithin lkX8_22 dX8_append_8 rfl (Nat.le_of_ble_eq_true rfl) (Nat.le_of_ble_eq_true rfl) (s_X9_isWithin _ _ _ _) ?_
  refine ax_if_eq (tgt := 34) dX8_append_11 (by decide) rfl (fun c11 => ?_) (fun c11 => ?_)
  · refine ax_aload_n (j := 0) dX8_append_34 rfl rfl rfl ?_
    refine am_getI flX8_19 dX8_append_35 rfl is1 rfl ?_
    exact ax_ireturn rfl dX8_append_38 ⟨by simp only [F_X8_append, if_pos c11], by simp only [F_X8_append, if_pos c11]⟩
  · refine ax_aload_n (j := 0) dX8_append_14 rfl rfl rfl ?_
    refine am_getR flX8_9 dX8_append_15 rfl is1 rfl ?_
    refine ax_aload_n (j := 0) dX8_append_18 rfl rfl rfl ?_
    refine am_getI flX8_19 dX8_append_19 rfl is1 rfl ?_
    refine ax_iload_n (j := 1) dX8_append_22 rfl rfl rfl ?_
    refine am_iast dX8_append_23 rfl is2 (by have q := within_in (k := 240) (b := 239) rfl c11; simpa [ax_u] using q) ?_
    refine ax_aload_n (j := 0) dX8_append_24 rfl rfl rfl ?_
    refine ax_dup dX8_append_25 rfl rfl ?_
    refine am_getI flX8_19 dX8_append_26 rfl is1 rfl ?_
    refine ax_iconst (v := 1) dX8_append_29 (by decide) rfl ?_
    refine ax_iadd dX8_append_30 rfl ?_
    refine am_putI flX8_19 dX8_append_31 rfl is1 rfl rfl rfl ?_
    refine ax_aload_n (j := 0) dX8_append_34 rfl rfl rfl ?_
    refine am_getI flX8_19 dX8_append_35 rfl is1 rfl ?_
    exact ax_ireturn rfl dX8_append_38 ⟨by simp only [F_X8_append, if_neg c11], by simp only [F_X8_append, if_neg c11]⟩

def F_X1_drawOf (mem : ax_Me) (p0 : Int32) : Int32 × ax_Me :=
  (if p0 ≤ 0 then (0, (ax_u mem 123 0 ((((mem 123 0) * (1103515245)) + 12345) &&& (2147483647)))) else (((((ax_u mem 123 0 ((((mem 123 0) * (1103515245)) + 12345) &&& (2147483647))) 123 0) / (65536)) - (((ax_u mem 123 0 ((((mem 123 0) * (1103515245)) + 12345) &&& (2147483647))) 123 0) / (65536)) / p0 * p0), (ax_u mem 123 0 ((((mem 123 0) * (1103515245)) + 12345) &&& (2147483647)))))
set_option maxRecDepth 20000 in
theorem s_X1_drawOf {G : ax_G} {l : Launch} (mem : ax_Me) (p0 : Int32)  : AD G l 0 mX1_drawOf [.ref 123, .int p0] mem (some (.int (F_X1_drawOf mem p0).1)) (F_X1_drawOf mem p0).2 := by
  refine ax_start (ls := [.ref 123, .int p0]) (u := 0) (by decide +kernel) (Nat.le_of_ble_eq_true rfl) (Nat.le_refl _) (Nat.le_refl _) rfl ?_
  refine ax_aload_n (j := 0) dX1_drawOf_0 rfl rfl rfl ?_
  refine ax_aload_n (j := 0) dX1_drawOf_1 rfl rfl rfl ?_
  refine am_getI flX1_7 dX1_drawOf_2 rfl is123 rfl ?_
  refine ax_ldc dX1_drawOf_5 cnX1_13 rfl ?_
  refine ax_imul dX1_drawOf_7 rfl ?_
  refine ax_sipush (v := 12345) dX1_drawOf_8 (by decide) rfl ?_
  refine ax_iadd dX1_drawOf_11 rfl ?_
  refine ax_ldc dX1_drawOf_12 cnX1_14 rfl ?_
  refine ax_iand dX1_drawOf_14 rfl ?_
  refine am_putI flX1_7 dX1_drawOf_15 rfl is123 rfl rfl rfl ?_
  refine ax_iload_n (j := 1) dX1_drawOf_18 rfl rfl rfl ?_
  refine ax_if_le (tgt := 34) dX1_drawOf_19 (by decide) rfl (fun c19 => ?_) (fun c19 => ?_)
  · refine ax_iconst (v := 0) dX1_drawOf_34 (by decide) rfl ?_
    exact ax_ireturn rfl dX1_drawOf_35 ⟨by simp only [F_X1_drawOf, if_pos c19], by simp only [F_X1_drawOf, if_pos c19]⟩
  · refine ax_aload_n (j := 0) dX1_drawOf_22 rfl rfl rfl ?_
    refine am_getI flX1_7 dX1_drawOf_23 rfl is123 rfl ?_
    refine ax_ldc dX1_drawOf_26 cnX1_15 rfl ?_
    refine ax_idiv dX1_drawOf_28 (by decide) rfl ?_
    refine ax_iload_n (j := 1) dX1_drawOf_29 rfl rfl rfl ?_
    refine ax_irem dX1_drawOf_30 (le0_ne c19) rfl ?_
    refine ax_goto (tgt := 35) dX1_drawOf_31 (by decide) ?_
    exact ax_ireturn rfl dX1_drawOf_35 ⟨by simp only [F_X1_drawOf, if_neg c19], by simp only [F_X1_drawOf, if_neg c19]⟩

def F_X3_take (mem : ax_Me) (g : Nat) (a : Nat) (p0 : Int32) : ax_Me :=
  (ax_u (ax_u (F_X5_become mem (g + 1) a) g 1 p0) g 2 1)
set_option maxRecDepth 20000 in
theorem s_X3_take {G : ax_G} {l : Launch} (mem : ax_Me) {g : Nat} (hg : ax_isI g) {a : Nat} (hP : ax_isP a) (p0 : Int32)  : AD G l 2 mX3_take [.ref g, .ref a, .int p0] mem none (F_X3_take mem g a p0) := by
  refine ax_start (ls := [.ref g, .ref a, .int p0]) (u := 0) (by decide +kernel) (Nat.le_of_ble_eq_true rfl) (Nat.le_refl _) (Nat.le_refl _) rfl ?_
  refine ax_aload_n (j := 0) dX3_take_0 rfl rfl rfl ?_
  refine am_getR flX3_10 dX3_take_1 rfl hg.o rfl ?_
  refine ax_aload_n (j := 1) dX3_take_4 rfl rfl rfl ?_
  refine ad_V1v ksX5_become lkX3_16 dX3_take_5 rfl hg.p.o rfl (Nat.le_of_ble_eq_true rfl) (Nat.le_of_ble_eq_true rfl) (s_X5_become _ hg.p hP) ?_
  refine ax_aload_n (j := 0) dX3_take_8 rfl rfl rfl ?_
  refine ax_iload_n (j := 2) dX3_take_9 rfl rfl rfl ?_
  refine am_putI flX3_20 dX3_take_10 rfl hg.o rfl rfl rfl ?_
  refine ax_aload_n (j := 0) dX3_take_13 rfl rfl rfl ?_
  refine ax_iconst (v := 1) dX3_take_14 (by decide) rfl ?_
  refine am_putI flX3_24 dX3_take_15 rfl hg.o rfl rfl rfl ?_
  exact ax_vreturn rfl dX3_take_18 ⟨rfl, by simp only [F_X3_take]⟩

theorem s_X4_stateAt {G : ax_G} {l : Launch} (mem : ax_Me) (p0 : Int32) (hi : vp_in p0 20) : AD G l 1 mX4_stateAt [.ref 13, .int p0] mem (some (.ref (15 + 5 * p0.toNatClampNeg))) mem := by
  refine ax_start (ls := [.ref 13, .int p0]) (u := 0) (by decide +kernel) (Nat.le_of_ble_eq_true rfl) (Nat.le_refl _) (Nat.le_refl _) rfl ?_
  refine ax_iload_n (j := 1) dX4_stateAt_0 rfl rfl rfl ?_
  refine ax_iconst (v := 0) dX4_stateAt_1 (by decide) rfl ?_
  refine ax_bipush (v := 19) dX4_stateAt_2 (by decide) rfl ?_
  refine ad_S3 ksX9_isWithin lkX4_39 dX4_stateAt_4 rfl (Nat.le_of_ble_eq_true rfl) (Nat.le_of_ble_eq_true rfl) (s_X9_isWithin _ _ _ _) ?_
  refine ax_if_eq (tgt := 19) dX4_stateAt_7 (by decide) rfl (fun c7 => ?_) (fun c7 => ?_)
  · rw [vp_in_iff] at hi
    have e0 : (0 : Int32).toInt = 0 := rfl
    have e9 : (19 : Int32).toInt = 19 := rfl
    unfold F_X9_isWithin at c7
    rw [if_neg (by rw [Int32.lt_iff_toInt_lt]; omega), if_neg (by rw [Int32.lt_iff_toInt_lt]; omega)] at c7
    exact absurd c7 (by decide)
  · refine ax_aload_n (j := 0) dX4_stateAt_10 rfl rfl rfl ?_
    refine am_getR flX4_11 dX4_stateAt_11 rfl is13 rfl ?_
    refine ax_iload_n (j := 1) dX4_stateAt_14 rfl rfl rfl ?_
    refine am_aald dX4_stateAt_15 rfl hi ?_
    refine ax_goto (tgt := 20) dX4_stateAt_16 (by decide) ?_
    exact ax_areturn rfl (Or.inl ⟨_, rfl⟩) (Or.inr ⟨_, rfl⟩) dX4_stateAt_20 ⟨rfl, rfl⟩
theorem isPs {x : Int32} (h : vp_in x 20) : ax_isP (15 + 5 * x.toNatClampNeg) := isPi (Nat.not_le.mp fun q => h (Or.inr q))
theorem s_X9_imageOf0 {G : ax_G} {l : Launch} (mem : ax_Me) (p0 : Int32) (h : p0 = 0) : AD G l 0 mX9_imageOf [.ref 0, .int p0] mem (some (.ref 124)) mem := by
  refine ax_start (ls := [.ref 0, .int p0]) (u := 0) (by decide +kernel) (Nat.le_of_ble_eq_true rfl) (Nat.le_refl _) (Nat.le_refl _) rfl ?_
  refine ax_iload_n (j := 1) dX9_imageOf_0 rfl rfl rfl ?_
  refine ax_if_ne (tgt := 9) dX9_imageOf_1 (by decide) rfl (fun c => absurd h c) (fun c => ?_)
  refine ax_aload_n (j := 0) dX9_imageOf_4 rfl rfl rfl ?_
  refine am_getR flX9_57 dX9_imageOf_5 rfl is0 rfl ?_
  exact ax_areturn rfl (Or.inl ⟨_, rfl⟩) (Or.inr ⟨_, rfl⟩) dX9_imageOf_8 ⟨rfl, rfl⟩
theorem s_X9_imageOf1 {G : ax_G} {l : Launch} (mem : ax_Me) (p0 : Int32) (h : p0 = 1) : AD G l 0 mX9_imageOf [.ref 0, .int p0] mem (some (.ref 130)) mem := by
  refine ax_start (ls := [.ref 0, .int p0]) (u := 0) (by decide +kernel) (Nat.le_of_ble_eq_true rfl) (Nat.le_refl _) (Nat.le_refl _) rfl ?_
  refine ax_iload_n (j := 1) dX9_imageOf_0 rfl rfl rfl ?_
  refine ax_if_ne (tgt := 9) dX9_imageOf_1 (by decide) rfl (fun c => ?_) (fun c => absurd (h.symm.trans c) (by decide))
  refine ax_iload_n (j := 1) dX9_imageOf_9 rfl rfl rfl ?_
  refine ax_iconst (v := 1) dX9_imageOf_10 (by decide) rfl ?_
  refine ax_icmp_ne (tgt := 21) dX9_imageOf_11 (by decide) rfl (fun c => absurd h c) (fun c => ?_)
  refine ax_aload_n (j := 0) dX9_imageOf_14 rfl rfl rfl ?_
  refine am_getR flX9_61 dX9_imageOf_15 rfl is0 rfl ?_
  refine ax_goto (tgt := 22) dX9_imageOf_18 (by decide) ?_
  exact ax_areturn rfl (Or.inl ⟨_, rfl⟩) (Or.inr ⟨_, rfl⟩) dX9_imageOf_22 ⟨rfl, rfl⟩
theorem s_X9_imageOf2 {G : ax_G} {l : Launch} (mem : ax_Me) (p0 : Int32) (h0 : ¬ p0 = 0) (h1 : ¬ p0 = 1) : AD G l 0 mX9_imageOf [.ref 0, .int p0] mem (some .null) mem := by
  refine ax_start (ls := [.ref 0, .int p0]) (u := 0) (by decide +kernel) (Nat.le_of_ble_eq_true rfl) (Nat.le_refl _) (Nat.le_refl _) rfl ?_
  refine ax_iload_n (j := 1) dX9_imageOf_0 rfl rfl rfl ?_
  refine ax_if_ne (tgt := 9) dX9_imageOf_1 (by decide) rfl (fun c => ?_) (fun c => absurd c h0)
  refine ax_iload_n (j := 1) dX9_imageOf_9 rfl rfl rfl ?_
  refine ax_iconst (v := 1) dX9_imageOf_10 (by decide) rfl ?_
  refine ax_icmp_ne (tgt := 21) dX9_imageOf_11 (by decide) rfl (fun c => ?_) (fun c => absurd c h1)
  refine ax_null dX9_imageOf_21 rfl ?_
  exact ax_areturn rfl (Or.inl ⟨_, rfl⟩) (Or.inl rfl) dX9_imageOf_22 ⟨rfl, rfl⟩
theorem prev20 {x : Int32} (h : vp_in x 20) : vp_in ((((x + 20) - 1) - ((x + 20) - 1) / 20 * 20)) 20 := by
  obtain ⟨j, hj, rfl⟩ := vp_in_of h (by decide)
  have e : (nI j + 20) - 1 = nI (j + 19) := by rw [show (20 : Int32) = nI 20 from rfl, nI_add, show j + 20 = (j + 19) + 1 from rfl, nI_pred]
  rw [e, show (20 : Int32) = nI 20 from rfl, pk_rem (by omega) (by decide) (by decide)]
  exact vp_in_nI (Nat.mod_lt _ (by decide)) (by decide)
def F_X4_push (mem : ax_Me) (a : Nat) : ax_Me :=
  (ax_u (ax_u (F_X5_become mem (15 + 5 * (mem 13 1).toNatClampNeg) a) 13 1 ((((F_X5_become mem (15 + 5 * (mem 13 1).toNatClampNeg) a) 13 1) + 1) - (((F_X5_become mem (15 + 5 * (mem 13 1).toNatClampNeg) a) 13 1) + 1) / 20 * 20)) 13 2 (if 20 < (((ax_u (F_X5_become mem (15 + 5 * (mem 13 1).toNatClampNeg) a) 13 1 ((((F_X5_become mem (15 + 5 * (mem 13 1).toNatClampNeg) a) 13 1) + 1) - (((F_X5_become mem (15 + 5 * (mem 13 1).toNatClampNeg) a) 13 1) + 1) / 20 * 20)) 13 2) + 1) then 20 else (((ax_u (F_X5_become mem (15 + 5 * (mem 13 1).toNatClampNeg) a) 13 1 ((((F_X5_become mem (15 + 5 * (mem 13 1).toNatClampNeg) a) 13 1) + 1) - (((F_X5_become mem (15 + 5 * (mem 13 1).toNatClampNeg) a) 13 1) + 1) / 20 * 20)) 13 2) + 1)))
set_option maxRecDepth 20000 in
theorem s_X4_push {G : ax_G} {l : Launch} (mem : ax_Me) {a : Nat} (hP : ax_isP a) (hx : vp_in (mem 13 1) 20) : AD G l 2 mX4_push [.ref 13, .ref a] mem none (F_X4_push mem a) := by
  refine ax_start (ls := [.ref 13, .ref a, .float 0]) (u := 1) (by decide +kernel) (Nat.le_of_ble_eq_true rfl) (Nat.le_refl _) (Nat.le_refl _) rfl ?_
  refine ax_aload_n (j := 0) dX4_push_0 rfl rfl rfl ?_
  refine ax_aload_n (j := 0) dX4_push_1 rfl rfl rfl ?_
  refine am_getI flX4_22 dX4_push_2 rfl is13 rfl ?_
  refine ad_V1 ksX4_stateAt lkX4_25 dX4_push_5 rfl is13 rfl (Nat.le_of_ble_eq_true rfl) (Nat.le_of_ble_eq_true rfl) (s_X4_stateAt _ _ hx) ?_
  refine ax_ast2 dX4_push_8 rfl rfl (Nat.le_of_ble_eq_true rfl) rfl ?_
  refine ax_aload_n (j := 2) dX4_push_9 rfl rfl rfl ?_
  refine ax_ifnull dX4_push_10 rfl ?_
  refine ax_aload_n (j := 2) dX4_push_13 rfl rfl rfl ?_
  refine ax_aload_n (j := 1) dX4_push_14 rfl rfl rfl ?_
  refine ad_V1v ksX5_become lkX4_29 dX4_push_15 rfl (isPs hx).o rfl (Nat.le_of_ble_eq_true rfl) (Nat.le_of_ble_eq_true rfl) (s_X5_become _ (isPs hx) hP) ?_
  refine ax_aload_n (j := 0) dX4_push_18 rfl rfl rfl ?_
  refine ax_aload_n (j := 0) dX4_push_19 rfl rfl rfl ?_
  refine am_getI flX4_22 dX4_push_20 rfl is13 rfl ?_
  refine ax_iconst (v := 1) dX4_push_23 (by decide) rfl ?_
  refine ax_iadd dX4_push_24 rfl ?_
  refine ax_bipush (v := 20) dX4_push_25 (by decide) rfl ?_
  refine ax_irem dX4_push_27 (by decide) rfl ?_
  refine am_putI flX4_22 dX4_push_28 rfl is13 rfl rfl rfl ?_
  refine ax_aload_n (j := 0) dX4_push_31 rfl rfl rfl ?_
  refine ax_aload_n (j := 0) dX4_push_32 rfl rfl rfl ?_
  refine am_getI flX4_18 dX4_push_33 rfl is13 rfl ?_
  refine ax_iconst (v := 1) dX4_push_36 (by decide) rfl ?_
  refine ax_iadd dX4_push_37 rfl ?_
  refine ax_bipush (v := 20) dX4_push_38 (by decide) rfl ?_
  refine ax_mmin lmX4_33 dX4_push_40 rfl (Nat.le_of_ble_eq_true rfl) (Nat.le_of_ble_eq_true rfl) ?_
  refine am_putI flX4_18 dX4_push_43 rfl is13 rfl rfl rfl ?_
  exact ax_vreturn rfl dX4_push_46 ⟨rfl, by simp only [F_X4_push]⟩

def F_X4_popInto (mem : ax_Me) (a : Nat) : Int32 × ax_Me :=
  (if (mem 13 2) = 0 then (0, mem) else (1, (ax_u (ax_u (F_X5_become mem a (15 + 5 * ((((mem 13 1) + 20) - 1) - (((mem 13 1) + 20) - 1) / 20 * 20).toNatClampNeg)) 13 1 ((((mem 13 1) + 20) - 1) - (((mem 13 1) + 20) - 1) / 20 * 20)) 13 2 (((ax_u (F_X5_become mem a (15 + 5 * ((((mem 13 1) + 20) - 1) - (((mem 13 1) + 20) - 1) / 20 * 20).toNatClampNeg)) 13 1 ((((mem 13 1) + 20) - 1) - (((mem 13 1) + 20) - 1) / 20 * 20)) 13 2) - 1))))
set_option maxRecDepth 20000 in
theorem s_X4_popInto {G : ax_G} {l : Launch} (mem : ax_Me) {a : Nat} (hP : ax_isP a) (hx : vp_in (mem 13 1) 20) : AD G l 2 mX4_popInto [.ref 13, .ref a] mem (some (.int (F_X4_popInto mem a).1)) (F_X4_popInto mem a).2 := by
  refine ax_start (ls := [.ref 13, .ref a, .float 0, .float 0]) (u := 2) (by decide +kernel) (Nat.le_of_ble_eq_true rfl) (Nat.le_refl _) (Nat.le_refl _) rfl ?_
  refine ax_aload_n (j := 0) dX4_popInto_0 rfl rfl rfl ?_
  refine am_getI flX4_22 dX4_popInto_1 rfl is13 rfl ?_
  refine ax_bipush (v := 20) dX4_popInto_4 (by decide) rfl ?_
  refine ax_iadd dX4_popInto_6 rfl ?_
  refine ax_iconst (v := 1) dX4_popInto_7 (by decide) rfl ?_
  refine ax_isub dX4_popInto_8 rfl ?_
  refine ax_bipush (v := 20) dX4_popInto_9 (by decide) rfl ?_
  refine ax_irem dX4_popInto_11 (by decide) rfl ?_
  refine ax_ist2 dX4_popInto_12 rfl rfl (Nat.le_of_ble_eq_true rfl) rfl ?_
  refine ax_aload_n (j := 0) dX4_popInto_13 rfl rfl rfl ?_
  refine ax_iload_n (j := 2) dX4_popInto_14 rfl rfl rfl ?_
  refine ad_V1 ksX4_stateAt lkX4_25 dX4_popInto_15 rfl is13 rfl (Nat.le_of_ble_eq_true rfl) (Nat.le_of_ble_eq_true rfl) (s_X4_stateAt _ _ (prev20 hx)) ?_
  refine ax_ast3 dX4_popInto_18 rfl rfl (Nat.le_of_ble_eq_true rfl) rfl ?_
  refine ax_aload_n (j := 0) dX4_popInto_19 rfl rfl rfl ?_
  refine am_getI flX4_18 dX4_popInto_20 rfl is13 rfl ?_
  refine ax_if_eq (tgt := 30) dX4_popInto_23 (by decide) rfl (fun c23 => ?_) (fun c23 => ?_)
  · refine ax_iconst (v := 0) dX4_popInto_30 (by decide) rfl ?_
    exact ax_zreturn rfl dX4_popInto_31 rfl ⟨by simp only [F_X4_popInto, if_pos c23], by simp only [F_X4_popInto, if_pos c23]⟩
  · refine ax_aload_n (j := 3) dX4_popInto_26 rfl rfl rfl ?_
    refine ax_ifnonnull (tgt := 32) dX4_popInto_27 (by decide) ?_
    refine ax_aload_n (j := 1) dX4_popInto_32 rfl rfl rfl ?_
    refine ax_aload_n (j := 3) dX4_popInto_33 rfl rfl rfl ?_
    refine ad_V1v ksX5_become lkX4_29 dX4_popInto_34 rfl hP.o rfl (Nat.le_of_ble_eq_true rfl) (Nat.le_of_ble_eq_true rfl) (s_X5_become _ hP (isPs (prev20 hx))) ?_
    refine ax_aload_n (j := 0) dX4_popInto_37 rfl rfl rfl ?_
    refine ax_iload_n (j := 2) dX4_popInto_38 rfl rfl rfl ?_
    refine am_putI flX4_22 dX4_popInto_39 rfl is13 rfl rfl rfl ?_
    refine ax_aload_n (j := 0) dX4_popInto_42 rfl rfl rfl ?_
    refine ax_dup dX4_popInto_43 rfl rfl ?_
    refine am_getI flX4_18 dX4_popInto_44 rfl is13 rfl ?_
    refine ax_iconst (v := 1) dX4_popInto_47 (by decide) rfl ?_
    refine ax_isub dX4_popInto_48 rfl ?_
    refine am_putI flX4_18 dX4_popInto_49 rfl is13 rfl rfl rfl ?_
    refine ax_iconst (v := 1) dX4_popInto_52 (by decide) rfl ?_
    exact ax_zreturn rfl dX4_popInto_53 rfl ⟨by simp only [F_X4_popInto, if_neg c23], by simp only [F_X4_popInto, if_neg c23]⟩

