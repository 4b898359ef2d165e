/-! ===== the reference: clauses, place ===== -/
def tnL (m : ax_Me) (lo hi : Int32) : ax_Me := ax_wh (f_X10_takeNumber_42 lo hi (R_X10_here m)) 241 (ax_u (ax_u (N_X10_here m) 136 9 ((N_X10_here m) 136 7)) 136 8 0)
theorem tn_eq (m : ax_Me) (lo hi : Int32) : F_X10_takeNumber m lo hi = (if F_X10_in (N_X10_here m) (R_X10_here m).toInt64 48 57 = 0 then (1, ax_u (N_X10_here m) 136 6 ((N_X10_here m) 136 7)) else (if 3 < tnL m lo hi 136 7 - tnL m lo hi 136 9 then (2, ax_u (tnL m lo hi) 136 6 (tnL m lo hi 136 9)) else (if F_X10_in (tnL m lo hi) (tnL m lo hi 136 8).toInt64 lo.toInt64 hi.toInt64 = 0 then (2, ax_u (tnL m lo hi) 136 6 (tnL m lo hi 136 9)) else (0, tnL m lo hi)))) := by
  rw [F_X10_takeNumber]
  rfl
theorem tn_step {q1 q2 q3 : Int32} {s s' : ax_Me} (h : f_X10_takeNumber_42 q1 q2 q3 s = some s') : (¬ s 136 5 ≤ s 136 7) ∧ ∃ v, s' = ax_u (ax_u s 136 8 v) 136 7 (ax_u s 136 8 v 136 7 + 1) := by
  unfold f_X10_takeNumber_42 at h
  dsimp only at h
  split at h
  · cases h
  · next c =>
    split at h
    · cases h
    · split at h
      · cases h
        exact ⟨c, _, rfl⟩
      · cases h
        exact ⟨c, _, rfl⟩
theorem mt_tnL {k : Int} {m : ax_Me} {lo hi : Int32} (h : mt k m) (hk : 240 ≤ k) : mt k (tnL m lo hi) := by
  unfold tnL
  refine ax_wh_inv (mt k) (fun s s' e hs => ?_) _ _ (mt_ne (mt_ne (mt_here h hk) (by omega) (by omega)) (by omega) (by omega))
  obtain ⟨c, v, rfl⟩ := tn_step e
  exact mt_up8 hs c hk
/-- of the reference's fields a number read touches only the place, the number, the fault -/
def mq (m m' : ax_Me) : Prop := (∀ a, a ≠ 136 → m' a = m a) ∧ ∀ k, k ≠ 6 → k ≠ 7 → k ≠ 8 → k ≠ 9 → m' 136 k = m 136 k
theorem mq.rf (m : ax_Me) : mq m m := ⟨fun _ _ => rfl, fun _ _ _ _ _ => rfl⟩
theorem mq.tr {a b c : ax_Me} (h1 : mq a b) (h2 : mq b c) : mq a c := ⟨fun x hx => (h2.1 x hx).trans (h1.1 x hx), fun k a1 a2 a3 a4 => (h2.2 k a1 a2 a3 a4).trans (h1.2 k a1 a2 a3 a4)⟩
theorem mq.u {m : ax_Me} {k : Nat} {v : Int32} (hk : k = 6 ∨ k = 7 ∨ k = 8 ∨ k = 9) : mq m (ax_u m 136 k v) := ⟨fun a ha => ax_u_off ha, fun j a1 a2 a3 a4 => ax_u_ne (by omega)⟩
theorem mq_here (m : ax_Me) : mq m (N_X10_here m) := by
  rw [here_2]
  refine ax_wh_inv (mq m) (fun s s' e hs => ?_) _ _ (mq.rf m)
  obtain ⟨c, rfl⟩ := here_some e
  exact hs.tr (mq.u (by omega))
theorem mq_tnL (m : ax_Me) (lo hi : Int32) : mq m (tnL m lo hi) := by
  unfold tnL
  refine ax_wh_inv (mq m) (fun s s' e hs => ?_) _ _ ((mq_here m).tr ((mq.u (by omega)).tr (mq.u (by omega))))
  obtain ⟨c, v, rfl⟩ := tn_step e
  exact hs.tr ((mq.u (by omega)).tr (mq.u (by omega)))
theorem tn_all {P : Int32 × ax_Me → Prop} (m : ax_Me) (lo hi : Int32) (h1 : P (1, ax_u (N_X10_here m) 136 6 ((N_X10_here m) 136 7))) (h2 : P (2, ax_u (tnL m lo hi) 136 6 (tnL m lo hi 136 9))) (h0 : (¬ F_X10_in (tnL m lo hi) (tnL m lo hi 136 8).toInt64 lo.toInt64 hi.toInt64 = 0) → P (0, tnL m lo hi)) : P (F_X10_takeNumber m lo hi) := by
  rw [tn_eq]
  split
  · exact h1
  · split
    · exact h2
    · split
      · exact h2
      · next c => exact h0 c
theorem mt_tn {k : Int} {m : ax_Me} {lo hi : Int32} (h : mt k m) (hk : 240 ≤ k) : mt k (N_X10_takeNumber m lo hi) :=
  tn_all (P := fun q => mt k q.2) m lo hi (mt_ne (mt_here h hk) (by omega) (by omega)) (mt_ne (mt_tnL h hk) (by omega) (by omega)) (fun _ => mt_tnL h hk)
theorem mq_tn (m : ax_Me) (lo hi : Int32) : mq m (N_X10_takeNumber m lo hi) :=
  tn_all (P := fun q => mq m q.2) m lo hi ((mq_here m).tr (mq.u (by omega))) ((mq_tnL m lo hi).tr (mq.u (by omega))) (fun _ => mq_tnL m lo hi)
theorem tn_rng (m : ax_Me) (lo hi : Int32) : R_X10_takeNumber m lo hi ≤ 0 → R_X10_takeNumber m lo hi = 0 :=
  tn_all (P := fun q => q.1 ≤ 0 → q.1 = 0) m lo hi (fun q => absurd (show (1 : Int32) ≤ 0 from q) (by decide)) (fun q => absurd (show (2 : Int32) ≤ 0 from q) (by decide)) (fun _ _ => rfl)
theorem tn_ok (m : ax_Me) (lo hi : Int32) : R_X10_takeNumber m lo hi = 0 → lo.toInt ≤ (N_X10_takeNumber m lo hi 136 8).toInt ∧ (N_X10_takeNumber m lo hi 136 8).toInt ≤ hi.toInt :=
  tn_all (P := fun q => q.1 = 0 → lo.toInt ≤ (q.2 136 8).toInt ∧ (q.2 136 8).toInt ≤ hi.toInt) m lo hi (fun q => absurd (show (1 : Int32) = 0 from q) (by decide)) (fun q => absurd (show (2 : Int32) = 0 from q) (by decide)) (fun c _ => by
    have := in_iff.mp c
    rw [i64, i64, i64] at this
    exact this)
def F_X10_into (mem : ax_Me) (r : Nat) (p0 : Int32) (p1 : Int32) (p2 : Int32) : Int32 × ax_Me :=
  ((R_X10_takeNumber mem p1 p2), (ax_u (N_X10_takeNumber mem p1 p2) r p0.toNatClampNeg ((N_X10_takeNumber mem p1 p2) 136 8)))
def R_X10_into (mem : ax_Me) (r : Nat) (p0 : Int32) (p1 : Int32) (p2 : Int32) : Int32 := (F_X10_into mem r p0 p1 p2).1
def N_X10_into (mem : ax_Me) (r : Nat) (p0 : Int32) (p1 : Int32) (p2 : Int32) : ax_Me := (F_X10_into mem r p0 p1 p2).2
set_option maxRecDepth 20000 in
theorem s_X10_into {G : ax_G} {l : Launch} (mem : ax_Me) {r : Nat} (hr : ax_is r (ax_sA 8)) (p0 : Int32) (p1 : Int32) (p2 : Int32) (hk : vp_in p0 8) (ht : mt 300 mem) : AD G l 2 mX10_into [.ref 136, .ref r, .int p0, .int p1, .int p2] mem (some (.int (R_X10_into mem r p0 p1 p2))) (N_X10_into mem r p0 p1 p2) := by
  refine ax_start (ls := [.ref 136, .ref r, .int p0, .int p1, .int p2, .float 0]) (u := 1) (by decide +kernel) (Nat.le_of_ble_eq_true rfl) (Nat.le_refl _) (Nat.le_refl _) rfl ?_
  refine ax_aload_n (j := 0) dX10_into_0 rfl rfl rfl ?_
  refine ax_iload_n (j := 3) dX10_into_1 rfl rfl rfl ?_
  refine ax_iload dX10_into_2 rfl rfl ?_
  refine ad_V2 ksX10_takeNumber lkX10_102 dX10_into_4 rfl is136 rfl (Nat.le_of_ble_eq_true rfl) (Nat.le_of_ble_eq_true rfl) (s_X10_takeNumber _ _ _ ht) ?_
  refine ax_ist5 dX10_into_7 rfl (Nat.le_of_ble_eq_true rfl) rfl ?_
  refine ax_aload_n (j := 1) dX10_into_9 rfl rfl rfl ?_
  refine ax_iload_n (j := 2) dX10_into_10 rfl rfl rfl ?_
  refine ax_aload_n (j := 0) dX10_into_11 rfl rfl rfl ?_
  refine am_getI flX10_99 dX10_into_12 rfl is136 rfl ?_
  refine am_iast dX10_into_15 rfl hr hk ?_
  refine ax_iload dX10_into_16 rfl rfl ?_
  exact ax_ireturn rfl dX10_into_18 ⟨by simp only [R_X10_into, N_X10_into, F_X10_into], by simp only [R_X10_into, N_X10_into, F_X10_into]⟩

theorem mt_into {k : Int} {m : ax_Me} {r : Nat} {a lo hi : Int32} (h : mt k m) (hk : 240 ≤ k) (hr : r ≠ 136) : mt k (N_X10_into m r a lo hi) := mt_ne (mt_tn h hk) (by omega) (by omega)
def F_X10_takePerson (mem : ax_Me)  : Int32 × ax_Me :=
  (if (R_X10_into (ax_u mem 136 10 ((mem 136 10) + 1)) 140 (mem 136 10) 0 255) ≤ 0 then ((R_X10_into (N_X10_into (ax_u mem 136 10 ((mem 136 10) + 1)) 140 (mem 136 10) 0 255) 141 (mem 136 10) 0 7), (N_X10_into (N_X10_into (ax_u mem 136 10 ((mem 136 10) + 1)) 140 (mem 136 10) 0 255) 141 (mem 136 10) 0 7)) else ((R_X10_into (ax_u mem 136 10 ((mem 136 10) + 1)) 140 (mem 136 10) 0 255), (N_X10_into (ax_u mem 136 10 ((mem 136 10) + 1)) 140 (mem 136 10) 0 255)))
def R_X10_takePerson (mem : ax_Me)  : Int32 := (F_X10_takePerson mem).1
def N_X10_takePerson (mem : ax_Me)  : ax_Me := (F_X10_takePerson mem).2
set_option maxRecDepth 20000 in
theorem s_X10_takePerson {G : ax_G} {l : Launch} (mem : ax_Me)  (hq : vp_in (mem 136 10) 8) (ht : mt 300 mem) : AD G l 3 mX10_takePerson [.ref 136] mem (some (.int (R_X10_takePerson mem))) (N_X10_takePerson mem) := by
  refine ax_start (ls := [.ref 136, .float 0, .float 0]) (u := 2) (by decide +kernel) (Nat.le_of_ble_eq_true rfl) (Nat.le_refl _) (Nat.le_refl _) rfl ?_
  refine ax_aload_n (j := 0) dX10_takePerson_0 rfl rfl rfl ?_
  refine am_getI flX10_105 dX10_takePerson_1 rfl is136 rfl ?_
  refine ax_ist1 dX10_takePerson_4 rfl rfl (Nat.le_of_ble_eq_true rfl) rfl ?_
  refine ax_aload_n (j := 0) dX10_takePerson_5 rfl rfl rfl ?_
  refine ax_dup dX10_takePerson_6 rfl rfl ?_
  refine am_getI flX10_105 dX10_takePerson_7 rfl is136 rfl ?_
  refine ax_iconst (v := 1) dX10_takePerson_10 (by decide) rfl ?_
  refine ax_iadd dX10_takePerson_11 rfl ?_
  refine am_putI flX10_105 dX10_takePerson_12 rfl is136 rfl rfl rfl ?_
  refine ax_aload_n (j := 0) dX10_takePerson_15 rfl rfl rfl ?_
  refine ax_aload_n (j := 0) dX10_takePerson_16 rfl rfl rfl ?_
  refine am_getR flX10_23 dX10_takePerson_17 rfl is136 rfl ?_
  refine ax_iload_n (j := 1) dX10_takePerson_20 rfl rfl rfl ?_
  refine ax_iconst (v := 0) dX10_takePerson_21 (by decide) rfl ?_
  refine ax_sipush (v := 255) dX10_takePerson_22 (by decide) rfl ?_
  refine ad_V4 ksX10_into lkX10_108 dX10_takePerson_25 rfl is136 rfl (Nat.le_of_ble_eq_true rfl) (Nat.le_of_ble_eq_true rfl) (s_X10_into _ is140 _ _ _ hq (mt_ne ht (by omega) (by omega))) ?_
  refine ax_ist2 dX10_takePerson_28 rfl rfl (Nat.le_of_ble_eq_true rfl) rfl ?_
  refine ax_iload_n (j := 2) dX10_takePerson_29 rfl rfl rfl ?_
  refine ax_if_le (tgt := 37) dX10_takePerson_30 (by decide) rfl (fun c30 => ?_) (fun c30 => ?_)
  · refine ax_aload_n (j := 0) dX10_takePerson_37 rfl rfl rfl ?_
    refine ax_aload_n (j := 0) dX10_takePerson_38 rfl rfl rfl ?_
    refine am_getR flX10_26 dX10_takePerson_39 rfl is136 rfl ?_
    refine ax_iload_n (j := 1) dX10_takePerson_42 rfl rfl rfl ?_
    refine ax_iconst (v := 0) dX10_takePerson_43 (by decide) rfl ?_
    refine ax_bipush (v := 7) dX10_takePerson_44 (by decide) rfl ?_
    refine ad_V4 ksX10_into lkX10_108 dX10_takePerson_46 rfl is136 rfl (Nat.le_of_ble_eq_true rfl) (Nat.le_of_ble_eq_true rfl) (s_X10_into _ is141 _ _ _ hq (mt_into (mt_ne ht (by omega) (by omega)) (by decide) (by decide))) ?_
    exact ax_ireturn rfl dX10_takePerson_49 ⟨by simp only [R_X10_takePerson, N_X10_takePerson, F_X10_takePerson, if_pos c30], by simp only [R_X10_takePerson, N_X10_takePerson, F_X10_takePerson, if_pos c30]⟩
  · refine ax_iload_n (j := 2) dX10_takePerson_33 rfl rfl rfl ?_
    refine ax_goto (tgt := 49) dX10_takePerson_34 (by decide) ?_
    exact ax_ireturn rfl dX10_takePerson_49 ⟨by simp only [R_X10_takePerson, N_X10_takePerson, F_X10_takePerson, if_neg c30], by simp only [R_X10_takePerson, N_X10_takePerson, F_X10_takePerson, if_neg c30]⟩

def mr (m : ax_Me) : Prop := ¬ m 136 10 < 0 ∧ m 136 10 ≤ 8
theorem mr.of {m : ax_Me} (h : mr m) : ∃ c : Nat, c ≤ 8 ∧ m 136 10 = nI c := nI_of2 (M := 8) (n := 8) rfl h.1 h.2
theorem kn_in {m : ax_Me} {x : Int32} (h : mr m) (h1 : (0 : Int32).toInt ≤ x.toInt) (h2 : x.toInt ≤ (m 136 10 - 1).toInt) : vp_in x 8 := by
  obtain ⟨c, hc, e⟩ := h.of
  have e2 : (nI c - 1).toInt = (c : Int) - 1 := pk_sub_toInt (a := c) (b := 1) (by omega) (by omega)
  rw [e, e2] at h2
  have e0 : (0 : Int32).toInt = 0 := rfl
  rw [vp_in_iff]
  omega
theorem in_88 {w p : Int32} (hw : vp_in w 8) (hp : vp_in p 8) : vp_in ((8 * w) + p) 64 ∧ ((8 * w) + p).toNatClampNeg = 8 * w.toNatClampNeg + p.toNatClampNeg := by
  obtain ⟨i, hi, rfl⟩ := vp_in_of hw (by decide)
  obtain ⟨j, hj, rfl⟩ := vp_in_of hp (by decide)
  rw [show (8 : Int32) = nI 8 from rfl, pk_mul, nI_add, nI_clamp (by omega), nI_clamp (by omega), nI_clamp (by omega)]
  exact ⟨vp_in_nI (by omega) (by decide), rfl⟩
theorem kn_vp {m : ax_Me} (h : mr m) (c18 : R_X10_takeNumber m 0 (m 136 10 - 1) ≤ 0) (c38 : R_X10_takeNumber (N_X10_takeNumber m 0 (m 136 10 - 1)) 0 (N_X10_takeNumber m 0 (m 136 10 - 1) 136 10 - 1) = 0) :
    vp_in ((8 * (N_X10_takeNumber m 0 (m 136 10 - 1) 136 8)) + (N_X10_takeNumber (N_X10_takeNumber m 0 (m 136 10 - 1)) 0 (N_X10_takeNumber m 0 (m 136 10 - 1) 136 10 - 1) 136 8)) 64 := by
  have a1 := tn_ok _ _ _ (tn_rng _ _ _ c18)
  have a2 := tn_ok _ _ _ c38
  have hm : mr (N_X10_takeNumber m 0 (m 136 10 - 1)) := by
    unfold mr
    rw [(mq_tn m 0 (m 136 10 - 1)).2 10 (by decide) (by decide) (by decide) (by decide)]
    exact h
  exact (in_88 (kn_in h a1.1 a1.2) (kn_in hm a2.1 a2.2)).1
def F_X10_takeKnows (mem : ax_Me)  : Int32 × ax_Me :=
  (if (R_X10_takeNumber mem 0 ((mem 136 10) - 1)) ≤ 0 then (if (R_X10_takeNumber (N_X10_takeNumber mem 0 ((mem 136 10) - 1)) 0 (((N_X10_takeNumber mem 0 ((mem 136 10) - 1)) 136 10) - 1)) = 0 then (if ((N_X10_takeNumber (N_X10_takeNumber mem 0 ((mem 136 10) - 1)) 0 (((N_X10_takeNumber mem 0 ((mem 136 10) - 1)) 136 10) - 1)) 136 8) = ((N_X10_takeNumber mem 0 ((mem 136 10) - 1)) 136 8) then ((F_X10_fails (N_X10_takeNumber (N_X10_takeNumber mem 0 ((mem 136 10) - 1)) 0 (((N_X10_takeNumber mem 0 ((mem 136 10) - 1)) 136 10) - 1)) 4 ((N_X10_takeNumber (N_X10_takeNumber mem 0 ((mem 136 10) - 1)) 0 (((N_X10_takeNumber mem 0 ((mem 136 10) - 1)) 136 10) - 1)) 136 9)).1, (F_X10_fails (N_X10_takeNumber (N_X10_takeNumber mem 0 ((mem 136 10) - 1)) 0 (((N_X10_takeNumber mem 0 ((mem 136 10) - 1)) 136 10) - 1)) 4 ((N_X10_takeNumber (N_X10_takeNumber mem 0 ((mem 136 10) - 1)) 0 (((N_X10_takeNumber mem 0 ((mem 136 10) - 1)) 136 10) - 1)) 136 9)).2) else (if ((N_X10_takeNumber (N_X10_takeNumber mem 0 ((mem 136 10) - 1)) 0 (((N_X10_takeNumber mem 0 ((mem 136 10) - 1)) 136 10) - 1)) 142 ((8 * ((N_X10_takeNumber mem 0 ((mem 136 10) - 1)) 136 8)) + ((N_X10_takeNumber (N_X10_takeNumber mem 0 ((mem 136 10) - 1)) 0 (((N_X10_takeNumber mem 0 ((mem 136 10) - 1)) 136 10) - 1)) 136 8)).toNatClampNeg) = 0 then ((R_X10_takeNumber (N_X10_takeNumber mem 0 ((mem 136 10) - 1)) 0 (((N_X10_takeNumber mem 0 ((mem 136 10) - 1)) 136 10) - 1)), (ax_u (N_X10_takeNumber (N_X10_takeNumber mem 0 ((mem 136 10) - 1)) 0 (((N_X10_takeNumber mem 0 ((mem 136 10) - 1)) 136 10) - 1)) 142 ((8 * ((N_X10_takeNumber mem 0 ((mem 136 10) - 1)) 136 8)) + ((N_X10_takeNumber (N_X10_takeNumber mem 0 ((mem 136 10) - 1)) 0 (((N_X10_takeNumber mem 0 ((mem 136 10) - 1)) 136 10) - 1)) 136 8)).toNatClampNeg 1)) else ((F_X10_fails (N_X10_takeNumber (N_X10_takeNumber mem 0 ((mem 136 10) - 1)) 0 (((N_X10_takeNumber mem 0 ((mem 136 10) - 1)) 136 10) - 1)) 4 ((N_X10_takeNumber (N_X10_takeNumber mem 0 ((mem 136 10) - 1)) 0 (((N_X10_takeNumber mem 0 ((mem 136 10) - 1)) 136 10) - 1)) 136 9)).1, (F_X10_fails (N_X10_takeNumber (N_X10_takeNumber mem 0 ((mem 136 10) - 1)) 0 (((N_X10_takeNumber mem 0 ((mem 136 10) - 1)) 136 10) - 1)) 4 ((N_X10_takeNumber (N_X10_takeNumber mem 0 ((mem 136 10) - 1)) 0 (((N_X10_takeNumber mem 0 ((mem 136 10) - 1)) 136 10) - 1)) 136 9)).2))) else ((R_X10_takeNumber (N_X10_takeNumber mem 0 ((mem 136 10) - 1)) 0 (((N_X10_takeNumber mem 0 ((mem 136 10) - 1)) 136 10) - 1)), (N_X10_takeNumber (N_X10_takeNumber mem 0 ((mem 136 10) - 1)) 0 (((N_X10_takeNumber mem 0 ((mem 136 10) - 1)) 136 10) - 1)))) else ((R_X10_takeNumber mem 0 ((mem 136 10) - 1)), (N_X10_takeNumber mem 0 ((mem 136 10) - 1))))
def R_X10_takeKnows (mem : ax_Me)  : Int32 := (F_X10_takeKnows mem).1
def N_X10_takeKnows (mem : ax_Me)  : ax_Me := (F_X10_takeKnows mem).2
set_option maxRecDepth 20000 in
theorem s_X10_takeKnows {G : ax_G} {l : Launch} (mem : ax_Me)  (hr : mr mem) (ht : mt 300 mem) : AD G l 2 mX10_takeKnows [.ref 136] mem (some (.int (R_X10_takeKnows mem))) (N_X10_takeKnows mem) := by
  refine ax_start (ls := [.ref 136, .float 0, .float 0]) (u := 2) (by decide +kernel) (Nat.le_of_ble_eq_true rfl) (Nat.le_refl _) (Nat.le_refl _) rfl ?_
  refine ax_aload_n (j := 0) dX10_takeKnows_0 rfl rfl rfl ?_
  refine ax_iconst (v := 0) dX10_takeKnows_1 (by decide) rfl ?_
  refine ax_aload_n (j := 0) dX10_takeKnows_2 rfl rfl rfl ?_
  refine am_getI flX10_105 dX10_takeKnows_3 rfl is136 rfl ?_
  refine ax_iconst (v := 1) dX10_takeKnows_6 (by decide) rfl ?_
  refine ax_isub dX10_takeKnows_7 rfl ?_
  refine ad_V2 ksX10_takeNumber lkX10_102 dX10_takeKnows_8 rfl is136 rfl (Nat.le_of_ble_eq_true rfl) (Nat.le_of_ble_eq_true rfl) (s_X10_takeNumber _ _ _ ht) ?_
  refine ax_ist1 dX10_takeKnows_11 rfl rfl (Nat.le_of_ble_eq_true rfl) rfl ?_
  refine ax_aload_n (j := 0) dX10_takeKnows_12 rfl rfl rfl ?_
  refine am_getI flX10_99 dX10_takeKnows_13 rfl is136 rfl ?_
  refine ax_ist2 dX10_takeKnows_16 rfl rfl (Nat.le_of_ble_eq_true rfl) rfl ?_
  refine ax_iload_n (j := 1) dX10_takeKnows_17 rfl rfl rfl ?_
  refine ax_if_le (tgt := 25) dX10_takeKnows_18 (by decide) rfl (fun c18 => ?_) (fun c18 => ?_)
  · refine ax_aload_n (j := 0) dX10_takeKnows_25 rfl rfl rfl ?_
    refine ax_iconst (v := 0) dX10_takeKnows_26 (by decide) rfl ?_
    refine ax_aload_n (j := 0) dX10_takeKnows_27 rfl rfl rfl ?_
    refine am_getI flX10_105 dX10_takeKnows_28 rfl is136 rfl ?_
    refine ax_iconst (v := 1) dX10_takeKnows_31 (by decide) rfl ?_
    refine ax_isub dX10_takeKnows_32 rfl ?_
    refine ad_V2 ksX10_takeNumber lkX10_102 dX10_takeKnows_33 rfl is136 rfl (Nat.le_of_ble_eq_true rfl) (Nat.le_of_ble_eq_true rfl) (s_X10_takeNumber _ _ _ (mt_tn ht (by decide))) ?_
    refine ax_ist1 dX10_takeKnows_36 rfl rfl (Nat.le_of_ble_eq_true rfl) rfl ?_
    refine ax_iload_n (j := 1) dX10_takeKnows_37 rfl rfl rfl ?_
    refine ax_if_ne (tgt := 76) dX10_takeKnows_38 (by decide) rfl (fun c38 => ?_) (fun c38 => ?_)
    · refine ax_iload_n (j := 1) dX10_takeKnows_76 rfl rfl rfl ?_
      refine ax_if_ne (tgt := 95) dX10_takeKnows_77 (by decide) rfl (fun c77 => ?_) (fun c77 => ?_)
      · refine ax_iload_n (j := 1) dX10_takeKnows_95 rfl rfl rfl ?_
        exact ax_ireturn rfl dX10_takeKnows_96 ⟨by simp only [R_X10_takeKnows, N_X10_takeKnows, F_X10_takeKnows, if_pos c18, if_neg c38], by simp only [R_X10_takeKnows, N_X10_takeKnows, F_X10_takeKnows, if_pos c18, if_neg c38]⟩
      · exact absurd c77 c38
    · have kv := kn_vp (m := mem) hr c18 c38
      refine ax_aload_n (j := 0) dX10_takeKnows_41 rfl rfl rfl ?_
      refine am_getI flX10_99 dX10_takeKnows_42 rfl is136 rfl ?_
      refine ax_iload_n (j := 2) dX10_takeKnows_45 rfl rfl rfl ?_
      refine ax_icmp_eq (tgt := 66) dX10_takeKnows_46 (by decide) rfl (fun c46 => ?_) (fun c46 => ?_)
      · refine ax_aload_n (j := 0) dX10_takeKnows_66 rfl rfl rfl ?_
        refine ax_iconst (v := 4) dX10_takeKnows_67 (by decide) rfl ?_
        refine ax_aload_n (j := 0) dX10_takeKnows_68 rfl rfl rfl ?_
        refine am_getI flX10_96 dX10_takeKnows_69 rfl is136 rfl ?_
        refine ad_V2 ksX10_fails lkX10_92 dX10_takeKnows_72 rfl is136 rfl (Nat.le_of_ble_eq_true rfl) (Nat.le_of_ble_eq_true rfl) (s_X10_fails _ _ _) ?_
        exact ax_ireturn rfl dX10_takeKnows_75 ⟨by simp only [R_X10_takeKnows, N_X10_takeKnows, F_X10_takeKnows, if_pos c18, if_pos c38, if_pos c46], by simp only [R_X10_takeKnows, N_X10_takeKnows, F_X10_takeKnows, if_pos c18, if_pos c38, if_pos c46]⟩
      · refine ax_aload_n (j := 0) dX10_takeKnows_49 rfl rfl rfl ?_
        refine am_getR flX10_29 dX10_takeKnows_50 rfl is136 rfl ?_
        refine ax_bipush (v := 8) dX10_takeKnows_53 (by decide) rfl ?_
        refine ax_iload_n (j := 2) dX10_takeKnows_55 rfl rfl rfl ?_
        refine ax_imul dX10_takeKnows_56 rfl ?_
        refine ax_aload_n (j := 0) dX10_takeKnows_57 rfl rfl rfl ?_
        refine am_getI flX10_99 dX10_takeKnows_58 rfl is136 rfl ?_
        refine ax_iadd dX10_takeKnows_61 rfl ?_
        refine am_zald dX10_takeKnows_62 rfl is142 kv ?_
        refine ax_if_eq (tgt := 76) dX10_takeKnows_63 (by decide) rfl (fun c63 => ?_) (fun c63 => ?_)
        · refine ax_iload_n (j := 1) dX10_takeKnows_76 rfl rfl rfl ?_
          refine ax_if_ne (tgt := 95) dX10_takeKnows_77 (by decide) rfl (fun c77 => ?_) (fun c77 => ?_)
          · exact absurd c38 c77
          · have kv := kn_vp (m := mem) hr c18 c38
            refine ax_aload_n (j := 0) dX10_takeKnows_80 rfl rfl rfl ?_
            refine am_getR flX10_29 dX10_takeKnows_81 rfl is136 rfl ?_
            refine ax_bipush (v := 8) dX10_takeKnows_84 (by decide) rfl ?_
            refine ax_iload_n (j := 2) dX10_takeKnows_86 rfl rfl rfl ?_
            refine ax_imul dX10_takeKnows_87 rfl ?_
            refine ax_aload_n (j := 0) dX10_takeKnows_88 rfl rfl rfl ?_
            refine am_getI flX10_99 dX10_takeKnows_89 rfl is136 rfl ?_
            refine ax_iadd dX10_takeKnows_92 rfl ?_
            refine ax_iconst (v := 1) dX10_takeKnows_93 (by decide) rfl ?_
            refine am_zast dX10_takeKnows_94 rfl is142 kv rfl ?_
            refine ax_iload_n (j := 1) dX10_takeKnows_95 rfl rfl rfl ?_
            exact ax_ireturn rfl dX10_takeKnows_96 ⟨by simp only [R_X10_takeKnows, N_X10_takeKnows, F_X10_takeKnows, if_pos c18, if_pos c38, if_neg c46, if_pos c63], by simp only [R_X10_takeKnows, N_X10_takeKnows, F_X10_takeKnows, if_pos c18, if_pos c38, if_neg c46, if_pos c63]⟩
        · refine ax_aload_n (j := 0) dX10_takeKnows_66 rfl rfl rfl ?_
          refine ax_iconst (v := 4) dX10_takeKnows_67 (by decide) rfl ?_
          refine ax_aload_n (j := 0) dX10_takeKnows_68 rfl rfl rfl ?_
          refine am_getI flX10_96 dX10_takeKnows_69 rfl is136 rfl ?_
          refine ad_V2 ksX10_fails lkX10_92 dX10_takeKnows_72 rfl is136 rfl (Nat.le_of_ble_eq_true rfl) (Nat.le_of_ble_eq_true rfl) (s_X10_fails _ _ _) ?_
          exact ax_ireturn rfl dX10_takeKnows_75 ⟨by simp only [R_X10_takeKnows, N_X10_takeKnows, F_X10_takeKnows, if_pos c18, if_pos c38, if_neg c46, if_neg c63], by simp only [R_X10_takeKnows, N_X10_takeKnows, F_X10_takeKnows, if_pos c18, if_pos c38, if_neg c46, if_neg c63]⟩
  · refine ax_iload_n (j := 1) dX10_takeKnows_21 rfl rfl rfl ?_
    refine ax_goto (tgt := 36) dX10_takeKnows_22 (by decide) ?_
    refine ax_ist1 dX10_takeKnows_36 rfl rfl (Nat.le_of_ble_eq_true rfl) rfl ?_
    refine ax_iload_n (j := 1) dX10_takeKnows_37 rfl rfl rfl ?_
    refine ax_if_ne (tgt := 76) dX10_takeKnows_38 (by decide) rfl (fun c38 => ?_) (fun c38 => ?_)
    · refine ax_iload_n (j := 1) dX10_takeKnows_76 rfl rfl rfl ?_
      refine ax_if_ne (tgt := 95) dX10_takeKnows_77 (by decide) rfl (fun c77 => ?_) (fun c77 => ?_)
      · refine ax_iload_n (j := 1) dX10_takeKnows_95 rfl rfl rfl ?_
        exact ax_ireturn rfl dX10_takeKnows_96 ⟨by simp only [R_X10_takeKnows, N_X10_takeKnows, F_X10_takeKnows, if_neg c18], by simp only [R_X10_takeKnows, N_X10_takeKnows, F_X10_takeKnows, if_neg c18]⟩
      · exact absurd (by rw [c77]; exact Int32.le_refl _) c18
    · exact absurd (by rw [c38]; exact Int32.le_refl _) c18

