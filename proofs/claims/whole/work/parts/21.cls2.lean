/-! ===== the class: loops over persons ===== -/
def f_X5_knownBy_4 (mem : ax_Me) (a : Nat) (p0 : Int32)  (j : Nat) (s : Int32) : Int32 :=
  match s with
  | x0 => (if (F_X5_knows mem a p0 (nI j)) = 0 then x0 else (x0 ||| (1 <<< ((nI j) &&& 31))))
def F_X5_knownBy (mem : ax_Me) (a : Nat) (p0 : Int32) : Int32 :=
  (ax_it (f_X5_knownBy_4 mem a p0) (((mem a 4) : Int32).toNatClampNeg) (0) 0)
set_option maxRecDepth 20000 in
theorem lp_X5_knownBy_4 {G : ax_G} {l : Launch} {Q : Option Value → ax_H → Prop} (mem : ax_Me) {a : Nat} (hP : ax_isP a) (p0 : Int32)   : ∀ (n j : Nat) (x0 : Int32), j + n = ((mem a 4) : Int32).toNatClampNeg → AX G l mX5_knownBy 4 33 [.ref a, .int p0, .int (ax_it (f_X5_knownBy_4 mem a p0) n j x0), .int (nI (((mem a 4) : Int32).toNatClampNeg))] [] 153 0 (ax_hm mem) 153 0 Q → AX G l mX5_knownBy 4 4 [.ref a, .int p0, .int x0, .int (nI j)] [] 153 0 (ax_hm mem) 153 0 Q := by
  intro n
  induction n with
  | zero =>
    intro j x0 hj hx
    refine ax_iload_n (j := 3) dX5_knownBy_4 rfl rfl rfl ?_
    refine ax_aload_n (j := 0) dX5_knownBy_5 rfl rfl rfl ?_
    refine am_getI flX5_30 dX5_knownBy_6 rfl hP.o rfl ?_
    refine ax_icmp_ge (tgt := 33) dX5_knownBy_9 (by decide) rfl (fun c9 => ?_) (fun c9 => ?_)
    · have q := hx
      simp only [ax_it] at q
      rw [show (((mem a 4) : Int32).toNatClampNeg) = j by omega] at q
      exact q
    · exact absurd (cl_ge (by omega)) c9
  | succ n ih =>
    intro j x0 hj hx
    refine ax_iload_n (j := 3) dX5_knownBy_4 rfl rfl rfl ?_
    refine ax_aload_n (j := 0) dX5_knownBy_5 rfl rfl rfl ?_
    refine am_getI flX5_30 dX5_knownBy_6 rfl hP.o rfl ?_
    refine ax_icmp_ge (tgt := 33) dX5_knownBy_9 (by decide) rfl (fun c9 => ?_) (fun c9 => ?_)
    · exact absurd c9 (cl_nle (by omega))
    · refine ax_aload_n (j := 0) dX5_knownBy_12 rfl rfl rfl ?_
      refine ax_iload_n (j := 1) dX5_knownBy_13 rfl rfl rfl ?_
      refine ax_iload_n (j := 3) dX5_knownBy_14 rfl rfl rfl ?_
      refine ad_V2 ksX5_knows lkX5_74 dX5_knownBy_15 rfl hP.o rfl (Nat.le_of_ble_eq_true rfl) (Nat.le_of_ble_eq_true rfl) (s_X5_knows _ hP _ _) ?_
      refine ax_if_eq (tgt := 27) dX5_knownBy_18 (by decide) rfl (fun c18 => ?_) (fun c18 => ?_)
      · refine ax_iinc3 (v := nI (j + 1)) dX5_knownBy_27 rfl (cl_inc j) (Nat.le_of_ble_eq_true rfl) rfl ?_
        refine ax_goto (tgt := 4) dX5_knownBy_30 (by decide) ?_
        have e1 : f_X5_knownBy_4 mem a p0 j x0 = x0 := by simp only [f_X5_knownBy_4, if_pos c18]
        simp only [ax_it, e1] at hx
        exact ih (j + 1) (x0) (by omega) hx
      · refine ax_iload_n (j := 2) dX5_knownBy_21 rfl rfl rfl ?_
        refine ax_iconst (v := 1) dX5_knownBy_22 (by decide) rfl ?_
        refine ax_iload_n (j := 3) dX5_knownBy_23 rfl rfl rfl ?_
        refine ax_ishl dX5_knownBy_24 rfl ?_
        refine ax_ior dX5_knownBy_25 rfl ?_
        refine ax_ist2 dX5_knownBy_26 rfl rfl (Nat.le_of_ble_eq_true rfl) rfl ?_
        refine ax_iinc3 (v := nI (j + 1)) dX5_knownBy_27 rfl (cl_inc j) (Nat.le_of_ble_eq_true rfl) rfl ?_
        refine ax_goto (tgt := 4) dX5_knownBy_30 (by decide) ?_
        have e1 : f_X5_knownBy_4 mem a p0 j x0 = (x0 ||| (1 <<< ((nI j) &&& 31))) := by simp only [f_X5_knownBy_4, if_neg c18]
        simp only [ax_it, e1] at hx
        exact ih (j + 1) ((x0 ||| (1 <<< ((nI j) &&& 31)))) (by omega) hx
set_option maxRecDepth 20000 in
theorem s_X5_knownBy {G : ax_G} {l : Launch} (mem : ax_Me) {a : Nat} (hP : ax_isP a) (p0 : Int32)  : AD G l 4 mX5_knownBy [.ref a, .int p0] mem (some (.int (F_X5_knownBy mem a p0))) mem := by
  refine ax_start (ls := [.ref a, .int p0, .float 0, .float 0]) (u := 2) (by decide +kernel) (Nat.le_of_ble_eq_true rfl) (Nat.le_refl _) (Nat.le_refl _) rfl ?_
  refine ax_iconst (v := 0) dX5_knownBy_0 (by decide) rfl ?_
  refine ax_ist2 dX5_knownBy_1 rfl rfl (Nat.le_of_ble_eq_true rfl) rfl ?_
  refine ax_iconst (v := 0) dX5_knownBy_2 (by decide) rfl ?_
  refine ax_ist3 dX5_knownBy_3 rfl rfl (Nat.le_of_ble_eq_true rfl) rfl ?_
  refine lp_X5_knownBy_4 mem hP p0    (((mem a 4) : Int32).toNatClampNeg) (0) (0) (Nat.zero_add _)  ?_
  refine ax_iload_n (j := 2) dX5_knownBy_33 rfl rfl rfl ?_
  exact ax_ireturn rfl dX5_knownBy_34 ⟨by simp only [F_X5_knownBy], rfl⟩

