/-! ===== the constructors: from nothing made to ax_hm mem0 ===== -/
def ct_pm (a : Nat) : Bool := a == 7 || a == 12 || a == 129 || a == 135 || (decide (15 ≤ a) && decide (a < 115) && (a - 15) % 5 == 4)
/-- the memory behind both constructors -/
def mem0 : ax_Me := fun a k => if ct_pm a = true ∧ k < 64 then -1 else if a = 1 ∧ k = 2 then -1 else if a = 136 ∧ k = 6 then -1 else if a = 138 ∧ 16 ≤ k ∧ k < 80 then -1 else 0
theorem mem0_z {a : Nat} (h : ct_pm a = false) (h1 : a ≠ 1) (h2 : a ≠ 136) (h3 : a ≠ 138) : mem0 a = fun _ => 0 := by
  funext k
  simp [mem0, h, h1, h2, h3]
theorem mem0_p {a : Nat} (h : ct_pm a = true) (h1 : a ≠ 1) (h2 : a ≠ 136) (h3 : a ≠ 138) : mem0 a = fun k => if k < 64 then -1 else 0 := by
  funext k
  simp [mem0, h, h1, h2, h3]
theorem ct_up_ne {h : ax_H} {a k : Nat} {c : ax_C} (hk : k ≠ a) : va_up h a c k = h k := if_neg hk
theorem ct_up_eq {h : ax_H} {a : Nat} {c : ax_C} : va_up h a c a = c := if_pos rfl
theorem ct_uu {h : ax_H} {a : Nat} {c c' : ax_C} : va_up (va_up h a c) a c' = va_up h a c' := by
  funext k
  by_cases hk : k = a <;> simp [va_up, hk]
theorem ct_back {h : ax_H} {a : Nat} {c : ax_C} (e : h a = c) : va_up h a c = h := by rw [← e, ax_up_self]
theorem ct_pmP {a : Nat} (h : ax_isP a) : ct_pm a = false ∧ ct_pm (a + 1) = false ∧ ct_pm (a + 2) = false ∧ ct_pm (a + 3) = false ∧ ct_pm (a + 4) = true := by
  rcases h with rfl | rfl | rfl | rfl | ⟨h1, h2, h3⟩
  · decide
  · decide
  · decide
  · decide
  · have key : ∀ j, j < 5 → ct_pm (a + j) = (j == 4) := by
      intro j hj
      unfold ct_pm
      have e1 : (a + j == 7) = false := by simp; omega
      have e2 : (a + j == 12) = false := by simp; omega
      have e3 : (a + j == 129) = false := by simp; omega
      have e4 : (a + j == 135) = false := by simp; omega
      have e5 : decide (15 ≤ a + j) = true := by simp; omega
      have e6 : decide (a + j < 115) = true := by simp; omega
      have e7 : (a + j - 15) % 5 = j := by omega
      rw [e1, e2, e3, e4, e5, e6, e7]
      rfl
    exact ⟨key 0 (by decide), key 1 (by decide), key 2 (by decide), key 3 (by decide), key 4 (by decide)⟩
theorem ct_neP {a : Nat} (h : ax_isP a) : 3 ≤ a ∧ a ≤ 131 := by
  rcases h with rfl | rfl | rfl | rfl | ⟨h1, h2, h3⟩ <;> omega
theorem ct_arr0 {a t N : Nat} (h : ax_is a (.inl (t, N))) (hm : mem0 a = fun _ => 0) : ax_hm mem0 a = ax_arr t N (fun _ => 0) := by rw [ax_hm_arr h, hm]
section CT
variable {G : ax_G} {l : Launch} {M : ax_M} {d pc pc' : Nat} {ls st : List Value} {n z : Nat} {n' z' : Nat} {Q : Option Value → ax_H → Prop} {g g' : ax_H} {a : Nat} {c0 : ax_C}
theorem ct_newi {N : Nat} {x : Int32} (hd : decode M.2.1 pc = .ok (.newarray .int, 2)) (hp : pc + 2 = pc') (hx0 : ¬ x < 0) (hxN : x.toNatClampNeg = N) (hN : N ≤ 65536) (hn1 : n + 1 ≤ n') (hz1 : z + N ≤ z') (hne : n ≠ a) (hh : ∀ k, k < n → g' k = g k) (hc : g' n = ax_arr 0 N (fun _ => 0))
    (kk : AX G l M d pc' ls (.ref n :: st) (n + 1) (z + N) (va_up g' a c0) n' z' Q) : AX G l M d pc ls (.int x :: st) n z (va_up g a c0) n' z' Q := by
  refine ax_newi hd hp hx0 hxN hN hn1 hz1 (fun k hk => ?_) ((ct_up_ne hne).trans hc) kk
  by_cases hka : k = a
  · subst hka
    rw [ct_up_eq, ct_up_eq]
  · rw [ct_up_ne hka, ct_up_ne hka, hh k hk]
theorem ct_newz {N : Nat} {x : Int32} (hd : decode M.2.1 pc = .ok (.newarray .boolean, 2)) (hp : pc + 2 = pc') (hx0 : ¬ x < 0) (hxN : x.toNatClampNeg = N) (hN : N ≤ 65536) (hn1 : n + 1 ≤ n') (hz1 : z + N ≤ z') (hne : n ≠ a) (hc : g n = ax_arr 1 N (fun _ => 0))
    (kk : AX G l M d pc' ls (.ref n :: st) (n + 1) (z + N) (va_up g a c0) n' z' Q) : AX G l M d pc ls (.int x :: st) n z (va_up g a c0) n' z' Q :=
  ax_newz hd hp hx0 hxN hN hn1 hz1 (fun k hk => rfl) ((ct_up_ne hne).trans hc) kk
theorem ct_putF {idx ci k : Nat} {ty : FieldType} {fs fs' : List Value} {v : Value} (hF : ax_F M.1.cls idx ci k ty true) (hnest : ∃ (C : String) (T : u_T) (N : Nat), vwCl[ci]? = some (C, T, N) ∧ C = M.1.cls ∧ Cond.fieldLink M.1.cls idx (T k).1 (T k).2.1 (T k).2.2.1 ∈ lw_tbl) (hin : M.1.name = "<init>") (hd : decode M.2.1 pc = .ok (.putfield idx, 3)) (hp : pc + 3 = pc') (ha : a < n) (hl : k < fs.length) (hn : narrow ty (ax_v G v) = ax_v G v) (hfit : fits ty (ax_v G v) = true) (hs : fs.set k v = fs')
    (kk : AX G l M d pc' ls st n z (va_up g a (ax_obj ci fs')) n' z' Q) : AX G l M d pc ls (v :: .ref a :: st) n z (va_up g a (ax_obj ci fs)) n' z' Q := by
  refine ax_putF hF hnest hin hd hp ha ct_up_eq hl hn hfit ?_
  rw [ct_uu, hs]
  exact kk
theorem ct_put {idx ci k : Nat} {ty : FieldType} {fs fs' : List Value} {v : Value} (hF : ax_F M.1.cls idx ci k ty false) (hd : decode M.2.1 pc = .ok (.putfield idx, 3)) (hp : pc + 3 = pc') (ha : a < n) (hl : k < fs.length) (hn : narrow ty (ax_v G v) = ax_v G v) (hfit : fits ty (ax_v G v) = true) (hs : fs.set k v = fs')
    (kk : AX G l M d pc' ls st n z (va_up g a (ax_obj ci fs')) n' z' Q) : AX G l M d pc ls (v :: .ref a :: st) n z (va_up g a (ax_obj ci fs)) n' z' Q := by
  refine ax_put hF hd hp ha ct_up_eq hl hn hfit ?_
  rw [ct_uu, hs]
  exact kk
theorem ct_obj {h : ax_H} {idx ci N : Nat} {fs : List Value} (hN : ax_N M.1.cls idx ci N fs) (hd : decode M.2.1 pc = .ok (.new idx, 3)) (hp : pc + 3 = pc') (hfm : fs.map (ax_v G) = fs) (hn1 : n + 1 ≤ n') (hz1 : z + N ≤ z')
    (kk : AX G l M d pc' ls (.ref n :: st) (n + 1) (z + N) (va_up h n (ax_obj ci fs)) n' z' Q) : AX G l M d pc ls st n z h n' z' Q :=
  ax_new hN hd hp hfm hn1 hz1 (fun k hk => ct_up_ne (Nat.ne_of_lt hk)) ct_up_eq kk
theorem ct_call {M' : ax_M} {h : ax_H} {idx d' n1 z1 b : Nat} (hM : ax_MI M' 0) (hl : ax_LK M.1.cls idx M') (hd : decode M.2.1 pc = .ok (.invokespecial idx, 3)) (hp : pc + 3 = pc') (hst : 2 * st.length ≤ 8) (hdd : d' + 1 ≤ d) (hn1 : n1 ≤ n') (hz1 : z1 ≤ z')
    (hc : AC G l d' M' [.ref b] n z h n1 z1 (fun r h1 => r = none ∧ h1 = g)) (kk : AX G l M d pc' ls st n1 z1 g n' z' Q) : AX G l M d pc ls (.ref b :: st) n z h n' z' Q :=
  ax_callI (as := []) hM hl hd hp rfl hst hdd hn1 hz1 hc (fun r h1 q => by
    obtain ⟨rfl, rfl⟩ := q
    exact kk)
end CT
theorem ct_arrV {c : ClassId} {n : Nat} {f f' : Nat → Value} (h : ∀ j, j < n → f j = f' j) : arrV c n f = arrV c n f' := by
  have hs : (arrV c n f).slots = (arrV c n f').slots := by
    apply Array.ext_getElem?
    intro i
    by_cases hi : i < n
    · rw [arrV_read _ _ hi, arrV_read _ _ hi, h i hi]
    · rw [Array.getElem?_eq_none (by rw [arrV_size]; omega), Array.getElem?_eq_none (by rw [arrV_size]; omega)]
  have e : arrV c n f = { arrV c n f' with slots := (arrV c n f).slots } := rfl
  rw [e, hs]
theorem ct_arq {G : ax_G} {l : Launch} {M : ax_M} {d pc : Nat} {ls st : List Value} {n z : Nat} {n' z' : Nat} {Q : Option Value → ax_H → Prop} {g : ax_H} {a N : Nat} {f f' : Nat → Option Nat} (hf : ∀ j, j < N → f j = f' j) (kk : AX G l M d pc ls st n z (va_up g a (ax_arq N f')) n' z' Q) : AX G l M d pc ls st n z (va_up g a (ax_arq N f)) n' z' Q := by
  intro p e s m args below meth c R H locs cells slots la C0 hd' hlo hn' hz hcl hsl hR hS hL
  refine kk p e s m args below meth c R H locs cells slots la C0 hd' hlo hn' hz hcl hsl ⟨fun k q hk => ?_, hR.2⟩ hS hL
  have hl : k < n := by
    have := (List.getElem?_eq_some_iff.mp hk).1
    rwa [ax_w_len] at this
  rw [ax_w_get hl] at hk
  cases hk
  have h1 := hR.1 k _ (ax_w_get hl)
  by_cases hka : k = a
  · subst hka
    rw [ct_up_eq] at h1 ⊢
    have h2 : H[ax_gB G + k]? = some (vp_cell (ax_gA G 2) (N, .inr (.inr (.inr (.inr (fun j => (f j).map (fun a => ax_gB G + a))))))) := h1
    show H[ax_gB G + k]? = some (vp_cell (ax_gA G 2) (N, .inr (.inr (.inr (.inr (fun j => (f' j).map (fun a => ax_gB G + a)))))))
    rw [h2, vp_cell_q, vp_cell_q]
    exact congrArg some (ct_arrV (fun j hj => by rw [hf j hj]))
  · rw [ct_up_ne hka] at h1 ⊢
    exact h1
section CTI
variable {G : ax_G} {l : Launch} {z : Nat} {g : ax_H}

theorem s_X8_init (hg : ∀ k, 1 ≤ k → k < 3 → g k = ax_hm mem0 k) : AC G l 1 mX8_init [.ref 1] 2 z (va_up g 1 (ax_obj 6 [.null, .int 0, .int 0, .int 0, .int 0, .int 0])) 3 (z + 240) (fun r h1 => r = none ∧ h1 = g) := by
  refine ax_start (ls := [.ref 1]) (u := 0) (by decide +kernel) (Nat.le_of_ble_eq_true rfl) (by omega) (by omega) rfl ?_
  refine ax_aload_n (j := 0) dX8_init_0 rfl rfl rfl ?_
  refine ax_objInit lkX8_3 wd_obj dX8_init_1 rfl (Nat.le_of_ble_eq_true rfl) (Nat.le_of_ble_eq_true rfl) ?_
  refine ax_aload_n (j := 0) dX8_init_4 rfl rfl rfl ?_
  refine ax_sipush (v := 240) dX8_init_5 (by decide) rfl ?_
  refine ct_newi (g' := g) (N := 240) dX8_init_8 rfl (by decide) (by decide) (by decide) (by omega) (by omega) (by omega) (fun _ _ => rfl) ((hg 2 (by omega) (by omega)).trans (ct_arr0 is2 (mem0_z (by decide) (by decide) (by decide) (by decide)))) ?_
  refine ct_putF (fs' := [.ref 2, .int 0, .int 0, .int 0, .int 0, .int 0]) flX8_9 ffX8_9 rfl dX8_init_10 rfl (by omega) (Nat.le_of_ble_eq_true rfl) rfl rfl rfl ?_
  refine ax_aload_n (j := 0) dX8_init_13 rfl rfl rfl ?_
  refine ax_iconst (v := (-1)) dX8_init_14 (by decide) rfl ?_
  refine ct_put (fs' := [.ref 2, .int 0, .int (-1), .int 0, .int 0, .int 0]) flX8_15  dX8_init_15 rfl (by omega) (Nat.le_of_ble_eq_true rfl) rfl rfl rfl ?_
  refine ax_vreturn rfl dX8_init_18 ⟨rfl, ?_⟩
  exact ct_back ((hg 1 (by omega) (by omega)).trans (by rw [ax_hm_obj is1]; rfl))
theorem s_X7_init (hg : ∀ k, 115 ≤ k → k < 120 → g k = ax_hm mem0 k) : AC G l 1 mX7_init [.ref 115] 116 z (va_up g 115 (ax_obj 5 [.null, .null, .null, .null, .int 0])) 120 (z + 32) (fun r h1 => r = none ∧ h1 = g) := by
  refine ax_start (ls := [.ref 115]) (u := 0) (by decide +kernel) (Nat.le_of_ble_eq_true rfl) (by omega) (by omega) rfl ?_
  refine ax_aload_n (j := 0) dX7_init_0 rfl rfl rfl ?_
  refine ax_objInit lkX7_3 wd_obj dX7_init_1 rfl (Nat.le_of_ble_eq_true rfl) (Nat.le_of_ble_eq_true rfl) ?_
  refine ax_aload_n (j := 0) dX7_init_4 rfl rfl rfl ?_
  refine ax_bipush (v := 8) dX7_init_5 (by decide) rfl ?_
  refine ct_newi (g' := g) (N := 8) dX7_init_7 rfl (by decide) (by decide) (by decide) (by omega) (by omega) (by omega) (fun _ _ => rfl) ((hg 116 (by omega) (by omega)).trans (ct_arr0 is116 (mem0_z (by decide) (by decide) (by decide) (by decide)))) ?_
  refine ct_putF (fs' := [.ref 116, .null, .null, .null, .int 0]) flX7_9 ffX7_9 rfl dX7_init_9 rfl (by omega) (Nat.le_of_ble_eq_true rfl) rfl rfl rfl ?_
  refine ax_aload_n (j := 0) dX7_init_12 rfl rfl rfl ?_
  refine ax_bipush (v := 8) dX7_init_13 (by decide) rfl ?_
  refine ct_newi (g' := g) (N := 8) dX7_init_15 rfl (by decide) (by decide) (by decide) (by omega) (by omega) (by omega) (fun _ _ => rfl) ((hg 117 (by omega) (by omega)).trans (ct_arr0 is117 (mem0_z (by decide) (by decide) (by decide) (by decide)))) ?_
  refine ct_putF (fs' := [.ref 116, .ref 117, .null, .null, .int 0]) flX7_15 ffX7_15 rfl dX7_init_17 rfl (by omega) (Nat.le_of_ble_eq_true rfl) rfl rfl rfl ?_
  refine ax_aload_n (j := 0) dX7_init_20 rfl rfl rfl ?_
  refine ax_bipush (v := 8) dX7_init_21 (by decide) rfl ?_
  refine ct_newi (g' := g) (N := 8) dX7_init_23 rfl (by decide) (by decide) (by decide) (by omega) (by omega) (by omega) (fun _ _ => rfl) ((hg 118 (by omega) (by omega)).trans (ct_arr0 is118 (mem0_z (by decide) (by decide) (by decide) (by decide)))) ?_
  refine ct_putF (fs' := [.ref 116, .ref 117, .ref 118, .null, .int 0]) flX7_18 ffX7_18 rfl dX7_init_25 rfl (by omega) (Nat.le_of_ble_eq_true rfl) rfl rfl rfl ?_
  refine ax_aload_n (j := 0) dX7_init_28 rfl rfl rfl ?_
  refine ax_bipush (v := 8) dX7_init_29 (by decide) rfl ?_
  refine ct_newi (g' := g) (N := 8) dX7_init_31 rfl (by decide) (by decide) (by decide) (by omega) (by omega) (by omega) (fun _ _ => rfl) ((hg 119 (by omega) (by omega)).trans (ct_arr0 is119 (mem0_z (by decide) (by decide) (by decide) (by decide)))) ?_
  refine ct_putF (fs' := [.ref 116, .ref 117, .ref 118, .ref 119, .int 0]) flX7_21 ffX7_21 rfl dX7_init_33 rfl (by omega) (Nat.le_of_ble_eq_true rfl) rfl rfl rfl ?_
  refine ax_vreturn rfl dX7_init_36 ⟨rfl, ?_⟩
  exact ct_back ((hg 115 (by omega) (by omega)).trans (by rw [ax_hm_obj is115]; rfl))
theorem s_X0_init (hg : ∀ k, 120 ≤ k → k < 123 → g k = ax_hm mem0 k) : AC G l 1 mX0_init [.ref 120] 121 z (va_up g 120 (ax_obj 0 [.null, .null, .int 0])) 123 (z + 30) (fun r h1 => r = none ∧ h1 = g) := by
  refine ax_start (ls := [.ref 120]) (u := 0) (by decide +kernel) (Nat.le_of_ble_eq_true rfl) (by omega) (by omega) rfl ?_
  refine ax_aload_n (j := 0) dX0_init_0 rfl rfl rfl ?_
  refine ax_objInit lkX0_3 wd_obj dX0_init_1 rfl (Nat.le_of_ble_eq_true rfl) (Nat.le_of_ble_eq_true rfl) ?_
  refine ax_aload_n (j := 0) dX0_init_4 rfl rfl rfl ?_
  refine ax_bipush (v := 15) dX0_init_5 (by decide) rfl ?_
  refine ct_newi (g' := g) (N := 15) dX0_init_7 rfl (by decide) (by decide) (by decide) (by omega) (by omega) (by omega) (fun _ _ => rfl) ((hg 121 (by omega) (by omega)).trans (ct_arr0 is121 (mem0_z (by decide) (by decide) (by decide) (by decide)))) ?_
  refine ct_putF (fs' := [.ref 121, .null, .int 0]) flX0_9 ffX0_9 rfl dX0_init_9 rfl (by omega) (Nat.le_of_ble_eq_true rfl) rfl rfl rfl ?_
  refine ax_aload_n (j := 0) dX0_init_12 rfl rfl rfl ?_
  refine ax_bipush (v := 15) dX0_init_13 (by decide) rfl ?_
  refine ct_newi (g' := g) (N := 15) dX0_init_15 rfl (by decide) (by decide) (by decide) (by omega) (by omega) (by omega) (fun _ _ => rfl) ((hg 122 (by omega) (by omega)).trans (ct_arr0 is122 (mem0_z (by decide) (by decide) (by decide) (by decide)))) ?_
  refine ct_putF (fs' := [.ref 121, .ref 122, .int 0]) flX0_15 ffX0_15 rfl dX0_init_17 rfl (by omega) (Nat.le_of_ble_eq_true rfl) rfl rfl rfl ?_
  refine ax_vreturn rfl dX0_init_20 ⟨rfl, ?_⟩
  exact ct_back ((hg 120 (by omega) (by omega)).trans (by rw [ax_hm_obj is120]; rfl))
theorem s_X1_init (hg : ∀ k, 123 ≤ k → k < 124 → g k = ax_hm mem0 k) : AC G l 1 mX1_init [.ref 123] 124 z (va_up g 123 (ax_obj 1 [.int 0])) 124 (z + 0) (fun r h1 => r = none ∧ h1 = g) := by
  refine ax_start (ls := [.ref 123]) (u := 0) (by decide +kernel) (Nat.le_of_ble_eq_true rfl) (by omega) (by omega) rfl ?_
  refine ax_aload_n (j := 0) dX1_init_0 rfl rfl rfl ?_
  refine ax_objInit lkX1_1 wd_obj dX1_init_1 rfl (Nat.le_of_ble_eq_true rfl) (Nat.le_of_ble_eq_true rfl) ?_
  refine ax_vreturn rfl dX1_init_4 ⟨rfl, ?_⟩
  exact ct_back ((hg 123 (by omega) (by omega)).trans (by rw [ax_hm_obj is123]; rfl))
theorem s_X5_init {a : Nat} (hp : ax_isP a) (hg : ∀ k, a ≤ k → k < a + 5 → g k = ax_hm mem0 k) : AC G l 1 mX5_init [.ref a] (a + 1) z (va_up g a (ax_obj 4 [.null, .null, .null, .null, .int 0, .int 0])) (a + 5) (z + 88) (fun r h1 => r = none ∧ h1 = g) := by
  have hr := ct_neP hp
  refine ax_start (ls := [.ref a]) (u := 0) (by decide +kernel) (Nat.le_of_ble_eq_true rfl) (by omega) (by omega) rfl ?_
  refine ax_aload_n (j := 0) dX5_init_0 rfl rfl rfl ?_
  refine ax_objInit lkX5_3 wd_obj dX5_init_1 rfl (Nat.le_of_ble_eq_true rfl) (Nat.le_of_ble_eq_true rfl) ?_
  refine ax_aload_n (j := 0) dX5_init_4 rfl rfl rfl ?_
  refine ax_bipush (v := 8) dX5_init_5 (by decide) rfl ?_
  refine ct_newi (g' := (va_up g (a + 4) (ax_arr 0 64 (fun _ => 0)))) (N := 8) dX5_init_7 rfl (by decide) (by decide) (by decide) (by omega) (by omega) (by omega) (fun k hk => ct_up_ne (by omega)) ((ct_up_ne (by omega)).trans ((hg (a + 1) (by omega) (by omega)).trans (ct_arr0 hp.m1 (mem0_z (ct_pmP hp).2.1 (by omega) (by omega) (by omega))))) ?_
  refine ct_putF (fs' := [.ref (a + 1), .null, .null, .null, .int 0, .int 0]) flX5_9 ffX5_9 rfl dX5_init_9 rfl (by omega) (Nat.le_of_ble_eq_true rfl) rfl rfl rfl ?_
  refine ax_aload_n (j := 0) dX5_init_12 rfl rfl rfl ?_
  refine ax_bipush (v := 8) dX5_init_13 (by decide) rfl ?_
  refine ct_newi (g' := (va_up g (a + 4) (ax_arr 0 64 (fun _ => 0)))) (N := 8) dX5_init_15 rfl (by decide) (by decide) (by decide) (by omega) (by omega) (by omega) (fun _ _ => rfl) ((ct_up_ne (by omega)).trans ((hg (a + 2) (by omega) (by omega)).trans (ct_arr0 hp.m2 (mem0_z (ct_pmP hp).2.2.1 (by omega) (by omega) (by omega))))) ?_
  refine ct_putF (fs' := [.ref (a + 1), .ref (a + 2), .null, .null, .int 0, .int 0]) flX5_15 ffX5_15 rfl dX5_init_17 rfl (by omega) (Nat.le_of_ble_eq_true rfl) rfl rfl rfl ?_
  refine ax_aload_n (j := 0) dX5_init_20 rfl rfl rfl ?_
  refine ax_bipush (v := 8) dX5_init_21 (by decide) rfl ?_
  refine ct_newi (g' := (va_up g (a + 4) (ax_arr 0 64 (fun _ => 0)))) (N := 8) dX5_init_23 rfl (by decide) (by decide) (by decide) (by omega) (by omega) (by omega) (fun _ _ => rfl) ((ct_up_ne (by omega)).trans ((hg (a + 3) (by omega) (by omega)).trans (ct_arr0 hp.m3 (mem0_z (ct_pmP hp).2.2.2.1 (by omega) (by omega) (by omega))))) ?_
  refine ct_putF (fs' := [.ref (a + 1), .ref (a + 2), .ref (a + 3), .null, .int 0, .int 0]) flX5_18 ffX5_18 rfl dX5_init_25 rfl (by omega) (Nat.le_of_ble_eq_true rfl) rfl rfl rfl ?_
  refine ax_aload_n (j := 0) dX5_init_28 rfl rfl rfl ?_
  refine ax_bipush (v := 64) dX5_init_29 (by decide) rfl ?_
  refine ct_newi (g' := (va_up g (a + 4) (ax_arr 0 64 (fun _ => 0)))) (N := 64) dX5_init_31 rfl (by decide) (by decide) (by decide) (by omega) (by omega) (by omega) (fun _ _ => rfl) ct_up_eq ?_
  refine ct_putF (fs' := [.ref (a + 1), .ref (a + 2), .ref (a + 3), .ref (a + 4), .int 0, .int 0]) flX5_21 ffX5_21 rfl dX5_init_33 rfl (by omega) (Nat.le_of_ble_eq_true rfl) rfl rfl rfl ?_
  refine ax_aload_n (j := 0) dX5_init_36 rfl rfl rfl ?_
  refine ax_get (v := .ref (a + 4)) flX5_21 dX5_init_37 rfl (by omega) ct_up_eq rfl ?_
  refine ax_iconst (v := -1) dX5_init_40 (by decide) rfl ?_
  refine ax_callS (as := [.ref (a + 4), .int (-1)]) ksJ7_fill_53178 lkX5_24 dX5_init_41 rfl rfl (Nat.le_of_ble_eq_true rfl) (Nat.le_of_ble_eq_true rfl) (Nat.le_refl _) (Nat.le_refl _) (fill_g (N := 64) (f := fun _ => 0) (by omega) ((ct_up_ne (by omega)).trans ct_up_eq) (by decide)) ?_
  intro r h1 q
  obtain ⟨rfl, rfl⟩ := q
  refine ax_vreturn rfl dX5_init_44 ⟨rfl, ?_⟩
  funext k
  by_cases h4 : k = a + 4
  · subst h4
    rw [ct_up_eq, hg (a + 4) (by omega) (by omega), ax_hm_arr hp.m4, mem0_p (ct_pmP hp).2.2.2.2 (by omega) (by omega) (by omega)]
  · rw [ct_up_ne h4]
    by_cases h0 : k = a
    · subst h0
      rw [ct_up_eq, hg k (by omega) (by omega), ax_hm_obj hp.o, mem0_z (ct_pmP hp).1 (by omega) (by omega) (by omega)]
      rfl
    · rw [ct_up_ne h0, ct_up_ne h4]
theorem s_X3_init {a : Nat} (hp : ax_isP (a + 1)) (hO : ax_hm mem0 a = ax_obj 2 [.ref (a + 1), .int 0, .int 0]) (hg : ∀ k, a ≤ k → k < a + 6 → g k = ax_hm mem0 k) : AC G l 2 mX3_init [.ref a] (a + 1) z (va_up g a (ax_obj 2 [.null, .int 0, .int 0])) (a + 6) (z + 94) (fun r h1 => r = none ∧ h1 = g) := by
  refine ax_start (ls := [.ref a]) (u := 0) (by decide +kernel) (Nat.le_of_ble_eq_true rfl) (by omega) (by omega) rfl ?_
  refine ax_aload_n (j := 0) dX3_init_0 rfl rfl rfl ?_
  refine ax_objInit lkX3_1 wd_obj dX3_init_1 rfl (Nat.le_of_ble_eq_true rfl) (Nat.le_of_ble_eq_true rfl) ?_
  refine ax_aload_n (j := 0) dX3_init_4 rfl rfl rfl ?_
  refine ct_obj nwX3_7 dX3_init_5 rfl rfl (by omega) (by omega) ?_
  refine ax_dup dX3_init_8 rfl rfl ?_
  refine ct_call (g := va_up g a (ax_obj 2 [.null, .int 0, .int 0])) (n1 := a + 6) (z1 := z + 94) ksX5_init lkX3_9 dX3_init_9 rfl (Nat.le_of_ble_eq_true rfl) (Nat.le_of_ble_eq_true rfl) (Nat.le_refl _) (Nat.le_refl _) (s_X5_init hp (fun k h1 h2 => (ct_up_ne (by omega)).trans (hg k (by omega) (by omega)))) ?_
  refine ct_putF (fs' := [.ref (a + 1), .int 0, .int 0]) flX3_10 ffX3_10 rfl dX3_init_12 rfl (by omega) (Nat.le_of_ble_eq_true rfl) rfl rfl rfl ?_
  refine ax_vreturn rfl dX3_init_15 ⟨rfl, ?_⟩
  exact ct_back ((hg a (by omega) (by omega)).trans hO)
theorem ct_past {Q : Option Value → ax_H → Prop} (hg : ∀ k, 13 ≤ k → k < 115 → g k = ax_hm mem0 k) (hq : Q none g) : ∀ (m i : Nat), i + m = 20 →
    AX G l mX4_init 2 15 [.ref 13, .int (nI i)] [] (15 + 5 * i) (z + 94 * i) (va_up g 14 (ax_arq 20 (fun j => if j < i then some (15 + 5 * j) else none))) 115 (z + 1880) Q := by
  have h13 : ∀ i, va_up g 14 (ax_arq 20 (fun j => if j < i then some (15 + 5 * j) else none)) 13 = ax_obj 3 [.ref 14, .int 0, .int 0] := fun i => (ct_up_ne (by decide)).trans ((hg 13 (by omega) (by omega)).trans (by rw [ax_hm_obj is13]; rfl))
  intro m
  induction m with
  | zero =>
    intro i hi
    have hi20 : i = 20 := by omega
    subst hi20
    refine ax_iload_n (j := 1) dX4_init_15 rfl rfl rfl ?_
    refine ax_bipush (v := 20) dX4_init_16 (by decide) rfl ?_
    refine ax_icmp_ge (tgt := 40) dX4_init_18 (by decide) rfl (fun c => ?_) (fun c => ?_)
    · refine ct_arq (f' := fun j => some (15 + 5 * j)) (fun j hj => if_pos hj) ?_
      rw [ct_back ((hg 14 (by omega) (by omega)).trans (by show ax_ce (ax_sg 14) _ = _; rw [is14.2]; rfl))]
      exact ax_vreturn rfl dX4_init_40 hq
    · exact absurd (by decide) c
  | succ m ih =>
    intro i hi
    refine ax_iload_n (j := 1) dX4_init_15 rfl rfl rfl ?_
    refine ax_bipush (v := 20) dX4_init_16 (by decide) rfl ?_
    refine ax_icmp_ge (tgt := 40) dX4_init_18 (by decide) rfl (fun c => ?_) (fun c => ?_)
    · exact absurd c (nI_ge (b := 20) (by omega) (by omega))
    · refine ax_aload_n (j := 0) dX4_init_21 rfl rfl rfl ?_
      refine ax_get (v := .ref 14) flX4_11 dX4_init_22 rfl (by omega) (h13 i) rfl ?_
      refine ax_iload_n (j := 1) dX4_init_25 rfl rfl rfl ?_
      refine ct_obj nwX4_9 dX4_init_26 rfl rfl (by omega) (by omega) ?_
      refine ax_dup dX4_init_29 rfl rfl ?_
      refine ct_call (g := va_up g 14 (ax_arq 20 (fun j => if j < i then some (15 + 5 * j) else none))) (n1 := 15 + 5 * i + 5) (z1 := z + 94 * i + 6 + 88) ksX5_init lkX4_17 dX4_init_30 rfl (Nat.le_of_ble_eq_true rfl) (Nat.le_of_ble_eq_true rfl) (by omega) (by omega) (s_X5_init (isPi (by omega)) (fun k h1 h2 => (ct_up_ne (by omega)).trans (hg k (by omega) (by omega)))) ?_
      refine ax_aast (N := 20) dX4_init_33 rfl (by omega) ct_up_eq (by omega) ((ct_up_ne (by omega)).trans ((hg (15 + 5 * i) (by omega) (by omega)).trans (ax_hm_obj (isPi (by omega)).o))) (vp_in_nI (by omega) (by omega)) ?_
      refine ax_iinc1 (v := nI (i + 1)) dX4_init_34 rfl (cl_inc i) (Nat.le_of_ble_eq_true rfl) rfl ?_
      refine ax_goto (tgt := 15) dX4_init_37 (by decide) ?_
      rw [nI_clamp (by omega), ct_uu]
      have e : va_up (fun j => if j < i then some (15 + 5 * j) else none) i (some (15 + 5 * i)) = (fun j => if j < i + 1 then some (15 + 5 * j) else none) := by
        funext j
        by_cases hj : j = i
        · subst hj
          simp [va_up]
        · by_cases h2 : j < i
          · simp [va_up, hj, h2, Nat.lt_succ_of_lt h2]
          · simp [va_up, hj, h2, show ¬ j < i + 1 by omega]
      rw [e]
      have w := ih (i + 1) (by omega)
      rw [show 15 + 5 * (i + 1) = 15 + 5 * i + 5 by omega, show z + 94 * (i + 1) = z + 94 * i + 6 + 88 by omega] at w
      exact w

theorem s_X4_init (hg : ∀ k, 13 ≤ k → k < 115 → g k = ax_hm mem0 k) : AC G l 2 mX4_init [.ref 13] 14 z (va_up g 13 (ax_obj 3 [.null, .int 0, .int 0])) 115 (z + 1900) (fun r h1 => r = none ∧ h1 = g) := by
  refine ax_start (ls := [.ref 13, .float 0]) (u := 1) (by decide +kernel) (Nat.le_of_ble_eq_true rfl) (by omega) (by omega) rfl ?_
  refine ax_aload_n (j := 0) dX4_init_0 rfl rfl rfl ?_
  refine ax_objInit lkX4_3 wd_obj dX4_init_1 rfl (Nat.le_of_ble_eq_true rfl) (Nat.le_of_ble_eq_true rfl) ?_
  refine ax_aload_n (j := 0) dX4_init_4 rfl rfl rfl ?_
  refine ax_bipush (v := 20) dX4_init_5 (by decide) rfl ?_
  refine ax_newq (N := 20) (h1 := va_up (va_up g 14 (ax_arq 20 (fun _ => none))) 13 (ax_obj 3 [.null, .int 0, .int 0])) clX4_9 dX4_init_7 rfl (by decide) (by decide) (by decide) (by omega) (by omega) (fun k hk => ?_) ((ct_up_ne (by decide)).trans ct_up_eq) ?_
  · by_cases h13 : k = 13
    · subst h13
      rw [ct_up_eq, ct_up_eq]
    · rw [ct_up_ne h13, ct_up_ne h13, ct_up_ne (by omega)]
  refine ct_putF (fs' := [.ref 14, .int 0, .int 0]) flX4_11 ffX4_11 rfl dX4_init_10 rfl (by omega) (Nat.le_of_ble_eq_true rfl) rfl rfl rfl ?_
  refine ax_iconst (v := 0) dX4_init_13 (by decide) rfl ?_
  refine ax_ist1 dX4_init_14 rfl rfl (Nat.le_of_ble_eq_true rfl) rfl ?_
  rw [ct_back ((ct_up_ne (by decide)).trans ((hg 13 (by omega) (by omega)).trans (by rw [ax_hm_obj is13]; rfl)))]
  refine ct_arq (f' := fun j => if j < 0 then some (15 + 5 * j) else none) (fun j hj => rfl) ?_
  exact ct_past (z := z + 20) hg ⟨rfl, rfl⟩ 20 0 (by omega)

end CTI
