/-! ===== the constructors: from nothing made to ax_hm mem0 ===== -/
def ct_pm (a : Nat) : Bool := a == 7 || a == 12 || a == 129 || a == 135 || (decide (15 ≤ a) && decide (a < 115) && (a - 15) % 5 == 4)
/-- the memory behind both constructors -/
def mem0 : ax_Me := fun a k => if ct_pm a = true ∧ k < 64 then -1 else if a = 1 ∧ k = 2 then -1 else if a = 136 ∧ k = 6 then -1 else if a = 138 ∧ 16 ≤ k ∧ k < 80 then -1 else 0
theorem mem0_z {a : Nat} (h : ct_pm a = false) (h1 : a ≠ 1) (h2 : a ≠ 136) (h3 : a ≠ 138) : mem0 a = fun _ => 0 := by
  funext k
  simp [mem0, h, h1, h2, h3]
theorem mem0_p {a : Nat} (h : ct_pm a = true) (h1 : a ≠ 1) (h2 : a ≠ 136) (h3 : a ≠ 138) : mem0 a = fun k => if k < 64 then -1 else 0 := by
  funext k
  simp [mem0, h, h1, h2, h3]
theorem ct_up_ne {h : ax_H} {a k : Nat} {c : ax_C} (hk : k ≠ a) : va_up h a c k = h k := if_neg hk
theorem ct_up_eq {h : ax_H} {a : Nat} {c : ax_C} : va_up h a c a = c := if_pos rfl
theorem ct_uu {h : ax_H} {a : Nat} {c c' : ax_C} : va_up (va_up h a c) a c' = va_up h a c' := by
  funext k
  by_cases hk : k = a <;> simp [va_up, hk]
theorem ct_back {h : ax_H} {a : Nat} {c : ax_C} (e : h a = c) : va_up h a c = h := by rw [← e, ax_up_self]
theorem ct_pmP {a : Nat} (h : ax_isP a) : ct_pm a = false ∧ ct_pm (a + 1) = false ∧ ct_pm (a + 2) = false ∧ ct_pm (a + 3) = false ∧ ct_pm (a + 4) = true := by
  rcases h with rfl | rfl | rfl | rfl | ⟨h1, h2, h3⟩
  · decide
  · decide
  · decide
  · decide
  · have key : ∀ j, j < 5 → ct_pm (a + j) = (j == 4) := by
      intro j hj
      unfold ct_pm
      have e1 : (a + j == 7) = false := by simp; omega
      have e2 : (a + j == 12) = false := by simp; omega
      have e3 : (a + j == 129) = false := by simp; omega
      have e4 : (a + j == 135) = false := by simp; omega
      have e5 : decide (15 ≤ a + j) = true := by simp; omega
      have e6 : decide (a + j < 115) = true := by simp; omega
      have e7 : (a + j - 15) % 5 = j := by omega
      rw [e1, e2, e3, e4, e5, e6, e7]
      rfl
    exact ⟨key 0 (by decide), key 1 (by decide), key 2 (by decide), key 3 (by decide), key 4 (by decide)⟩
theorem ct_neP {a : Nat} (h : ax_isP a) : 3 ≤ a ∧ a ≤ 131 := by
  rcases h with rfl | rfl | rfl | rfl | ⟨h1, h2, h3⟩ <;> omega
theorem ct_arr0 {a t N : Nat} (h : ax_is a (.inl (t, N))) (hm : mem0 a = fun _ => 0) : ax_hm mem0 a = ax_arr t N (fun _ => 0) := by rw [ax_hm_arr h, hm]
section CT
variable {G : ax_G} {l : Launch} {M : ax_M} {d pc pc' : Nat} {ls st : List Value} {n z : Nat} {n' z' : Nat} {Q : Option Value → ax_H → Prop} {g g' : ax_H} {a : Nat} {c0 : ax_C}
theorem ct_newi {N : Nat} {x : Int32} (hd : decode M.2.1 pc = .ok (.newarray .int, 2)) (hp : pc + 2 = pc') (hx0 : ¬ x < 0) (hxN : x.toNatClampNeg = N) (hN : N ≤ 65536) (hn1 : n + 1 ≤ n') (hz1 : z + N ≤ z') (hne : n ≠ a) (hh : ∀ k, k < n → g' k = g k) (hc : g' n = ax_arr 0 N (fun _ => 0))
    (kk : AX G l M d pc' ls (.ref n :: st) (n + 1) (z + N) (va_up g' a c0) n' z' Q) : AX G l M d pc ls (.int x :: st) n z (va_up g a c0) n' z' Q := by
  refine ax_newi hd hp hx0 hxN hN hn1 hz1 (fun k hk => ?_) ((ct_up_ne hne).trans hc) kk
  by_cases hka : k = a
  · subst hka
    rw [ct_up_eq, ct_up_eq]
  · rw [ct_up_ne hka, ct_up_ne hka, hh k hk]
theorem ct_newz {N : Nat} {x : Int32} (hd : decode M.2.1 pc = .ok (.newarray .boolean, 2)) (hp : pc + 2 = pc') (hx0 : ¬ x < 0) (hxN : x.toNatClampNeg = N) (hN : N ≤ 65536) (hn1 : n + 1 ≤ n') (hz1 : z + N ≤ z') (hne : n ≠ a) (hc : g n = ax_arr 1 N (fun _ => 0))
    (kk : AX G l M d pc' ls (.ref n :: st) (n + 1) (z + N) (va_up g a c0) n' z' Q) : AX G l M d pc ls (.int x :: st) n z (va_up g a c0) n' z' Q :=
  ax_newz hd hp hx0 hxN hN hn1 hz1 (fun k hk => rfl) ((ct_up_ne hne).trans hc) kk
theorem ct_putF {idx ci k : Nat} {ty : FieldType} {fs fs' : List Value} {v : Value} (hF : ax_F M.1.cls idx ci k ty true) (hnest : ∃ (C : String) (T : u_T) (N : Nat), vwCl[ci]? = some (C, T, N) ∧ C = M.1.cls ∧ Cond.fieldLink M.1.cls idx (T k).1 (T k).2.1 (T k).2.2.1 ∈ lw_tbl) (hin : M.1.name = "<init>") (hd : decode M.2.1 pc = .ok (.putfield idx, 3)) (hp : pc + 3 = pc') (ha : a < n) (hl : k < fs.length) (hn : narrow ty (ax_v G v) = ax_v G v) (hfit : fits ty (ax_v G v) = true) (hs : fs.set k v = fs')
    (kk : AX G l M d pc' ls st n z (va_up g a (ax_obj ci fs')) n' z' Q) : AX G l M d pc ls (v :: .ref a :: st) n z (va_up g a (ax_obj ci fs)) n' z' Q := by
  refine ax_putF hF hnest hin hd hp ha ct_up_eq hl hn hfit ?_
  rw [ct_uu, hs]
  exact kk
theorem ct_put {idx ci k : Nat} {ty : FieldType} {fs fs' : List Value} {v : Value} (hF : ax_F M.1.cls idx ci k ty false) (hd : decode M.2.1 pc = .ok (.putfield idx, 3)) (hp : pc + 3 = pc') (ha : a < n) (hl : k < fs.length) (hn : narrow ty (ax_v G v) = ax_v G v) (hfit : fits ty (ax_v G v) = true) (hs : fs.set k v = fs')
    (kk : AX G l M d pc' ls st n z (va_up g a (ax_obj ci fs')) n' z' Q) : AX G l M d pc ls (v :: .ref a :: st) n z (va_up g a (ax_obj ci fs)) n' z' Q := by
  refine ax_put hF hd hp ha ct_up_eq hl hn hfit ?_
  rw [ct_uu, hs]
  exact kk
theorem ct_obj {h : ax_H} {idx ci N : Nat} {fs : List Value} (hN : ax_N M.1.cls idx ci N fs) (hd : decode M.2.1 pc = .ok (.new idx, 3)) (hp : pc + 3 = pc') (hfm : fs.map (ax_v G) = fs) (hn1 : n + 1 ≤ n') (hz1 : z + N ≤ z')
    (kk : AX G l M d pc' ls (.ref n :: st) (n + 1) (z + N) (va_up h n (ax_obj ci fs)) n' z' Q) : AX G l M d pc ls st n z h n' z' Q :=
  ax_new hN hd hp hfm hn1 hz1 (fun k hk => ct_up_ne (Nat.ne_of_lt hk)) ct_up_eq kk
theorem ct_call {M' : ax_M} {h : ax_H} {idx d' n1 z1 b : Nat} (hM : ax_MI M' 0) (hl : ax_LK M.1.cls idx M') (hd : decode M.2.1 pc = .ok (.invokespecial idx, 3)) (hp : pc + 3 = pc') (hst : 2 * st.length ≤ 8) (hdd : d' + 1 ≤ d) (hn1 : n1 ≤ n') (hz1 : z1 ≤ z')
    (hc : AC G l d' M' [.ref b] n z h n1 z1 (fun r h1 => r = none ∧ h1 = g)) (kk : AX G l M d pc' ls st n1 z1 g n' z' Q) : AX G l M d pc ls (.ref b :: st) n z h n' z' Q :=
  ax_callI (as := []) hM hl hd hp rfl hst hdd hn1 hz1 hc (fun r h1 q => by
    obtain ⟨rfl, rfl⟩ := q
    exact kk)
end CT
theorem ct_arrV {c : ClassId} {n : Nat} {f f' : Nat → Value} (h : ∀ j, j < n → f j = f' j) : arrV c n f = arrV c n f' := by
  have hs : (arrV c n f).slots = (arrV c n f').slots := by
    apply Array.ext_getElem?
    intro i
    by_cases hi : i < n
    · rw [arrV_read _ _ hi, arrV_read _ _ hi, h i hi]
    · rw [Array.getElem?_eq_none (by rw [arrV_size]; omega), Array.getElem?_eq_none (by rw [arrV_size]; omega)]
  have e : arrV c n f = { arrV c n f' with slots := (arrV c n f).slots } := rfl
  rw [e, hs]
theorem ct_arq {G : ax_G} {l : Launch} {M : ax_M} {d pc : Nat} {ls st : List Value} {n z : Nat} {n' z' : Nat} {Q : Option Value → ax_H → Prop} {g : ax_H} {a N : Nat} {f f' : Nat → Option Nat} (hf : ∀ j, j < N → f j = f' j) (kk : AX G l M d pc ls st n z (va_up g a (ax_arq N f')) n' z' Q) : AX G l M d pc ls st n z (va_up g a (ax_arq N f)) n' z' Q := by
  intro p e s m args below meth c R H locs cells slots la C0 hd' hlo hn' hz hcl hsl hR hS hL
  refine kk p e s m args below meth c R H locs cells slots la C0 hd' hlo hn' hz hcl hsl ⟨fun k q hk => ?_, hR.2⟩ hS hL
  have hl : k < n := by
    have := (List.getElem?_eq_some_iff.mp hk).1
    rwa [ax_w_len] at this
  rw [ax_w_get hl] at hk
  cases hk
  have h1 := hR.1 k _ (ax_w_get hl)
  by_cases hka : k = a
  · subst hka
    rw [ct_up_eq] at h1 ⊢
    have h2 : H[ax_gB G + k]? = some (vp_cell (ax_gA G 2) (N, .inr (.inr (.inr (.inr (fun j => (f j).map (fun a => ax_gB G + a))))))) := h1
    show H[ax_gB G + k]? = some (vp_cell (ax_gA G 2) (N, .inr (.inr (.inr (.inr (fun j => (f' j).map (fun a => ax_gB G + a)))))))
    rw [h2, vp_cell_q, vp_cell_q]
    exact congrArg some (ct_arrV (fun j hj => by rw [hf j hj]))
  · rw [ct_up_ne hka] at h1 ⊢
    exact h1
section CTI
variable {G : ax_G} {l : Launch} {z : Nat} {g : ax_H}

theorem s_X8_init (hg : ∀ k, 1 ≤ k → k < 3 → g k = ax_hm mem0 k) : AC G l 1 mX8_init [.ref 1] 2 z (va_up g 1 (ax_obj 6 [.null, .int 0, .int 0, .int 0, .int 0, .int 0])) 3 (z + 240) (fun r h1 => r = none ∧ h1 = g) := by
  refine ax_start (ls := [.ref 1]) (u := 0) (by decide +kernel) (Nat.le_of_ble_eq_true rfl) (by omega) (by omega) rfl ?_
  refine ax_aload_n (j := 0) dX8_init_0 rfl rfl rfl ?_
  refine ax_objInit lkX8_3 wd_obj dX8_init_1 rfl (Nat.le_of_ble_eq_true rfl) (Nat.le_of_ble_eq_true rfl) ?_
  refine ax_aload_n (j := 0) dX8_init_4 rfl rfl rfl ?_
  refine ax_sipush (v := 240) dX8_init_5 (by decide) rfl ?_
  refine ct_newi (g' := g) (N := 240) dX8_init_8 rfl (by decide) (by decide) (by decide) (by omega) (by omega) (by omega) (fun _ _ => rfl) ((hg 2 (by omega) (by omega)).trans (ct_arr0 is2 (mem0_z (by decide) (by decide) (by decide) (by decide)))) ?_
  refine ct_putF (fs' := [.ref 2, .int 0, .int 0, .int 0, .int 0, .int 0]) flX8_9 ffX8_9 rfl dX8_init_10 rfl (by omega) (Nat.le_of_ble_eq_true rfl) rfl rfl rfl ?_
  refine ax_aload_n (j := 0) dX8_init_13 rfl rfl rfl ?_
  refine ax_iconst (v := (-1)) dX8_init_14 (by decide) rfl ?_
  refine ct_put (fs' := [.ref 2, .int 0, .int (-1), .int 0, .int 0, .int 0]) flX8_15  dX8_init_15 rfl (by omega) (Nat.le_of_ble_eq_true rfl) rfl rfl rfl ?_
  refine ax_vreturn rfl dX8_init_18 ⟨rfl, ?_⟩
  exact ct_back ((hg 1 (by omega) (by omega)).trans (by rw [ax_hm_obj is1]; rfl))
theorem s_X7_init (hg : ∀ k, 115 ≤ k → k < 120 → g k = ax_hm mem0 k) : AC G l 1 mX7_init [.ref 115] 116 z (va_up g 115 (ax_obj 5 [.null, .null, .null, .null, .int 0])) 120 (z + 32) (fun r h1 => r = none ∧ h1 = g) := by
  refine ax_start (ls := [.ref 115]) (u := 0) (by decide +kernel) (Nat.le_of_ble_eq_true rfl) (by omega) (by omega) rfl ?_
  refine ax_aload_n (j := 0) dX7_init_0 rfl rfl rfl ?_
  refine ax_objInit lkX7_3 wd_obj dX7_init_1 rfl (Nat.le_of_ble_eq_true rfl) (Nat.le_of_ble_eq_true rfl) ?_
  refine ax_aload_n (j := 0) dX7_init_4 rfl rfl rfl ?_
  refine ax_bipush (v := 8) dX7_init_5 (by decide) rfl ?_
  refine ct_newi (g' := g) (N := 8) dX7_init_7 rfl (by decide) (by decide) (by decide) (by omega) (by omega) (by omega) (fun _ _ => rfl) ((hg 116 (by omega) (by omega)).trans (ct_arr0 is116 (mem0_z (by decide) (by decide) (by decide) (by decide)))) ?_
  refine ct_putF (fs' := [.ref 116, .null, .null, .null, .int 0]) flX7_9 ffX7_9 rfl dX7_init_9 rfl (by omega) (Nat.le_of_ble_eq_true rfl) rfl rfl rfl ?_
  refine ax_aload_n (j := 0) dX7_init_12 rfl rfl rfl ?_
  refine ax_bipush (v := 8) dX7_init_13 (by decide) rfl ?_
  refine ct_newi (g' := g) (N := 8) dX7_init_15 rfl (by decide) (by decide) (by decide) (by omega) (by omega) (by omega) (fun _ _ => rfl) ((hg 117 (by omega) (by omega)).trans (ct_arr0 is117 (mem0_z (by decide) (by decide) (by decide) (by decide)))) ?_
  refine ct_putF (fs' := [.ref 116, .ref 117, .null, .null, .int 0]) flX7_15 ffX7_15 rfl dX7_init_17 rfl (by omega) (Nat.le_of_ble_eq_true rfl) rfl rfl rfl ?_
  refine ax_aload_n (j := 0) dX7_init_20 rfl rfl rfl ?_
  refine ax_bipush (v := 8) dX7_init_21 (by decide) rfl ?_
  refine ct_newi (g' := g) (N := 8) dX7_init_23 rfl (by decide) (by decide) (by decide) (by omega) (by omega) (by omega) (fun _ _ => rfl) ((hg 118 (by omega) (by omega)).trans (ct_arr0 is118 (mem0_z (by decide) (by decide) (by decide) (by decide)))) ?_
  refine ct_putF (fs' := [.ref 116, .ref 117, .ref 118, .null, .int 0]) flX7_18 ffX7_18 rfl dX7_init_25 rfl (by omega) (Nat.le_of_ble_eq_true rfl) rfl rfl rfl ?_
  refine ax_aload_n (j := 0) dX7_init_28 rfl rfl rfl ?_
  refine ax_bipush (v := 8) dX7_init_29 (by decide) rfl ?_
  refine ct_newi (g' := g) (N := 8) dX7_init_31 rfl (by decide) (by decide) (by decide) (by omega) (by omega) (by omega) (fun _ _ => rfl) ((hg 119 (by omega) (by omega)).trans (ct_arr0 is119 (mem0_z (by decide) (by decide) (by decide) (by decide)))) ?_
  refine ct_putF (fs' := [.ref 116, .ref 117, .ref 118, .ref 119, .int 0]) flX7_21 ffX7_21 rfl dX7_init_33 rfl (by omega) (Nat.le_of_ble_eq_true rfl) rfl rfl rfl ?_
  refine ax_vreturn rfl dX7_init_36 ⟨rfl, ?_⟩
  exact ct_back ((hg 115 (by omega) (by omega)).trans (by rw [ax_hm_obj is115]; rfl))
theorem s_X0_init (hg : ∀ k, 120 ≤ k → k < 123 → g k = ax_hm mem0 k) : AC G l 1 mX0_init [.ref 120] 121 z (va_up g 120 (ax_obj 0 [.null, .null, .int 0])) 123 (z + 30) (fun r h1 => r = none ∧ h1 = g) := by
  refine ax_start (ls := [.ref 120]) (u := 0) (by decide +kernel) (Nat.le_of_ble_eq_true rfl) (by omega) (by omega) rfl ?_
  refine ax_aload_n (j := 0) dX0_init_0 rfl rfl rfl ?_
  refine ax_objInit lkX0_3 wd_obj dX0_init_1 rfl (Nat.le_of_ble_eq_true rfl) (Nat.le_of_ble_eq_true rfl) ?_
  refine ax_aload_n (j := 0) dX0_init_4 rfl rfl rfl ?_
  refine ax_bipush (v := 15) dX0_init_5 (by decide) rfl ?_
  refine ct_newi (g' := g) (N := 15) dX0_init_7 rfl (by decide) (by decide) (by decide) (by omega) (by omega) (by omega) (fun _ _ => rfl) ((hg 121 (by omega) (by omega)).trans (ct_arr0 is121 (mem0_z (by decide) (by decide) (by decide) (by decide)))) ?_
  refine ct_putF (fs' := [.ref 121, .null, .int 0]) flX0_9 ffX0_9 rfl dX0_init_9 rfl (by omega) (Nat.le_of_ble_eq_true rfl) rfl rfl rfl ?_
  refine ax_aload_n (j := 0) dX0_init_12 rfl rfl rfl ?_
  refine ax_bipush (v := 15) dX0_init_13 (by decide) rfl ?_
  refine ct_newi (g' := g) (N := 15) dX0_init_15 rfl (by decide) (by decide) (by decide) (by omega) (by omega) (by omega) (fun _ _ => rfl) ((hg 122 (by omega) (by omega)).trans (ct_arr0 is122 (mem0_z (by decide) (by decide) (by decide) (by decide)))) ?_
  refine ct_putF (fs' := [.ref 121, .ref 122, .int 0]) flX0_15 ffX0_15 rfl dX0_init_17 rfl (by omega) (Nat.le_of_ble_eq_true rfl) rfl rfl rfl ?_
  refine ax_vreturn rfl dX0_init_20 ⟨rfl, ?_⟩
  exact ct_back ((hg 120 (by omega) (by omega)).trans (by rw [ax_hm_obj is120]; rfl))
theorem s_X1_init (hg : ∀ k, 123 ≤ k → k < 124 → g k = ax_hm mem0 k) : AC G l 1 mX1_init [.ref 123] 124 z (va_up g 123 (ax_obj 1 [.int 0])) 124 (z + 0) (fun r h1 => r = none ∧ h1 = g) := by
  refine ax_start (ls := [.ref 123]) (u := 0) (by decide +kernel) (Nat.le_of_ble_eq_true rfl) (by omega) (by omega) rfl ?_
  refine ax_aload_n (j := 0) dX1_init_0 rfl rfl rfl ?_
  refine ax_objInit lkX1_1 wd_obj dX1_init_1 rfl (Nat.le_of_ble_eq_true rfl) (Nat.le_of_ble_eq_true rfl) ?_
  refine ax_vreturn rfl dX1_init_4 ⟨rfl, ?_⟩
  exact ct_back ((hg 123 (by omega) (by omega)).trans (by rw [ax_hm_obj is123]; rfl))
theorem s_X5_init {a : Nat} (hp : ax_isP a) (hg : ∀ k, a ≤ k → k < a + 5 → g k = ax_hm mem0 k) : AC G l 1 mX5_init [.ref a] (a + 1) z (va_up g a (ax_obj 4 [.null, .null, .null, .null, .int 0, .int 0])) (a + 5) (z + 88) (fun r h1 => r = none ∧ h1 = g) := by
  have hr := ct_neP hp
  refine ax_start (ls := [.ref a]) (u := 0) (by decide +kernel) (Nat.le_of_ble_eq_true rfl) (by omega) (by omega) rfl ?_
  refine ax_aload_n (j := 0) dX5_init_0 rfl rfl rfl ?_
  refine ax_objInit lkX5_3 wd_obj dX5_init_1 rfl (Nat.le_of_ble_eq_true rfl) (Nat.le_of_ble_eq_true rfl) ?_
  refine ax_aload_n (j := 0) dX5_init_4 rfl rfl rfl ?_
  refine ax_bipush (v := 8) dX5_init_5 (by decide) rfl ?_
  refine ct_newi (g' := (va_up g (a + 4) (ax_arr 0 64 (fun _ => 0)))) (N := 8) dX5_init_7 rfl (by decide) (by decide) (by decide) (by omega) (by omega) (by omega) (fun k hk => ct_up_ne (by omega)) ((ct_up_ne (by omega)).trans ((hg (a + 1) (by omega) (by omega)).trans (ct_arr0 hp.m1 (mem0_z (ct_pmP hp).2.1 (by omega) (by omega) (by omega))))) ?_
  refine ct_putF (fs' := [.ref (a + 1), .null, .null, .null, .int 0, .int 0]) flX5_9 ffX5_9 rfl dX5_init_9 rfl (by omega) (Nat.le_of_ble_eq_true rfl) rfl rfl rfl ?_
  refine ax_aload_n (j := 0) dX5_init_12 rfl rfl rfl ?_
  refine ax_bipush (v := 8) dX5_init_13 (by decide) rfl ?_
  refine ct_newi (g' := (va_up g (a + 4) (ax_arr 0 64 (fun _ => 0)))) (N := 8) dX5_init_15 rfl (by decide) (by decide) (by decide) (by omega) (by omega) (by omega) (fun _ _ => rfl) ((ct_up_ne (by omega)).trans ((hg (a + 2) (by omega) (by omega)).trans (ct_arr0 hp.m2 (mem0_z (ct_pmP hp).2.2.1 (by omega) (by omega) (by omega))))) ?_
  refine ct_putF (fs' := [.ref (a + 1), .ref (a + 2), .null, .null, .int 0, .int 0]) flX5_15 ffX5_15 rfl dX5_init_17 rfl (by omega) (Nat.le_of_ble_eq_true rfl) rfl rfl rfl ?_
  refine ax_aload_n (j := 0) dX5_init_20 rfl rfl rfl ?_
  refine ax_bipush (v := 8) dX5_init_21 (by decide) rfl ?_
  refine ct_newi (g' := (va_up g (a + 4) (ax_arr 0 64 (fun _ => 0)))) (N := 8) dX5_init_23 rfl (by decide) (by decide) (by decide) (by omega) (by omega) (by omega) (fun _ _ => rfl) ((ct_up_ne (by omega)).trans ((hg (a + 3) (by omega) (by omega)).trans (ct_arr0 hp.m3 (mem0_z (ct_pmP hp).2.2.2.1 (by omega) (by omega) (by omega))))) ?_
  refine ct_putF (fs' := [.ref (a + 1), .ref (a + 2), .ref (a + 3), .null, .int 0, .int 0]) flX5_18 ffX5_18 rfl dX5_init_25 rfl (by omega) (Nat.le_of_ble_eq_true rfl) rfl rfl rfl ?_
  refine ax_aload_n (j := 0) dX5_init_28 rfl rfl rfl ?_
  refine ax_bipush (v := 64) dX5_init_29 (by decide) rfl ?_
  refine ct_newi (g' := (va_up g (a + 4) (ax_arr 0 64 (fun _ => 0)))) (N := 64) dX5_init_31 rfl (by decide) (by decide) (by decide) (by omega) (by omega) (by omega) (fun _ _ => rfl) ct_up_eq ?_
  refine ct_putF (fs' := [.ref (a + 1), .ref (a + 2), .ref (a + 3), .ref (a + 4), .int 0, .int 0]) flX5_21 ffX5_21 rfl dX5_init_33 rfl (by omega) (Nat.le_of_ble_eq_true rfl) rfl rfl rfl ?_
  refine ax_aload_n (j := 0) dX5_init_36 rfl rfl rfl ?_
  refine ax_get (v := .ref (a + 4)) flX5_21 dX5_init_37 rfl (by omega) ct_up_eq rfl ?_
  refine ax_iconst (v := -1) dX5_init_40 (by decide) rfl ?_
  refine ax_callS (as := [.ref (a + 4), .int (-1)]) ksJ7_fill_53178 lkX5_24 dX5_init_41 rfl rfl (Nat.le_of_ble_eq_true rfl) (Nat.le_of_ble_eq_true rfl) (Nat.le_refl _) (Nat.le_refl _) (fill_g (N := 64) (f := fun _ => 0) (by omega) ((ct_up_ne (by omega)).trans ct_up_eq) (by decide)) ?_
  intro r h1 q
  obtain ⟨rfl, rfl⟩ := q
  refine ax_vreturn rfl dX5_init_44 ⟨rfl, ?_⟩
  funext k
  by_cases h4 : k = a + 4
  · subst h4
    rw [ct_up_eq, hg (a + 4) (by omega) (by omega), ax_hm_arr hp.m4, mem0_p (ct_pmP hp).2.2.2.2 (by omega) (by omega) (by omega)]
  · rw [ct_up_ne h4]
    by_cases h0 : k = a
    · subst h0
      rw [ct_up_eq, hg k (by omega) (by omega), ax_hm_obj hp.o, mem0_z (ct_pmP hp).1 (by omega) (by omega) (by omega)]
      rfl
    · rw [ct_up_ne h0, ct_up_ne h4]
theorem s_X3_init {a : Nat} (hp : ax_isP (a + 1)) (hO : ax_hm mem0 a = ax_obj 2 [.ref (a + 1), .int 0, .int 0]) (hg : ∀ k, a ≤ k → k < a + 6 → g k = ax_hm mem0 k) : AC G l 2 mX3_init [.ref a] (a + 1) z (va_up g a (ax_obj 2 [.null, .int 0, .int 0])) (a + 6) (z + 94) (fun r h1 => r = none ∧ h1 = g) := by
  refine ax_start (ls := [.ref a]) (u := 0) (by decide +kernel) (Nat.le_of_ble_eq_true rfl) (by omega) (by omega) rfl ?_
  refine ax_aload_n (j := 0) dX3_init_0 rfl rfl rfl ?_
  refine ax_objInit lkX3_1 wd_obj dX3_init_1 rfl (Nat.le_of_ble_eq_true rfl) (Nat.le_of_ble_eq_true rfl) ?_
  refine ax_aload_n (j := 0) dX3_init_4 rfl rfl rfl ?_
  refine ct_obj nwX3_7 dX3_init_5 rfl rfl (by omega) (by omega) ?_
  refine ax_dup dX3_init_8 rfl rfl ?_
  refine ct_call (g := va_up g a (ax_obj 2 [.null, .int 0, .int 0])) (n1 := a + 6) (z1 := z + 94) ksX5_init lkX3_9 dX3_init_9 rfl (Nat.le_of_ble_eq_true rfl) (Nat.le_of_ble_eq_true rfl) (Nat.le_refl _) (Nat.le_refl _) (s_X5_init hp (fun k h1 h2 => (ct_up_ne (by omega)).trans (hg k (by omega) (by omega)))) ?_
  refine ct_putF (fs' := [.ref (a + 1), .int 0, .int 0]) flX3_10 ffX3_10 rfl dX3_init_12 rfl (by omega) (Nat.le_of_ble_eq_true rfl) rfl rfl rfl ?_
  refine ax_vreturn rfl dX3_init_15 ⟨rfl, ?_⟩
  exact ct_back ((hg a (by omega) (by omega)).trans hO)
theorem ct_past {Q : Option Value → ax_H → Prop} (hg : ∀ k, 13 ≤ k → k < 115 → g k = ax_hm mem0 k) (hq : Q none g) : ∀ (m i : Nat), i + m = 20 →
    AX G l mX4_init 2 15 [.ref 13, .int (nI i)] [] (15 + 5 * i) (z + 94 * i) (va_up g 14 (ax_arq 20 (fun j => if j < i then some (15 + 5 * j) else none))) 115 (z + 1880) Q := by
  have h13 : ∀ i, va_up g 14 (ax_arq 20 (fun j => if j < i then some (15 + 5 * j) else none)) 13 = ax_obj 3 [.ref 14, .int 0, .int 0] := fun i => (ct_up_ne (by decide)).trans ((hg 13 (by omega) (by omega)).trans (by rw [ax_hm_obj is13]; rfl))
  intro m
  induction m with
  | zero =>
    intro i hi
    have hi20 : i = 20 := by omega
    subst hi20
    refine ax_iload_n (j := 1) dX4_init_15 rfl rfl rfl ?_
    refine ax_bipush (v := 20) dX4_init_16 (by decide) rfl ?_
    refine ax_icmp_ge (tgt := 40) dX4_init_18 (by decide) rfl (fun c => ?_) (fun c => ?_)
    · refine ct_arq (f' := fun j => some (15 + 5 * j)) (fun j hj => if_pos hj) ?_
      rw [ct_back ((hg 14 (by omega) (by omega)).trans (by show ax_ce (ax_sg 14) _ = _; rw [is14.2]; rfl))]
      exact ax_vreturn rfl dX4_init_40 hq
    · exact absurd (by decide) c
  | succ m ih =>
    intro i hi
    refine ax_iload_n (j := 1) dX4_init_15 rfl rfl rfl ?_
    refine ax_bipush (v := 20) dX4_init_16 (by decide) rfl ?_
    refine ax_icmp_ge (tgt := 40) dX4_init_18 (by decide) rfl (fun c => ?_) (fun c => ?_)
    · exact absurd c (nI_ge (b := 20) (by omega) (by omega))
    · refine ax_aload_n (j := 0) dX4_init_21 rfl rfl rfl ?_
      refine ax_get (v := .ref 14) flX4_11 dX4_init_22 rfl (by omega) (h13 i) rfl ?_
      refine ax_iload_n (j := 1) dX4_init_25 rfl rfl rfl ?_
      refine ct_obj nwX4_9 dX4_init_26 rfl rfl (by omega) (by omega) ?_
      refine ax_dup dX4_init_29 rfl rfl ?_
      refine ct_call (g := va_up g 14 (ax_arq 20 (fun j => if j < i then some (15 + 5 * j) else none))) (n1 := 15 + 5 * i + 5) (z1 := z + 94 * i + 6 + 88) ksX5_init lkX4_17 dX4_init_30 rfl (Nat.le_of_ble_eq_true rfl) (Nat.le_of_ble_eq_true rfl) (by omega) (by omega) (s_X5_init (isPi (by omega)) (fun k h1 h2 => (ct_up_ne (by omega)).trans (hg k (by omega) (by omega)))) ?_
      refine ax_aast (N := 20) dX4_init_33 rfl (by omega) ct_up_eq (by omega) ((ct_up_ne (by omega)).trans ((hg (15 + 5 * i) (by omega) (by omega)).trans (ax_hm_obj (isPi (by omega)).o))) (vp_in_nI (by omega) (by omega)) ?_
      refine ax_iinc1 (v := nI (i + 1)) dX4_init_34 rfl (cl_inc i) (Nat.le_of_ble_eq_true rfl) rfl ?_
      refine ax_goto (tgt := 15) dX4_init_37 (by decide) ?_
      rw [nI_clamp (by omega), ct_uu]
      have e : va_up (fun j => if j < i then some (15 + 5 * j) else none) i (some (15 + 5 * i)) = (fun j => if j < i + 1 then some (15 + 5 * j) else none) := by
        funext j
        by_cases hj : j = i
        · subst hj
          simp [va_up]
        · by_cases h2 : j < i
          · simp [va_up, hj, h2, Nat.lt_succ_of_lt h2]
          · simp [va_up, hj, h2, show ¬ j < i + 1 by omega]
      rw [e]
      have w := ih (i + 1) (by omega)
      rw [show 15 + 5 * (i + 1) = 15 + 5 * i + 5 by omega, show z + 94 * (i + 1) = z + 94 * i + 6 + 88 by omega] at w
      exact w

theorem s_X4_init (hg : ∀ k, 13 ≤ k → k < 115 → g k = ax_hm mem0 k) : AC G l 2 mX4_init [.ref 13] 14 z (va_up g 13 (ax_obj 3 [.null, .int 0, .int 0])) 115 (z + 1900) (fun r h1 => r = none ∧ h1 = g) := by
  refine ax_start (ls := [.ref 13, .float 0]) (u := 1) (by decide +kernel) (Nat.le_of_ble_eq_true rfl) (by omega) (by omega) rfl ?_
  refine ax_aload_n (j := 0) dX4_init_0 rfl rfl rfl ?_
  refine ax_objInit lkX4_3 wd_obj dX4_init_1 rfl (Nat.le_of_ble_eq_true rfl) (Nat.le_of_ble_eq_true rfl) ?_
  refine ax_aload_n (j := 0) dX4_init_4 rfl rfl rfl ?_
  refine ax_bipush (v := 20) dX4_init_5 (by decide) rfl ?_
  refine ax_newq (N := 20) (h1 := va_up (va_up g 14 (ax_arq 20 (fun _ => none))) 13 (ax_obj 3 [.null, .int 0, .int 0])) clX4_9 dX4_init_7 rfl (by decide) (by decide) (by decide) (by omega) (by omega) (fun k hk => ?_) ((ct_up_ne (by decide)).trans ct_up_eq) ?_
  · by_cases h13 : k = 13
    · subst h13
      rw [ct_up_eq, ct_up_eq]
    · rw [ct_up_ne h13, ct_up_ne h13, ct_up_ne (by omega)]
  refine ct_putF (fs' := [.ref 14, .int 0, .int 0]) flX4_11 ffX4_11 rfl dX4_init_10 rfl (by omega) (Nat.le_of_ble_eq_true rfl) rfl rfl rfl ?_
  refine ax_iconst (v := 0) dX4_init_13 (by decide) rfl ?_
  refine ax_ist1 dX4_init_14 rfl rfl (Nat.le_of_ble_eq_true rfl) rfl ?_
  rw [ct_back ((ct_up_ne (by decide)).trans ((hg 13 (by omega) (by omega)).trans (by rw [ax_hm_obj is13]; rfl)))]
  refine ct_arq (f' := fun j => if j < 0 then some (15 + 5 * j) else none) (fun j hj => rfl) ?_
  exact ct_past (z := z + 20) hg ⟨rfl, rfl⟩ 20 0 (by omega)

theorem s_X9_init (hg : ∀ k, 0 ≤ k → k < 136 → g k = ax_hm mem0 k) : AC G l 3 mX9_init [.ref 0] 1 z (va_up g 0 (ax_obj 7 [.null, .null, .null, .null, .null, .null, .null, .null, .null])) 136 (z + 2602) (fun r h1 => r = none ∧ h1 = g) := by
  refine ax_start (ls := [.ref 0]) (u := 0) (by decide +kernel) (Nat.le_of_ble_eq_true rfl) (by omega) (by omega) rfl ?_
  refine ax_aload_n (j := 0) dX9_init_0 rfl rfl rfl ?_
  refine ax_objInit lkX9_1 wd_obj dX9_init_1 rfl (Nat.le_of_ble_eq_true rfl) (Nat.le_of_ble_eq_true rfl) ?_
  refine ax_aload_n (j := 0) dX9_init_4 rfl rfl rfl ?_
  refine ct_obj nwX9_7 dX9_init_5 rfl rfl (by omega) (by omega) ?_
  refine ax_dup dX9_init_8 rfl rfl ?_
  refine ct_call (g := va_up g 0 (ax_obj 7 [.null, .null, .null, .null, .null, .null, .null, .null, .null])) (n1 := 3) (z1 := z + 246) ksX8_init lkX9_9 dX9_init_9 rfl (Nat.le_of_ble_eq_true rfl) (Nat.le_of_ble_eq_true rfl) (by omega) (by omega) (s_X8_init (fun k h1 h2 => (ct_up_ne (by omega)).trans (hg k (by omega) (by omega)))) ?_
  refine ct_putF (fs' := [.ref 1, .null, .null, .null, .null, .null, .null, .null, .null]) flX9_10 ffX9_10 rfl dX9_init_12 rfl (by omega) (Nat.le_of_ble_eq_true rfl) rfl rfl rfl ?_
  refine ax_aload_n (j := 0) dX9_init_15 rfl rfl rfl ?_
  refine ct_obj nwX9_16 dX9_init_16 rfl rfl (by omega) (by omega) ?_
  refine ax_dup dX9_init_19 rfl rfl ?_
  refine ct_call (g := va_up g 0 (ax_obj 7 [.ref 1, .null, .null, .null, .null, .null, .null, .null, .null])) (n1 := 8) (z1 := z + 340) ksX5_init lkX9_18 dX9_init_20 rfl (Nat.le_of_ble_eq_true rfl) (Nat.le_of_ble_eq_true rfl) (by omega) (by omega) (s_X5_init isP3 (fun k h1 h2 => (ct_up_ne (by omega)).trans (hg k (by omega) (by omega)))) ?_
  refine ct_putF (fs' := [.ref 1, .ref 3, .null, .null, .null, .null, .null, .null, .null]) flX9_19 ffX9_19 rfl dX9_init_23 rfl (by omega) (Nat.le_of_ble_eq_true rfl) rfl rfl rfl ?_
  refine ax_aload_n (j := 0) dX9_init_26 rfl rfl rfl ?_
  refine ct_obj nwX9_16 dX9_init_27 rfl rfl (by omega) (by omega) ?_
  refine ax_dup dX9_init_30 rfl rfl ?_
  refine ct_call (g := va_up g 0 (ax_obj 7 [.ref 1, .ref 3, .null, .null, .null, .null, .null, .null, .null])) (n1 := 13) (z1 := z + 434) ksX5_init lkX9_18 dX9_init_31 rfl (Nat.le_of_ble_eq_true rfl) (Nat.le_of_ble_eq_true rfl) (by omega) (by omega) (s_X5_init isP8 (fun k h1 h2 => (ct_up_ne (by omega)).trans (hg k (by omega) (by omega)))) ?_
  refine ct_putF (fs' := [.ref 1, .ref 3, .ref 8, .null, .null, .null, .null, .null, .null]) flX9_23 ffX9_23 rfl dX9_init_34 rfl (by omega) (Nat.le_of_ble_eq_true rfl) rfl rfl rfl ?_
  refine ax_aload_n (j := 0) dX9_init_37 rfl rfl rfl ?_
  refine ct_obj nwX9_26 dX9_init_38 rfl rfl (by omega) (by omega) ?_
  refine ax_dup dX9_init_41 rfl rfl ?_
  refine ct_call (g := va_up g 0 (ax_obj 7 [.ref 1, .ref 3, .ref 8, .null, .null, .null, .null, .null, .null])) (n1 := 115) (z1 := z + 2337) ksX4_init lkX9_28 dX9_init_42 rfl (Nat.le_of_ble_eq_true rfl) (Nat.le_of_ble_eq_true rfl) (by omega) (by omega) (s_X4_init (fun k h1 h2 => (ct_up_ne (by omega)).trans (hg k (by omega) (by omega)))) ?_
  refine ct_putF (fs' := [.ref 1, .ref 3, .ref 8, .ref 13, .null, .null, .null, .null, .null]) flX9_29 ffX9_29 rfl dX9_init_45 rfl (by omega) (Nat.le_of_ble_eq_true rfl) rfl rfl rfl ?_
  refine ax_aload_n (j := 0) dX9_init_48 rfl rfl rfl ?_
  refine ct_obj nwX9_33 dX9_init_49 rfl rfl (by omega) (by omega) ?_
  refine ax_dup dX9_init_52 rfl rfl ?_
  refine ct_call (g := va_up g 0 (ax_obj 7 [.ref 1, .ref 3, .ref 8, .ref 13, .null, .null, .null, .null, .null])) (n1 := 120) (z1 := z + 2374) ksX7_init lkX9_35 dX9_init_53 rfl (Nat.le_of_ble_eq_true rfl) (Nat.le_of_ble_eq_true rfl) (by omega) (by omega) (s_X7_init (fun k h1 h2 => (ct_up_ne (by omega)).trans (hg k (by omega) (by omega)))) ?_
  refine ct_putF (fs' := [.ref 1, .ref 3, .ref 8, .ref 13, .ref 115, .null, .null, .null, .null]) flX9_36 ffX9_36 rfl dX9_init_56 rfl (by omega) (Nat.le_of_ble_eq_true rfl) rfl rfl rfl ?_
  refine ax_aload_n (j := 0) dX9_init_59 rfl rfl rfl ?_
  refine ct_obj nwX9_40 dX9_init_60 rfl rfl (by omega) (by omega) ?_
  refine ax_dup dX9_init_63 rfl rfl ?_
  refine ct_call (g := va_up g 0 (ax_obj 7 [.ref 1, .ref 3, .ref 8, .ref 13, .ref 115, .null, .null, .null, .null])) (n1 := 123) (z1 := z + 2407) ksX0_init lkX9_42 dX9_init_64 rfl (Nat.le_of_ble_eq_true rfl) (Nat.le_of_ble_eq_true rfl) (by omega) (by omega) (s_X0_init (fun k h1 h2 => (ct_up_ne (by omega)).trans (hg k (by omega) (by omega)))) ?_
  refine ct_putF (fs' := [.ref 1, .ref 3, .ref 8, .ref 13, .ref 115, .ref 120, .null, .null, .null]) flX9_43 ffX9_43 rfl dX9_init_67 rfl (by omega) (Nat.le_of_ble_eq_true rfl) rfl rfl rfl ?_
  refine ax_aload_n (j := 0) dX9_init_70 rfl rfl rfl ?_
  refine ct_obj nwX9_47 dX9_init_71 rfl rfl (by omega) (by omega) ?_
  refine ax_dup dX9_init_74 rfl rfl ?_
  refine ct_call (g := va_up g 0 (ax_obj 7 [.ref 1, .ref 3, .ref 8, .ref 13, .ref 115, .ref 120, .null, .null, .null])) (n1 := 124) (z1 := z + 2408) ksX1_init lkX9_49 dX9_init_75 rfl (Nat.le_of_ble_eq_true rfl) (Nat.le_of_ble_eq_true rfl) (by omega) (by omega) (s_X1_init (fun k h1 h2 => (ct_up_ne (by omega)).trans (hg k (by omega) (by omega)))) ?_
  refine ct_putF (fs' := [.ref 1, .ref 3, .ref 8, .ref 13, .ref 115, .ref 120, .ref 123, .null, .null]) flX9_50 ffX9_50 rfl dX9_init_78 rfl (by omega) (Nat.le_of_ble_eq_true rfl) rfl rfl rfl ?_
  refine ax_aload_n (j := 0) dX9_init_81 rfl rfl rfl ?_
  refine ct_obj nwX9_54 dX9_init_82 rfl rfl (by omega) (by omega) ?_
  refine ax_dup dX9_init_85 rfl rfl ?_
  refine ct_call (g := va_up g 0 (ax_obj 7 [.ref 1, .ref 3, .ref 8, .ref 13, .ref 115, .ref 120, .ref 123, .null, .null])) (n1 := 130) (z1 := z + 2505) ksX3_init lkX9_56 dX9_init_86 rfl (Nat.le_of_ble_eq_true rfl) (Nat.le_of_ble_eq_true rfl) (by omega) (by omega) (s_X3_init isP125 (by rw [ax_hm_obj is124]; rfl) (fun k h1 h2 => (ct_up_ne (by omega)).trans (hg k (by omega) (by omega)))) ?_
  refine ct_putF (fs' := [.ref 1, .ref 3, .ref 8, .ref 13, .ref 115, .ref 120, .ref 123, .ref 124, .null]) flX9_57 ffX9_57 rfl dX9_init_89 rfl (by omega) (Nat.le_of_ble_eq_true rfl) rfl rfl rfl ?_
  refine ax_aload_n (j := 0) dX9_init_92 rfl rfl rfl ?_
  refine ct_obj nwX9_54 dX9_init_93 rfl rfl (by omega) (by omega) ?_
  refine ax_dup dX9_init_96 rfl rfl ?_
  refine ct_call (g := va_up g 0 (ax_obj 7 [.ref 1, .ref 3, .ref 8, .ref 13, .ref 115, .ref 120, .ref 123, .ref 124, .null])) (n1 := 136) (z1 := z + 2602) ksX3_init lkX9_56 dX9_init_97 rfl (Nat.le_of_ble_eq_true rfl) (Nat.le_of_ble_eq_true rfl) (by omega) (by omega) (s_X3_init isP131 (by rw [ax_hm_obj is130]; rfl) (fun k h1 h2 => (ct_up_ne (by omega)).trans (hg k (by omega) (by omega)))) ?_
  refine ct_putF (fs' := [.ref 1, .ref 3, .ref 8, .ref 13, .ref 115, .ref 120, .ref 123, .ref 124, .ref 130]) flX9_61 ffX9_61 rfl dX9_init_100 rfl (by omega) (Nat.le_of_ble_eq_true rfl) rfl rfl rfl ?_
  refine ax_vreturn rfl dX9_init_103 ⟨rfl, ?_⟩
  exact ct_back ((hg 0 (by omega) (by omega)).trans (by rw [ax_hm_obj is0]; rfl))
theorem ct_model {Q : Option Value → ax_H → Prop} (hq : Q none (ax_hm mem0)) : ∀ (m i : Nat), i + m = 64 →
    AX G l mX10_init 1 141 [.ref 136, .int (nI i)] [] 153 z (va_up (ax_hm mem0) 138 (ax_arr 0 81 (fun k => if 16 ≤ k ∧ k < 16 + i then -1 else 0))) 153 z Q := by
  intro m
  induction m with
  | zero =>
    intro i hi
    have hi20 : i = 64 := by omega
    subst hi20
    refine ax_iload_n (j := 1) dX10_init_141 rfl rfl rfl ?_
    refine ax_bipush (v := 64) dX10_init_142 (by decide) rfl ?_
    refine ax_icmp_ge (tgt := 163) dX10_init_144 (by decide) rfl (fun c => ?_) (fun c => ?_)
    · rw [ct_back (by
        rw [ax_hm_arr is138]
        congr 2
        funext k
        simp [mem0, ct_pm])]
      exact ax_vreturn rfl dX10_init_163 hq
    · exact absurd (by decide) c
  | succ m ih =>
    intro i hi
    refine ax_iload_n (j := 1) dX10_init_141 rfl rfl rfl ?_
    refine ax_bipush (v := 64) dX10_init_142 (by decide) rfl ?_
    refine ax_icmp_ge (tgt := 163) dX10_init_144 (by decide) rfl (fun c => ?_) (fun c => ?_)
    · exact absurd c (nI_ge (b := 64) (by omega) (by omega))
    · refine ax_aload_n (j := 0) dX10_init_147 rfl rfl rfl ?_
      refine ax_get (v := .ref 138) flX10_13 dX10_init_148 rfl (by omega) ((ct_up_ne (by decide)).trans (ax_hm_obj is136)) rfl ?_
      refine ax_bipush (v := 16) dX10_init_151 (by decide) rfl ?_
      refine ax_iload_n (j := 1) dX10_init_153 rfl rfl rfl ?_
      refine ax_iadd dX10_init_154 rfl ?_
      have e1 : (16 : Int32) + nI i = nI (16 + i) := nI_add 16 i
      rw [e1]
      refine ax_iconst (v := -1) dX10_init_155 (by decide) rfl ?_
      refine ax_iast (N := 81) dX10_init_156 rfl (by omega) ct_up_eq (vp_in_nI (by omega) (by omega)) ?_
      refine ax_iinc1 (v := nI (i + 1)) dX10_init_157 rfl (cl_inc i) (Nat.le_of_ble_eq_true rfl) rfl ?_
      refine ax_goto (tgt := 141) dX10_init_160 (by decide) ?_
      rw [nI_clamp (by omega), ct_uu]
      have e : upd (fun k => if 16 ≤ k ∧ k < 16 + i then (-1 : Int32) else 0) (16 + i) (-1) = (fun k => if 16 ≤ k ∧ k < 16 + (i + 1) then -1 else 0) := by
        funext j
        by_cases hj : j = 16 + i
        · subst hj
          simp [upd]
        · by_cases h2 : 16 ≤ j ∧ j < 16 + i
          · simp only [upd, if_neg hj, if_pos h2, if_pos (show 16 ≤ j ∧ j < 16 + (i + 1) by omega)]
          · simp only [upd, if_neg hj, if_neg h2, if_neg (show ¬ (16 ≤ j ∧ j < 16 + (i + 1)) by omega)]
      rw [e]
      exact ih (i + 1) (by omega)

theorem s_X10_init : AC G l 1 mX10_init [.ref 136] 137 z (va_up (ax_hm mem0) 136 (ax_obj 8 [.int 0, .null, .null, .int 0, .null, .int 0, .int 0, .int 0, .int 0, .int 0, .int 0, .null, .null, .null, .int 0, .null, .null, .int 0, .null, .null, .null, .null, .int 0, .null, .null, .null, .null])) 153 (z + 2265) (fun r h1 => r = none ∧ h1 = ax_hm mem0) := by
  refine ax_start (ls := [.ref 136, .float 0]) (u := 1) (by decide +kernel) (Nat.le_of_ble_eq_true rfl) (by omega) (by omega) rfl ?_
  refine ax_aload_n (j := 0) dX10_init_0 rfl rfl rfl ?_
  refine ax_objInit lkX10_1 wd_obj dX10_init_1 rfl (Nat.le_of_ble_eq_true rfl) (Nat.le_of_ble_eq_true rfl) ?_
  refine ax_aload_n (j := 0) dX10_init_4 rfl rfl rfl ?_
  refine ax_bipush (v := 8) dX10_init_5 (by decide) rfl ?_
  refine ct_newi (g' := (va_up (ax_hm mem0) 138 (ax_arr 0 81 (fun _ => 0)))) (N := 8) dX10_init_7 rfl (by decide) (by decide) (by decide) (by omega) (by omega) (by omega) (fun k hk => ct_up_ne (by omega)) ((ct_up_ne (by decide)).trans (ct_arr0 is137 (mem0_z (by decide) (by decide) (by decide) (by decide)))) ?_
  refine ct_putF (fs' := [.int 0, .ref 137, .null, .int 0, .null, .int 0, .int 0, .int 0, .int 0, .int 0, .int 0, .null, .null, .null, .int 0, .null, .null, .int 0, .null, .null, .null, .null, .int 0, .null, .null, .null, .null]) flX10_7 ffX10_7 rfl dX10_init_9 rfl (by omega) (Nat.le_of_ble_eq_true rfl) rfl rfl rfl ?_
  refine ax_aload_n (j := 0) dX10_init_12 rfl rfl rfl ?_
  refine ax_bipush (v := 81) dX10_init_13 (by decide) rfl ?_
  refine ct_newi (g' := (va_up (ax_hm mem0) 138 (ax_arr 0 81 (fun _ => 0)))) (N := 81) dX10_init_15 rfl (by decide) (by decide) (by decide) (by omega) (by omega) (by omega) (fun _ _ => rfl) ct_up_eq ?_
  refine ct_putF (fs' := [.int 0, .ref 137, .ref 138, .int 0, .null, .int 0, .int 0, .int 0, .int 0, .int 0, .int 0, .null, .null, .null, .int 0, .null, .null, .int 0, .null, .null, .null, .null, .int 0, .null, .null, .null, .null]) flX10_13 ffX10_13 rfl dX10_init_17 rfl (by omega) (Nat.le_of_ble_eq_true rfl) rfl rfl rfl ?_
  refine ax_aload_n (j := 0) dX10_init_20 rfl rfl rfl ?_
  refine ax_sipush (v := 240) dX10_init_21 (by decide) rfl ?_
  refine ct_newi (g' := (va_up (ax_hm mem0) 138 (ax_arr 0 81 (fun _ => 0)))) (N := 240) dX10_init_24 rfl (by decide) (by decide) (by decide) (by omega) (by omega) (by omega) (fun _ _ => rfl) ((ct_up_ne (by decide)).trans (ct_arr0 is139 (mem0_z (by decide) (by decide) (by decide) (by decide)))) ?_
  refine ct_putF (fs' := [.int 0, .ref 137, .ref 138, .int 0, .ref 139, .int 0, .int 0, .int 0, .int 0, .int 0, .int 0, .null, .null, .null, .int 0, .null, .null, .int 0, .null, .null, .null, .null, .int 0, .null, .null, .null, .null]) flX10_16 ffX10_16 rfl dX10_init_26 rfl (by omega) (Nat.le_of_ble_eq_true rfl) rfl rfl rfl ?_
  refine ax_aload_n (j := 0) dX10_init_29 rfl rfl rfl ?_
  refine ax_iconst (v := (-1)) dX10_init_30 (by decide) rfl ?_
  refine ct_put (fs' := [.int 0, .ref 137, .ref 138, .int 0, .ref 139, .int 0, .int (-1), .int 0, .int 0, .int 0, .int 0, .null, .null, .null, .int 0, .null, .null, .int 0, .null, .null, .null, .null, .int 0, .null, .null, .null, .null]) flX10_19  dX10_init_31 rfl (by omega) (Nat.le_of_ble_eq_true rfl) rfl rfl rfl ?_
  refine ax_aload_n (j := 0) dX10_init_34 rfl rfl rfl ?_
  refine ax_bipush (v := 8) dX10_init_35 (by decide) rfl ?_
  refine ct_newi (g' := (va_up (ax_hm mem0) 138 (ax_arr 0 81 (fun _ => 0)))) (N := 8) dX10_init_37 rfl (by decide) (by decide) (by decide) (by omega) (by omega) (by omega) (fun _ _ => rfl) ((ct_up_ne (by decide)).trans (ct_arr0 is140 (mem0_z (by decide) (by decide) (by decide) (by decide)))) ?_
  refine ct_putF (fs' := [.int 0, .ref 137, .ref 138, .int 0, .ref 139, .int 0, .int (-1), .int 0, .int 0, .int 0, .int 0, .ref 140, .null, .null, .int 0, .null, .null, .int 0, .null, .null, .null, .null, .int 0, .null, .null, .null, .null]) flX10_23 ffX10_23 rfl dX10_init_39 rfl (by omega) (Nat.le_of_ble_eq_true rfl) rfl rfl rfl ?_
  refine ax_aload_n (j := 0) dX10_init_42 rfl rfl rfl ?_
  refine ax_bipush (v := 8) dX10_init_43 (by decide) rfl ?_
  refine ct_newi (g' := (va_up (ax_hm mem0) 138 (ax_arr 0 81 (fun _ => 0)))) (N := 8) dX10_init_45 rfl (by decide) (by decide) (by decide) (by omega) (by omega) (by omega) (fun _ _ => rfl) ((ct_up_ne (by decide)).trans (ct_arr0 is141 (mem0_z (by decide) (by decide) (by decide) (by decide)))) ?_
  refine ct_putF (fs' := [.int 0, .ref 137, .ref 138, .int 0, .ref 139, .int 0, .int (-1), .int 0, .int 0, .int 0, .int 0, .ref 140, .ref 141, .null, .int 0, .null, .null, .int 0, .null, .null, .null, .null, .int 0, .null, .null, .null, .null]) flX10_26 ffX10_26 rfl dX10_init_47 rfl (by omega) (Nat.le_of_ble_eq_true rfl) rfl rfl rfl ?_
  refine ax_aload_n (j := 0) dX10_init_50 rfl rfl rfl ?_
  refine ax_bipush (v := 64) dX10_init_51 (by decide) rfl ?_
  refine ct_newz (N := 64) dX10_init_53 rfl (by decide) (by decide) (by decide) (by omega) (by omega) (by omega) ((ct_up_ne (by decide)).trans (ct_arr0 is142 (mem0_z (by decide) (by decide) (by decide) (by decide)))) ?_
  refine ct_putF (fs' := [.int 0, .ref 137, .ref 138, .int 0, .ref 139, .int 0, .int (-1), .int 0, .int 0, .int 0, .int 0, .ref 140, .ref 141, .ref 142, .int 0, .null, .null, .int 0, .null, .null, .null, .null, .int 0, .null, .null, .null, .null]) flX10_29 ffX10_29 rfl dX10_init_55 rfl (by omega) (Nat.le_of_ble_eq_true rfl) rfl rfl rfl ?_
  refine ax_aload_n (j := 0) dX10_init_58 rfl rfl rfl ?_
  refine ax_sipush (v := 1620) dX10_init_59 (by decide) rfl ?_
  refine ct_newi (g' := (va_up (ax_hm mem0) 138 (ax_arr 0 81 (fun _ => 0)))) (N := 1620) dX10_init_62 rfl (by decide) (by decide) (by decide) (by omega) (by omega) (by omega) (fun _ _ => rfl) ((ct_up_ne (by decide)).trans (ct_arr0 is143 (mem0_z (by decide) (by decide) (by decide) (by decide)))) ?_
  refine ct_putF (fs' := [.int 0, .ref 137, .ref 138, .int 0, .ref 139, .int 0, .int (-1), .int 0, .int 0, .int 0, .int 0, .ref 140, .ref 141, .ref 142, .int 0, .ref 143, .null, .int 0, .null, .null, .null, .null, .int 0, .null, .null, .null, .null]) flX10_33 ffX10_33 rfl dX10_init_64 rfl (by omega) (Nat.le_of_ble_eq_true rfl) rfl rfl rfl ?_
  refine ax_aload_n (j := 0) dX10_init_67 rfl rfl rfl ?_
  refine ax_bipush (v := 8) dX10_init_68 (by decide) rfl ?_
  refine ct_newi (g' := (va_up (ax_hm mem0) 138 (ax_arr 0 81 (fun _ => 0)))) (N := 8) dX10_init_70 rfl (by decide) (by decide) (by decide) (by omega) (by omega) (by omega) (fun _ _ => rfl) ((ct_up_ne (by decide)).trans (ct_arr0 is144 (mem0_z (by decide) (by decide) (by decide) (by decide)))) ?_
  refine ct_putF (fs' := [.int 0, .ref 137, .ref 138, .int 0, .ref 139, .int 0, .int (-1), .int 0, .int 0, .int 0, .int 0, .ref 140, .ref 141, .ref 142, .int 0, .ref 143, .ref 144, .int 0, .null, .null, .null, .null, .int 0, .null, .null, .null, .null]) flX10_36 ffX10_36 rfl dX10_init_72 rfl (by omega) (Nat.le_of_ble_eq_true rfl) rfl rfl rfl ?_
  refine ax_aload_n (j := 0) dX10_init_75 rfl rfl rfl ?_
  refine ax_bipush (v := 8) dX10_init_76 (by decide) rfl ?_
  refine ct_newi (g' := (va_up (ax_hm mem0) 138 (ax_arr 0 81 (fun _ => 0)))) (N := 8) dX10_init_78 rfl (by decide) (by decide) (by decide) (by omega) (by omega) (by omega) (fun _ _ => rfl) ((ct_up_ne (by decide)).trans (ct_arr0 is145 (mem0_z (by decide) (by decide) (by decide) (by decide)))) ?_
  refine ct_putF (fs' := [.int 0, .ref 137, .ref 138, .int 0, .ref 139, .int 0, .int (-1), .int 0, .int 0, .int 0, .int 0, .ref 140, .ref 141, .ref 142, .int 0, .ref 143, .ref 144, .int 0, .ref 145, .null, .null, .null, .int 0, .null, .null, .null, .null]) flX10_39 ffX10_39 rfl dX10_init_80 rfl (by omega) (Nat.le_of_ble_eq_true rfl) rfl rfl rfl ?_
  refine ax_aload_n (j := 0) dX10_init_83 rfl rfl rfl ?_
  refine ax_bipush (v := 8) dX10_init_84 (by decide) rfl ?_
  refine ct_newi (g' := (va_up (ax_hm mem0) 138 (ax_arr 0 81 (fun _ => 0)))) (N := 8) dX10_init_86 rfl (by decide) (by decide) (by decide) (by omega) (by omega) (by omega) (fun _ _ => rfl) ((ct_up_ne (by decide)).trans (ct_arr0 is146 (mem0_z (by decide) (by decide) (by decide) (by decide)))) ?_
  refine ct_putF (fs' := [.int 0, .ref 137, .ref 138, .int 0, .ref 139, .int 0, .int (-1), .int 0, .int 0, .int 0, .int 0, .ref 140, .ref 141, .ref 142, .int 0, .ref 143, .ref 144, .int 0, .ref 145, .ref 146, .null, .null, .int 0, .null, .null, .null, .null]) flX10_42 ffX10_42 rfl dX10_init_88 rfl (by omega) (Nat.le_of_ble_eq_true rfl) rfl rfl rfl ?_
  refine ax_aload_n (j := 0) dX10_init_91 rfl rfl rfl ?_
  refine ax_bipush (v := 8) dX10_init_92 (by decide) rfl ?_
  refine ct_newi (g' := (va_up (ax_hm mem0) 138 (ax_arr 0 81 (fun _ => 0)))) (N := 8) dX10_init_94 rfl (by decide) (by decide) (by decide) (by omega) (by omega) (by omega) (fun _ _ => rfl) ((ct_up_ne (by decide)).trans (ct_arr0 is147 (mem0_z (by decide) (by decide) (by decide) (by decide)))) ?_
  refine ct_putF (fs' := [.int 0, .ref 137, .ref 138, .int 0, .ref 139, .int 0, .int (-1), .int 0, .int 0, .int 0, .int 0, .ref 140, .ref 141, .ref 142, .int 0, .ref 143, .ref 144, .int 0, .ref 145, .ref 146, .ref 147, .null, .int 0, .null, .null, .null, .null]) flX10_45 ffX10_45 rfl dX10_init_96 rfl (by omega) (Nat.le_of_ble_eq_true rfl) rfl rfl rfl ?_
  refine ax_aload_n (j := 0) dX10_init_99 rfl rfl rfl ?_
  refine ax_bipush (v := 8) dX10_init_100 (by decide) rfl ?_
  refine ct_newi (g' := (va_up (ax_hm mem0) 138 (ax_arr 0 81 (fun _ => 0)))) (N := 8) dX10_init_102 rfl (by decide) (by decide) (by decide) (by omega) (by omega) (by omega) (fun _ _ => rfl) ((ct_up_ne (by decide)).trans (ct_arr0 is148 (mem0_z (by decide) (by decide) (by decide) (by decide)))) ?_
  refine ct_putF (fs' := [.int 0, .ref 137, .ref 138, .int 0, .ref 139, .int 0, .int (-1), .int 0, .int 0, .int 0, .int 0, .ref 140, .ref 141, .ref 142, .int 0, .ref 143, .ref 144, .int 0, .ref 145, .ref 146, .ref 147, .ref 148, .int 0, .null, .null, .null, .null]) flX10_48 ffX10_48 rfl dX10_init_104 rfl (by omega) (Nat.le_of_ble_eq_true rfl) rfl rfl rfl ?_
  refine ax_aload_n (j := 0) dX10_init_107 rfl rfl rfl ?_
  refine ax_bipush (v := 15) dX10_init_108 (by decide) rfl ?_
  refine ct_newi (g' := (va_up (ax_hm mem0) 138 (ax_arr 0 81 (fun _ => 0)))) (N := 15) dX10_init_110 rfl (by decide) (by decide) (by decide) (by omega) (by omega) (by omega) (fun _ _ => rfl) ((ct_up_ne (by decide)).trans (ct_arr0 is149 (mem0_z (by decide) (by decide) (by decide) (by decide)))) ?_
  refine ct_putF (fs' := [.int 0, .ref 137, .ref 138, .int 0, .ref 139, .int 0, .int (-1), .int 0, .int 0, .int 0, .int 0, .ref 140, .ref 141, .ref 142, .int 0, .ref 143, .ref 144, .int 0, .ref 145, .ref 146, .ref 147, .ref 148, .int 0, .ref 149, .null, .null, .null]) flX10_51 ffX10_51 rfl dX10_init_112 rfl (by omega) (Nat.le_of_ble_eq_true rfl) rfl rfl rfl ?_
  refine ax_aload_n (j := 0) dX10_init_115 rfl rfl rfl ?_
  refine ax_bipush (v := 15) dX10_init_116 (by decide) rfl ?_
  refine ct_newi (g' := (va_up (ax_hm mem0) 138 (ax_arr 0 81 (fun _ => 0)))) (N := 15) dX10_init_118 rfl (by decide) (by decide) (by decide) (by omega) (by omega) (by omega) (fun _ _ => rfl) ((ct_up_ne (by decide)).trans (ct_arr0 is150 (mem0_z (by decide) (by decide) (by decide) (by decide)))) ?_
  refine ct_putF (fs' := [.int 0, .ref 137, .ref 138, .int 0, .ref 139, .int 0, .int (-1), .int 0, .int 0, .int 0, .int 0, .ref 140, .ref 141, .ref 142, .int 0, .ref 143, .ref 144, .int 0, .ref 145, .ref 146, .ref 147, .ref 148, .int 0, .ref 149, .ref 150, .null, .null]) flX10_54 ffX10_54 rfl dX10_init_120 rfl (by omega) (Nat.le_of_ble_eq_true rfl) rfl rfl rfl ?_
  refine ax_aload_n (j := 0) dX10_init_123 rfl rfl rfl ?_
  refine ax_sipush (v := 164) dX10_init_124 (by decide) rfl ?_
  refine ct_newi (g' := (va_up (ax_hm mem0) 138 (ax_arr 0 81 (fun _ => 0)))) (N := 164) dX10_init_127 rfl (by decide) (by decide) (by decide) (by omega) (by omega) (by omega) (fun _ _ => rfl) ((ct_up_ne (by decide)).trans (ct_arr0 is151 (mem0_z (by decide) (by decide) (by decide) (by decide)))) ?_
  refine ct_putF (fs' := [.int 0, .ref 137, .ref 138, .int 0, .ref 139, .int 0, .int (-1), .int 0, .int 0, .int 0, .int 0, .ref 140, .ref 141, .ref 142, .int 0, .ref 143, .ref 144, .int 0, .ref 145, .ref 146, .ref 147, .ref 148, .int 0, .ref 149, .ref 150, .ref 151, .null]) flX10_57 ffX10_57 rfl dX10_init_129 rfl (by omega) (Nat.le_of_ble_eq_true rfl) rfl rfl rfl ?_
  refine ax_aload_n (j := 0) dX10_init_132 rfl rfl rfl ?_
  refine ax_iconst (v := 2) dX10_init_133 (by decide) rfl ?_
  refine ct_newz (N := 2) dX10_init_134 rfl (by decide) (by decide) (by decide) (by omega) (by omega) (by omega) ((ct_up_ne (by decide)).trans (ct_arr0 is152 (mem0_z (by decide) (by decide) (by decide) (by decide)))) ?_
  refine ct_putF (fs' := [.int 0, .ref 137, .ref 138, .int 0, .ref 139, .int 0, .int (-1), .int 0, .int 0, .int 0, .int 0, .ref 140, .ref 141, .ref 142, .int 0, .ref 143, .ref 144, .int 0, .ref 145, .ref 146, .ref 147, .ref 148, .int 0, .ref 149, .ref 150, .ref 151, .ref 152]) flX10_60 ffX10_60 rfl dX10_init_136 rfl (by omega) (Nat.le_of_ble_eq_true rfl) rfl rfl rfl ?_
  refine ax_iconst (v := 0) dX10_init_139 (by decide) rfl ?_
  refine ax_ist1 dX10_init_140 rfl rfl (Nat.le_of_ble_eq_true rfl) rfl ?_
  rw [ct_back ((ct_up_ne (by decide)).trans (by rw [ax_hm_obj is136]; rfl))]
  have e : (fun _ => 0 : Nat → Int32) = (fun k => if 16 ≤ k ∧ k < 16 + 0 then -1 else 0) := by
    funext k
    rw [if_neg (by omega)]
  rw [e]
  exact ct_model ⟨rfl, rfl⟩ 64 0 (by omega)

end CTI
