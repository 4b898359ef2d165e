theorem lmX4_33 : Cond.methodLink RX4 33 yJ9_min_7cf53 ∈ lw_tbl := (tb_at (i := 410) (by decide +kernel))
theorem lmX2_50 : Cond.methodLink RX2 50 yJ9_min_7cf53 ∈ lw_tbl := (tb_at (i := 667) (by decide +kernel))
theorem lmX2_55 : Cond.methodLink RX2 55 yJ9_max_7cf53 ∈ lw_tbl := (tb_at (i := 668) (by decide +kernel))
section AXMM
variable {G : ax_G} {l : Launch} {M : ax_M} {d pc pc' : Nat} {ls st : List Value} {n z : Nat} {h : ax_H} {n' z' : Nat} {Q : Option Value → ax_H → Prop}
theorem ax_mmax {idx : Nat} {x y : Int32} (hl : Cond.methodLink M.1.cls idx yJ9_max_7cf53 ∈ lw_tbl) (hd : decode M.2.1 pc = .ok (.invokestatic idx, 3)) (hp : pc + 3 = pc') (hst : 2 * st.length ≤ 8) (hdd : 1 ≤ d) (kk : AX G l M d pc' ls (.int (if x < y then y else x) :: st) n z h n' z' Q) : AX G l M d pc ls (.int y :: .int x :: st) n z h n' z' Q := by
  subst hp
  intro p e s m args below meth c R H locs cells slots la C0 hd' hlo hn' hz hcl hsl hR hS hL
  obtain ⟨hx, hb, hml, -, hown, -, -, hK⟩ := id C0
  have hsum := ax_sum (G := G) st
  exact va_mmax hx hb (hml.trans hL.1.symm) hown (hK.1.use hl rfl) (hK.1.use ksJ9_max_7cf53.2 rfl) (hK.1.use ksJ9_max_7cf53.1.2.1 rfl) (hK.1.use ksJ9_max_7cf53.1.1 rfl) (by omega) (by omega) (by omega) (by omega) hd (kk p e s m args below meth c R H locs cells slots la C0 hd' hlo hn' hz hcl hsl hR hS hL)
theorem ax_mmin {idx : Nat} {x y : Int32} (hl : Cond.methodLink M.1.cls idx yJ9_min_7cf53 ∈ lw_tbl) (hd : decode M.2.1 pc = .ok (.invokestatic idx, 3)) (hp : pc + 3 = pc') (hst : 2 * st.length ≤ 8) (hdd : 1 ≤ d) (kk : AX G l M d pc' ls (.int (if y < x then y else x) :: st) n z h n' z' Q) : AX G l M d pc ls (.int y :: .int x :: st) n z h n' z' Q := by
  subst hp
  intro p e s m args below meth c R H locs cells slots la C0 hd' hlo hn' hz hcl hsl hR hS hL
  obtain ⟨hx, hb, hml, -, hown, -, -, hK⟩ := id C0
  have hsum := ax_sum (G := G) st
  exact va_mmin hx hb (hml.trans hL.1.symm) hown (hK.1.use hl rfl) (hK.1.use ksJ9_min_7cf53.2 rfl) (hK.1.use ksJ9_min_7cf53.1.2.1 rfl) (hK.1.use ksJ9_min_7cf53.1.1 rfl) (by omega) (by omega) (by omega) (by omega) hd (kk p e s m args below meth c R H locs cells slots la C0 hd' hlo hn' hz hcl hsl hR hS hL)
end AXMM
