/-! THE CLAIM OUT OF ONE WALK OF THE LAW'S BODY. Your part is whole_start (and what it stands on); all else here is the same for every law, but numbers. -/
def R_law : String := "ParadeRowLaw"
def lw_P (b : Addr) (xs : List Int32) (args : Array Value) (s : State) : Prop := args = #[.ref b] ∧ s.IntsAt b xs ∧ xs.length ≤ 384 ∧ (Jvm.Cond.and given_1 narrow_1).before args s = true
def lw_Q (_ : Array Value) (s : State) (o : Outcome) (t : State) : Prop := o = .returned (some (.int 1)) ∧ Framed s o t [] 600000 7302250
def lw_Z (below : List Frame) (a : Array Value) (s : State) : State → Prop := fun t => ∃ o, t.status = .running ∧ Ended t below o ∧ lw_Q a s o t
/-- the law's own end, with 1 on the stack, nothing written that was there before, its room as the claim has it -/
theorem lw_ret {p : Program} {l : Launch} {e : Env} {s : State} {m : MethodId} {below : List Frame} {meth : Method} {c : Code} {b : Nat} (hx : p.tables.exec = Jvm.exec) (hb : c.code = code) (hr : meth.sig.returnType = ret) (hlocks : meth.locks = false) {pc : Nat} {H : Heap} {ls : Array Slot} (hdg : decode code pc = .ok (.ireturn, 1)) : W p l e room_1 s m #[Value.ref b] below meth c H [] 600000 7302250 (lw_Z below #[Value.ref b] s) (F0 m pc ls [.int 1]) := by
  intro T hT X
  obtain ⟨fs, hret, hrun, hended, hW, hframe⟩ := X.leave (v := some (.int 1)) (hlocks := hlocks) (fun h => by rw [hr] at h; cases h)
  have hmeth' : T.vm.method? m = some meth := X.method'
  refine ⟨T.setFrames fs, ?_, .returned (some (.int 1)), hrun, hended, rfl, ⟨_, rfl⟩, hW, hframe⟩
  jvm_step X.here [X.here.top, hx, hb, hdg, hmeth', hr, ret, narrow_b1]
  (try refine ⟨rfl, ?_⟩); (try refine ⟨rfl, ?_⟩)
  first | (intro acts; rw [hret _ acts rfl rfl rfl]) | rw [hret _ _ rfl rfl rfl]
  exact Steps.refl _
/-- what holds at the law's entry: the machine, the code, the tables' words (any of lw_tbl by 'hts w (by decide +kernel)'), the script of L ints xs at the cell b, what the Statement gives of the start (any of its parts by flat_of_before) -/
def lw_At (p : Program) (s : State) (m : MethodId) (meth : Method) (c : Code) (b L : Nat) (xs : Nat → Int32) : Prop :=
  p.tables.exec = Jvm.exec ∧ c.code = code ∧ meth.sig.returnType = ret ∧ c.maxLocals = 4 ∧ s.vm.findClass R_law = some m.cls ∧ (∀ w ∈ lw_tbl, w.before #[Value.ref b] s = true) ∧ va_X b L xs s s.heap ∧ b < s.heap.size ∧ meth.locks = false ∧ (Jvm.Cond.and given_1 narrow_1).before #[Value.ref b] s = true
/-! ===== from the law's own judgement to the skeleton's ===== -/
theorem lw_fin {below : List Frame} {a : Array Value} {s t : State} {mc ms : Nat} {G : ax_G} (hB : ax_gB G = s.heap.size) (h : MQ below (ax_Qc G 153 lwQ) a s mc ms (ax_A G) t) (hmc : mc ≤ 600000) (hms : ms ≤ 7302250) : lw_Z below a s t := by
  obtain ⟨o, h1, h2, ⟨⟨r, h', ho, hq, -⟩, -⟩, L, hF, hL⟩ := h
  have hq' : r = some (.int 1) := hq
  subst hq'
  obtain ⟨f1, f2, f3⟩ := hF
  exact ⟨o, h1, h2, ho, f1, f2, f3.weaken (fun x hx hlt => absurd (show ax_gB G ≤ x.base from hL x hx) (by rw [hB]; exact Nat.not_le.mpr hlt)) hmc hms⟩
theorem lw_arr {s : State} {ty : FieldType} {A : Array Value} (hty : ∀ C, ty ≠ .object C) (h : (Cond.arrayClass ty).before A s = true) : ∃ cA : ClassId, ArrOfT s cA ty ∧ va_RA s cA ty := by
  obtain ⟨cA, kA, comp, hfind, hk, hkind⟩ := Cond.arrayClass_spec h
  refine ⟨cA, fun n z => ⟨fun k h => (by cases h), kA, hk, comp, hkind⟩, ?_⟩
  unfold va_RA
  split
  · exact absurd rfl (hty _)
  · exact hfind
theorem lw_arq {s : State} {C : String} {A : Array Value} (h : (Cond.arrayOver (.object C)).before A s = true) : ∃ cA : ClassId, ArrOfT s cA (.object C) ∧ va_RA s cA (.object C) := by
  obtain ⟨comp, cA, kA, hcomp, hidx, hkA, hkindA, hnameA⟩ := Cond.arrayOver_spec h
  exact ⟨cA, fun n z => ⟨fun k h => (by cases h), kA, hkA, comp, hkindA⟩, kA, comp, hkA, hkindA, hcomp, hnameA⟩
theorem lw_inst {own : String} {idx ci N : Nat} {fs : List Value} {C : String} {T : u_T} (h : ax_N own idx ci N fs) (hc : vwCl[ci]? = some (C, T, N)) : Cond.instantiable C N ∈ lw_tbl := by
  obtain ⟨C', T', ty0, g1, g2, g3, g4, g5, g6, g7⟩ := h
  cases (Option.some.inj (g1.symm.trans hc))
  exact g5
theorem start_of {I : ax_Me → Prop} (h0 : I mem0) (hS : ∀ (G : ax_G) (l : Launch), STS G l I) {p : Program} {e : Env} {s : State} {m : MethodId} {below : List Frame} {meth : Method} {c : Code} (l : Launch) {b L : Nat} {xs : Nat → Int32} (hL : L ≤ 384) (C0 : lw_At p s m meth c b L xs) : W p l e room_1 s m #[Value.ref b] below meth c s.heap [] 0 0 (lw_Z below #[Value.ref b] s) (entryFrame m ([Value.ref b] : List Value).toArray 4) := by
  obtain ⟨hx, hb, hr, hml, hown, hts, hX, hbl, hlocks, hgv⟩ := id C0
  have hT : ax_T s := fun w hm ho => va_tabs (ax_ok_tab ho) rfl (hts w hm)
  obtain ⟨c0, i0, k0⟩ := u_known (C := RX0) (T := TX0) (N := 3) (n := 3) hts inX0 (hts _ (lw_inst nwX9_40 rfl))
  obtain ⟨c1, i1, k1⟩ := u_known (C := RX1) (T := TX1) (N := 1) (n := 1) hts inX1 (hts _ (lw_inst nwX9_47 rfl))
  obtain ⟨c2, i2, k2⟩ := u_known (C := RX3) (T := TX3) (N := 3) (n := 3) hts inX3 (hts _ (lw_inst nwX9_54 rfl))
  obtain ⟨c3, i3, k3⟩ := u_known (C := RX4) (T := TX4) (N := 3) (n := 3) hts inX4 (hts _ (lw_inst nwX9_26 rfl))
  obtain ⟨c4, i4, k4⟩ := u_known (C := RX5) (T := TX5) (N := 6) (n := 6) hts inX5 (hts _ (lw_inst nwX9_16 rfl))
  obtain ⟨c5, i5, k5⟩ := u_known (C := RX7) (T := TX7) (N := 5) (n := 5) hts inX7 (hts _ (lw_inst nwX9_33 rfl))
  obtain ⟨c6, i6, k6⟩ := u_known (C := RX8) (T := TX8) (N := 6) (n := 6) hts inX8 (hts _ (lw_inst nwX9_7 rfl))
  obtain ⟨c7, i7, k7⟩ := u_known (C := RX9) (T := TX9) (N := 9) (n := 9) hts inX9 (hts _ (lw_inst nwL_7 rfl))
  obtain ⟨c8, i8, k8⟩ := u_known (C := RX10) (T := TX10) (N := 27) (n := 27) hts inX10 (hts _ (lw_inst nwL_10 rfl))
  obtain ⟨dC, dI, hKc⟩ : ∃ (dC : Nat → ClassId) (dI : Nat → Nat → Nat), ∀ (k : Nat) (q : vw_C), vwCl[k]? = some q → u_Kn s q.1 q.2.1 q.2.2 (dC k) (dI k) := by
    refine ⟨fun k => if k = 0 then c0 else if k = 1 then c1 else if k = 2 then c2 else if k = 3 then c3 else if k = 4 then c4 else if k = 5 then c5 else if k = 6 then c6 else if k = 7 then c7 else c8, fun k => if k = 0 then i0 else if k = 1 then i1 else if k = 2 then i2 else if k = 3 then i3 else if k = 4 then i4 else if k = 5 then i5 else if k = 6 then i6 else if k = 7 then i7 else i8, ?_⟩
    intro k q hq
    match k, hq with
    | 0, hq => cases hq; exact k0
    | 1, hq => cases hq; exact k1
    | 2, hq => cases hq; exact k2
    | 3, hq => cases hq; exact k3
    | 4, hq => cases hq; exact k4
    | 5, hq => cases hq; exact k5
    | 6, hq => cases hq; exact k6
    | 7, hq => cases hq; exact k7
    | 8, hq => cases hq; exact k8
    | k + 9, hq => exact absurd hq (by simp [vwCl])
  have hA0 : (Cond.arrayClass .int).before #[Value.ref b] s = true := hts _ (by decide +kernel)
  have hA1 : (Cond.arrayClass .boolean).before #[Value.ref b] s = true := hts _ (by decide +kernel)
  have hA2 : (Cond.arrayOver (.object RX5)).before #[Value.ref b] s = true := hts _ (by decide +kernel)
  obtain ⟨a0, r0⟩ := lw_arr (fun C h => by cases h) hA0
  obtain ⟨a1, r1⟩ := lw_arr (fun C h => by cases h) hA1
  obtain ⟨a2, r2⟩ := lw_arq hA2
  obtain ⟨G, eG⟩ : ∃ G : ax_G, G = ((dC, dI), s.heap.size, b, L, xs, fun k => if k = 0 then a0 else if k = 1 then a1 else a2) := ⟨_, rfl⟩
  have hK : ax_K G s := by
    rw [eG]
    refine ⟨hT, ⟨hKc, fun k q hq => ?_⟩, ⟨hA0, hA1, va_AO.of hA2⟩, hX, hbl, Nat.le_refl _⟩
    match k, hq with
    | 0, hq => cases hq; exact r0
    | 1, hq => cases hq; exact r1
    | 2, hq => cases hq; exact r2
    | k + 3, hq => exact absurd hq (by simp [ax_tys])
  have hB : ax_gB G = s.heap.size := by rw [eG]
  have hGL : ax_gL G = L := by rw [eG]
  have hGb : ax_gb G = b := by rw [eG]
  have hl := lv_entry ([.ref b]) (n := 4) (Nat.le_of_ble_eq_true rfl)
  rw [lg_entry_eq]
  generalize (lg_sl ([.ref b]) ++ List.replicate (4 - (lg_sl ([.ref b])).length) Slot.unset).toArray = la at hl ⊢
  have hl : lv_has la 4 [(0, .ref b)] := hl
  have hLa : ax_L G la 4 [.double 0, .float 0, .float 0, .float 0] := by
    refine ⟨hl.1, hl.2.1, fun k v hk hn => ?_⟩
    match k, hk with
    | 0, hk =>
      cases hk
      show la[0]? = some (.val (.ref (ax_gb G)))
      rw [hGb]
      exact hl.2.2 (0, .ref b) List.mem_cons_self
    | 1, hk => cases hk; simp [ax_nf] at hn
    | 2, hk => cases hk; simp [ax_nf] at hn
    | 3, hk => cases hk; simp [ax_nf] at hn
    | k + 4, hk => simp at hk
  have hR : ax_R G 0 (ax_hm mem0) s.heap := by
    refine ⟨fun k q hk => ?_, by rw [hB]; rfl⟩
    simp [ax_w] at hk
  have w := law_go (nm := meth.name) (h := ax_hm mem0) (hS G l) h0 (by rw [hGL]; omega) p e s m #[Value.ref b] below meth c room_1 s.heap [] 0 0 la ⟨hx, hb, hml, hr, hown, hlocks, rfl, hK⟩ (by decide) (by decide) (by decide) (by decide) (by decide) (by decide) hR va_S.rf hLa
  intro T hT' X
  obtain ⟨t, s1, s2⟩ := w T hT' X
  exact ⟨t, s1, lw_fin hB s2 (by decide) (by decide)⟩
