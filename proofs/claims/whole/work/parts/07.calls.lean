/-! ===== entry, return, calls, new cells, arraycopy ===== -/
def ax_ent : List Value → List Value
  | [] => []
  | .long x :: vs => .long x :: .float 0 :: ax_ent vs
  | v :: vs => v :: ax_ent vs
theorem ax_ent_args {G : ax_G} : ∀ (vs : List Value) (i k : Nat) (v : Value), (ax_ent vs)[k]? = some v → ax_nf v = true → (i + k, ax_v G v) ∈ lv_args i (vs.map (ax_v G))
  | [], i, k, v, h, _ => by simp [ax_ent] at h
  | w :: vs, i, k, v, h, hn => by
    have small : ∀ (hw : ax_sm w = true), ax_ent (w :: vs) = w :: ax_ent vs := by
      intro hw
      cases w <;> first | rfl | (simp [ax_sm] at hw)
    by_cases hw : ax_sm w = true
    · rw [small hw] at h
      have hc : ¬ (ax_v G w).category = 2 := by rw [ax_cat1 hw]; decide
      rw [List.map_cons]
      show _ ∈ (i, ax_v G w) :: lv_args (if (ax_v G w).category = 2 then i + 2 else i + 1) (vs.map (ax_v G))
      rw [if_neg hc]
      cases k with
      | zero =>
        rw [List.getElem?_cons_zero] at h
        cases h
        exact List.mem_cons_self
      | succ k =>
        rw [List.getElem?_cons_succ] at h
        have := ax_ent_args (G := G) vs (i + 1) k v h hn
        rw [show i + 1 + k = i + (k + 1) by omega] at this
        exact List.mem_cons_of_mem _ this
    · cases w with
      | long x =>
        rw [List.map_cons]
        show _ ∈ (i, Value.long x) :: lv_args (i + 2) (vs.map (ax_v G))
        change (Value.long x :: .float 0 :: ax_ent vs)[k]? = some v at h
        match k, h with
        | 0, h =>
          rw [List.getElem?_cons_zero] at h
          cases h
          exact List.mem_cons_self
        | 1, h =>
          rw [List.getElem?_cons_succ, List.getElem?_cons_zero] at h
          cases h
          simp [ax_nf] at hn
        | k + 2, h =>
          rw [List.getElem?_cons_succ, List.getElem?_cons_succ] at h
          have := ax_ent_args (G := G) vs (i + 2) k v h hn
          rw [show i + 2 + k = i + (k + 2) by omega] at this
          exact List.mem_cons_of_mem _ this
      | _ => exact absurd rfl hw
theorem ax_ent_len {G : ax_G} : ∀ (vs : List Value), (lg_sl (vs.map (ax_v G))).length = (ax_ent vs).length
  | [] => rfl
  | w :: vs => by
    have ih := ax_ent_len (G := G) vs
    cases w <;> simp [lg_sl, ax_v, Value.category, ax_ent] at ih ⊢ <;> omega
theorem ax_F_blind {G : ax_G} {n : Nat} {h : ax_H} {as : List Value} : FrameBlind (fun a U => a = (as.map (ax_v G)).toArray ∧ ax_R G n h U.heap ∧ ax_K G U) := fun a U g mk q => ⟨q.1, q.2.1, q.2.2.blind g mk a⟩
section AXC
variable {G : ax_G} {l : Launch} {M : ax_M} {d pc pc' : Nat} {ls st : List Value} {n z : Nat} {h : ax_H} {n' z' : Nat} {Q : Option Value → ax_H → Prop}
theorem ax_start {as : List Value} (hp : plainName M.1.cls = true) (hlen : (ax_ent as).length ≤ M.2.2.1) (hn : n ≤ n') (hz : z ≤ z') {u : Nat} (hls : ax_ent as ++ List.replicate u (.float 0) = ls)
    (k : AX G l M d 0 ls [] n z h n' z' Q) : AC G l d M as n z h n' z' Q := by
  refine ⟨⟨hn, hz⟩, ?_⟩
  refine Met.ofW (cc := M.2.1) (maxL := M.2.2.1) (ret := M.2.2.2) hp rfl ?_
  intro p e s m args below meth c s₁ B hml hv
  obtain ⟨rfl, hR, hK⟩ := hv
  have hL := lv_entry (as.map (ax_v G)) (n := M.2.2.1) (by rw [ax_ent_len]; exact hlen)
  rw [lg_entry_eq]
  generalize (lg_sl (as.map (ax_v G)) ++ List.replicate (M.2.2.1 - (lg_sl (as.map (ax_v G))).length) Slot.unset).toArray = la at hL ⊢
  have hL' : ax_L G la M.2.2.1 ls := by
    refine ⟨hL.1, hL.2.1, fun k v hk hn => ?_⟩
    rw [← hls] at hk
    by_cases hkl : k < (ax_ent as).length
    · rw [List.getElem?_append_left hkl] at hk
      have := ax_ent_args (G := G) as 0 k v hk hn
      rw [Nat.zero_add] at this
      exact hL.2.2 _ this
    · rw [List.getElem?_append_right (by omega)] at hk
      have h1 := List.mem_of_getElem? hk
      rw [List.eq_of_mem_replicate h1] at hn
      simp [ax_nf] at hn
  have w := k p e s m (as.map (ax_v G)).toArray below meth c (headSpec [Cond.code M.1 M.2.1 M.2.2.1 M.2.2.2] { frames := d, cells := n' - n, slots := z' - z, locals := 35 * d }).room s.heap [] 0 0 la
    ⟨B.exec, B.bytes, hml, B.returns, findClass_of_methodNamed B.named, B.notSynchronized, (name_of_methodNamed B.named B.method).1, hK⟩ (Nat.le_refl _) (Nat.le_refl _) hn hz (by rw [Nat.zero_add]; exact Nat.le_refl _) (by rw [Nat.zero_add]; exact Nat.le_refl _) hR va_S.rf hL'
  rw [Nat.zero_add, Nat.zero_add] at w
  exact w
/-- returns -/
theorem ax_ret_aux {r : Option Value} {s t : State} {H : Heap} {locs : List Loc} (hq : Q r h) (hR : ax_R G n h H) (hS : va_S (ax_A G) s.heap H locs) (ht : t.heap = H) (args : Array Value) : ax_Qc G n Q args s (.returned (r.map (ax_v G))) t :=
  ⟨⟨r, h, rfl, hq, by rw [ht]; exact hR⟩, hS.F ht⟩
theorem ax_ireturn {x : Int32} (hr : M.2.2.2 = some .int) (hd : decode M.2.1 pc = .ok (.ireturn, 1)) (hq : Q (some (.int x)) h) : AX G l M d pc ls [.int x] n z h n z Q := by
  intro p e s m args below meth c R H locs cells slots la C0 hd' hlo hn' hz hcl hsl hR hS hL
  obtain ⟨hx, hb, -, hret, hown, hlk, -, hK⟩ := id C0
  rw [Nat.sub_self, Nat.add_zero, Nat.sub_self, Nat.add_zero]
  exact W.iret (v := x) hx hb (hret.trans hr) (fun t ht _ => ax_ret_aux (r := some (.int x)) hq hR hS ht args) hS.2.2 hd hlk
theorem ax_zreturn {x : Int32} (hr : M.2.2.2 = some .boolean) (hd : decode M.2.1 pc = .ok (.ireturn, 1)) (hn : narrow .boolean (.int x) = .int x) (hq : Q (some (.int x)) h) : AX G l M d pc ls [.int x] n z h n z Q := by
  intro p e s m args below meth c R H locs cells slots la C0 hd' hlo hn' hz hcl hsl hR hS hL
  obtain ⟨hx, hb, -, hret, hown, hlk, -, hK⟩ := id C0
  rw [Nat.sub_self, Nat.add_zero, Nat.sub_self, Nat.add_zero]
  exact W.zret (v := x) hx hb (hret.trans hr) hn (fun t ht _ => ax_ret_aux (r := some (.int x)) hq hR hS ht args) hS.2.2 hd hlk
theorem ax_vreturn (hr : M.2.2.2 = none) (hd : decode M.2.1 pc = .ok (.return_, 1)) (hq : Q none h) : AX G l M d pc ls [] n z h n z Q := by
  intro p e s m args below meth c R H locs cells slots la C0 hd' hlo hn' hz hcl hsl hR hS hL
  obtain ⟨hx, hb, -, hret, hown, hlk, -, hK⟩ := id C0
  rw [Nat.sub_self, Nat.add_zero, Nat.sub_self, Nat.add_zero]
  exact W.vret hx hb (hret.trans hr) (fun t ht _ => ax_ret_aux (r := none) hq hR hS ht args) hS.2.2 hd hlk
theorem ax_areturn {v : Value} {rt : FieldType} (hr : M.2.2.2 = some rt) (hrt : (∃ n, rt = .object n) ∨ ∃ t, rt = .array t) (hv : v = .null ∨ ∃ a, v = .ref a) (hd : decode M.2.1 pc = .ok (.areturn, 1)) (hq : Q (some v) h) : AX G l M d pc ls [v] n z h n z Q := by
  intro p e s m args below meth c R H locs cells slots la C0 hd' hlo hn' hz hcl hsl hR hS hL
  obtain ⟨hx, hb, -, hret, hown, hlk, -, hK⟩ := id C0
  rw [Nat.sub_self, Nat.add_zero, Nat.sub_self, Nat.add_zero]
  refine W.aret (v := ax_v G v) hx hb (hret.trans hr) hrt ?_ (fun t ht _ => ax_ret_aux (r := some v) hq hR hS ht args) hS.2.2 hd hlk
  rcases hv with rfl | ⟨a, rfl⟩
  · exact Or.inl rfl
  · exact Or.inr ⟨_, rfl⟩
/-- behind a call -/
theorem ax_behind {M' : ax_M} {Q1 : Option Value → ax_H → Prop} {n1 z1 : Nat} {p : Program} {e : Env} {R : Room} {s : State} {m : MethodId} {args av : Array Value} {below : List Frame} {meth : Method} {c : Code} {H : Heap} {locs : List Loc} {cells slots : Nat} {la : Array Slot} {st0 : List Value} {Q' : State → Prop}
    (hr : va_Run p l e R s m args below meth c H locs cells slots (n1 - n) (z1 - z) (F0 m pc la st0) (st.map (ax_v G)) (ax_Qc G n1 Q1 av) (ax_A G)) (hS : va_S (ax_A G) s.heap H locs)
    (kk : ∀ (r : Option Value) (h1 : ax_H) (H1 : Heap) (locs1 : List Loc), Q1 r h1 → ax_R G n1 h1 H1 → va_S (ax_A G) s.heap H1 locs1 → W p l e R s m args below meth c H1 locs1 (cells + (n1 - n)) (slots + (z1 - z)) Q' (F0 m (pc + 3) la ((r.toList ++ st).map (ax_v G)))) : W p l e R s m args below meth c H locs cells slots Q' (F0 m pc la st0) := by
  intro T hT X
  obtain ⟨v, st₀, t, T', L, h0, X', hL, e1, e2, ⟨⟨r, h1, hv, hq, hR1⟩, hz, hk⟩, stp⟩ := hr T hT X
  cases hv
  rw [h0] at hz hk
  obtain ⟨t2, a1, b1⟩ := kk r h1 T'.heap (locs ++ L) hq (by rw [e1]; exact hR1) ⟨Nat.le_trans hS.1 (by rw [e1]; exact hz), fun q g1 g2 => by rw [e1, hk q (Nat.lt_of_lt_of_le g1 hS.1) g2]; exact hS.2.1 q g1 g2, fun q hq => by
      rcases List.mem_append.mp hq with g | g
      · exact hS.2.2 q g
      · exact hL q g⟩ T' rfl X'
  refine ⟨t2, stp t2 ?_, b1⟩
  have e3 : ((r.toList ++ st).map (ax_v G)) = (r.map (ax_v G)).toList ++ st.map (ax_v G) := by cases r <;> simp
  rw [e3] at a1
  exact a1
/-- what a callee is: its code in the tables, how many arguments -/
def ax_MK (M' : ax_M) (k : Nat) : Prop := Cond.code M'.1 M'.2.1 M'.2.2.1 M'.2.2.2 ∈ lw_tbl ∧ Cond.initialized M'.1.cls ∈ lw_tbl ∧ (M'.1.cls ≠ "java/lang/invoke/MethodHandle" ∧ M'.1.cls ≠ "java/lang/invoke/VarHandle" ∧ (parseMethodDescriptor M'.1.desc).map (fun d => d.parameters.length) = some k) ∧ M'.2.2.1 ≤ 16
def ax_MS (M' : ax_M) (k : Nat) : Prop := ax_MK M' k ∧ Cond.static M'.1 ∈ lw_tbl
def ax_MV (M' : ax_M) (k : Nat) : Prop := ax_MK M' k ∧ Cond.instanceMethod M'.1 ∈ lw_tbl ∧ Cond.selects M'.1.cls M'.1 M'.1 ∈ lw_tbl
def ax_MI (M' : ax_M) (k : Nat) : Prop := ax_MK M' k ∧ Cond.instanceMethod M'.1 ∈ lw_tbl ∧ M'.1.name = "<init>" ∧ M'.2.2.2 = none
def ax_LK (own : String) (idx : Nat) (M' : ax_M) : Prop := Cond.methodLink own idx M'.1 ∈ lw_tbl ∨ ∃ host, Cond.methodLinkNest own idx M'.1 host ∈ lw_tbl
theorem ax_sum {G : ax_G} : ∀ st : List Value, ((st.map (ax_v G)).map fun v => v.category).sum ≤ 2 * st.length
  | [] => by simp
  | v :: st => by
    have := ax_sum (G := G) st
    have h2 : (ax_v G v).category ≤ 2 := by rcases lv_cat (ax_v G v) with q | q <;> omega
    simp only [List.map_cons, List.sum_cons, List.length_cons]
    omega
theorem ax_pre {s : State} {H : Heap} {as : List Value} {locs : List Loc} (hK : ax_K G s) (hR : ax_R G n h H) (hS : va_S (ax_A G) s.heap H locs) : ∀ U : State, U.heap = H → s.WarmedH U.vm → ((as.map (ax_v G)).toArray = (as.map (ax_v G)).toArray ∧ ax_R G n h U.heap ∧ ax_K G U) :=
  fun U hU hW => ⟨rfl, by rw [hU]; exact hR, hK.to (locs := locs) hW (by rw [hU]; exact hS)⟩
theorem ax_words {M' : ax_M} {s : State} (hT : ax_T s) (hm : Cond.code M'.1 M'.2.1 M'.2.2.1 M'.2.2.2 ∈ lw_tbl) : ∀ w ∈ [Cond.code M'.1 M'.2.1 M'.2.2.1 M'.2.2.2], ∀ (a' : Array Value) (U : State), s.WarmedH U.vm → w.before a' U = true := by
  intro w hw a' U hW
  rw [List.mem_singleton.mp hw]
  exact (hT.warm hW).use hm rfl
theorem ax_callS {M' : ax_M} {k idx d' n1 z1 : Nat} {as : List Value} {Q1 : Option Value → ax_H → Prop} (hM : ax_MS M' k) (hl : ax_LK M.1.cls idx M') (hd : decode M.2.1 pc = .ok (.invokestatic idx, 3)) (hp : pc + 3 = pc') (hk : as.length = k) (hst : 2 * st.length ≤ 8) (hdd : d' + 1 ≤ d) (hn1 : n1 ≤ n') (hz1 : z1 ≤ z')
    (hc : AC G l d' M' as n z h n1 z1 Q1) (kk : ∀ (r : Option Value) (h1 : ax_H), Q1 r h1 → AX G l M d pc' ls (r.toList ++ st) n1 z1 h1 n' z' Q) : AX G l M d pc ls (as.reverse ++ st) n z h n' z' Q := by
  subst hp
  intro p e s m args below meth c R H locs cells slots la C0 hd' hlo hn' hz hcl hsl hR hS hL
  obtain ⟨hx, hb, hml, -, hown, -, -, hK⟩ := id C0
  obtain ⟨⟨hcode, hini, hpar, hmx⟩, hsta⟩ := hM
  obtain ⟨⟨hnn, hzz⟩, hMet⟩ := hc
  have ok : ∀ {w : Cond}, w ∈ lw_tbl → ax_ok w = true → w.before args s = true := fun hm ho => hK.1.use hm ho
  have hstk : (as.reverse ++ st).map (ax_v G) = (as.map (ax_v G)).reverse ++ st.map (ax_v G) := by rw [List.map_append, List.map_reverse]
  have hlen : ∀ sig, parseMethodDescriptor M'.1.desc = some sig → k = sig.parameters.length := fun sig q => by
    have h2 := hpar.2.2
    rw [q] at h2
    exact (Option.some.inj h2).symm
  have hroom : 35 * d' + 35 ≤ 35 * d := by omega
  have hrun : va_Run p l e R s m args below meth c H locs cells slots (n1 - n) (z1 - z) (F0 m pc la ((as.reverse ++ st).map (ax_v G))) (st.map (ax_v G)) (ax_Qc G n1 Q1 (as.map (ax_v G)).toArray) (ax_A G) := by
    rcases hl with hl | ⟨host, hl⟩
    · exact va_runS (Ts := []) (nL := M.2.2.1) (bytes := M'.2.1) (maxL := M'.2.2.1) (ret := M'.2.2.2) ⟨hx, hb, hml, hown, fun w hw => by cases hw⟩ hMet ⟨⟨rfl, rfl, by show d' + 1 ≤ R.frames; omega, by show 8 + (M'.2.2.1 + 11) + 35 * d' ≤ R.locals; omega, ax_words hK.1 hcode, List.mem_cons_self, ok hcode rfl, ok hini rfl, ⟨hpar.1, hpar.2.1⟩, hlen, ok hl rfl⟩, ok hsta rfl⟩ ⟨ax_F_blind, ax_pre hK hR hS⟩ rfl (by rw [List.length_map]; exact hk) hL.1 hstk (lv_room (Nat.le_trans (ax_sum st) hst)) hd ⟨by omega, by omega⟩
    · exact va_runSN (Ts := []) (nL := M.2.2.1) (bytes := M'.2.1) (maxL := M'.2.2.1) (ret := M'.2.2.2) ⟨hx, hb, hml, hown, fun w hw => by cases hw⟩ hMet ⟨⟨⟨rfl, rfl, by show d' + 1 ≤ R.frames; omega, by show 8 + (M'.2.2.1 + 11) + 35 * d' ≤ R.locals; omega, ax_words hK.1 hcode, List.mem_cons_self⟩, ok hcode rfl, ok hini rfl, ⟨hpar.1, hpar.2.1⟩, hlen, ok hl rfl⟩, ok hsta rfl, trivial⟩ ⟨ax_F_blind, ax_pre hK hR hS⟩ rfl (by rw [List.length_map]; exact hk) hL.1 hstk (lv_room (Nat.le_trans (ax_sum st) hst)) hd ⟨by omega, by omega⟩
  refine ax_behind (M' := M') hrun hS (fun r h1 H1 locs1 hq hR1 hS1 => ?_)
  have w := kk r h1 hq p e s m args below meth c R H1 locs1 (cells + (n1 - n)) (slots + (z1 - z)) la C0 hd' hlo hn1 hz1 (by omega) (by omega) hR1 hS1 hL
  rw [show cells + (n1 - n) + (n' - n1) = cells + (n' - n) by omega, show slots + (z1 - z) + (z' - z1) = slots + (z' - z) by omega] at w
  exact w
theorem ax_callV {M' : ax_M} {k idx d' n1 z1 b ci : Nat} {fs as : List Value} {T : u_T} {N : Nat} {Q1 : Option Value → ax_H → Prop} (hM : ax_MV M' k) (hl : ax_LK M.1.cls idx M') (hd : decode M.2.1 pc = .ok (.invokevirtual idx, 3)) (hp : pc + 3 = pc') (hb : b < n) (hcb : h b = ax_obj ci fs) (hci : vwCl[ci]? = some (M'.1.cls, T, N)) (hk : as.length = k) (hst : 2 * st.length ≤ 8) (hdd : d' + 1 ≤ d) (hn1 : n1 ≤ n') (hz1 : z1 ≤ z')
    (hc : AC G l d' M' (.ref b :: as) n z h n1 z1 Q1) (kk : ∀ (r : Option Value) (h1 : ax_H), Q1 r h1 → AX G l M d pc' ls (r.toList ++ st) n1 z1 h1 n' z' Q) : AX G l M d pc ls (as.reverse ++ .ref b :: st) n z h n' z' Q := by
  subst hp
  intro p e s m args below meth c R H locs cells slots la C0 hd' hlo hn' hz hcl hsl hR hS hL
  obtain ⟨hx, hbc, hml, -, hown, -, -, hK⟩ := id C0
  obtain ⟨⟨hcode, hini, hpar, hmx⟩, hins, hsel⟩ := hM
  obtain ⟨⟨hnn, hzz⟩, hMet⟩ := hc
  have ok : ∀ {w : Cond}, w ∈ lw_tbl → ax_ok w = true → w.before args s = true := fun hm ho => hK.1.use hm ho
  have hstk : (as.reverse ++ .ref b :: st).map (ax_v G) = (as.map (ax_v G)).reverse ++ .ref (ax_gB G + b) :: st.map (ax_v G) := by rw [List.map_append, List.map_reverse]; rfl
  have hlen : ∀ sig, parseMethodDescriptor M'.1.desc = some sig → k = sig.parameters.length := fun sig q => by
    have h2 := hpar.2.2
    rw [q] at h2
    exact (Option.some.inj h2).symm
  have hrecv : ∃ cell : Cell, H[ax_gB G + b]? = some cell ∧ cell.vm.isStatics = false ∧ s.vm.findClass M'.1.cls = some cell.cls := va_recv hK.2.1 hR.1 (ci := ci) (q0 := b) (fs := fs.map (ax_v G)) hci (by rw [ax_w_get hb, hcb]; rfl)
  have hroom : 35 * d' + 35 ≤ 35 * d := by omega
  have hrun : va_Run p l e R s m args below meth c H locs cells slots (n1 - n) (z1 - z) (F0 m pc la ((as.reverse ++ .ref b :: st).map (ax_v G))) (st.map (ax_v G)) (ax_Qc G n1 Q1 (Value.ref (ax_gB G + b) :: as.map (ax_v G)).toArray) (ax_A G) := by
    rcases hl with hl | ⟨host, hl⟩
    · exact va_runV (C := M'.1.cls) (Ts := []) (nL := M.2.2.1) (bytes := M'.2.1) (maxL := M'.2.2.1) (ret := M'.2.2.2) ⟨hx, hbc, hml, hown, fun w hw => by cases hw⟩ hMet ⟨⟨rfl, rfl, by show d' + 1 ≤ R.frames; omega, by show 8 + (M'.2.2.1 + 11) + 35 * d' ≤ R.locals; omega, ax_words hK.1 hcode, List.mem_cons_self, ok hcode rfl, ok hini rfl, ⟨hpar.1, hpar.2.1⟩, hlen, ok hl rfl⟩, ok hins rfl, ok hsel rfl⟩ ⟨ax_F_blind, hrecv, ax_pre (as := .ref b :: as) hK hR hS⟩ rfl (by rw [List.length_map]; exact hk) hL.1 hstk (lv_room (Nat.le_trans (ax_sum st) hst)) hd ⟨by omega, by omega⟩
    · exact va_runVN (C := M'.1.cls) (Ts := []) (nL := M.2.2.1) (bytes := M'.2.1) (maxL := M'.2.2.1) (ret := M'.2.2.2) ⟨hx, hbc, hml, hown, fun w hw => by cases hw⟩ hMet ⟨⟨⟨rfl, rfl, by show d' + 1 ≤ R.frames; omega, by show 8 + (M'.2.2.1 + 11) + 35 * d' ≤ R.locals; omega, ax_words hK.1 hcode, List.mem_cons_self⟩, ok hcode rfl, ok hini rfl, ⟨hpar.1, hpar.2.1⟩, hlen, ok hl rfl⟩, ok hins rfl, ok hsel rfl⟩ ⟨ax_F_blind, hrecv, ax_pre (as := .ref b :: as) hK hR hS⟩ rfl (by rw [List.length_map]; exact hk) hL.1 hstk (lv_room (Nat.le_trans (ax_sum st) hst)) hd ⟨by omega, by omega⟩
  refine ax_behind (M' := M') hrun hS (fun r h1 H1 locs1 hq hR1 hS1 => ?_)
  have w := kk r h1 hq p e s m args below meth c R H1 locs1 (cells + (n1 - n)) (slots + (z1 - z)) la C0 hd' hlo hn1 hz1 (by omega) (by omega) hR1 hS1 hL
  rw [show cells + (n1 - n) + (n' - n1) = cells + (n' - n) by omega, show slots + (z1 - z) + (z' - z1) = slots + (z' - z) by omega] at w
  exact w
theorem ax_callI {M' : ax_M} {k idx d' n1 z1 b : Nat} {as : List Value} {Q1 : Option Value → ax_H → Prop} (hM : ax_MI M' k) (hl : ax_LK M.1.cls idx M') (hd : decode M.2.1 pc = .ok (.invokespecial idx, 3)) (hp : pc + 3 = pc') (hk : as.length = k) (hst : 2 * st.length ≤ 8) (hdd : d' + 1 ≤ d) (hn1 : n1 ≤ n') (hz1 : z1 ≤ z')
    (hc : AC G l d' M' (.ref b :: as) n z h n1 z1 Q1) (kk : ∀ (r : Option Value) (h1 : ax_H), Q1 r h1 → AX G l M d pc' ls (r.toList ++ st) n1 z1 h1 n' z' Q) : AX G l M d pc ls (as.reverse ++ .ref b :: st) n z h n' z' Q := by
  subst hp
  intro p e s m args below meth c R H locs cells slots la C0 hd' hlo hn' hz hcl hsl hR hS hL
  obtain ⟨hx, hbc, hml, -, hown, -, -, hK⟩ := id C0
  obtain ⟨⟨hcode, hini, hpar, hmx⟩, hins, hnm, hrn⟩ := hM
  obtain ⟨⟨hnn, hzz⟩, hMet⟩ := hc
  have ok : ∀ {w : Cond}, w ∈ lw_tbl → ax_ok w = true → w.before args s = true := fun hm ho => hK.1.use hm ho
  have hstk : (as.reverse ++ .ref b :: st).map (ax_v G) = (as.map (ax_v G)).reverse ++ .ref (ax_gB G + b) :: st.map (ax_v G) := by rw [List.map_append, List.map_reverse]; rfl
  have hlen : ∀ sig, parseMethodDescriptor M'.1.desc = some sig → k = sig.parameters.length := fun sig q => by
    have h2 := hpar.2.2
    rw [q] at h2
    exact (Option.some.inj h2).symm
  rw [hrn] at hcode
  rw [hrn] at hMet
  have hroom : 35 * d' + 35 ≤ 35 * d := by omega
  have hwd : ∀ w ∈ [Cond.code M'.1 M'.2.1 M'.2.2.1 none], ∀ (a' : Array Value) (U : State), s.WarmedH U.vm → w.before a' U = true := by
    intro w hw a' U hW
    rw [List.mem_singleton.mp hw]
    exact (hK.1.warm hW).use hcode rfl
  have hrun : va_Run p l e R s m args below meth c H locs cells slots (n1 - n) (z1 - z) (F0 m pc la ((as.reverse ++ .ref b :: st).map (ax_v G))) (st.map (ax_v G)) (ax_Qc G n1 Q1 (Value.ref (ax_gB G + b) :: as.map (ax_v G)).toArray) (ax_A G) := by
    rcases hl with hl | ⟨host, hl⟩
    · exact va_runI (Ts := []) (nL := M.2.2.1) (bytes := M'.2.1) (maxL := M'.2.2.1) ⟨hx, hbc, hml, hown, fun w hw => by cases hw⟩ hMet ⟨⟨rfl, rfl, by show d' + 1 ≤ R.frames; omega, by show 8 + (M'.2.2.1 + 11) + 35 * d' ≤ R.locals; omega, hwd, List.mem_cons_self, ok hcode rfl, ok hini rfl, ⟨hpar.1, hpar.2.1⟩, hlen, ok hl rfl⟩, hnm, ok hins rfl⟩ ⟨ax_F_blind, ax_pre (as := .ref b :: as) hK hR hS⟩ rfl (by rw [List.length_map]; exact hk) hL.1 hstk (lv_room (Nat.le_trans (ax_sum st) hst)) hd ⟨by omega, by omega⟩
    · exact va_runIN (Ts := []) (nL := M.2.2.1) (bytes := M'.2.1) (maxL := M'.2.2.1) ⟨hx, hbc, hml, hown, fun w hw => by cases hw⟩ hMet ⟨⟨⟨rfl, rfl, by show d' + 1 ≤ R.frames; omega, by show 8 + (M'.2.2.1 + 11) + 35 * d' ≤ R.locals; omega, hwd, List.mem_cons_self⟩, ok hcode rfl, ok hini rfl, ⟨hpar.1, hpar.2.1⟩, hlen, ok hl rfl⟩, hnm, ok hins rfl⟩ ⟨ax_F_blind, ax_pre (as := .ref b :: as) hK hR hS⟩ rfl (by rw [List.length_map]; exact hk) hL.1 hstk (lv_room (Nat.le_trans (ax_sum st) hst)) hd ⟨by omega, by omega⟩
  refine ax_behind (M' := M') hrun hS (fun r h1 H1 locs1 hq hR1 hS1 => ?_)
  have w := kk r h1 hq p e s m args below meth c R H1 locs1 (cells + (n1 - n)) (slots + (z1 - z)) la C0 hd' hlo hn1 hz1 (by omega) (by omega) hR1 hS1 hL
  rw [show cells + (n1 - n) + (n' - n1) = cells + (n' - n) by omega, show slots + (z1 - z) + (z' - z1) = slots + (z' - z) by omega] at w
  exact w
end AXC
