/-! ===== calls over the memory, by the number of arguments ===== -/
section AXD
variable {G : ax_G} {l : Launch} {M : ax_M} {d pc pc' : Nat} {ls st : List Value} {mem mem' : ax_Me} {Q : Option Value → ax_H → Prop}
theorem ad_S0 {M' : ax_M} {idx d' : Nat} {v : Value} (hM : ax_MS M' 0) (hl : ax_LK M.1.cls idx M') (hd : decode M.2.1 pc = .ok (.invokestatic idx, 3)) (hp : pc + 3 = pc') (hst : 2 * st.length ≤ 8) (hdd : d' + 1 ≤ d) (hc : AD G l d' M' [] mem (some v) mem') (kk : AX G l M d pc' ls (v :: st) 153 0 (ax_hm mem') 153 0 Q) : AX G l M d pc ls (st) 153 0 (ax_hm mem) 153 0 Q :=
  ax_callS (as := []) hM hl hd hp rfl hst hdd (Nat.le_refl _) (Nat.le_refl _) hc (fun r h1 q => by obtain ⟨rfl, rfl⟩ := q; exact kk)
theorem ad_V0 {M' : ax_M} {idx d' b ci : Nat} {q : List (Option Nat)} {T : u_T} {N : Nat} {v : Value} (hM : ax_MV M' 0) (hl : ax_LK M.1.cls idx M') (hd : decode M.2.1 pc = .ok (.invokevirtual idx, 3)) (hp : pc + 3 = pc') (hs : ax_is b (ax_sO ci q)) (hci : vwCl[ci]? = some (M'.1.cls, T, N)) (hst : 2 * st.length ≤ 8) (hdd : d' + 1 ≤ d) (hc : AD G l d' M' (.ref b :: []) mem (some v) mem') (kk : AX G l M d pc' ls (v :: st) 153 0 (ax_hm mem') 153 0 Q) : AX G l M d pc ls (.ref b :: st) 153 0 (ax_hm mem) 153 0 Q :=
  ax_callV (as := []) hM hl hd hp hs.1 (ax_hm_obj hs) hci rfl hst hdd (Nat.le_refl _) (Nat.le_refl _) hc (fun r h1 q => by obtain ⟨rfl, rfl⟩ := q; exact kk)
theorem ad_S0v {M' : ax_M} {idx d' : Nat} (hM : ax_MS M' 0) (hl : ax_LK M.1.cls idx M') (hd : decode M.2.1 pc = .ok (.invokestatic idx, 3)) (hp : pc + 3 = pc') (hst : 2 * st.length ≤ 8) (hdd : d' + 1 ≤ d) (hc : AD G l d' M' [] mem none mem') (kk : AX G l M d pc' ls st 153 0 (ax_hm mem') 153 0 Q) : AX G l M d pc ls (st) 153 0 (ax_hm mem) 153 0 Q :=
  ax_callS (as := []) hM hl hd hp rfl hst hdd (Nat.le_refl _) (Nat.le_refl _) hc (fun r h1 q => by obtain ⟨rfl, rfl⟩ := q; exact kk)
theorem ad_V0v {M' : ax_M} {idx d' b ci : Nat} {q : List (Option Nat)} {T : u_T} {N : Nat} (hM : ax_MV M' 0) (hl : ax_LK M.1.cls idx M') (hd : decode M.2.1 pc = .ok (.invokevirtual idx, 3)) (hp : pc + 3 = pc') (hs : ax_is b (ax_sO ci q)) (hci : vwCl[ci]? = some (M'.1.cls, T, N)) (hst : 2 * st.length ≤ 8) (hdd : d' + 1 ≤ d) (hc : AD G l d' M' (.ref b :: []) mem none mem') (kk : AX G l M d pc' ls st 153 0 (ax_hm mem') 153 0 Q) : AX G l M d pc ls (.ref b :: st) 153 0 (ax_hm mem) 153 0 Q :=
  ax_callV (as := []) hM hl hd hp hs.1 (ax_hm_obj hs) hci rfl hst hdd (Nat.le_refl _) (Nat.le_refl _) hc (fun r h1 q => by obtain ⟨rfl, rfl⟩ := q; exact kk)
theorem ad_S1 {M' : ax_M} {idx d' : Nat} {v0 : Value} {v : Value} (hM : ax_MS M' 1) (hl : ax_LK M.1.cls idx M') (hd : decode M.2.1 pc = .ok (.invokestatic idx, 3)) (hp : pc + 3 = pc') (hst : 2 * st.length ≤ 8) (hdd : d' + 1 ≤ d) (hc : AD G l d' M' [v0] mem (some v) mem') (kk : AX G l M d pc' ls (v :: st) 153 0 (ax_hm mem') 153 0 Q) : AX G l M d pc ls (v0 :: st) 153 0 (ax_hm mem) 153 0 Q :=
  ax_callS (as := [v0]) hM hl hd hp rfl hst hdd (Nat.le_refl _) (Nat.le_refl _) hc (fun r h1 q => by obtain ⟨rfl, rfl⟩ := q; exact kk)
theorem ad_V1 {M' : ax_M} {idx d' b ci : Nat} {q : List (Option Nat)} {T : u_T} {N : Nat} {v0 : Value} {v : Value} (hM : ax_MV M' 1) (hl : ax_LK M.1.cls idx M') (hd : decode M.2.1 pc = .ok (.invokevirtual idx, 3)) (hp : pc + 3 = pc') (hs : ax_is b (ax_sO ci q)) (hci : vwCl[ci]? = some (M'.1.cls, T, N)) (hst : 2 * st.length ≤ 8) (hdd : d' + 1 ≤ d) (hc : AD G l d' M' (.ref b :: [v0]) mem (some v) mem') (kk : AX G l M d pc' ls (v :: st) 153 0 (ax_hm mem') 153 0 Q) : AX G l M d pc ls (v0 :: .ref b :: st) 153 0 (ax_hm mem) 153 0 Q :=
  ax_callV (as := [v0]) hM hl hd hp hs.1 (ax_hm_obj hs) hci rfl hst hdd (Nat.le_refl _) (Nat.le_refl _) hc (fun r h1 q => by obtain ⟨rfl, rfl⟩ := q; exact kk)
theorem ad_S1v {M' : ax_M} {idx d' : Nat} {v0 : Value} (hM : ax_MS M' 1) (hl : ax_LK M.1.cls idx M') (hd : decode M.2.1 pc = .ok (.invokestatic idx, 3)) (hp : pc + 3 = pc') (hst : 2 * st.length ≤ 8) (hdd : d' + 1 ≤ d) (hc : AD G l d' M' [v0] mem none mem') (kk : AX G l M d pc' ls st 153 0 (ax_hm mem') 153 0 Q) : AX G l M d pc ls (v0 :: st) 153 0 (ax_hm mem) 153 0 Q :=
  ax_callS (as := [v0]) hM hl hd hp rfl hst hdd (Nat.le_refl _) (Nat.le_refl _) hc (fun r h1 q => by obtain ⟨rfl, rfl⟩ := q; exact kk)
theorem ad_V1v {M' : ax_M} {idx d' b ci : Nat} {q : List (Option Nat)} {T : u_T} {N : Nat} {v0 : Value} (hM : ax_MV M' 1) (hl : ax_LK M.1.cls idx M') (hd : decode M.2.1 pc = .ok (.invokevirtual idx, 3)) (hp : pc + 3 = pc') (hs : ax_is b (ax_sO ci q)) (hci : vwCl[ci]? = some (M'.1.cls, T, N)) (hst : 2 * st.length ≤ 8) (hdd : d' + 1 ≤ d) (hc : AD G l d' M' (.ref b :: [v0]) mem none mem') (kk : AX G l M d pc' ls st 153 0 (ax_hm mem') 153 0 Q) : AX G l M d pc ls (v0 :: .ref b :: st) 153 0 (ax_hm mem) 153 0 Q :=
  ax_callV (as := [v0]) hM hl hd hp hs.1 (ax_hm_obj hs) hci rfl hst hdd (Nat.le_refl _) (Nat.le_refl _) hc (fun r h1 q => by obtain ⟨rfl, rfl⟩ := q; exact kk)
theorem ad_S2 {M' : ax_M} {idx d' : Nat} {v0 v1 : Value} {v : Value} (hM : ax_MS M' 2) (hl : ax_LK M.1.cls idx M') (hd : decode M.2.1 pc = .ok (.invokestatic idx, 3)) (hp : pc + 3 = pc') (hst : 2 * st.length ≤ 8) (hdd : d' + 1 ≤ d) (hc : AD G l d' M' [v0, v1] mem (some v) mem') (kk : AX G l M d pc' ls (v :: st) 153 0 (ax_hm mem') 153 0 Q) : AX G l M d pc ls (v1 :: v0 :: st) 153 0 (ax_hm mem) 153 0 Q :=
  ax_callS (as := [v0, v1]) hM hl hd hp rfl hst hdd (Nat.le_refl _) (Nat.le_refl _) hc (fun r h1 q => by obtain ⟨rfl, rfl⟩ := q; exact kk)
theorem ad_V2 {M' : ax_M} {idx d' b ci : Nat} {q : List (Option Nat)} {T : u_T} {N : Nat} {v0 v1 : Value} {v : Value} (hM : ax_MV M' 2) (hl : ax_LK M.1.cls idx M') (hd : decode M.2.1 pc = .ok (.invokevirtual idx, 3)) (hp : pc + 3 = pc') (hs : ax_is b (ax_sO ci q)) (hci : vwCl[ci]? = some (M'.1.cls, T, N)) (hst : 2 * st.length ≤ 8) (hdd : d' + 1 ≤ d) (hc : AD G l d' M' (.ref b :: [v0, v1]) mem (some v) mem') (kk : AX G l M d pc' ls (v :: st) 153 0 (ax_hm mem') 153 0 Q) : AX G l M d pc ls (v1 :: v0 :: .ref b :: st) 153 0 (ax_hm mem) 153 0 Q :=
  ax_callV (as := [v0, v1]) hM hl hd hp hs.1 (ax_hm_obj hs) hci rfl hst hdd (Nat.le_refl _) (Nat.le_refl _) hc (fun r h1 q => by obtain ⟨rfl, rfl⟩ := q; exact kk)
theorem ad_S2v {M' : ax_M} {idx d' : Nat} {v0 v1 : Value} (hM : ax_MS M' 2) (hl : ax_LK M.1.cls idx M') (hd : decode M.2.1 pc = .ok (.invokestatic idx, 3)) (hp : pc + 3 = pc') (hst : 2 * st.length ≤ 8) (hdd : d' + 1 ≤ d) (hc : AD G l d' M' [v0, v1] mem none mem') (kk : AX G l M d pc' ls st 153 0 (ax_hm mem') 153 0 Q) : AX G l M d pc ls (v1 :: v0 :: st) 153 0 (ax_hm mem) 153 0 Q :=
  ax_callS (as := [v0, v1]) hM hl hd hp rfl hst hdd (Nat.le_refl _) (Nat.le_refl _) hc (fun r h1 q => by obtain ⟨rfl, rfl⟩ := q; exact kk)
theorem ad_V2v {M' : ax_M} {idx d' b ci : Nat} {q : List (Option Nat)} {T : u_T} {N : Nat} {v0 v1 : Value} (hM : ax_MV M' 2) (hl : ax_LK M.1.cls idx M') (hd : decode M.2.1 pc = .ok (.invokevirtual idx, 3)) (hp : pc + 3 = pc') (hs : ax_is b (ax_sO ci q)) (hci : vwCl[ci]? = some (M'.1.cls, T, N)) (hst : 2 * st.length ≤ 8) (hdd : d' + 1 ≤ d) (hc : AD G l d' M' (.ref b :: [v0, v1]) mem none mem') (kk : AX G l M d pc' ls st 153 0 (ax_hm mem') 153 0 Q) : AX G l M d pc ls (v1 :: v0 :: .ref b :: st) 153 0 (ax_hm mem) 153 0 Q :=
  ax_callV (as := [v0, v1]) hM hl hd hp hs.1 (ax_hm_obj hs) hci rfl hst hdd (Nat.le_refl _) (Nat.le_refl _) hc (fun r h1 q => by obtain ⟨rfl, rfl⟩ := q; exact kk)
theorem ad_S3 {M' : ax_M} {idx d' : Nat} {v0 v1 v2 : Value} {v : Value} (hM : ax_MS M' 3) (hl : ax_LK M.1.cls idx M') (hd : decode M.2.1 pc = .ok (.invokestatic idx, 3)) (hp : pc + 3 = pc') (hst : 2 * st.length ≤ 8) (hdd : d' + 1 ≤ d) (hc : AD G l d' M' [v0, v1, v2] mem (some v) mem') (kk : AX G l M d pc' ls (v :: st) 153 0 (ax_hm mem') 153 0 Q) : AX G l M d pc ls (v2 :: v1 :: v0 :: st) 153 0 (ax_hm mem) 153 0 Q :=
  ax_callS (as := [v0, v1, v2]) hM hl hd hp rfl hst hdd (Nat.le_refl _) (Nat.le_refl _) hc (fun r h1 q => by obtain ⟨rfl, rfl⟩ := q; exact kk)
theorem ad_V3 {M' : ax_M} {idx d' b ci : Nat} {q : List (Option Nat)} {T : u_T} {N : Nat} {v0 v1 v2 : Value} {v : Value} (hM : ax_MV M' 3) (hl : ax_LK M.1.cls idx M') (hd : decode M.2.1 pc = .ok (.invokevirtual idx, 3)) (hp : pc + 3 = pc') (hs : ax_is b (ax_sO ci q)) (hci : vwCl[ci]? = some (M'.1.cls, T, N)) (hst : 2 * st.length ≤ 8) (hdd : d' + 1 ≤ d) (hc : AD G l d' M' (.ref b :: [v0, v1, v2]) mem (some v) mem') (kk : AX G l M d pc' ls (v :: st) 153 0 (ax_hm mem') 153 0 Q) : AX G l M d pc ls (v2 :: v1 :: v0 :: .ref b :: st) 153 0 (ax_hm mem) 153 0 Q :=
  ax_callV (as := [v0, v1, v2]) hM hl hd hp hs.1 (ax_hm_obj hs) hci rfl hst hdd (Nat.le_refl _) (Nat.le_refl _) hc (fun r h1 q => by obtain ⟨rfl, rfl⟩ := q; exact kk)
theorem ad_S3v {M' : ax_M} {idx d' : Nat} {v0 v1 v2 : Value} (hM : ax_MS M' 3) (hl : ax_LK M.1.cls idx M') (hd : decode M.2.1 pc = .ok (.invokestatic idx, 3)) (hp : pc + 3 = pc') (hst : 2 * st.length ≤ 8) (hdd : d' + 1 ≤ d) (hc : AD G l d' M' [v0, v1, v2] mem none mem') (kk : AX G l M d pc' ls st 153 0 (ax_hm mem') 153 0 Q) : AX G l M d pc ls (v2 :: v1 :: v0 :: st) 153 0 (ax_hm mem) 153 0 Q :=
  ax_callS (as := [v0, v1, v2]) hM hl hd hp rfl hst hdd (Nat.le_refl _) (Nat.le_refl _) hc (fun r h1 q => by obtain ⟨rfl, rfl⟩ := q; exact kk)
theorem ad_V3v {M' : ax_M} {idx d' b ci : Nat} {q : List (Option Nat)} {T : u_T} {N : Nat} {v0 v1 v2 : Value} (hM : ax_MV M' 3) (hl : ax_LK M.1.cls idx M') (hd : decode M.2.1 pc = .ok (.invokevirtual idx, 3)) (hp : pc + 3 = pc') (hs : ax_is b (ax_sO ci q)) (hci : vwCl[ci]? = some (M'.1.cls, T, N)) (hst : 2 * st.length ≤ 8) (hdd : d' + 1 ≤ d) (hc : AD G l d' M' (.ref b :: [v0, v1, v2]) mem none mem') (kk : AX G l M d pc' ls st 153 0 (ax_hm mem') 153 0 Q) : AX G l M d pc ls (v2 :: v1 :: v0 :: .ref b :: st) 153 0 (ax_hm mem) 153 0 Q :=
  ax_callV (as := [v0, v1, v2]) hM hl hd hp hs.1 (ax_hm_obj hs) hci rfl hst hdd (Nat.le_refl _) (Nat.le_refl _) hc (fun r h1 q => by obtain ⟨rfl, rfl⟩ := q; exact kk)
theorem ad_S4 {M' : ax_M} {idx d' : Nat} {v0 v1 v2 v3 : Value} {v : Value} (hM : ax_MS M' 4) (hl : ax_LK M.1.cls idx M') (hd : decode M.2.1 pc = .ok (.invokestatic idx, 3)) (hp : pc + 3 = pc') (hst : 2 * st.length ≤ 8) (hdd : d' + 1 ≤ d) (hc : AD G l d' M' [v0, v1, v2, v3] mem (some v) mem') (kk : AX G l M d pc' ls (v :: st) 153 0 (ax_hm mem') 153 0 Q) : AX G l M d pc ls (v3 :: v2 :: v1 :: v0 :: st) 153 0 (ax_hm mem) 153 0 Q :=
  ax_callS (as := [v0, v1, v2, v3]) hM hl hd hp rfl hst hdd (Nat.le_refl _) (Nat.le_refl _) hc (fun r h1 q => by obtain ⟨rfl, rfl⟩ := q; exact kk)
theorem ad_V4 {M' : ax_M} {idx d' b ci : Nat} {q : List (Option Nat)} {T : u_T} {N : Nat} {v0 v1 v2 v3 : Value} {v : Value} (hM : ax_MV M' 4) (hl : ax_LK M.1.cls idx M') (hd : decode M.2.1 pc = .ok (.invokevirtual idx, 3)) (hp : pc + 3 = pc') (hs : ax_is b (ax_sO ci q)) (hci : vwCl[ci]? = some (M'.1.cls, T, N)) (hst : 2 * st.length ≤ 8) (hdd : d' + 1 ≤ d) (hc : AD G l d' M' (.ref b :: [v0, v1, v2, v3]) mem (some v) mem') (kk : AX G l M d pc' ls (v :: st) 153 0 (ax_hm mem') 153 0 Q) : AX G l M d pc ls (v3 :: v2 :: v1 :: v0 :: .ref b :: st) 153 0 (ax_hm mem) 153 0 Q :=
  ax_callV (as := [v0, v1, v2, v3]) hM hl hd hp hs.1 (ax_hm_obj hs) hci rfl hst hdd (Nat.le_refl _) (Nat.le_refl _) hc (fun r h1 q => by obtain ⟨rfl, rfl⟩ := q; exact kk)
theorem ad_S4v {M' : ax_M} {idx d' : Nat} {v0 v1 v2 v3 : Value} (hM : ax_MS M' 4) (hl : ax_LK M.1.cls idx M') (hd : decode M.2.1 pc = .ok (.invokestatic idx, 3)) (hp : pc + 3 = pc') (hst : 2 * st.length ≤ 8) (hdd : d' + 1 ≤ d) (hc : AD G l d' M' [v0, v1, v2, v3] mem none mem') (kk : AX G l M d pc' ls st 153 0 (ax_hm mem') 153 0 Q) : AX G l M d pc ls (v3 :: v2 :: v1 :: v0 :: st) 153 0 (ax_hm mem) 153 0 Q :=
  ax_callS (as := [v0, v1, v2, v3]) hM hl hd hp rfl hst hdd (Nat.le_refl _) (Nat.le_refl _) hc (fun r h1 q => by obtain ⟨rfl, rfl⟩ := q; exact kk)
theorem ad_V4v {M' : ax_M} {idx d' b ci : Nat} {q : List (Option Nat)} {T : u_T} {N : Nat} {v0 v1 v2 v3 : Value} (hM : ax_MV M' 4) (hl : ax_LK M.1.cls idx M') (hd : decode M.2.1 pc = .ok (.invokevirtual idx, 3)) (hp : pc + 3 = pc') (hs : ax_is b (ax_sO ci q)) (hci : vwCl[ci]? = some (M'.1.cls, T, N)) (hst : 2 * st.length ≤ 8) (hdd : d' + 1 ≤ d) (hc : AD G l d' M' (.ref b :: [v0, v1, v2, v3]) mem none mem') (kk : AX G l M d pc' ls st 153 0 (ax_hm mem') 153 0 Q) : AX G l M d pc ls (v3 :: v2 :: v1 :: v0 :: .ref b :: st) 153 0 (ax_hm mem) 153 0 Q :=
  ax_callV (as := [v0, v1, v2, v3]) hM hl hd hp hs.1 (ax_hm_obj hs) hci rfl hst hdd (Nat.le_refl _) (Nat.le_refl _) hc (fun r h1 q => by obtain ⟨rfl, rfl⟩ := q; exact kk)
theorem ad_S5 {M' : ax_M} {idx d' : Nat} {v0 v1 v2 v3 v4 : Value} {v : Value} (hM : ax_MS M' 5) (hl : ax_LK M.1.cls idx M') (hd : decode M.2.1 pc = .ok (.invokestatic idx, 3)) (hp : pc + 3 = pc') (hst : 2 * st.length ≤ 8) (hdd : d' + 1 ≤ d) (hc : AD G l d' M' [v0, v1, v2, v3, v4] mem (some v) mem') (kk : AX G l M d pc' ls (v :: st) 153 0 (ax_hm mem') 153 0 Q) : AX G l M d pc ls (v4 :: v3 :: v2 :: v1 :: v0 :: st) 153 0 (ax_hm mem) 153 0 Q :=
  ax_callS (as := [v0, v1, v2, v3, v4]) hM hl hd hp rfl hst hdd (Nat.le_refl _) (Nat.le_refl _) hc (fun r h1 q => by obtain ⟨rfl, rfl⟩ := q; exact kk)
theorem ad_V5 {M' : ax_M} {idx d' b ci : Nat} {q : List (Option Nat)} {T : u_T} {N : Nat} {v0 v1 v2 v3 v4 : Value} {v : Value} (hM : ax_MV M' 5) (hl : ax_LK M.1.cls idx M') (hd : decode M.2.1 pc = .ok (.invokevirtual idx, 3)) (hp : pc + 3 = pc') (hs : ax_is b (ax_sO ci q)) (hci : vwCl[ci]? = some (M'.1.cls, T, N)) (hst : 2 * st.length ≤ 8) (hdd : d' + 1 ≤ d) (hc : AD G l d' M' (.ref b :: [v0, v1, v2, v3, v4]) mem (some v) mem') (kk : AX G l M d pc' ls (v :: st) 153 0 (ax_hm mem') 153 0 Q) : AX G l M d pc ls (v4 :: v3 :: v2 :: v1 :: v0 :: .ref b :: st) 153 0 (ax_hm mem) 153 0 Q :=
  ax_callV (as := [v0, v1, v2, v3, v4]) hM hl hd hp hs.1 (ax_hm_obj hs) hci rfl hst hdd (Nat.le_refl _) (Nat.le_refl _) hc (fun r h1 q => by obtain ⟨rfl, rfl⟩ := q; exact kk)
theorem ad_S5v {M' : ax_M} {idx d' : Nat} {v0 v1 v2 v3 v4 : Value} (hM : ax_MS M' 5) (hl : ax_LK M.1.cls idx M') (hd : decode M.2.1 pc = .ok (.invokestatic idx, 3)) (hp : pc + 3 = pc') (hst : 2 * st.length ≤ 8) (hdd : d' + 1 ≤ d) (hc : AD G l d' M' [v0, v1, v2, v3, v4] mem none mem') (kk : AX G l M d pc' ls st 153 0 (ax_hm mem') 153 0 Q) : AX G l M d pc ls (v4 :: v3 :: v2 :: v1 :: v0 :: st) 153 0 (ax_hm mem) 153 0 Q :=
  ax_callS (as := [v0, v1, v2, v3, v4]) hM hl hd hp rfl hst hdd (Nat.le_refl _) (Nat.le_refl _) hc (fun r h1 q => by obtain ⟨rfl, rfl⟩ := q; exact kk)
theorem ad_V5v {M' : ax_M} {idx d' b ci : Nat} {q : List (Option Nat)} {T : u_T} {N : Nat} {v0 v1 v2 v3 v4 : Value} (hM : ax_MV M' 5) (hl : ax_LK M.1.cls idx M') (hd : decode M.2.1 pc = .ok (.invokevirtual idx, 3)) (hp : pc + 3 = pc') (hs : ax_is b (ax_sO ci q)) (hci : vwCl[ci]? = some (M'.1.cls, T, N)) (hst : 2 * st.length ≤ 8) (hdd : d' + 1 ≤ d) (hc : AD G l d' M' (.ref b :: [v0, v1, v2, v3, v4]) mem none mem') (kk : AX G l M d pc' ls st 153 0 (ax_hm mem') 153 0 Q) : AX G l M d pc ls (v4 :: v3 :: v2 :: v1 :: v0 :: .ref b :: st) 153 0 (ax_hm mem) 153 0 Q :=
  ax_callV (as := [v0, v1, v2, v3, v4]) hM hl hd hp hs.1 (ax_hm_obj hs) hci rfl hst hdd (Nat.le_refl _) (Nat.le_refl _) hc (fun r h1 q => by obtain ⟨rfl, rfl⟩ := q; exact kk)
end AXD
/-- loops: n rounds from j on; with an early end -/
def ax_it {α : Type} (f : Nat → α → α) : Nat → Nat → α → α
  | 0, _, s => s
  | n + 1, j, s => ax_it f n (j + 1) (f j s)
def ax_lp {α β : Type} (f : Nat → α → β ⊕ α) : Nat → Nat → α → β ⊕ α
  | 0, _, s => .inr s
  | n + 1, j, s => match f j s with
    | .inl b => .inl b
    | .inr s' => ax_lp f n (j + 1) s'
theorem cl_lt {x : Int32} {j : Nat} (h : j < x.toNatClampNeg) : nI j < x := by
  have h1 : x.toNatClampNeg = x.toInt.toNat := rfl
  have h2 := Int32.toInt_lt x
  rw [Int32.lt_iff_toInt_lt, nI_toInt (by omega)]
  omega
theorem cl_nle {x : Int32} {j : Nat} (h : j < x.toNatClampNeg) : ¬ x ≤ nI j := fun q => by
  have h1 := cl_lt h
  rw [Int32.lt_iff_toInt_lt] at h1
  rw [Int32.le_iff_toInt_le] at q
  omega
theorem cl_ge {x : Int32} {j : Nat} (h : j = x.toNatClampNeg) : x ≤ nI j := by
  have h1 : x.toNatClampNeg = x.toInt.toNat := rfl
  have h2 := Int32.toInt_lt x
  rw [Int32.le_iff_toInt_le, nI_toInt (by omega)]
  omega
theorem cl_nlt {x : Int32} {j : Nat} (h : j = x.toNatClampNeg) : ¬ nI j < x := fun q => by
  have h1 := cl_ge h
  rw [Int32.lt_iff_toInt_lt] at q
  rw [Int32.le_iff_toInt_le] at h1
  omega
theorem cl_inc (j : Nat) : nI j + Int32.ofInt 1 = nI (j + 1) := nI_1 j
theorem ax_fg0 {G : ax_G} {l : Launch} {M : ax_M} {d pc : Nat} {v : Value} {r st : List Value} {n z : Nat} {h : ax_H} {n' z' : Nat} {Q : Option Value → ax_H → Prop} (k : AX G l M d pc (.float 0 :: r) st n z h n' z' Q) : AX G l M d pc (v :: r) st n z h n' z' Q := by
  intro p e s m args below meth c R H locs cells slots la C hd hlo hn hz hc hs hR hS hL
  refine k p e s m args below meth c R H locs cells slots la C hd hlo hn hz hc hs hR hS ⟨hL.1, hL.2.1, fun i w hi hw => ?_⟩
  by_cases hij : i = 0
  · subst hij
    cases (show some (Value.float 0) = some w from hi)
    simp [ax_nf] at hw
  · refine hL.2.2 i w ?_ hw
    rw [← hi]
    show (v :: r)[i]? = (.float 0 :: r)[i]?
    rw [show (v :: r) = (.float 0 :: r).set 0 v from rfl, List.getElem?_set_ne (fun e => hij e.symm)]
theorem ax_fg1 {G : ax_G} {l : Launch} {M : ax_M} {d pc : Nat} {a0 : Value} {v : Value} {r st : List Value} {n z : Nat} {h : ax_H} {n' z' : Nat} {Q : Option Value → ax_H → Prop} (k : AX G l M d pc (a0 :: .float 0 :: r) st n z h n' z' Q) : AX G l M d pc (a0 :: v :: r) st n z h n' z' Q := by
  intro p e s m args below meth c R H locs cells slots la C hd hlo hn hz hc hs hR hS hL
  refine k p e s m args below meth c R H locs cells slots la C hd hlo hn hz hc hs hR hS ⟨hL.1, hL.2.1, fun i w hi hw => ?_⟩
  by_cases hij : i = 1
  · subst hij
    cases (show some (Value.float 0) = some w from hi)
    simp [ax_nf] at hw
  · refine hL.2.2 i w ?_ hw
    rw [← hi]
    show (a0 :: v :: r)[i]? = (a0 :: .float 0 :: r)[i]?
    rw [show (a0 :: v :: r) = (a0 :: .float 0 :: r).set 1 v from rfl, List.getElem?_set_ne (fun e => hij e.symm)]
theorem ax_fg2 {G : ax_G} {l : Launch} {M : ax_M} {d pc : Nat} {a0 a1 : Value} {v : Value} {r st : List Value} {n z : Nat} {h : ax_H} {n' z' : Nat} {Q : Option Value → ax_H → Prop} (k : AX G l M d pc (a0 :: a1 :: .float 0 :: r) st n z h n' z' Q) : AX G l M d pc (a0 :: a1 :: v :: r) st n z h n' z' Q := by
  intro p e s m args below meth c R H locs cells slots la C hd hlo hn hz hc hs hR hS hL
  refine k p e s m args below meth c R H locs cells slots la C hd hlo hn hz hc hs hR hS ⟨hL.1, hL.2.1, fun i w hi hw => ?_⟩
  by_cases hij : i = 2
  · subst hij
    cases (show some (Value.float 0) = some w from hi)
    simp [ax_nf] at hw
  · refine hL.2.2 i w ?_ hw
    rw [← hi]
    show (a0 :: a1 :: v :: r)[i]? = (a0 :: a1 :: .float 0 :: r)[i]?
    rw [show (a0 :: a1 :: v :: r) = (a0 :: a1 :: .float 0 :: r).set 2 v from rfl, List.getElem?_set_ne (fun e => hij e.symm)]
theorem ax_fg3 {G : ax_G} {l : Launch} {M : ax_M} {d pc : Nat} {a0 a1 a2 : Value} {v : Value} {r st : List Value} {n z : Nat} {h : ax_H} {n' z' : Nat} {Q : Option Value → ax_H → Prop} (k : AX G l M d pc (a0 :: a1 :: a2 :: .float 0 :: r) st n z h n' z' Q) : AX G l M d pc (a0 :: a1 :: a2 :: v :: r) st n z h n' z' Q := by
  intro p e s m args below meth c R H locs cells slots la C hd hlo hn hz hc hs hR hS hL
  refine k p e s m args below meth c R H locs cells slots la C hd hlo hn hz hc hs hR hS ⟨hL.1, hL.2.1, fun i w hi hw => ?_⟩
  by_cases hij : i = 3
  · subst hij
    cases (show some (Value.float 0) = some w from hi)
    simp [ax_nf] at hw
  · refine hL.2.2 i w ?_ hw
    rw [← hi]
    show (a0 :: a1 :: a2 :: v :: r)[i]? = (a0 :: a1 :: a2 :: .float 0 :: r)[i]?
    rw [show (a0 :: a1 :: a2 :: v :: r) = (a0 :: a1 :: a2 :: .float 0 :: r).set 3 v from rfl, List.getElem?_set_ne (fun e => hij e.symm)]
theorem ax_fg4 {G : ax_G} {l : Launch} {M : ax_M} {d pc : Nat} {a0 a1 a2 a3 : Value} {v : Value} {r st : List Value} {n z : Nat} {h : ax_H} {n' z' : Nat} {Q : Option Value → ax_H → Prop} (k : AX G l M d pc (a0 :: a1 :: a2 :: a3 :: .float 0 :: r) st n z h n' z' Q) : AX G l M d pc (a0 :: a1 :: a2 :: a3 :: v :: r) st n z h n' z' Q := by
  intro p e s m args below meth c R H locs cells slots la C hd hlo hn hz hc hs hR hS hL
  refine k p e s m args below meth c R H locs cells slots la C hd hlo hn hz hc hs hR hS ⟨hL.1, hL.2.1, fun i w hi hw => ?_⟩
  by_cases hij : i = 4
  · subst hij
    cases (show some (Value.float 0) = some w from hi)
    simp [ax_nf] at hw
  · refine hL.2.2 i w ?_ hw
    rw [← hi]
    show (a0 :: a1 :: a2 :: a3 :: v :: r)[i]? = (a0 :: a1 :: a2 :: a3 :: .float 0 :: r)[i]?
    rw [show (a0 :: a1 :: a2 :: a3 :: v :: r) = (a0 :: a1 :: a2 :: a3 :: .float 0 :: r).set 4 v from rfl, List.getElem?_set_ne (fun e => hij e.symm)]
theorem ax_fg5 {G : ax_G} {l : Launch} {M : ax_M} {d pc : Nat} {a0 a1 a2 a3 a4 : Value} {v : Value} {r st : List Value} {n z : Nat} {h : ax_H} {n' z' : Nat} {Q : Option Value → ax_H → Prop} (k : AX G l M d pc (a0 :: a1 :: a2 :: a3 :: a4 :: .float 0 :: r) st n z h n' z' Q) : AX G l M d pc (a0 :: a1 :: a2 :: a3 :: a4 :: v :: r) st n z h n' z' Q := by
  intro p e s m args below meth c R H locs cells slots la C hd hlo hn hz hc hs hR hS hL
  refine k p e s m args below meth c R H locs cells slots la C hd hlo hn hz hc hs hR hS ⟨hL.1, hL.2.1, fun i w hi hw => ?_⟩
  by_cases hij : i = 5
  · subst hij
    cases (show some (Value.float 0) = some w from hi)
    simp [ax_nf] at hw
  · refine hL.2.2 i w ?_ hw
    rw [← hi]
    show (a0 :: a1 :: a2 :: a3 :: a4 :: v :: r)[i]? = (a0 :: a1 :: a2 :: a3 :: a4 :: .float 0 :: r)[i]?
    rw [show (a0 :: a1 :: a2 :: a3 :: a4 :: v :: r) = (a0 :: a1 :: a2 :: a3 :: a4 :: .float 0 :: r).set 5 v from rfl, List.getElem?_set_ne (fun e => hij e.symm)]
theorem ax_fg6 {G : ax_G} {l : Launch} {M : ax_M} {d pc : Nat} {a0 a1 a2 a3 a4 a5 : Value} {v : Value} {r st : List Value} {n z : Nat} {h : ax_H} {n' z' : Nat} {Q : Option Value → ax_H → Prop} (k : AX G l M d pc (a0 :: a1 :: a2 :: a3 :: a4 :: a5 :: .float 0 :: r) st n z h n' z' Q) : AX G l M d pc (a0 :: a1 :: a2 :: a3 :: a4 :: a5 :: v :: r) st n z h n' z' Q := by
  intro p e s m args below meth c R H locs cells slots la C hd hlo hn hz hc hs hR hS hL
  refine k p e s m args below meth c R H locs cells slots la C hd hlo hn hz hc hs hR hS ⟨hL.1, hL.2.1, fun i w hi hw => ?_⟩
  by_cases hij : i = 6
  · subst hij
    cases (show some (Value.float 0) = some w from hi)
    simp [ax_nf] at hw
  · refine hL.2.2 i w ?_ hw
    rw [← hi]
    show (a0 :: a1 :: a2 :: a3 :: a4 :: a5 :: v :: r)[i]? = (a0 :: a1 :: a2 :: a3 :: a4 :: a5 :: .float 0 :: r)[i]?
    rw [show (a0 :: a1 :: a2 :: a3 :: a4 :: a5 :: v :: r) = (a0 :: a1 :: a2 :: a3 :: a4 :: a5 :: .float 0 :: r).set 6 v from rfl, List.getElem?_set_ne (fun e => hij e.symm)]
theorem ax_fg7 {G : ax_G} {l : Launch} {M : ax_M} {d pc : Nat} {a0 a1 a2 a3 a4 a5 a6 : Value} {v : Value} {r st : List Value} {n z : Nat} {h : ax_H} {n' z' : Nat} {Q : Option Value → ax_H → Prop} (k : AX G l M d pc (a0 :: a1 :: a2 :: a3 :: a4 :: a5 :: a6 :: .float 0 :: r) st n z h n' z' Q) : AX G l M d pc (a0 :: a1 :: a2 :: a3 :: a4 :: a5 :: a6 :: v :: r) st n z h n' z' Q := by
  intro p e s m args below meth c R H locs cells slots la C hd hlo hn hz hc hs hR hS hL
  refine k p e s m args below meth c R H locs cells slots la C hd hlo hn hz hc hs hR hS ⟨hL.1, hL.2.1, fun i w hi hw => ?_⟩
  by_cases hij : i = 7
  · subst hij
    cases (show some (Value.float 0) = some w from hi)
    simp [ax_nf] at hw
  · refine hL.2.2 i w ?_ hw
    rw [← hi]
    show (a0 :: a1 :: a2 :: a3 :: a4 :: a5 :: a6 :: v :: r)[i]? = (a0 :: a1 :: a2 :: a3 :: a4 :: a5 :: a6 :: .float 0 :: r)[i]?
    rw [show (a0 :: a1 :: a2 :: a3 :: a4 :: a5 :: a6 :: v :: r) = (a0 :: a1 :: a2 :: a3 :: a4 :: a5 :: a6 :: .float 0 :: r).set 7 v from rfl, List.getElem?_set_ne (fun e => hij e.symm)]
theorem ax_fg8 {G : ax_G} {l : Launch} {M : ax_M} {d pc : Nat} {a0 a1 a2 a3 a4 a5 a6 a7 : Value} {v : Value} {r st : List Value} {n z : Nat} {h : ax_H} {n' z' : Nat} {Q : Option Value → ax_H → Prop} (k : AX G l M d pc (a0 :: a1 :: a2 :: a3 :: a4 :: a5 :: a6 :: a7 :: .float 0 :: r) st n z h n' z' Q) : AX G l M d pc (a0 :: a1 :: a2 :: a3 :: a4 :: a5 :: a6 :: a7 :: v :: r) st n z h n' z' Q := by
  intro p e s m args below meth c R H locs cells slots la C hd hlo hn hz hc hs hR hS hL
  refine k p e s m args below meth c R H locs cells slots la C hd hlo hn hz hc hs hR hS ⟨hL.1, hL.2.1, fun i w hi hw => ?_⟩
  by_cases hij : i = 8
  · subst hij
    cases (show some (Value.float 0) = some w from hi)
    simp [ax_nf] at hw
  · refine hL.2.2 i w ?_ hw
    rw [← hi]
    show (a0 :: a1 :: a2 :: a3 :: a4 :: a5 :: a6 :: a7 :: v :: r)[i]? = (a0 :: a1 :: a2 :: a3 :: a4 :: a5 :: a6 :: a7 :: .float 0 :: r)[i]?
    rw [show (a0 :: a1 :: a2 :: a3 :: a4 :: a5 :: a6 :: a7 :: v :: r) = (a0 :: a1 :: a2 :: a3 :: a4 :: a5 :: a6 :: a7 :: .float 0 :: r).set 8 v from rfl, List.getElem?_set_ne (fun e => hij e.symm)]
theorem ax_fg9 {G : ax_G} {l : Launch} {M : ax_M} {d pc : Nat} {a0 a1 a2 a3 a4 a5 a6 a7 a8 : Value} {v : Value} {r st : List Value} {n z : Nat} {h : ax_H} {n' z' : Nat} {Q : Option Value → ax_H → Prop} (k : AX G l M d pc (a0 :: a1 :: a2 :: a3 :: a4 :: a5 :: a6 :: a7 :: a8 :: .float 0 :: r) st n z h n' z' Q) : AX G l M d pc (a0 :: a1 :: a2 :: a3 :: a4 :: a5 :: a6 :: a7 :: a8 :: v :: r) st n z h n' z' Q := by
  intro p e s m args below meth c R H locs cells slots la C hd hlo hn hz hc hs hR hS hL
  refine k p e s m args below meth c R H locs cells slots la C hd hlo hn hz hc hs hR hS ⟨hL.1, hL.2.1, fun i w hi hw => ?_⟩
  by_cases hij : i = 9
  · subst hij
    cases (show some (Value.float 0) = some w from hi)
    simp [ax_nf] at hw
  · refine hL.2.2 i w ?_ hw
    rw [← hi]
    show (a0 :: a1 :: a2 :: a3 :: a4 :: a5 :: a6 :: a7 :: a8 :: v :: r)[i]? = (a0 :: a1 :: a2 :: a3 :: a4 :: a5 :: a6 :: a7 :: a8 :: .float 0 :: r)[i]?
    rw [show (a0 :: a1 :: a2 :: a3 :: a4 :: a5 :: a6 :: a7 :: a8 :: v :: r) = (a0 :: a1 :: a2 :: a3 :: a4 :: a5 :: a6 :: a7 :: a8 :: .float 0 :: r).set 9 v from rfl, List.getElem?_set_ne (fun e => hij e.symm)]
theorem ax_fg10 {G : ax_G} {l : Launch} {M : ax_M} {d pc : Nat} {a0 a1 a2 a3 a4 a5 a6 a7 a8 a9 : Value} {v : Value} {r st : List Value} {n z : Nat} {h : ax_H} {n' z' : Nat} {Q : Option Value → ax_H → Prop} (k : AX G l M d pc (a0 :: a1 :: a2 :: a3 :: a4 :: a5 :: a6 :: a7 :: a8 :: a9 :: .float 0 :: r) st n z h n' z' Q) : AX G l M d pc (a0 :: a1 :: a2 :: a3 :: a4 :: a5 :: a6 :: a7 :: a8 :: a9 :: v :: r) st n z h n' z' Q := by
  intro p e s m args below meth c R H locs cells slots la C hd hlo hn hz hc hs hR hS hL
  refine k p e s m args below meth c R H locs cells slots la C hd hlo hn hz hc hs hR hS ⟨hL.1, hL.2.1, fun i w hi hw => ?_⟩
  by_cases hij : i = 10
  · subst hij
    cases (show some (Value.float 0) = some w from hi)
    simp [ax_nf] at hw
  · refine hL.2.2 i w ?_ hw
    rw [← hi]
    show (a0 :: a1 :: a2 :: a3 :: a4 :: a5 :: a6 :: a7 :: a8 :: a9 :: v :: r)[i]? = (a0 :: a1 :: a2 :: a3 :: a4 :: a5 :: a6 :: a7 :: a8 :: a9 :: .float 0 :: r)[i]?
    rw [show (a0 :: a1 :: a2 :: a3 :: a4 :: a5 :: a6 :: a7 :: a8 :: a9 :: v :: r) = (a0 :: a1 :: a2 :: a3 :: a4 :: a5 :: a6 :: a7 :: a8 :: a9 :: .float 0 :: r).set 10 v from rfl, List.getElem?_set_ne (fun e => hij e.symm)]
theorem ax_fg11 {G : ax_G} {l : Launch} {M : ax_M} {d pc : Nat} {a0 a1 a2 a3 a4 a5 a6 a7 a8 a9 a10 : Value} {v : Value} {r st : List Value} {n z : Nat} {h : ax_H} {n' z' : Nat} {Q : Option Value → ax_H → Prop} (k : AX G l M d pc (a0 :: a1 :: a2 :: a3 :: a4 :: a5 :: a6 :: a7 :: a8 :: a9 :: a10 :: .float 0 :: r) st n z h n' z' Q) : AX G l M d pc (a0 :: a1 :: a2 :: a3 :: a4 :: a5 :: a6 :: a7 :: a8 :: a9 :: a10 :: v :: r) st n z h n' z' Q := by
  intro p e s m args below meth c R H locs cells slots la C hd hlo hn hz hc hs hR hS hL
  refine k p e s m args below meth c R H locs cells slots la C hd hlo hn hz hc hs hR hS ⟨hL.1, hL.2.1, fun i w hi hw => ?_⟩
  by_cases hij : i = 11
  · subst hij
    cases (show some (Value.float 0) = some w from hi)
    simp [ax_nf] at hw
  · refine hL.2.2 i w ?_ hw
    rw [← hi]
    show (a0 :: a1 :: a2 :: a3 :: a4 :: a5 :: a6 :: a7 :: a8 :: a9 :: a10 :: v :: r)[i]? = (a0 :: a1 :: a2 :: a3 :: a4 :: a5 :: a6 :: a7 :: a8 :: a9 :: a10 :: .float 0 :: r)[i]?
    rw [show (a0 :: a1 :: a2 :: a3 :: a4 :: a5 :: a6 :: a7 :: a8 :: a9 :: a10 :: v :: r) = (a0 :: a1 :: a2 :: a3 :: a4 :: a5 :: a6 :: a7 :: a8 :: a9 :: a10 :: .float 0 :: r).set 11 v from rfl, List.getElem?_set_ne (fun e => hij e.symm)]
theorem ax_fg12 {G : ax_G} {l : Launch} {M : ax_M} {d pc : Nat} {a0 a1 a2 a3 a4 a5 a6 a7 a8 a9 a10 a11 : Value} {v : Value} {r st : List Value} {n z : Nat} {h : ax_H} {n' z' : Nat} {Q : Option Value → ax_H → Prop} (k : AX G l M d pc (a0 :: a1 :: a2 :: a3 :: a4 :: a5 :: a6 :: a7 :: a8 :: a9 :: a10 :: a11 :: .float 0 :: r) st n z h n' z' Q) : AX G l M d pc (a0 :: a1 :: a2 :: a3 :: a4 :: a5 :: a6 :: a7 :: a8 :: a9 :: a10 :: a11 :: v :: r) st n z h n' z' Q := by
  intro p e s m args below meth c R H locs cells slots la C hd hlo hn hz hc hs hR hS hL
  refine k p e s m args below meth c R H locs cells slots la C hd hlo hn hz hc hs hR hS ⟨hL.1, hL.2.1, fun i w hi hw => ?_⟩
  by_cases hij : i = 12
  · subst hij
    cases (show some (Value.float 0) = some w from hi)
    simp [ax_nf] at hw
  · refine hL.2.2 i w ?_ hw
    rw [← hi]
    show (a0 :: a1 :: a2 :: a3 :: a4 :: a5 :: a6 :: a7 :: a8 :: a9 :: a10 :: a11 :: v :: r)[i]? = (a0 :: a1 :: a2 :: a3 :: a4 :: a5 :: a6 :: a7 :: a8 :: a9 :: a10 :: a11 :: .float 0 :: r)[i]?
    rw [show (a0 :: a1 :: a2 :: a3 :: a4 :: a5 :: a6 :: a7 :: a8 :: a9 :: a10 :: a11 :: v :: r) = (a0 :: a1 :: a2 :: a3 :: a4 :: a5 :: a6 :: a7 :: a8 :: a9 :: a10 :: a11 :: .float 0 :: r).set 12 v from rfl, List.getElem?_set_ne (fun e => hij e.symm)]
theorem ax_fg13 {G : ax_G} {l : Launch} {M : ax_M} {d pc : Nat} {a0 a1 a2 a3 a4 a5 a6 a7 a8 a9 a10 a11 a12 : Value} {v : Value} {r st : List Value} {n z : Nat} {h : ax_H} {n' z' : Nat} {Q : Option Value → ax_H → Prop} (k : AX G l M d pc (a0 :: a1 :: a2 :: a3 :: a4 :: a5 :: a6 :: a7 :: a8 :: a9 :: a10 :: a11 :: a12 :: .float 0 :: r) st n z h n' z' Q) : AX G l M d pc (a0 :: a1 :: a2 :: a3 :: a4 :: a5 :: a6 :: a7 :: a8 :: a9 :: a10 :: a11 :: a12 :: v :: r) st n z h n' z' Q := by
  intro p e s m args below meth c R H locs cells slots la C hd hlo hn hz hc hs hR hS hL
  refine k p e s m args below meth c R H locs cells slots la C hd hlo hn hz hc hs hR hS ⟨hL.1, hL.2.1, fun i w hi hw => ?_⟩
  by_cases hij : i = 13
  · subst hij
    cases (show some (Value.float 0) = some w from hi)
    simp [ax_nf] at hw
  · refine hL.2.2 i w ?_ hw
    rw [← hi]
    show (a0 :: a1 :: a2 :: a3 :: a4 :: a5 :: a6 :: a7 :: a8 :: a9 :: a10 :: a11 :: a12 :: v :: r)[i]? = (a0 :: a1 :: a2 :: a3 :: a4 :: a5 :: a6 :: a7 :: a8 :: a9 :: a10 :: a11 :: a12 :: .float 0 :: r)[i]?
    rw [show (a0 :: a1 :: a2 :: a3 :: a4 :: a5 :: a6 :: a7 :: a8 :: a9 :: a10 :: a11 :: a12 :: v :: r) = (a0 :: a1 :: a2 :: a3 :: a4 :: a5 :: a6 :: a7 :: a8 :: a9 :: a10 :: a11 :: a12 :: .float 0 :: r).set 13 v from rfl, List.getElem?_set_ne (fun e => hij e.symm)]
def ax_isI (g : Nat) : Prop := ax_is g (ax_sO 2 [some (g + 1), none, none]) ∧ ax_isP (g + 1)
theorem ax_isI.o {g : Nat} (h : ax_isI g) : ax_is g (ax_sO 2 [some (g + 1), none, none]) := h.1
theorem ax_isI.p {g : Nat} (h : ax_isI g) : ax_isP (g + 1) := h.2
theorem isI124 : ax_isI 124 := ⟨is124, isP125⟩
theorem isI130 : ax_isI 130 := ⟨is130, isP131⟩
