/-! SOUNDNESS OF THE ABSTRACT MACHINE, 9: the kinds of call sites, throws and handlers. -/
theorem nv_split {σ : nv_St} {st : List Value} {k ci : Nat} (hk : k ≤ st.length) (hr : nv_rcv σ (st.take k).reverse (some ci) = true) : ∃ (a : Nat) (As rest : List Value), (st.take k).reverse = .ref a :: As ∧ st.drop k = rest ∧ st = As.reverse ++ .ref a :: rest ∧ As.length + 1 = k ∧ (if ci = 1000 then decide (nv_off ≤ a ∧ a < 1000032) else if ci = 1001 then decide (1000200 ≤ a ∧ a < 1000208) else nv_isO σ ci a) = true := by
  unfold nv_rcv at hr
  dsimp only at hr
  split at hr
  · rename_i a As he
    refine ⟨a, As, _, he, rfl, ?_, ?_, hr⟩
    · have h1 : st.take k = As.reverse ++ [.ref a] := by
        have := congrArg List.reverse he
        rw [List.reverse_reverse, List.reverse_cons] at this
        exact this
      have h2 := List.take_append_drop k st
      rw [h1] at h2
      rw [List.append_assoc] at h2
      exact h2.symm
    · have := congrArg List.length he
      simp at this
      omega
  · cases hr
theorem nv_pcOk {X : nv_X} {scr : nv_Scr} {s : State} {c0 s0 : Nat} {H : Heap} {locs : List Loc} {cells slots : Nat} {σ : nv_St} (hI : nv_In X scr s c0 s0 H locs cells slots σ) (hWd : nv_Wd X scr s s.heap) (as : List Value) : ∀ U : State, U.heap = H → s.WarmedH U.vm → nv_Pc X scr σ as (as.map (nv_rv X)).toArray U := by
  intro U hU hW
  refine ⟨rfl, by rw [hU]; exact hI.st0, ?_, hI.2.2.2.2.2.2⟩
  rw [hU]
  exact hWd.to hW hI.2.2.2.1.1 hI.2.2.2.1.2.1
def nv_cw (M M' : nv_M) (n : Nat) : Prop := M'.2.2.2.2.1 = [] ∧ nv_hd M' ∈ nv_big ∧ Cond.initialized M'.1.cls ∈ nv_big ∧ (M'.1.cls ≠ "java/lang/invoke/MethodHandle" ∧ M'.1.cls ≠ "java/lang/invoke/VarHandle" ∧ (parseMethodDescriptor M'.1.desc).map (fun d => d.parameters.length) = some n) ∧ M'.2.2.2.2.2 + 1 ≤ M.2.2.2.2.2 ∧ M'.2.2.1 ≤ 40
theorem nv_hd0 {M' : nv_M} (h : M'.2.2.2.2.1 = []) : nv_hd M' = Cond.code M'.1 M'.2.1 M'.2.2.1 M'.2.2.2.1 ∧ nv_ws M' = Cond.code M'.1 M'.2.1 M'.2.2.1 M'.2.2.2.1 :: nv_big := by
  unfold nv_hd nv_ws
  rw [h]
  exact ⟨rfl, rfl⟩
theorem nv_fixed {l : Launch} {X : nv_X} {scr : nv_Scr} {y : MethodName} {cc : ByteArray} {mL rk : Nat} {ret : Option FieldType} {hh : List (Nat × Nat × Nat × Nat)} {p : Program} {R : Room} {s : State} {m : MethodId} {args : Array Value} {meth : Method} {c : Code} (hM : nv_Mx l X scr y cc mL ret hh rk p R s m args meth c) : CallFix p m c cc mL s args nv_big y.cls :=
  ⟨hM.1, hM.2.1, hM.2.2.2.1, hM.2.2.2.2.1, hM.2.2.2.2.2.1⟩
theorem nv_goods {ws : List Cond} (h : ∀ w ∈ ws, w ∈ nv_big) : GoodIn nv_big ws := fun w hw => ⟨h w hw, good_of_word (nv_bigGood _ (h w hw))⟩
/-- a method of an object of ours, or of a constant text: by its own name -/
theorem sc_V {M M' : nv_M} {pc n index ci : Nat} {C : String} (hd : decode M.2.1 pc = .ok (.invokevirtual index, 3)) (hc : nv_cw M M' n) (hC : M'.1.cls = C) (hl : Cond.methodLink M.1.cls index M'.1 ∈ nv_big) (hi : Cond.instanceMethod M'.1 ∈ nv_big) (hs : Cond.selects C M'.1 M'.1 ∈ nv_big)
    (hrc : ∀ (X : nv_X) (scr : nv_Scr) (s : State) (c0 s0 : Nat) (H : Heap) (locs : List Loc) (cells slots : Nat) (σ : nv_St) (a : Nat), nv_In X scr s c0 s0 H locs cells slots σ → nv_Wd X scr s s.heap → (if ci = 1000 then decide (nv_off ≤ a ∧ a < 1000032) else if ci = 1001 then decide (1000200 ≤ a ∧ a < 1000208) else nv_isO σ ci a) = true → ∃ b, nv_rv X (.ref a) = .ref b ∧ ∃ cellB : Cell, H[b]? = some cellB ∧ cellB.vm.isStatics = false ∧ s.vm.findClass C = some cellB.cls) :
    nv_SC M M' pc (n + 1) (some ci) := by
  intro p l e R s m args below meth c X scr c0 s0 hM H locs cells slots lA ls st σ hI hL hk hroom hrcv mc ms Qc XC free hmet hfit
  obtain ⟨a, As, rest, e1, e2, e3, e4, e5⟩ := nv_split hk hrcv
  obtain ⟨h0, hhd, hini, hdsc, hrk, hmx⟩ := hc
  obtain ⟨g1, g2⟩ := nv_hd0 h0
  have hWd := hM.2.2.2.2.2.2.2.2.2.1
  have hsv : nv_sv X := hWd.2.2.2.2.2.2.2.1
  have hfr := hM.2.2.2.2.2.2.2.2.2.2.2.1
  have hlo := hM.2.2.2.2.2.2.2.2.2.2.2.2
  obtain ⟨b, hb1, hcell⟩ := hrc X scr s c0 s0 H locs cells slots σ a hI hWd e5
  have hr8 := nv_room_map hsv hroom
  rw [e1] at hmet ⊢
  have hpc := nv_pcOk hI hWd (.ref a :: As)
  simp only [List.map_cons, hb1] at hpc ⊢
  rw [e2] at hr8 ⊢
  have hG : GoodIn nv_big (wsV M.1.cls index C M'.1 (nv_ws M')) := nv_goods (by
    intro w hw
    rcases List.mem_append.mp hw with h | h
    · simp only [List.mem_cons, List.not_mem_nil, or_false] at h
      rcases h with rfl | rfl | rfl | rfl
      · exact hl
      · exact hi
      · exact hs
      · rw [← hC]; exact hini
    · rw [nv_ws_eq] at h
      rcases List.mem_cons.mp h with rfl | h
      · exact hhd
      · exact h)
  refine vx_runV (As := As.map (nv_rv X)) (rest := rest.map (nv_rv X)) (b := b) (C := C) (nv_fixed hM) hmet (cwV n hM.2.2.2.2.2.1 hG g2 rfl rfl ⟨hC, hdsc⟩ ⟨?_, ?_⟩) ⟨nv_blind X scr σ _, hcell, hpc⟩ rfl ?_ hL.2.1 ?_ ?_ hd hfit
  · show M'.2.2.2.2.2 + 1 ≤ R.frames; omega
  · show 8 + (M'.2.2.1 + 11) + 60 * M'.2.2.2.2.2 ≤ R.locals; omega
  · rw [List.length_map]; omega
  · rw [e3]; simp [hb1]
  · show 2 * 0 + _ ≤ 8; omega
theorem nv_rcO {ci : Nat} {C : String} {T : u_T} {N : Nat} (hc : nv_cl[ci]? = some (C, T, N)) (X : nv_X) (scr : nv_Scr) (s : State) (c0 s0 : Nat) (H : Heap) (locs : List Loc) (cells slots : Nat) (σ : nv_St) (a : Nat) (hI : nv_In X scr s c0 s0 H locs cells slots σ) (hWd : nv_Wd X scr s s.heap) (h : (if ci = 1000 then decide (nv_off ≤ a ∧ a < 1000032) else if ci = 1001 then decide (1000200 ≤ a ∧ a < 1000208) else nv_isO σ ci a) = true) :
    ∃ b, nv_rv X (.ref a) = .ref b ∧ ∃ cellB : Cell, H[b]? = some cellB ∧ cellB.vm.isStatics = false ∧ s.vm.findClass C = some cellB.cls := by
  have hl : ci < 6 := (List.getElem?_eq_some_iff.mp hc).1
  rw [if_neg (by omega), if_neg (by omega)] at h
  unfold nv_isO at h
  split at h
  · rename_i ci' fs ho
    have hcc : ci' = ci := by simpa using h
    subst hcc
    obtain ⟨ha, hat⟩ := hI.1 a _ ho
    exact ⟨X.1 + a, nv_rv_own ha, va_recv (q := (C, T, N)) hWd.1 (nv_P1 hat) hc (q0 := 0) rfl⟩
  · cases h
theorem nv_rcS (X : nv_X) (scr : nv_Scr) (s : State) (c0 s0 : Nat) (H : Heap) (locs : List Loc) (cells slots : Nat) (σ : nv_St) (a : Nat) (hI : nv_In X scr s c0 s0 H locs cells slots σ) (hWd : nv_Wd X scr s s.heap) (h : (if 1000 = 1000 then decide (nv_off ≤ a ∧ a < 1000032) else if 1000 = 1001 then decide (1000200 ≤ a ∧ a < 1000208) else nv_isO σ 1000 a) = true) :
    ∃ b, nv_rv X (.ref a) = .ref b ∧ ∃ cellB : Cell, H[b]? = some cellB ∧ cellB.vm.isStatics = false ∧ s.vm.findClass "java/lang/String" = some cellB.cls := by
  rw [if_pos rfl] at h
  obtain ⟨h1, h2⟩ := of_decide_eq_true h
  have h1 : 1000000 ≤ a := h1
  obtain ⟨q, t, g1, g2, g3, -⟩ := hWd.2.1.1 (a - 1000000) (by omega)
  obtain ⟨cell, k1, k2, k3, -⟩ := g3.kept hI.2.2.2.1.2.1
  exact ⟨q, by rw [nv_rv_st (k := a - 1000000) (by omega)]; exact g1, cell, k1, k2, k3⟩
theorem nv_rcF (X : nv_X) (scr : nv_Scr) (s : State) (c0 s0 : Nat) (H : Heap) (locs : List Loc) (cells slots : Nat) (σ : nv_St) (a : Nat) (hI : nv_In X scr s c0 s0 H locs cells slots σ) (hWd : nv_Wd X scr s s.heap) (h : (if 1001 = 1000 then decide (nv_off ≤ a ∧ a < 1000032) else if 1001 = 1001 then decide (1000200 ≤ a ∧ a < 1000208) else nv_isO σ 1001 a) = true) :
    ∃ b, nv_rv X (.ref a) = .ref b ∧ ∃ cellB : Cell, H[b]? = some cellB ∧ cellB.vm.isStatics = false ∧ s.vm.findClass RX3 = some cellB.cls := by
  rw [if_neg (by decide), if_pos rfl] at h
  obtain ⟨h1, h2⟩ := of_decide_eq_true h
  obtain ⟨q, g1, g3, -⟩ := hWd.2.1.2.1 (a - 1000200) (by omega)
  obtain ⟨cell, k1, k2, k3, -⟩ := g3.kept hI.2.2.2.1.2.1
  exact ⟨q, by rw [nv_rv_st (k := 200 + (a - 1000200)) (by omega)]; exact g1, cell, k1, k2, k3⟩
/-- a static method without handlers -/
theorem sc_S {M M' : nv_M} {pc n index : Nat} (hd : decode M.2.1 pc = .ok (.invokestatic index, 3)) (hc : nv_cw M M' n) (hl : Cond.methodLink M.1.cls index M'.1 ∈ nv_big) (hs : Cond.static M'.1 ∈ nv_big) : nv_SC M M' pc n none := by
  intro p l e R s m args below meth c X scr c0 s0 hM H locs cells slots lA ls st σ hI hL hk hroom hrcv mc ms Qc XC free hmet hfit
  obtain ⟨h0, hhd, hini, hdsc, hrk, hmx⟩ := hc
  obtain ⟨g1, g2⟩ := nv_hd0 h0
  have hts := hM.2.2.2.2.2.1
  have hWd := hM.2.2.2.2.2.2.2.2.2.1
  have hsv : nv_sv X := hWd.2.2.2.2.2.2.2.1
  have hfr := hM.2.2.2.2.2.2.2.2.2.2.2.1
  have hlo := hM.2.2.2.2.2.2.2.2.2.2.2.2
  have hr8 := nv_room_map hsv hroom
  refine vx_runS (As := (st.take n).reverse.map (nv_rv X)) (rest := (st.drop n).map (nv_rv X)) (nv_fixed hM) hmet ⟨callB_of n hts (nv_wsGood hhd) g2 rfl rfl (hts _ hini) (hts _ hl) hdsc ⟨?_, ?_⟩, hts _ hs⟩ ⟨nv_blind X scr σ _, nv_pcOk hI hWd _⟩ rfl ?_ hL.2.1 ?_ ?_ hd hfit
  · show M'.2.2.2.2.2 + 1 ≤ R.frames; omega
  · show 8 + (M'.2.2.1 + 11) + 60 * M'.2.2.2.2.2 ≤ R.locals; omega
  · simp; omega
  · show st.map (nv_rv X) = _
    rw [← List.map_reverse, List.reverse_reverse, ← List.map_append, List.take_append_drop]
  · show 2 * 0 + _ ≤ 8; omega
/-- a static method with handlers -/
theorem sc_SX {M M' : nv_M} {pc n index : Nat} (hd : decode M.2.1 pc = .ok (.invokestatic index, 3)) (h0 : M'.2.2.2.2.1 ≠ []) (hhd : nv_hd M' ∈ nv_big) (hini : Cond.initialized M'.1.cls ∈ nv_big) (hdsc : M'.1.cls ≠ "java/lang/invoke/MethodHandle" ∧ M'.1.cls ≠ "java/lang/invoke/VarHandle" ∧ (parseMethodDescriptor M'.1.desc).map (fun d => d.parameters.length) = some n) (hrk : M'.2.2.2.2.2 + 1 ≤ M.2.2.2.2.2) (hmx : M'.2.2.1 ≤ 40)
    (hl : Cond.methodLink M.1.cls index M'.1 ∈ nv_big) (hs : Cond.static M'.1 ∈ nv_big) : nv_SC M M' pc n none := by
  intro p l e R s m args below meth c X scr c0 s0 hM H locs cells slots lA ls st σ hI hL hk hroom hrcv mc ms Qc XC free hmet hfit
  have g2 : nv_ws M' = Cond.codeWith M'.1 M'.2.1 M'.2.2.1 M'.2.2.2.1 M'.2.2.2.2.1 :: nv_big := by
    unfold nv_ws
    split
    · rename_i h; exact absurd h h0
    · rename_i q r h; rw [h]
  have hts := hM.2.2.2.2.2.1
  have hWd := hM.2.2.2.2.2.2.2.2.2.1
  have hsv : nv_sv X := hWd.2.2.2.2.2.2.2.1
  have hfr := hM.2.2.2.2.2.2.2.2.2.2.2.1
  have hlo := hM.2.2.2.2.2.2.2.2.2.2.2.2
  have hr8 := nv_room_map hsv hroom
  have hG : GoodIn nv_big (va_wsS M.1.cls index M'.1 (nv_ws M')) := nv_goods (by
    intro w hw
    rcases List.mem_append.mp hw with h | h
    · simp only [List.mem_cons, List.not_mem_nil, or_false] at h
      rcases h with rfl | rfl | rfl
      · exact hl
      · exact hs
      · exact hini
    · rw [nv_ws_eq] at h
      rcases List.mem_cons.mp h with rfl | h
      · exact hhd
      · exact h)
  refine vx_runSX (As := (st.take n).reverse.map (nv_rv X)) (rest := (st.drop n).map (nv_rv X)) (nv_fixed hM) hmet (vx_cwSW n hts hG g2 rfl rfl hdsc ⟨?_, ?_⟩) ⟨nv_blind X scr σ _, nv_pcOk hI hWd _⟩ rfl ?_ hL.2.1 ?_ ?_ hd hfit
  · show M'.2.2.2.2.2 + 1 ≤ R.frames; omega
  · show 8 + (M'.2.2.1 + 11) + 60 * M'.2.2.2.2.2 ≤ R.locals; omega
  · simp; omega
  · show st.map (nv_rv X) = _
    rw [← List.map_reverse, List.reverse_reverse, ← List.map_append, List.take_append_drop]
  · show 2 * 0 + _ ≤ 8; omega
/-- a private static method of a nest mate -/
theorem sc_SN {M M' : nv_M} {pc n index : Nat} {host : String} (hd : decode M.2.1 pc = .ok (.invokestatic index, 3)) (hc : nv_cw M M' n) (hl : Cond.methodLinkNest M.1.cls index M'.1 host ∈ nv_nests) (hs : Cond.static M'.1 ∈ nv_big) : nv_SC M M' pc n none := by
  intro p l e R s m args below meth c X scr c0 s0 hM H locs cells slots lA ls st σ hI hL hk hroom hrcv mc ms Qc XC free hmet hfit
  obtain ⟨h0, hhd, hini, hdsc, hrk, hmx⟩ := hc
  obtain ⟨g1, g2⟩ := nv_hd0 h0
  have hts := hM.2.2.2.2.2.1
  have hWd := hM.2.2.2.2.2.2.2.2.2.1
  have hsv : nv_sv X := hWd.2.2.2.2.2.2.2.1
  have hfr := hM.2.2.2.2.2.2.2.2.2.2.2.1
  have hlo := hM.2.2.2.2.2.2.2.2.2.2.2.2
  have hr8 := nv_room_map hsv hroom
  refine vx_runSN (As := (st.take n).reverse.map (nv_rv X)) (rest := (st.drop n).map (nv_rv X)) (nv_fixed hM) hmet ⟨va_cnB n hts (nv_wsGood hhd) g2 rfl rfl (hWd.2.2.1 _ hl) (hts _ hini) hdsc ⟨?_, ?_⟩, hts _ hs, trivial⟩ ⟨nv_blind X scr σ _, nv_pcOk hI hWd _⟩ rfl ?_ hL.2.1 ?_ ?_ hd hfit
  · show M'.2.2.2.2.2 + 1 ≤ R.frames; omega
  · show 8 + (M'.2.2.1 + 11) + 60 * M'.2.2.2.2.2 ≤ R.locals; omega
  · simp; omega
  · show st.map (nv_rv X) = _
    rw [← List.map_reverse, List.reverse_reverse, ← List.map_append, List.take_append_drop]
  · show 2 * 0 + _ ≤ 8; omega
/-- a constructor, of the same kind of link or a nest mate's -/
theorem sc_I {M M' : nv_M} {pc n index ci : Nat} {C : String} {T : u_T} {N : Nat} (hcl : nv_cl[ci]? = some (C, T, N)) (hd : decode M.2.1 pc = .ok (.invokespecial index, 3)) (hc : nv_cw M M' n) (hr : M'.2.2.2.1 = none) (hn : M'.1.name = "<init>") (hl : Cond.methodLink M.1.cls index M'.1 ∈ nv_big ∨ ∃ host, Cond.methodLinkNest M.1.cls index M'.1 host ∈ nv_nests) (hi : Cond.instanceMethod M'.1 ∈ nv_big) : nv_SC M M' pc (n + 1) (some ci) := by
  intro p l e R s m args below meth c X scr c0 s0 hM H locs cells slots lA ls st σ hI hL hk hroom hrcv mc ms Qc XC free hmet hfit
  obtain ⟨a, As, rest, e1, e2, e3, e4, e5⟩ := nv_split hk hrcv
  obtain ⟨h0, hhd, hini, hdsc, hrk, hmx⟩ := hc
  obtain ⟨g1, g2⟩ := nv_hd0 h0
  rw [hr] at g1 g2
  have hts := hM.2.2.2.2.2.1
  have hWd := hM.2.2.2.2.2.2.2.2.2.1
  have hsv : nv_sv X := hWd.2.2.2.2.2.2.2.1
  have hfr := hM.2.2.2.2.2.2.2.2.2.2.2.1
  have hlo := hM.2.2.2.2.2.2.2.2.2.2.2.2
  obtain ⟨b, hb1, hcell⟩ := nv_rcO hcl X scr s c0 s0 H locs cells slots σ a hI hWd e5
  have hr8 := nv_room_map hsv hroom
  rw [e1] at hmet ⊢
  have hpc := nv_pcOk hI hWd (.ref a :: As)
  simp only [List.map_cons, hb1] at hpc ⊢
  rw [e2] at hr8 ⊢
  have k1 : (nv_rm M' mc ms).frames + 1 ≤ R.frames := by show M'.2.2.2.2.2 + 1 ≤ R.frames; omega
  have k2 : 8 + (M'.2.2.1 + 11) + (nv_rm M' mc ms).locals ≤ R.locals := by show 8 + (M'.2.2.1 + 11) + 60 * M'.2.2.2.2.2 ≤ R.locals; omega
  have k3 : (As.map (nv_rv X)).length = n := by rw [List.length_map]; omega
  have k4 : (F0 m pc lA (st.map (nv_rv X))).stack = (As.map (nv_rv X)).reverse ++ .ref b :: rest.map (nv_rv X) := by
    show st.map (nv_rv X) = _
    rw [e3]; simp [hb1]
  have k5 : 2 * (F0 m pc lA (st.map (nv_rv X))).monitorRoom + ((rest.map (nv_rv X)).map fun v => v.category).sum ≤ 8 := by show 2 * 0 + _ ≤ 8; omega
  rcases hl with hl | ⟨host, hl⟩
  · exact vx_runI (As := As.map (nv_rv X)) (rest := rest.map (nv_rv X)) (b := b) (nv_fixed hM) hmet ⟨callB_of n hts (nv_wsGood hhd) g2 rfl rfl (hts _ hini) (hts _ hl) hdsc ⟨k1, k2⟩, hn, hts _ hi⟩ ⟨nv_blind X scr σ _, hpc⟩ rfl k3 hL.2.1 k4 k5 hd hfit
  · exact vx_runIN (As := As.map (nv_rv X)) (rest := rest.map (nv_rv X)) (b := b) (nv_fixed hM) hmet ⟨va_cnB n hts (nv_wsGood hhd) g2 rfl rfl (hWd.2.2.1 _ hl) (hts _ hini) hdsc ⟨k1, k2⟩, hn, hts _ hi⟩ ⟨nv_blind X scr σ _, hpc⟩ rfl k3 hL.2.1 k4 k5 hd hfit
/-- the ordinal of a form: a method of the kind above -/
theorem sc_U {M M' : nv_M} {pc index : Nat} {x : MethodName} {owner : String} (hd : decode M.2.1 pc = .ok (.invokevirtual index, 3)) (hc : nv_cw M M' 0) (hyx : M'.1 = ⟨owner, x.name, x.desc⟩) (hdx : owner ≠ "java/lang/invoke/MethodHandle" ∧ owner ≠ "java/lang/invoke/VarHandle" ∧ (parseMethodDescriptor x.desc).map (fun d => d.parameters.length) = some 0)
    (hl : Cond.methodLink M.1.cls index x ∈ nv_big) (hsm : Cond.sameMethod x.cls owner x.name x.desc ∈ nv_big) (hs : Cond.selects RX3 x M'.1 ∈ nv_big) (hi : Cond.instanceMethod M'.1 ∈ nv_big) : nv_SC M M' pc 1 (some 1001) := by
  intro p l e R s m args below meth c X scr c0 s0 hM H locs cells slots lA ls st σ hI hL hk hroom hrcv mc ms Qc XC free hmet hfit
  obtain ⟨a, As, rest, e1, e2, e3, e4, e5⟩ := nv_split hk hrcv
  obtain ⟨h0, hhd, hini, hdsc, hrk, hmx⟩ := hc
  obtain ⟨g1, g2⟩ := nv_hd0 h0
  have hts := hM.2.2.2.2.2.1
  have hWd := hM.2.2.2.2.2.2.2.2.2.1
  have hsv : nv_sv X := hWd.2.2.2.2.2.2.2.1
  have hfr := hM.2.2.2.2.2.2.2.2.2.2.2.1
  have hlo := hM.2.2.2.2.2.2.2.2.2.2.2.2
  obtain ⟨b, hb1, hcell⟩ := nv_rcF X scr s c0 s0 H locs cells slots σ a hI hWd e5
  have hr8 := nv_room_map hsv hroom
  rw [e1] at hmet ⊢
  have hpc := nv_pcOk hI hWd (.ref a :: As)
  simp only [List.map_cons, hb1] at hpc ⊢
  rw [e2] at hr8 ⊢
  have hG : GoodIn nv_big (va_wsU M.1.cls index RX3 owner x M'.1 (nv_ws M')) := nv_goods (by
    intro w hw
    rcases List.mem_append.mp hw with h | h
    · simp only [List.mem_cons, List.not_mem_nil, or_false] at h
      rcases h with rfl | rfl | rfl | rfl | rfl
      · exact hl
      · exact hsm
      · exact hs
      · exact hi
      · exact hini
    · rw [nv_ws_eq] at h
      rcases List.mem_cons.mp h with rfl | h
      · exact hhd
      · exact h)
  refine vx_runU (As := As.map (nv_rv X)) (rest := rest.map (nv_rv X)) (b := b) (C := RX3) (owner := owner) (x := x) (nv_fixed hM) hmet (va_cwU 0 hts hG g2 rfl rfl hyx hdx ⟨?_, ?_⟩) ⟨nv_blind X scr σ _, hcell, hpc⟩ rfl ?_ hL.2.1 ?_ ?_ hd hfit
  · show M'.2.2.2.2.2 + 1 ≤ R.frames; omega
  · show 8 + (M'.2.2.1 + 11) + 60 * M'.2.2.2.2.2 ≤ R.locals; omega
  · rw [List.length_map]; omega
  · show st.map (nv_rv X) = _
    rw [e3]; simp [hb1]
  · show 2 * 0 + _ ≤ 8; omega
/-- the words of a throw of E out of SpoonNavy -/
def nv_thr (E : String) (ic : Nat) (names : List String) : Prop := Bundle.fit E = true ∧ (∀ n ∈ names, Bundle.fit n = true) ∧ Cond.initialized E ∈ nv_big ∧ (∀ w ∈ (vx_atS RX7 ic E names).filter goodWord, w ∈ nv_big) ∧ (∀ w ∈ (vx_atS RX7 ic E names).filter (fun w => !goodWord w), w ∈ nv_nests) ∧ (∀ w ∈ vx_atS RX7 ic E names, vx_ot w = true) ∧ names.length = 2
theorem st_S {M : nv_M} {pc ik is ic : Nat} {E text : String} {names : List String} (hM1 : M.1.cls = RX7) (hh : M.2.2.2.2.1 = []) (hrk : 6 ≤ M.2.2.2.2.2) (ht : nv_thr E ic names) (hk : Cond.classLink RX7 ik E ∈ nv_big) (hmsg : (is, text) ∈ nv_msgs)
    (d0 : decode M.2.1 pc = .ok (.new ik, 3)) (d3 : decode M.2.1 (pc + 3) = .ok (.dup, 1))
    (dd : (decode M.2.1 (pc + 4) = .ok (.ldc is, 2) ∧ decode M.2.1 (pc + 6) = .ok (.invokespecial ic, 3) ∧ decode M.2.1 (pc + 9) = .ok (.athrow, 1)) ∨ (decode M.2.1 (pc + 4) = .ok (.ldc_w is, 3) ∧ decode M.2.1 (pc + 7) = .ok (.invokespecial ic, 3) ∧ decode M.2.1 (pc + 10) = .ok (.athrow, 1))) : nv_ST M pc E := by
  intro p l e R s m args below meth c X scr c0 s0 hM H locs cells slots lA ls st σ hI hL hroom hf Qc mc ms hmc hms
  obtain ⟨t1, t2, t3, t4, t5, t6, t7⟩ := ht
  obtain ⟨hx, hb, hret, hml, hown, hts, hlk, hht, hnm, hWd, htr, hfr, hlo⟩ := hM
  have hsv : nv_sv X := hWd.2.2.2.2.2.2.2.1
  have hr8 := nv_room_map hsv hroom
  rw [hM1] at hown
  obtain ⟨sa, hsa⟩ := hWd.2.1.2.2.2.2.2.2.2.2.2.2 _ hmsg
  have hat : ∀ w ∈ vx_atS RX7 ic E names, w.before args s = true := by
    intro w hw
    by_cases hg : goodWord w = true
    · exact hts _ (t4 w (List.mem_filter.mpr ⟨hw, hg⟩))
    · have h1 := t5 w (List.mem_filter.mpr ⟨hw, by simpa using hg⟩)
      have h2 := hWd.2.2.1 w h1
      have h3 := (List.mem_filter.mp h1).2
      refine h2.use ?_
      cases w <;> first | rfl | cases h3
  have hgood : ∀ w ∈ Cond.classLink RX7 ik E :: Cond.initialized E :: vx_atS RX7 ic E names, vx_ot w = true := by
    intro w hw
    rcases List.mem_cons.mp hw with rfl | hw
    · rfl
    · rcases List.mem_cons.mp hw with rfl | hw
      · rfl
      · exact t6 w hw
  have hS := hI.2.2.2.1
  have f1 : σ.2.1 + (σ.2.2.1 + 1) ≤ c0 + R.cells := hf.1
  have f2 : σ.2.2.2.1 + 6 * (σ.2.2.1 + 1) ≤ s0 + R.slots := hf.2
  have f3 := hI.2.2.2.2.1
  have f4 := hI.2.2.2.2.2.1
  have hxx : ∀ t : State, s.vm.Alike t.vm → H.size ≤ t.heap.size → (∀ q : Nat, q < H.size → t.heap[q]? = H[q]?) → nv_XC X (.inr E, nv_bump σ) E s t := by
    intro t _ g1 g2
    refine ⟨⟨rfl, ?_, ?_, ?_⟩, Nat.le_trans hS.1 g1, fun q h1 h2 => (g2 q (Nat.lt_of_lt_of_le h1 hS.1)).trans (hS.2.1 q h1 h2)⟩
    · intro a o ho
      obtain ⟨k1, k2⟩ := hI.1 a o ho
      exact ⟨k1, k2.kept (g2 _ k2.lt)⟩
    · intro h
      exact absurd h (by show σ.2.2.1 + 1 ≠ 0; omega)
    · exact Nat.le_trans hI.2.2.1 g1
  have hout : ∀ (z : Nat), ∀ x ∈ c.exceptionTable.toList, covers x z = false := by
    intro z x hx
    rw [hht, hh] at hx
    cases hx
  have hsz := hL.2.1.trans hml.symm
  rcases dd with ⟨d4, d6, d9⟩ | ⟨d4, d7, d10⟩
  · exact vx_throwS hx hb htr hown t1 t2 (hts _ hk) (hts _ t3) hsa hat hgood hWd.2.1.2.2.2.2.2.2.2.2.1 hWd.2.1.2.2.2.2.2.2.2.2.2.1 hS hsz d0 d3 d4 d6 d9 (hout _) (by omega) (by omega) (by omega) (by omega) hlk hxx hS.2.2 hmc hms
  · exact vx_throwSW hx hb htr hown t1 t2 (hts _ hk) (hts _ t3) hsa hat hgood hWd.2.1.2.2.2.2.2.2.2.2.1 hWd.2.1.2.2.2.2.2.2.2.2.2.1 hS hsz d0 d3 d4 d7 d10 (hout _) (by omega) (by omega) (by omega) (by omega) hlk hxx hS.2.2 hmc hms
theorem nv_LH.lose {X : nv_X} {lA lA' : Array Slot} {nL i : Nat} {L : nv_Ls} {w : Value} (hX : nv_sv X) (h : nv_LH X lA nL L) (hi : i < nL)
    (h' : lv_has lA' nL ((i, w) :: (nv_lq X 0 L).filter (fun q => !(q.1 == i) && !(q.1 + 1 == i && q.2.category == 2)))) : nv_LH X lA' nL (nv_lose L i) := by
  refine ⟨by unfold nv_lose; rw [List.length_set, nv_setL_len]; exact h.1, h'.1, h'.2.1, fun j u hu => ?_⟩
  unfold nv_lose at hu
  by_cases hj : j = i
  · subst hj
    rw [List.getElem?_set_self (by rw [nv_setL_len, h.1]; exact hi)] at hu
    cases hu
  · rw [List.getElem?_set_ne (Ne.symm hj)] at hu
    rcases nv_setL_at (by rw [h.1]; exact hi) hu with ⟨h1, -⟩ | ⟨h1, h2, h3⟩
    · exact absurd h1 hj
    · refine h'.2.2 (j, nv_rv X u) (List.mem_cons_of_mem _ (List.mem_filter.mpr ⟨(nv_lq_mem L 0 _).mpr ⟨j, u, h2, by simp⟩, ?_⟩))
      simp only [nv_rv_cat hX]
      simp
      exact ⟨h1, Classical.not_and_iff_not_or_not.mp h3⟩
/-- a handler that takes what was thrown and begins by storing it -/
theorem sk_at {M : nv_M} {pc t i : Nat} {E : String} (pre : List (Nat × Nat × Nat × Nat)) (x : Nat × Nat × Nat × Nat) (suf : List (Nat × Nat × Nat × Nat)) (hs : M.2.2.2.2.1 = pre ++ x :: suf) (hp : ∀ z ∈ pre, z.2.2.2 ≠ 0 ∧ ∃ nm : String, Cond.classLink M.1.cls z.2.2.2 nm ∈ nv_big ∧ (E, nm) ∈ nv_nc)
    (hc : covers ⟨x.1, x.2.1, x.2.2.1, x.2.2.2⟩ pc = true) (h0 : x.2.2.2 ≠ 0) (hl : Cond.classLink M.1.cls x.2.2.2 E ∈ nv_big) (hk : Cond.castable E E ∈ nv_nests) (hi : i < M.2.2.1)
    (ha : (∃ q : Fin 4, decode M.2.1 x.2.2.1 = .ok (.astore_n q, 1) ∧ (q : Nat) = i ∧ t = x.2.2.1 + 1) ∨ (decode M.2.1 x.2.2.1 = .ok (.astore i, 2) ∧ t = x.2.2.1 + 2)) : nv_SK M pc E t i := by
  intro p l e R s m args below meth c Q X scr hM H locs cells slots lA ls rest q ce hL hce hcv hcl kk
  obtain ⟨hx, hb, hret, hml, hown, hts, hlk, hht, hnm, hWd, htr, hfr, hlo⟩ := hM
  have hsv : nv_sv X := hWd.2.2.2.2.2.2.2.1
  have hT : c.exceptionTable.toList = (tableOf pre) ++ ⟨x.1, x.2.1, x.2.2.1, x.2.2.2⟩ :: tableOf suf := by
    rw [hht, hs]
    simp [tableOf]
  refine vx_catch hown _ _ _ hT ?_ hc h0 (hts _ hl) ((hWd.2.2.1 _ hk).use rfl) hce hcv hcl ?_
  · intro z hz
    obtain ⟨z0, hz0, rfl⟩ := List.mem_map.mp hz
    obtain ⟨g1, nm, g2, g3⟩ := hp z0 hz0
    exact Or.inr ⟨g1, nm, hts _ g2, hWd.2.2.2.1 _ g3⟩
  · rcases ha with ⟨q4, d, rfl, rfl⟩ | ⟨d, rfl⟩
    · exact lv_astore_n hx hb d rfl hL.has hi rfl (fun lA1 h1 => kk lA1 (hL.lose hsv hi h1))
    · exact lv_astore hx hb d hL.has hi rfl (fun lA1 h1 => kk lA1 (hL.lose hsv hi h1))
theorem so_gFORMSN {M : nv_M} {pc index : Nat} {host : String} (hd : decode M.2.1 pc = .ok (.getstatic index, 3)) (hl : Cond.fieldLinkNest M.1.cls index RX7 "FORMS" "[LSpoonNavy$Form;" host ∈ nv_nests) : nv_SO M pc (nv_cst (.ref 1000300) (pc + 3)) := by
  intro p l e R s m args below meth c Q X scr c0 s0 hM H locs cells slots lA ls st σ hI hL
  obtain ⟨hx, hb, hret, hml, hown, hts, hlk, hht, hnm, hWd, htr, hfr, hlo⟩ := hM
  refine ⟨fun cfg h hf kk => ?_, fun v h => ?_⟩
  · cases h
    obtain ⟨a, h1, h2, -⟩ := hWd.2.1.2.2.1
    refine va_getsN (v := nv_rv X (.ref 1000300)) hx hb (by rw [nv_rv_st (k := 300) rfl, h1]; exact h2) hI.2.2.2.1 hown ((hWd.2.2.1 _ hl).use rfl) (fun x h => h) hd (kk _ _ _ _ _ hI hL)
  · cases h
