theorem nv_new0 {s t : State} {L : List Loc} {k n k' n' : Nat} (h : s.sameButNew t L k n) (hL : ∀ q ∈ L, s.heap.size ≤ q.base) (hk : k ≤ k') (hn : n ≤ n') : s.sameButNew t [] k' n' := by
  obtain ⟨h1, h2, h3, h4, h5, h6⟩ := h
  refine ⟨h1, h2, by omega, h4, by omega, fun a c ha => ?_⟩
  obtain ⟨c', g1, g2, g3, g4⟩ := h6 a c ha
  refine ⟨c', g1, g2, g3, fun i _ => g4 i fun hm => ?_⟩
  have := hL _ hm
  have h9 := (Array.getElem?_eq_some_iff.mp ha).1
  exact absurd h9 (Nat.not_lt.mpr this)
/-- the start of the abstract run -/
def np_s0 (L : Nat) (xs : Nat → Int32) : nv_St := (fun _ => none, 0, 0, 0, (L, xs))
/-- what the abstract run of the law comes to -/
def np_Law : Prop := ∀ (L : Nat) (xs : Nat → Int32), L ≤ 260 → ∃ τ : nv_St, nv_Run np_P 180 (0, [some (.ref nv_scrA), none, none, none, none, none, none, none, none], [], np_s0 L xs) = some (.inl (some (.int 1)), τ) ∧ τ.2.1 + τ.2.2.1 ≤ 500000 ∧ τ.2.2.2.1 + 6 * τ.2.2.1 ≤ 4000000
theorem np_whole (hlaw : np_Law) {p : Program} {e : Env} {s : State} {m : MethodId} {below : List Frame} {meth : Method} {c : Code} (l : Launch) (hflags : l.flags = flags0) {b L : Nat} {xs : Nat → Int32} (hL : L ≤ 260)
    (hx : p.tables.exec = Jvm.exec) (hb : c.code = code) (hr : meth.sig.returnType = ret) (hml : c.maxLocals = 9) (hown : s.vm.findClass "SpoonNavyLaw" = some m.cls) (hts : ∀ w ∈ lw_tbl, w.before #[Value.ref b] s = true) (hsc : va_X b L xs s s.heap) (hbl : b < s.heap.size) (hlk : meth.locks = false) (hgv : (Jvm.Cond.and given_1 narrow_1).before #[Value.ref b] s = true)
    (hnm : meth.name = x.name) (htab : c.exceptionTable.toList = []) :
    W p l e room_1 s m #[Value.ref b] below meth c s.heap [] 0 0 (fun t => ∃ o, t.status = .running ∧ Ended t below o ∧ o = .returned (some (.int 1)) ∧ s.WarmedH t.vm ∧ s.sameButNew ({ t with vm := s.vm } : State) [] 500000 4000000) (entryFrame m ([Value.ref b] : List Value).toArray 9) := by
  obtain ⟨X, hX1, hWd, h900⟩ := np_world hts hsc hbl hgv
  obtain ⟨τ, hrun, h1, h2⟩ := hlaw L xs hL
  obtain ⟨n, hn⟩ := nv_Run_iff.mp hrun
  have hst : l.stackTraces = false := by
    show (!l.flags.contains noTraceFlag) = false
    rw [hflags]
    decide +kernel
  have hsv : nv_sv X := hWd.2.2.2.2.2.2.2.1
  have hrv : ([Value.ref nv_scrA].map (nv_rv X)).toArray = ([Value.ref b] : List Value).toArray := by
    have : nv_rv X (.ref nv_scrA) = .ref b := by
      show (if nv_scrA < nv_off then Value.ref (X.1 + nv_scrA) else X.2.1 (nv_scrA - nv_off)) = .ref b
      rw [if_neg (by decide)]
      exact h900
    simp only [List.map_cons, List.map_nil, this]
  obtain ⟨lA, he, hLH⟩ := nv_init_LH hsv (as := [Value.ref nv_scrA]) (n := 9) (by decide)
  have he1 := he m
  rw [hrv] at he1
  rw [he1]
  have hts2 : ∀ w ∈ nv_big, w.before #[Value.ref b] s = true := nv_bigT hts
  have hB := np_body hst n
  unfold nv_Bd at hB
  have hIn : nv_In X (L, xs) s 0 0 s.heap [] 0 0 (np_s0 L xs) := ⟨fun a o h => absurd (show (none : Option nv_Ob) = some o from h) (by simp), fun _ => hX1.symm, Nat.le_of_eq hX1, va_S.rf, rfl, rfl, rfl⟩
  have key := hB 180 _ _ hn (p := p) (e := e) (R := room_1) (s := s) (m := m) (args := #[Value.ref b]) (below := below) (meth := meth) (c := c) X (L, xs) 0 0 ⟨hx, hb, hr, hml, hown, hts2, hlk, htab, hnm, hWd, hst, by decide, by decide⟩ s.heap [] 0 0 lA
    hIn hLH ⟨by show τ.2.1 + τ.2.2.1 ≤ 0 + room_1.cells; have : 500000 ≤ room_1.cells := Nat.le_of_ble_eq_true rfl; omega, by show τ.2.2.2.1 + 6 * τ.2.2.1 ≤ 0 + room_1.slots; have : 4000000 ≤ room_1.slots := Nat.le_of_ble_eq_true rfl; omega⟩ (τ.2.1 + τ.2.2.1) (τ.2.2.2.1 + 6 * τ.2.2.1) (Nat.zero_add _) (Nat.zero_add _)
  intro T hT X9
  obtain ⟨t, a1, o, b1, b2, b3⟩ := key T hT X9
  refine ⟨t, a1, o, b1, b2, ?_⟩
  rcases b3 with ⟨⟨⟨v, hv, ho, -⟩, -⟩, L9, ⟨-, hW, hsame⟩, hfree⟩ | ⟨q, ho, E, ce, L9, ⟨⟨hE, -⟩, -⟩, -⟩
  · cases hv
    exact ⟨ho, hW, nv_new0 hsame (fun q hq => by rw [← hX1]; exact hfree q hq) h1 h2⟩
  · cases hE
