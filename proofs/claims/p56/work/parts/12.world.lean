/-! SOUNDNESS OF THE ABSTRACT MACHINE, 2: what stands since before the start, and what a method's frame knows. -/
/-- the texts: 0 to 23 the law's, 24 to 31 the patterns -/
def nv_sw : List Int32 := [1, 2, 3, 4, 5, 6, 7, 0]
def nv_msgs : List (Nat × String) := [(85, "the game is not finished"), (172, "no spoon is in the cell"), (190, "there is no such rank"), (192, "a spoon is sunk"), (201, "there is no direction"), (243, "the character is out of range"), (249, "the command text is full"), (264, "the text is not a command text"), (269, "a command fails"), (276, "no command has failed"), (284, "there is no such index"), (289, "there was no shot"), (292, "no spoon of the fleet floats"), (307, "there is no change to undo"), (312, "there is no snapshot"), (318, "there is no such spoon or fleet"), (320, "a number is out of range"), (322, "the game does not allow this now"), (326, "a spoon is in the cell"), (329, "the action is refused"), (364, "there is no such spoon"), (366, "the spoon is sunk"), (371, "the game is not going on"), (377, "there is no such fleet"), (382, "a coordinate is out of range")]
def nv_nc : List (String × String) := [("java/lang/IllegalArgumentException", "java/lang/IndexOutOfBoundsException"), ("java/lang/IllegalStateException", "java/lang/IndexOutOfBoundsException"), ("java/lang/UnsupportedOperationException", "java/lang/IndexOutOfBoundsException"), ("java/util/NoSuchElementException", "java/lang/IndexOutOfBoundsException"), ("java/lang/ArithmeticException", "java/lang/IndexOutOfBoundsException"), ("java/lang/IndexOutOfBoundsException", "java/lang/IllegalArgumentException"), ("java/lang/IllegalStateException", "java/lang/IllegalArgumentException"), ("java/lang/UnsupportedOperationException", "java/lang/IllegalArgumentException"), ("java/util/NoSuchElementException", "java/lang/IllegalArgumentException"), ("java/lang/ArithmeticException", "java/lang/IllegalArgumentException"), ("java/lang/IndexOutOfBoundsException", "java/lang/IllegalStateException"), ("java/lang/IllegalArgumentException", "java/lang/IllegalStateException"), ("java/lang/UnsupportedOperationException", "java/lang/IllegalStateException"), ("java/util/NoSuchElementException", "java/lang/IllegalStateException"), ("java/lang/ArithmeticException", "java/lang/IllegalStateException"), ("java/lang/IndexOutOfBoundsException", "java/lang/UnsupportedOperationException"), ("java/lang/IllegalArgumentException", "java/lang/UnsupportedOperationException"), ("java/lang/IllegalStateException", "java/lang/UnsupportedOperationException"), ("java/util/NoSuchElementException", "java/lang/UnsupportedOperationException"), ("java/lang/ArithmeticException", "java/lang/UnsupportedOperationException"), ("java/lang/IndexOutOfBoundsException", "java/util/NoSuchElementException"), ("java/lang/IllegalArgumentException", "java/util/NoSuchElementException"), ("java/lang/IllegalStateException", "java/util/NoSuchElementException"), ("java/lang/UnsupportedOperationException", "java/util/NoSuchElementException"), ("java/lang/ArithmeticException", "java/util/NoSuchElementException"), ("java/lang/IndexOutOfBoundsException", "java/lang/ArithmeticException"), ("java/lang/IllegalArgumentException", "java/lang/ArithmeticException"), ("java/lang/IllegalStateException", "java/lang/ArithmeticException"), ("java/lang/UnsupportedOperationException", "java/lang/ArithmeticException"), ("java/util/NoSuchElementException", "java/lang/ArithmeticException")]
def nv_isN : Cond → Bool
  | .fieldLinkNest .. => true
  | .methodLinkNest .. => true
  | .castable .. => true
  | .declares _ => true
  | _ => false
def nv_nests : List Cond := lw_tbl.filter nv_isN
theorem nv_inN {w : Cond} (i : Nat) (h : lw_tbl[i]? = some w) (hg : nv_isN w = true) : w ∈ nv_nests := List.mem_filter.mpr ⟨List.mem_of_getElem? h, hg⟩
def nv_Str (X : nv_X) (U : State) (H : Heap) (i : Nat) : Prop := ∃ a b : Nat, X.2.1 i = .ref a ∧ X.2.1 (100 + i) = .ref b ∧ va_O "java/lang/String" a (nv_A X) U H ∧ va_OF "java/lang/String" "coder" "B" (.int 0) a (nv_A X) U H ∧ va_OF "java/lang/String" "value" "[B" (.ref b) a (nv_A X) U H ∧ va_T .byte b (nv_lens.getD i 0) (fun j => .int ((nv_byts.getD i []).getD j 0)) (nv_A X) U H
def nv_Frm (X : nv_X) (U : State) (H : Heap) (i : Nat) : Prop := ∃ a : Nat, X.2.1 (200 + i) = .ref a ∧ va_O RX3 a (nv_A X) U H ∧ va_OF "java/lang/Enum" "ordinal" "I" (.int (Int32.ofNat i)) a (nv_A X) U H ∧ va_OF RX3 "pattern" "Ljava/lang/String;" (X.2.1 (24 + i)) a (nv_A X) U H
def nv_Row (X : nv_X) (U : State) (H : Heap) (k : Nat) (C n d : String) (ty : FieldType) (N : Nat) (f : Nat → Value) : Prop := ∃ a : Nat, X.2.1 k = .ref a ∧ va_Z C n d (.ref a) (nv_A X) U H ∧ va_T ty a N f (nv_A X) U H
def nv_Sx (X : nv_X) (U : State) (H : Heap) : Prop :=
  (∀ i, i < 32 → nv_Str X U H i) ∧ (∀ i, i < 8 → nv_Frm X U H i) ∧
  nv_Row X U H 300 RX7 "FORMS" "[LSpoonNavy$Form;" (.object RX3) 8 (fun j => X.2.1 (200 + j)) ∧
  nv_Row X U H 301 RX0 "$SwitchMap$SpoonNavy$Form" "[I" .int 8 (fun j => .int (nv_sw.getD j 0)) ∧
  nv_Row X U H 302 RL "TEXTS" "[Ljava/lang/String;" (.object "java/lang/String") 24 (fun j => X.2.1 j) ∧
  va_Z RX3 "END" "LSpoonNavy$Form;" (X.2.1 207) (nv_A X) U H ∧
  va_Z "java/lang/String" "COMPACT_STRINGS" "Z" (.int 1) (nv_A X) U H ∧
  va_Z "jdk/internal/util/Preconditions" "SIOOBE_FORMATTER" "Ljava/util/function/BiFunction;" (X.2.1 303) (nv_A X) U H ∧
  vx_Zq Bundle.tN "UNASSIGNED_STACK" Bundle.steD (nv_A X) U H ∧ vx_Zq Bundle.tN "SUPPRESSED_SENTINEL" Bundle.listD (nv_A X) U H ∧
  (∀ q ∈ nv_msgs, ∃ sa, vk_R RX7 q.1 q.2 sa U)
def nv_Wd (X : nv_X) (scr : nv_Scr) (U : State) (H : Heap) : Prop :=
  va_K X.2.2.1 nv_cl (nv_tys X) U ∧ nv_Sx X U H ∧ (∀ w ∈ nv_nests, va_Nw w U) ∧ (∀ q ∈ nv_nc, va_Nc q.1 q.2 U) ∧ va_AO RX6 U ∧ va_AO RX4 U ∧
  (∃ b : Nat, X.2.1 900 = .ref b ∧ b < X.1 ∧ va_X b scr.1 scr.2 U H) ∧ nv_sv X ∧ X.1 ≤ H.size
theorem nv_Str.to {X : nv_X} {u U : State} {H H1 : Heap} {i : Nat} (h : nv_Str X u H i) (hW : u.vm.Alike U.vm) (hq : ∀ a : Nat, a < H.size → ¬ nv_A X a → H1[a]? = H[a]?) : nv_Str X U H1 i := by
  obtain ⟨a, b, h1, h2, h3, h4, h5, h6⟩ := h
  exact ⟨a, b, h1, h2, (va_O.moved hW h3).kept hq, (va_OF.moved hW h4).kept hq, (va_OF.moved hW h5).kept hq, (va_T.moved hW h6).kept hq⟩
theorem nv_Frm.to {X : nv_X} {u U : State} {H H1 : Heap} {i : Nat} (h : nv_Frm X u H i) (hW : u.vm.Alike U.vm) (hq : ∀ a : Nat, a < H.size → ¬ nv_A X a → H1[a]? = H[a]?) : nv_Frm X U H1 i := by
  obtain ⟨a, h1, h3, h4, h5⟩ := h
  exact ⟨a, h1, (va_O.moved hW h3).kept hq, (va_OF.moved hW h4).kept hq, (va_OF.moved hW h5).kept hq⟩
theorem nv_Row.to {X : nv_X} {u U : State} {H H1 : Heap} {k N : Nat} {C n d : String} {ty : FieldType} {f : Nat → Value} (h : nv_Row X u H k C n d ty N f) (hW : u.vm.Alike U.vm) (hq : ∀ a : Nat, a < H.size → ¬ nv_A X a → H1[a]? = H[a]?) : nv_Row X U H1 k C n d ty N f := by
  obtain ⟨a, h1, h3, h4⟩ := h
  exact ⟨a, h1, (va_Z.moved hW h3).kept hq, (va_T.moved hW h4).kept hq⟩
theorem nv_Wd.to {X : nv_X} {scr : nv_Scr} {u U : State} {H H1 : Heap} (h : nv_Wd X scr u H) (hW : u.WarmedH U.vm) (hz : H.size ≤ H1.size) (hq : ∀ a : Nat, a < H.size → ¬ nv_A X a → H1[a]? = H[a]?) : nv_Wd X scr U H1 := by
  obtain ⟨h1, ⟨s1, s2, s3, s4, s5, s6, s7, s8, s9, s10, s11⟩, h3, h4, h5, h6, ⟨b, h7, h8, scrc, g1, g2, g3, g4, g5⟩, h9, h10⟩ := h
  have hA := hW.alike
  refine ⟨h1.moved hA, ⟨fun i hi => (s1 i hi).to hA hq, fun i hi => (s2 i hi).to hA hq, s3.to hA hq, s4.to hA hq, s5.to hA hq, (va_Z.moved hA s6).kept hq, (va_Z.moved hA s7).kept hq, (va_Z.moved hA s8).kept hq, (vx_Zq.moved hA s9).kept hq, (vx_Zq.moved hA s10).kept hq, fun q hq1 => ?_⟩, fun w hw => ?_, fun q hq1 => ?_, h5.moved hA, h6.moved hA, ⟨b, h7, h8, scrc, ?_, State.isArrayOf_alike hA g2, g3, g4, g5⟩, h9, Nat.le_trans h10 hz⟩
  · obtain ⟨sa, hr⟩ := s11 q hq1
    exact ⟨sa, hr.warm hW⟩
  · have hk := (List.mem_filter.mp hw).2
    have hn := h3 w hw
    cases w <;> first | exact hn.warmF hW | exact hn.warmM hW | exact hn.warmC hW | exact hn.warmD hW | cases hk
  · exact (h4 q hq1).moved hA
  · rw [hq b (Array.getElem?_eq_some_iff.mp g1).1 (Nat.not_le.mpr h8)]; exact g1
theorem nv_Wd.same {X : nv_X} {scr : nv_Scr} {u U : State} {H : Heap} (h : nv_Wd X scr u H) (hv : U.vm = u.vm) : nv_Wd X scr U H := h.to (by rw [hv]; exact State.WarmedH.refl u) (Nat.le_refl _) (fun _ _ _ => rfl)
/-- what a method's frame knows: l, X, the script, name, bytes, locals, what it returns, its handlers, its depth -/
def nv_Mx (l : Launch) (X : nv_X) (scr : nv_Scr) (y : MethodName) (cc : ByteArray) (mL : Nat) (ret : Option FieldType) (hh : List (Nat × Nat × Nat × Nat)) (rk : Nat) (p : Program) (R : Room) (s : State) (m : MethodId) (args : Array Value) (meth : Method) (c : Code) : Prop :=
  p.tables.exec = Jvm.exec ∧ c.code = cc ∧ meth.sig.returnType = ret ∧ c.maxLocals = mL ∧ s.vm.findClass y.cls = some m.cls ∧ (∀ w ∈ nv_big, w.before args s = true) ∧ meth.locks = false ∧ c.exceptionTable.toList = tableOf hh ∧ meth.name = y.name ∧ nv_Wd X scr s s.heap ∧ l.stackTraces = false ∧ rk ≤ R.frames ∧ 60 * rk ≤ R.locals
/-- what holds at a point of the walk: c0, s0: cells and slots made before the method began -/
def nv_In (X : nv_X) (scr : nv_Scr) (s : State) (c0 s0 : Nat) (H : Heap) (locs : List Loc) (cells slots : Nat) (σ : nv_St) : Prop :=
  nv_HR X σ.1 H ∧ (σ.2.2.1 = 0 → H.size = X.1 + σ.2.1) ∧ X.1 ≤ H.size ∧ va_S (nv_A X) s.heap H locs ∧ c0 + cells = σ.2.1 + σ.2.2.1 ∧ s0 + slots = σ.2.2.2.1 + 6 * σ.2.2.1 ∧ σ.2.2.2.2 = scr
def nv_Fits (R : Room) (c0 s0 : Nat) (σ : nv_St) : Prop := σ.2.1 + σ.2.2.1 ≤ c0 + R.cells ∧ σ.2.2.2.1 + 6 * σ.2.2.1 ≤ s0 + R.slots
/-- the instruction at pc leaves the method with v -/
def nv_RT (cc : ByteArray) (ret : Option FieldType) (pc : Nat) : Option Value → Prop
  | none => decode cc pc = .ok (.return_, 1) ∧ ret = none
  | some (.int x) => decode cc pc = .ok (.ireturn, 1) ∧ ∃ ty, ret = some ty ∧ narrow ty (.int x) = .int x
  | some (.long _) => decode cc pc = .ok (.lreturn, 1) ∧ ret = some .long
  | some (.float _) => decode cc pc = .ok (.freturn, 1) ∧ ret = some .float
  | some (.double _) => decode cc pc = .ok (.dreturn, 1) ∧ ret = some .double
  | some (.ref _) => decode cc pc = .ok (.areturn, 1) ∧ ∃ rt, ret = some rt ∧ ((∃ n, rt = .object n) ∨ ∃ t, rt = .array t)
  | some .null => decode cc pc = .ok (.areturn, 1) ∧ ∃ rt, ret = some rt ∧ ((∃ n, rt = .object n) ∨ ∃ t, rt = .array t)
  | some (.retAddr _) => False
abbrev nv_M : Type := MethodName × ByteArray × Nat × Option FieldType × List (Nat × Nat × Nat × Nat) × Nat
/-- a deed at a pc of a method is what the real machine does there -/
def nv_SO (M : nv_M) (pc : Nat) (op : nv_Op) : Prop :=
  ∀ {p : Program} {l : Launch} {e : Env} {R : Room} {s : State} {m : MethodId} {args : Array Value} {below : List Frame} {meth : Method} {c : Code} {Q : State → Prop} (X : nv_X) (scr : nv_Scr) (c0 s0 : Nat),
    nv_Mx l X scr M.1 M.2.1 M.2.2.1 M.2.2.2.1 M.2.2.2.2.1 M.2.2.2.2.2 p R s m args meth c →
    ∀ (H : Heap) (locs : List Loc) (cells slots : Nat) (lA : Array Slot) (ls : nv_Ls) (st : List Value) (σ : nv_St), nv_In X scr s c0 s0 H locs cells slots σ → nv_LH X lA M.2.2.1 ls →
    (∀ cfg : nv_Cfg, op ls st σ = some (.inl cfg) → nv_Fits R c0 s0 cfg.2.2.2 →
      (∀ (H1 : Heap) (locs1 : List Loc) (cells1 slots1 : Nat) (lA1 : Array Slot), nv_In X scr s c0 s0 H1 locs1 cells1 slots1 cfg.2.2.2 → nv_LH X lA1 M.2.2.1 cfg.2.1 → W p l e R s m args below meth c H1 locs1 cells1 slots1 Q (F0 m cfg.1 lA1 (cfg.2.2.1.map (nv_rv X)))) →
      W p l e R s m args below meth c H locs cells slots Q (F0 m pc lA (st.map (nv_rv X)))) ∧
    (∀ v : Option Value, op ls st σ = some (.inr v) → st = v.toList ∧ nv_RT M.2.1 M.2.2.2.1 pc v)
