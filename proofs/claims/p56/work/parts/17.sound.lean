/-! SOUNDNESS OF THE ABSTRACT MACHINE, 7: calls, throws, catching; a run of the abstract machine is a walk of the real one. -/
def nv_ws (M : nv_M) : List Cond := match M.2.2.2.2.1 with
  | [] => Cond.code M.1 M.2.1 M.2.2.1 M.2.2.2.1 :: nv_big
  | _ :: _ => Cond.codeWith M.1 M.2.1 M.2.2.1 M.2.2.2.1 M.2.2.2.2.1 :: nv_big
def nv_hd (M : nv_M) : Cond := match M.2.2.2.2.1 with
  | [] => Cond.code M.1 M.2.1 M.2.2.1 M.2.2.2.1
  | _ :: _ => Cond.codeWith M.1 M.2.1 M.2.2.1 M.2.2.2.1 M.2.2.2.2.1
theorem nv_ws_eq (M : nv_M) : nv_ws M = nv_hd M :: nv_big := by
  unfold nv_ws nv_hd
  split <;> rfl
theorem nv_wsGood {M : nv_M} (h : nv_hd M ∈ nv_big) : GoodIn nv_big (nv_ws M) := by
  intro w hw
  rw [nv_ws_eq] at hw
  rcases List.mem_cons.mp hw with rfl | hw
  · exact ⟨h, good_of_word (nv_bigGood _ h)⟩
  · exact ⟨hw, good_of_word (nv_bigGood _ hw)⟩
def nv_St0 (X : nv_X) (σ : nv_St) (H : Heap) : Prop := nv_HR X σ.1 H ∧ (σ.2.2.1 = 0 → H.size = X.1 + σ.2.1) ∧ X.1 ≤ H.size
def nv_Pc (X : nv_X) (scr : nv_Scr) (σ : nv_St) (as : List Value) : Array Value → State → Prop := va_Pc (as.map (nv_rv X)) (fun U => nv_St0 X σ U.heap ∧ nv_Wd X scr U U.heap ∧ σ.2.2.2.2 = scr)
theorem nv_blind (X : nv_X) (scr : nv_Scr) (σ : nv_St) (as : List Value) : FrameBlind (nv_Pc X scr σ as) := by
  intro a U g mk h
  obtain ⟨h1, h2, h3, h4⟩ := h
  exact ⟨h1, h2, nv_Wd.same (u := U) h3 rfl, h4⟩
def nv_Qc (X : nv_X) (out : nv_Out) : Array Value → State → Outcome → State → Prop := fun _ st o t => (∃ v, out.1 = .inl v ∧ o = .returned (v.map (nv_rv X)) ∧ nv_St0 X out.2 t.heap) ∧ va_F (nv_A X) st t
def nv_XC (X : nv_X) (out : nv_Out) : String → State → State → Prop := fun E st t => (out.1 = .inr E ∧ nv_St0 X out.2 t.heap) ∧ va_F (nv_A X) st t
def nv_rm (M : nv_M) (mc ms : Nat) : Room := { frames := M.2.2.2.2.2, cells := mc, slots := ms, locals := 60 * M.2.2.2.2.2 }
/-- a call site -/
def nv_SC (M M' : nv_M) (pc k : Nat) (o : Option Nat) : Prop :=
  ∀ {p : Program} {l : Launch} {e : Env} {R : Room} {s : State} {m : MethodId} {args : Array Value} {below : List Frame} {meth : Method} {c : Code} (X : nv_X) (scr : nv_Scr) (c0 s0 : Nat),
    nv_Mx l X scr M.1 M.2.1 M.2.2.1 M.2.2.2.1 M.2.2.2.2.1 M.2.2.2.2.2 p R s m args meth c →
    ∀ (H : Heap) (locs : List Loc) (cells slots : Nat) (lA : Array Slot) (ls : nv_Ls) (st : List Value) (σ : nv_St), nv_In X scr s c0 s0 H locs cells slots σ → nv_LH X lA M.2.2.1 ls →
    k ≤ st.length → nv_room (st.drop k) = true → nv_rcv σ (st.take k).reverse o = true →
    ∀ (mc ms : Nat) (Qc : Array Value → State → Outcome → State → Prop) (XC : String → State → State → Prop) (free : Addr → Prop),
      vx_Met l M'.1 (nv_ws M') (nv_rm M' mc ms) (nv_Pc X scr σ (st.take k).reverse) Qc XC mc ms free → cells + mc ≤ R.cells ∧ slots + ms ≤ R.slots →
      vx_Run p l e R s m args below meth c H locs cells slots mc ms (F0 m pc lA (st.map (nv_rv X))) ((st.drop k).map (nv_rv X)) (Qc (((st.take k).reverse.map (nv_rv X)).toArray)) XC free
/-- a throw -/
def nv_ST (M : nv_M) (pc : Nat) (E : String) : Prop :=
  ∀ {p : Program} {l : Launch} {e : Env} {R : Room} {s : State} {m : MethodId} {args : Array Value} {below : List Frame} {meth : Method} {c : Code} (X : nv_X) (scr : nv_Scr) (c0 s0 : Nat),
    nv_Mx l X scr M.1 M.2.1 M.2.2.1 M.2.2.2.1 M.2.2.2.2.1 M.2.2.2.2.2 p R s m args meth c →
    ∀ (H : Heap) (locs : List Loc) (cells slots : Nat) (lA : Array Slot) (ls : nv_Ls) (st : List Value) (σ : nv_St), nv_In X scr s c0 s0 H locs cells slots σ → nv_LH X lA M.2.2.1 ls → nv_room st = true →
    nv_Fits R c0 s0 (nv_bump σ) → ∀ (Qc : Array Value → State → Outcome → State → Prop) (mc ms : Nat), cells + 1 ≤ mc → slots + 6 ≤ ms →
      W p l e R s m args below meth c H locs cells slots (vx_MQ below Qc (nv_XC X (.inr E, nv_bump σ)) args s mc ms (nv_A X)) (F0 m pc lA (st.map (nv_rv X)))
/-- what was thrown at pc is caught: the walk goes on at t, the local i is lost -/
def nv_SK (M : nv_M) (pc : Nat) (E : String) (t i : Nat) : Prop :=
  ∀ {p : Program} {l : Launch} {e : Env} {R : Room} {s : State} {m : MethodId} {args : Array Value} {below : List Frame} {meth : Method} {c : Code} {Q : State → Prop} (X : nv_X) (scr : nv_Scr),
    nv_Mx l X scr M.1 M.2.1 M.2.2.1 M.2.2.2.1 M.2.2.2.2.1 M.2.2.2.2.2 p R s m args meth c →
    ∀ (H : Heap) (locs : List Loc) (cells slots : Nat) (lA : Array Slot) (ls : nv_Ls) (rest : List Value) (q : Addr) (ce : Cell), nv_LH X lA M.2.2.1 ls → H[q]? = some ce → ce.vm = .none → s.vm.findClass E = some ce.cls →
      (∀ lA1 : Array Slot, nv_LH X lA1 M.2.2.1 (nv_lose ls i) → W p l e R s m args below meth c H locs cells slots Q (F0 m t lA1 [])) →
      vx_W p l e R s m args below meth c H locs cells slots Q (F0 m pc lA rest) q
/-- every deed of the program is what the real machine does there -/
def nv_Sound (P : nv_P) (Ms : Nat → nv_M) : Prop :=
  (∀ y, P.2.1 y = (Ms y).2.2.1 ∧ plainName (Ms y).1.cls = true) ∧
  (∀ y pc op, (P.1 y)[pc]? = some (some (.inl op)) → nv_ok (Ms y) pc op) ∧
  (∀ y pc y' k nx o, (P.1 y)[pc]? = some (some (.inr (.inl (y', k, nx, o)))) → nx = pc + 3 ∧ nv_SC (Ms y) (Ms y') pc k o ∧
    (∀ E, P.2.2 y pc E = none → ∀ x ∈ tableOf (Ms y).2.2.2.2.1, covers x pc = false) ∧
    (∀ E t i, P.2.2 y pc E = some (t, i) → (∀ op, (P.1 y)[t]? ≠ some (some op)) ∨ nv_SK (Ms y) pc E t i)) ∧
  (∀ y pc E, (P.1 y)[pc]? = some (some (.inr (.inr E))) → nv_ST (Ms y) pc E)
theorem nv_run_le {P : nv_P} (hP : ∀ (y pc : Nat) (op : nv_Op), (P.1 y)[pc]? = some (some (Sum.inl op)) → nv_up op) : ∀ (n y : Nat) (cfg : nv_Cfg) (out : nv_Out), nv_run P n y cfg = some out → nv_le cfg.2.2.2 out.2 := by
  intro n
  induction n with
  | zero => intro y cfg out h; simp [nv_run] at h
  | succ n ih =>
    intro y cfg out h
    obtain ⟨pc, ls, st, σ⟩ := cfg
    simp only [nv_run] at h
    split at h
    · rename_i op hop
      split at h
      · rename_i c hc
        exact (hP _ _ _ hop _ _ _ _ hc).1.trans (ih _ _ _ h)
      · cases h
        exact ⟨Nat.le_refl _, Nat.le_refl _⟩
      · cases h
    · split at h
      · split at h
        · rename_i v σ' hc
          have h1 := ih _ _ _ hc
          exact h1.trans (ih _ _ _ h)
        · rename_i E σ' hc
          have h1 := ih _ _ _ hc
          split at h
          · exact h1.trans (ih _ _ _ h)
          · cases h
            exact h1
        · cases h
      · cases h
    · split at h
      · cases h
        exact ⟨by show σ.2.1 + σ.2.2.1 ≤ σ.2.1 + (σ.2.2.1 + 1); omega, by show σ.2.2.2.1 + 6 * σ.2.2.1 ≤ σ.2.2.2.1 + 6 * (σ.2.2.1 + 1); omega⟩
      · cases h
    · cases h
theorem nv_cats {X : nv_X} (hX : nv_sv X) : ∀ (as : List Value), as.all (fun v => v.category == 1) = true → ∀ (i : Nat), lv_args i (as.map (nv_rv X)) = nv_lq X i (as.map some) ∧ (lg_sl (as.map (nv_rv X))).length = as.length
  | [], _, i => ⟨rfl, rfl⟩
  | v :: r, h, i => by
    simp only [List.all_cons, Bool.and_eq_true, beq_iff_eq] at h
    obtain ⟨h1, h2⟩ := nv_cats hX r h.2 (i + 1)
    have hc : (nv_rv X v).category = 1 := by rw [nv_rv_cat hX]; exact h.1
    have hc2 : ¬ (nv_rv X v).category = 2 := by omega
    constructor
    · simp only [List.map_cons, lv_args, nv_lq, if_neg hc2, h1]
    · have e : lg_sl ((v :: r).map (nv_rv X)) = [Slot.val (nv_rv X v)] ++ lg_sl (r.map (nv_rv X)) := by
        simp only [lg_sl, List.map_cons, List.flatMap_cons, if_neg hc2]
      rw [e, List.length_append, h2]
      simp
      omega
theorem nv_init_LH {X : nv_X} (hX : nv_sv X) {as : List Value} {n : Nat} (h : nv_args n as = true) : ∃ lA : Array Slot, (∀ m : MethodId, entryFrame m (as.map (nv_rv X)).toArray n = F0 m 0 lA []) ∧ nv_LH X lA n (nv_init n as) := by
  simp only [nv_args, Bool.and_eq_true, decide_eq_true_eq] at h
  obtain ⟨hl, hc⟩ := h
  obtain ⟨h1, h2⟩ := nv_cats hX as hc 0
  refine ⟨_, fun m => lg_entry_eq m _ n, ?_⟩
  have hh := lv_entry (as.map (nv_rv X)) (n := n) (by rw [h2]; exact hl)
  refine ⟨by unfold nv_init; simp; omega, hh.1, hh.2.1, fun i v hi => ?_⟩
  have hi2 : (as.map some)[i]? = some (some v) := by
    unfold nv_init at hi
    by_cases hlt : i < (as.map some).length
    · rw [List.getElem?_append_left hlt] at hi
      exact hi
    · rw [List.getElem?_append_right (by omega)] at hi
      have := List.getElem?_eq_some_iff.mp hi
      obtain ⟨h9, h8⟩ := this
      simp at h8
  have := hh.2.2 (i, nv_rv X v) (by rw [h1]; exact (nv_lq_mem _ 0 _).mpr ⟨i, v, hi2, by simp⟩)
  exact this
theorem nv_In.st0 {X : nv_X} {scr : nv_Scr} {s : State} {c0 s0 : Nat} {H : Heap} {locs : List Loc} {cells slots : Nat} {σ : nv_St} (h : nv_In X scr s c0 s0 H locs cells slots σ) : nv_St0 X σ H := ⟨h.1, h.2.1, h.2.2.1⟩
/-- the end: a value goes back -/
theorem nv_fin {p : Program} {l : Launch} {e : Env} {R : Room} {s : State} {m : MethodId} {args : Array Value} {below : List Frame} {meth : Method} {c : Code} {X : nv_X} {scr : nv_Scr} {c0 s0 : Nat} {y : MethodName} {cc : ByteArray} {mL rk : Nat} {ret : Option FieldType} {hh : List (Nat × Nat × Nat × Nat)}
    (hM : nv_Mx l X scr y cc mL ret hh rk p R s m args meth c) {H : Heap} {locs : List Loc} {cells slots : Nat} {lA : Array Slot} {σ : nv_St} (hI : nv_In X scr s c0 s0 H locs cells slots σ) {pc : Nat} {v : Option Value} (hr : nv_RT cc ret pc v) {XC : String → State → State → Prop} {mc ms : Nat} (hmc : cells ≤ mc) (hms : slots ≤ ms) :
    W p l e R s m args below meth c H locs cells slots (vx_MQ below (nv_Qc X (.inl v, σ)) XC args s mc ms (nv_A X)) (F0 m pc lA (v.toList.map (nv_rv X))) := by
  obtain ⟨hx, hb, hret, hml, hown, hts, hlk, hht, hnm, hWd, htr, hfr, hlo⟩ := hM
  have hsv : nv_sv X := hWd.2.2.2.2.2.2.2.1
  have hS := hI.2.2.2.1
  have hq : ∀ t : State, t.heap = H → s.WarmedH t.vm → ∀ w, w = v.map (nv_rv X) → nv_Qc X (.inl v, σ) args s (.returned w) t := by
    intro t ht _ w hw
    exact ⟨⟨v, rfl, by rw [hw], by rw [ht]; exact hI.st0⟩, by rw [va_F, ht]; exact ⟨hS.1, hS.2.1⟩⟩
  refine W.widen hmc hms (vx_ret ?_)
  match v, hr with
  | none, hr => exact W.vret hx hb (by rw [hret]; exact hr.2) (fun t ht hW => hq t ht hW _ rfl) hS.2.2 hr.1 hlk
  | some (.int x), hr =>
    obtain ⟨h1, ty, h2, h3⟩ := hr
    exact W.zret hx hb (by rw [hret]; exact h2) h3 (fun t ht hW => hq t ht hW _ rfl) hS.2.2 h1 hlk
  | some (.long x), hr => exact W.lret hx hb (by rw [hret]; exact hr.2) (fun t ht hW => hq t ht hW _ rfl) hS.2.2 hr.1 hlk
  | some (.float x), hr => exact W.fret hx hb (by rw [hret]; exact hr.2) (fun t ht hW => hq t ht hW _ rfl) hS.2.2 hr.1 hlk
  | some (.double x), hr => exact W.dret hx hb (by rw [hret]; exact hr.2) (fun t ht hW => hq t ht hW _ rfl) hS.2.2 hr.1 hlk
  | some (.ref a), hr =>
    obtain ⟨h1, rt, h2, h3⟩ := hr
    obtain ⟨r, hr2⟩ := nv_rv_ref hsv a
    exact W.aret hx hb (by rw [hret]; exact h2) h3 (by show nv_rv X (.ref a) = .null ∨ _; rw [hr2]; cases r; exact Or.inl rfl; exact Or.inr ⟨_, rfl⟩) (fun t ht hW => hq t ht hW _ rfl) hS.2.2 h1 hlk
  | some .null, hr =>
    obtain ⟨h1, rt, h2, h3⟩ := hr
    exact W.aret hx hb (by rw [hret]; exact h2) h3 (Or.inl rfl) (fun t ht hW => hq t ht hW _ rfl) hS.2.2 h1 hlk
