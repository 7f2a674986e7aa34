/-! SOUNDNESS OF THE ABSTRACT MACHINE, 8: the induction over a run. -/
theorem nv_room_sum {X : nv_X} (hX : nv_sv X) {r : List Value} (h : nv_room r = true) : ((r.map (nv_rv X)).map fun v => v.category).sum ≤ 8 := nv_room_map hX h
/-- what a body's run gives, for one amount of fuel -/
def nv_Bd (l : Launch) (P : nv_P) (Ms : Nat → nv_M) (n : Nat) : Prop :=
  ∀ (y : Nat) (cfg : nv_Cfg) (out : nv_Out), nv_run P n y cfg = some out →
    ∀ {p : Program} {e : Env} {R : Room} {s : State} {m : MethodId} {args : Array Value} {below : List Frame} {meth : Method} {c : Code} (X : nv_X) (scr : nv_Scr) (c0 s0 : Nat),
      nv_Mx l X scr (Ms y).1 (Ms y).2.1 (Ms y).2.2.1 (Ms y).2.2.2.1 (Ms y).2.2.2.2.1 (Ms y).2.2.2.2.2 p R s m args meth c →
      ∀ (H : Heap) (locs : List Loc) (cells slots : Nat) (lA : Array Slot), nv_In X scr s c0 s0 H locs cells slots cfg.2.2.2 → nv_LH X lA (Ms y).2.2.1 cfg.2.1 → nv_Fits R c0 s0 out.2 →
      ∀ (mc ms : Nat), c0 + mc = out.2.2.1 + out.2.2.2.1 → s0 + ms = out.2.2.2.2.1 + 6 * out.2.2.2.1 →
        W p l e R s m args below meth c H locs cells slots (vx_MQ below (nv_Qc X out) (nv_XC X out) args s mc ms (nv_A X)) (F0 m cfg.1 lA (cfg.2.2.1.map (nv_rv X)))
theorem nv_met {l : Launch} (hl : l.stackTraces = false) {P : nv_P} {Ms : Nat → nv_M} (hS : nv_Sound P Ms) {n : Nat} (hB : nv_Bd l P Ms n) {y : Nat} {as : List Value} {σ : nv_St} {out : nv_Out} (h : nv_run P n y (0, nv_init (P.2.1 y) as, [], σ) = some out) (hle : nv_le σ out.2) (ha : nv_args (P.2.1 y) as = true) (X : nv_X) (scr : nv_Scr) {mc ms : Nat}
    (hmc : σ.2.1 + σ.2.2.1 + mc = out.2.2.1 + out.2.2.2.1) (hms : σ.2.2.2.1 + 6 * σ.2.2.1 + ms = out.2.2.2.2.1 + 6 * out.2.2.2.1) :
    vx_Met l (Ms y).1 (nv_ws (Ms y)) (nv_rm (Ms y) mc ms) (nv_Pc X scr σ as) (nv_Qc X out) (nv_XC X out) mc ms (nv_A X) := by
  have key : ∀ (p : Program) (e : Env) (s : State) (m : MethodId) (args : Array Value) (below : List Frame) (meth : Method) (c : Code) (s₁ : State), BodyLoose p l (Ms y).1 (headSpec (nv_ws (Ms y)) (nv_rm (Ms y) mc ms)) (Ms y).2.1 (Ms y).2.2.1 (Ms y).2.2.2.1 e s m args below meth c s₁ → c.maxLocals = (Ms y).2.2.1 → c.exceptionTable.toList = tableOf (Ms y).2.2.2.2.1 → nv_Pc X scr σ as args s →
      W p l e (headSpec (nv_ws (Ms y)) (nv_rm (Ms y) mc ms)).room s m args below meth c s.heap [] 0 0 (vx_MQ below (nv_Qc X out) (nv_XC X out) args s mc ms (nv_A X)) (entryFrame m args (Ms y).2.2.1) := by
    intro p e s m args below meth c s₁ B hml ht hPc
    obtain ⟨rfl, hst, hWd, hscr⟩ := hPc
    have hts : ∀ w ∈ nv_ws (Ms y), w.before ((as.map (nv_rv X)).toArray) s = true := atoms_spec (ws := nv_ws (Ms y)) B.pre
    have hsv : nv_sv X := hWd.2.2.2.2.2.2.2.1
    rw [(hS.1 y).1] at ha h
    obtain ⟨lA, he, hLH⟩ := nv_init_LH hsv ha
    rw [he m]
    refine hB y _ out h X scr (σ.2.1 + σ.2.2.1) (σ.2.2.2.1 + 6 * σ.2.2.1) ⟨B.exec, B.bytes, B.returns, hml, findClass_of_methodNamed B.named, fun w hw => hts w (by rw [nv_ws_eq]; exact List.mem_cons_of_mem _ hw), B.notSynchronized, ht, (name_of_methodNamed B.named B.method).1, hWd, hl, Nat.le_refl _, Nat.le_refl _⟩ s.heap [] 0 0 lA ⟨hst.1, hst.2.1, hst.2.2, va_S.rf, rfl, rfl, hscr⟩ hLH ⟨?_, ?_⟩ mc ms hmc hms
    · show out.2.2.1 + out.2.2.2.1 ≤ σ.2.1 + σ.2.2.1 + mc; omega
    · show out.2.2.2.2.1 + 6 * out.2.2.2.1 ≤ σ.2.2.2.1 + 6 * σ.2.2.1 + ms; omega
  have hpl := (hS.1 y).2
  cases hh : (Ms y).2.2.2.2.1 with
  | nil =>
    have e1 : nv_ws (Ms y) = Cond.code (Ms y).1 (Ms y).2.1 (Ms y).2.2.1 (Ms y).2.2.2.1 :: nv_big := by unfold nv_ws; rw [hh]
    refine vx_ofW hpl e1 ?_
    intro p e s m args below meth c s₁ B hml ht hPc
    refine key p e s m args below meth c s₁ B hml ?_ hPc
    rw [hh]
    have : c.exceptionTable.toList = [] := List.eq_nil_iff_forall_not_mem.mpr fun x hx => ht x hx
    rw [this]
    rfl
  | cons q r =>
    have e1 : nv_ws (Ms y) = Cond.codeWith (Ms y).1 (Ms y).2.1 (Ms y).2.2.1 (Ms y).2.2.2.1 (q :: r) :: nv_big := by unfold nv_ws; rw [hh]
    refine vx_ofWH hpl e1 ?_
    intro p e s m args below meth c s₁ B hml hPc
    refine key p e s m args below meth c s₁ B hml ?_ hPc
    rw [hh]
    exact vx_table (x := (Ms y).1) B (atoms_spec (ws := nv_ws (Ms y)) B.pre _ (by rw [e1]; exact List.mem_cons_self))
theorem nv_keep {X : nv_X} {scr : nv_Scr} {s st₀ t T' : State} {c0 s0 : Nat} {H : Heap} {locs L : List Loc} {cells slots mc ms : Nat} {σ τ : nv_St} (hI : nv_In X scr s c0 s0 H locs cells slots σ) (h0 : st₀.heap = H) (e1 : T'.heap = t.heap) (hF : va_F (nv_A X) st₀ t) (hL : ∀ q ∈ L, nv_A X q.base) (hst : nv_St0 X τ t.heap) (hscr : τ.2.2.2.2 = scr)
    (hmc : σ.2.1 + σ.2.2.1 + mc = τ.2.1 + τ.2.2.1) (hms : σ.2.2.2.1 + 6 * σ.2.2.1 + ms = τ.2.2.2.1 + 6 * τ.2.2.1) : nv_In X scr s c0 s0 T'.heap (locs ++ L) (cells + mc) (slots + ms) τ := by
  obtain ⟨-, -, hS⟩ := vx_keep h0 e1 hI.2.2.2.1 (fun _ _ h => h) (fun _ h => h) hL hF
  have f3 := hI.2.2.2.2.1
  have f4 := hI.2.2.2.2.2.1
  rw [← e1] at hst
  exact ⟨hst.1, hst.2.1, hst.2.2, hS, by omega, by omega, hscr⟩
theorem nv_run_scr {P : nv_P} (hP : ∀ (y pc : Nat) (op : nv_Op), (P.1 y)[pc]? = some (some (Sum.inl op)) → ∀ ls st σ cfg, op ls st σ = some (.inl cfg) → cfg.2.2.2.2.2.2.2 = σ.2.2.2.2) : ∀ (n y : Nat) (cfg : nv_Cfg) (out : nv_Out), nv_run P n y cfg = some out → out.2.2.2.2.2 = cfg.2.2.2.2.2.2.2 := by
  intro n
  induction n with
  | zero => intro y cfg out h; simp [nv_run] at h
  | succ n ih =>
    intro y cfg out h
    obtain ⟨pc, ls, st, σ⟩ := cfg
    simp only [nv_run] at h
    split at h
    · rename_i op hop
      split at h
      · rename_i c hc
        exact (ih _ _ _ h).trans (hP _ _ _ hop _ _ _ _ hc)
      · cases h
        rfl
      · cases h
    · split at h
      · split at h
        · rename_i v σ' hc
          have h1 := ih _ _ _ hc
          exact (ih _ _ _ h).trans h1
        · rename_i E σ' hc
          have h1 := ih _ _ _ hc
          split at h
          · exact (ih _ _ _ h).trans h1
          · cases h
            exact h1
        · cases h
      · cases h
    · split at h
      · cases h
        rfl
      · cases h
    · cases h
theorem nv_stuck {P : nv_P} {n y pc : Nat} {ls : nv_Ls} {st : List Value} {σ : nv_St} {out : nv_Out} (h : ∀ op, (P.1 y)[pc]? ≠ some (some op)) : nv_run P n y (pc, ls, st, σ) ≠ some out := by
  intro hr
  cases n with
  | zero => simp [nv_run] at hr
  | succ n =>
    simp only [nv_run] at hr
    split at hr
    · rename_i op hop; exact h _ hop
    · rename_i hop; exact h _ hop
    · rename_i hop; exact h _ hop
    · cases hr
theorem nv_body {l : Launch} (hl : l.stackTraces = false) {P : nv_P} {Ms : Nat → nv_M} (hS : nv_Sound P Ms)
    (hP : ∀ (y pc : Nat) (op : nv_Op), (P.1 y)[pc]? = some (some (Sum.inl op)) → ∀ ls st σ cfg, op ls st σ = some (.inl cfg) → cfg.2.2.2.2.2.2.2 = σ.2.2.2.2) : ∀ n, nv_Bd l P Ms n := by
  have hle0 := nv_run_le (P := P) fun y pc op h => (hS.2.1 y pc op h).2
  intro n
  induction n with
  | zero => intro y cfg out h; simp [nv_run] at h
  | succ n ih =>
    intro y cfg out h p e R s m args below meth c X scr c0 s0 hM H locs cells slots lA hI hL hf mc ms hmc hms
    obtain ⟨pc, ls, st, σ⟩ := cfg
    dsimp only at hI hL
    simp only [nv_run] at h
    split at h
    · rename_i op hop
      obtain ⟨hso, hup⟩ := hS.2.1 y pc op hop
      split at h
      · rename_i c1 hc
        refine (hso X scr c0 s0 hM H locs cells slots lA ls st σ hI hL).1 c1 hc ((hle0 _ _ _ _ h).fits hf) (fun H1 locs1 cells1 slots1 lA1 hI1 hL1 => ?_)
        exact ih y c1 out h X scr c0 s0 hM H1 locs1 cells1 slots1 lA1 hI1 hL1 hf mc ms hmc hms
      · rename_i v hv
        cases h
        obtain ⟨hst, hrt⟩ := (hso (e := e) (below := below) (Q := fun _ => True) X scr c0 s0 hM H locs cells slots lA ls st σ hI hL).2 v hv
        have f3 := hI.2.2.2.2.1
        have f4 := hI.2.2.2.2.2.1
        dsimp only at hmc hms
        dsimp only
        rw [hst]
        exact nv_fin hM hI hrt (by omega) (by omega)
      · cases h
    · rename_i y' k nx o hop
      obtain ⟨hnx, hsc, hno, hyes⟩ := hS.2.2.1 y pc y' k nx o hop
      subst hnx
      split at h
      · rename_i hk
        obtain ⟨hk1, hk2, hk3, hk4⟩ := hk
        have go : ∀ (out1 : nv_Out), nv_run P n y' (0, nv_init (P.2.1 y') (st.take k).reverse, [], σ) = some out1 → nv_le out1.2 out.2 →
            (∀ v, out1.1 = .inl v → nv_run P n y (pc + 3, ls, v.toList ++ st.drop k, out1.2) = some out) →
            (∀ E, out1.1 = .inr E → (∃ t i, P.2.2 y pc E = some (t, i) ∧ nv_run P n y (t, nv_lose ls i, [], out1.2) = some out) ∨ (P.2.2 y pc E = none ∧ out = (.inr E, out1.2))) →
            W p l e R s m args below meth c H locs cells slots (vx_MQ below (nv_Qc X out) (nv_XC X out) args s mc ms (nv_A X)) (F0 m pc lA (st.map (nv_rv X))) := by
          intro out1 hr hle1 hv hE
          have hle := hle0 _ _ _ _ hr
          dsimp only at hle
          have hscr1 : out1.2.2.2.2.2 = scr := (nv_run_scr hP _ _ _ _ hr).trans hI.2.2.2.2.2.2
          obtain ⟨mc1, hmc1⟩ : ∃ z, σ.2.1 + σ.2.2.1 + z = out1.2.2.1 + out1.2.2.2.1 := ⟨_, Nat.add_sub_cancel' hle.1⟩
          obtain ⟨ms1, hms1⟩ : ∃ z, σ.2.2.2.1 + 6 * σ.2.2.1 + z = out1.2.2.2.2.1 + 6 * out1.2.2.2.1 := ⟨_, Nat.add_sub_cancel' hle.2⟩
          have hmet := nv_met hl hS ih hr hle hk3 X scr hmc1 hms1
          have f1 := (hle1.fits hf).1
          have f2 := (hle1.fits hf).2
          have f3 := hI.2.2.2.2.1
          have f4 := hI.2.2.2.2.2.1
          have hrun := hsc (e := e) (below := below) X scr c0 s0 hM H locs cells slots lA ls st σ hI hL hk1 hk2 hk4 mc1 ms1 _ _ _ hmet ⟨by omega, by omega⟩
          intro T hT X9
          rcases hrun T hT X9 with ⟨v, st₀, t, T', L, h0, X', hLf, e1, e2, ⟨⟨v', hv1, hv2, hst⟩, hF⟩, hgo⟩ | ⟨q, st₀, t, T', L, E, ce, h0, X', hLf, e1, e2, ⟨⟨hE1, hst⟩, hF⟩, hce, hcv, hcl, hgo⟩
          · cases hv2
            have hI1 := nv_keep hI h0 e1 hF hLf hst hscr1 hmc1 hms1
            have hW := ih y _ out (hv v' hv1) (e := e) (below := below) X scr c0 s0 hM T'.heap (locs ++ L) (cells + mc1) (slots + ms1) lA hI1 hL hf mc ms hmc hms
            obtain ⟨t2, a1, b1⟩ := hW T' rfl X'
            refine ⟨t2, hgo t2 ?_, b1⟩
            have : (v'.map (nv_rv X)).toList ++ (st.drop k).map (nv_rv X) = (v'.toList ++ st.drop k).map (nv_rv X) := by
              cases v' <;> simp
            rw [this]
            exact a1
          · have hI1 := nv_keep hI h0 e1 hF hLf hst hscr1 hmc1 hms1
            have hVW : vx_W p l e R s m args below meth c T'.heap (locs ++ L) (cells + mc1) (slots + ms1) (vx_MQ below (nv_Qc X out) (nv_XC X out) args s mc ms (nv_A X)) (F0 m pc lA ((st.drop k).map (nv_rv X))) q := by
              have hce1 : T'.heap[q]? = some ce := by rw [e1]; exact hce
              rcases hE E hE1 with ⟨t3, i, ht, hrun2⟩ | ⟨hn, hout⟩
              · rcases hyes E t3 i ht with hstk | hsk
                · exact absurd hrun2 (nv_stuck hstk)
                · refine hsk X scr hM T'.heap (locs ++ L) _ _ lA ls _ q ce hL hce1 hcv hcl (fun lA1 hL1 => ?_)
                  exact ih y _ out hrun2 X scr c0 s0 hM T'.heap (locs ++ L) (cells + mc1) (slots + ms1) lA1 hI1 hL1 hf mc ms hmc hms
              · subst hout
                dsimp only at hmc hms
                have g3 := hI1.2.2.2.2.1
                have g4 := hI1.2.2.2.2.2.1
                refine vx_out (E := E) (ce := ce) ?_ hM.2.2.2.2.2.2.1 hce1 hcv hcl (fun t9 ht9 hA9 => ?_) hI1.2.2.2.1.2.2 (by omega) (by omega)
                · rw [hM.2.2.2.2.2.2.2.1]
                  exact hno E hn
                · refine ⟨⟨rfl, by rw [ht9]; exact hI1.st0⟩, ?_⟩
                  rw [va_F, ht9]
                  exact ⟨hI1.2.2.2.1.1, hI1.2.2.2.1.2.1⟩
            obtain ⟨t2, a1, b1⟩ := hVW T' rfl X'
            exact ⟨t2, hgo.trans a1, b1⟩
        split at h
        · rename_i v σ' hr
          exact go (.inl v, σ') hr (hle0 _ _ _ _ h) (fun v' hv' => by cases hv'; exact h) (fun E hE => by cases hE)
        · rename_i E σ' hr
          split at h
          · rename_i t i ht
            exact go (.inr E, σ') hr (hle0 _ _ _ _ h) (fun v' hv' => by cases hv') (fun E' hE => by cases hE; exact Or.inl ⟨t, i, ht, h⟩)
          · rename_i ht
            cases h
            exact go (.inr E, σ') hr (nv_le.rf _) (fun v' hv' => by cases hv') (fun E' hE => by cases hE; exact Or.inr ⟨ht, rfl⟩)
        · cases h
      · cases h
    · rename_i E hop
      split at h
      · rename_i hroom
        cases h
        have f3 := hI.2.2.2.2.1
        have f4 := hI.2.2.2.2.2.1
        have g1 : c0 + mc = σ.2.1 + (σ.2.2.1 + 1) := hmc
        have g2 : s0 + ms = σ.2.2.2.1 + 6 * (σ.2.2.1 + 1) := hms
        exact hS.2.2.2 y pc E hop X scr c0 s0 hM H locs cells slots lA ls st σ hI hL hroom hf _ mc ms (by omega) (by omega)
      · cases h
    · cases h
