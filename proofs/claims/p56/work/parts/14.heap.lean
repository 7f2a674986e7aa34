/-! SOUNDNESS OF THE ABSTRACT MACHINE, 4: deeds on the heap. The stores go the way of the kit's own rows (va_put, va_iast, va_astq), with the whole of what they leave alone said. -/
theorem nv_HR.put {X : nv_X} {h : Nat → Option nv_Ob} {H H1 : Heap} {a : Nat} {o : nv_Ob} (hR : nv_HR X h H) (ha : a < nv_off) (he : va_at X.2.2.1 nv_cl (X.1 + a, nv_ob X o) H1) (oq : ∀ q : Nat, q ≠ X.1 + a → H1[q]? = H[q]?) : nv_HR X (fun q => if q = a then some o else h q) H1 := by
  intro b o1 hb
  by_cases hba : b = a
  · subst hba
    simp only [if_pos] at hb
    cases hb
    exact ⟨ha, he⟩
  · simp only [if_neg hba] at hb
    obtain ⟨h1, h2⟩ := hR b o1 hb
    exact ⟨h1, h2.kept (oq (X.1 + b) (by omega))⟩
theorem nv_In.put {X : nv_X} {scr : nv_Scr} {s : State} {c0 s0 : Nat} {H H1 : Heap} {locs : List Loc} {cells slots a i : Nat} {σ : nv_St} {o : nv_Ob} (hI : nv_In X scr s c0 s0 H locs cells slots σ) (ha : a < nv_off) (he : va_at X.2.2.1 nv_cl (X.1 + a, nv_ob X o) H1) (z : H1.size = H.size) (oq : ∀ q : Nat, q ≠ X.1 + a → H1[q]? = H[q]?) :
    nv_In X scr s c0 s0 H1 (locs ++ [⟨X.1 + a, i⟩]) cells slots (nv_wr σ a o) := by
  obtain ⟨h1, h2, h3, h4, h5, h6, h7⟩ := hI
  exact ⟨h1.put ha he oq, fun hk => by rw [z]; exact h2 hk, by rw [z]; exact h3, h4.put z oq (Nat.le_add_right _ _), h5, h6, h7⟩
theorem nv_map_get {X : nv_X} {fs : List Value} {k : Nat} {v : Value} (h : fs[k]? = some v) : (fs.map (nv_rv X))[k]? = some (nv_rv X v) := by
  rw [List.getElem?_map, h]; rfl
theorem nv_P1 {D : va_G} {cl : List vw_C} {a : Nat} {e : va_E} {H : Heap} (h : va_at D cl (a, e) H) : va_P D cl [(a, e)] H := by
  intro k q hk
  have hz : k < 1 := (List.getElem?_eq_some_iff.mp hk).1
  rw [show k = 0 by omega] at hk
  cases hk
  exact h
/-- the kinds: place, table, fields' types -/
def nv_kind (ci : Nat) (C : String) (T : u_T) (N : Nat) (ty : Nat → FieldType) : Prop := nv_cl[ci]? = some (C, T, N) ∧ (∀ w ∈ u_ws C T N, w ∈ nv_big) ∧ (∀ k, k < N → parseFieldDescriptor (T k).2.2.1 = some (ty k)) ∧ (∀ a, a < N → ∀ b, b < N → a ≠ b → (T a).2.1 ≠ (T b).2.1) ∧ (∀ k, k < N → (T k).1 = C)
theorem so_get {M : nv_M} {pc : Nat} {ci : Nat} {C : String} {T : u_T} {N : Nat} {ty : Nat → FieldType} (hc : nv_kind ci C T N ty) {k index : Nat} (hk : k < N) (hd : decode M.2.1 pc = .ok (.getfield index, 3))
    (hl : Cond.fieldLink M.1.cls index C (T k).2.1 (T k).2.2.1 ∈ nv_big) : nv_SO M pc (nv_get ci k (pc + 3)) := by
  intro p l e R s m args below meth c Q X scr c0 s0 hM H locs cells slots lA ls st σ hI hL
  obtain ⟨hx, hb, hret, hml, hown, hts, hlk, hht, hnm, hWd, htr, hfr, hlo⟩ := hM
  obtain ⟨hc1, hc2, hc3, hc4, hc5⟩ := hc
  refine ⟨fun cfg h hf kk => ?_, fun v h => ?_⟩
  · unfold nv_get at h
    split at h
    · rename_i a r
      split at h
      · rename_i v hv
        cases h
        unfold nv_fld at hv
        split at hv
        · rename_i ci' fs ho
          split at hv
          · rename_i hci
            subst hci
            obtain ⟨ha, hat⟩ := hI.1 a _ ho
            simp only [List.map_cons, nv_rv_own ha]
            exact va_get hx hb hts hc2 hown hWd.1 (nv_P1 hat) 0 rfl hc1 k hk (hts _ hl) (fun x hx2 => by rw [hc5 k hk] at hx2; exact hx2) (nv_map_get hv) hd (kk _ _ _ _ _ hI hL)
          · cases hv
        · cases hv
      · cases h
    · cases h
  · unfold nv_get at h
    split at h
    · split at h <;> cases h
    · cases h
theorem so_getN {M : nv_M} {pc : Nat} {ci : Nat} {C host : String} {T : u_T} {N : Nat} {ty : Nat → FieldType} (hc : nv_kind ci C T N ty) {k index : Nat} (hk : k < N) (hd : decode M.2.1 pc = .ok (.getfield index, 3))
    (hl : Cond.fieldLinkNest M.1.cls index C (T k).2.1 (T k).2.2.1 host ∈ nv_nests) : nv_SO M pc (nv_get ci k (pc + 3)) := by
  intro p l e R s m args below meth c Q X scr c0 s0 hM H locs cells slots lA ls st σ hI hL
  obtain ⟨hx, hb, hret, hml, hown, hts, hlk, hht, hnm, hWd, htr, hfr, hlo⟩ := hM
  obtain ⟨hc1, hc2, hc3, hc4, hc5⟩ := hc
  refine ⟨fun cfg h hf kk => ?_, fun v h => ?_⟩
  · unfold nv_get at h
    split at h
    · rename_i a r
      split at h
      · rename_i v hv
        cases h
        unfold nv_fld at hv
        split at hv
        · rename_i ci' fs ho
          split at hv
          · rename_i hci
            subst hci
            obtain ⟨ha, hat⟩ := hI.1 a _ ho
            simp only [List.map_cons, nv_rv_own ha]
            exact va_getN hx hb hts hc2 hown hWd.1 (nv_P1 hat) 0 rfl hc1 k hk ((hWd.2.2.1 _ hl).use rfl) (fun x hx2 => by rw [hc5 k hk] at hx2; exact hx2) (nv_map_get hv) hd (kk _ _ _ _ _ hI hL)
          · cases hv
        · cases hv
      · cases h
    · cases h
  · unfold nv_get at h
    split at h
    · split at h <;> cases h
    · cases h
theorem nv_rv_narrow {X : nv_X} (hX : nv_sv X) {ty : FieldType} {v : Value} (hn : narrow ty v = v) (hf : fits ty v = true) : narrow ty (nv_rv X v) = nv_rv X v ∧ fits ty (nv_rv X v) = true := by
  cases v with
  | ref a =>
    obtain ⟨r, hr⟩ := nv_rv_ref hX a
    rw [hr]
    cases ty <;> cases r <;> first | exact ⟨rfl, rfl⟩ | (simp [fits] at hf) | (exact ⟨rfl, by simpa [fits] using hf⟩) | (cases hf)
  | _ => exact ⟨hn, hf⟩
theorem nv_set_map {X : nv_X} {fs : List Value} {k : Nat} {v : Value} : (fs.set k v).map (nv_rv X) = (fs.map (nv_rv X)).set k (nv_rv X v) := by
  rw [List.map_set]
section PUT
variable {p : Program} {l : Launch} {e : Env} {R : Room} {s : State} {m : MethodId} {args : Array Value} {below : List Frame} {meth : Method} {c : Code} {H : Heap} {locs : List Loc} {cells slots : Nat} {Q : State → Prop}
variable {cc : ByteArray} {pc : Nat} {ls : Array Slot} {rest : List Value} {D : va_G} {cl : List vw_C} {a : Nat} {tys : List (ClassId × FieldType)}
theorem nv_putW (hexec : p.tables.exec = Jvm.exec) (hb : c.code = cc) {own C : String} {T : u_T} {N ci index : Nat} {Ts : List Cond} (hts : ∀ w ∈ Ts, w.before args s = true) (hin : ∀ w ∈ u_ws C T N, w ∈ Ts) (ty0 : Nat → FieldType) (hty : ∀ k, k < N → parseFieldDescriptor (T k).2.2.1 = some (ty0 k)) (hnm : ∀ a, a < N → ∀ b, b < N → a ≠ b → (T a).2.1 ≠ (T b).2.1) (hown : s.vm.findClass own = some m.cls) (hK : va_K D cl tys s) {fs : List Value} (hP : va_at D cl (a, .inr (ci, fs)) H) (hc : cl[ci]? = some (C, T, N)) (k : Nat) (hk : k < N) (hCk : (T k).1 = C)
    (hlink : (Cond.fieldLink own index C (T k).2.1 (T k).2.2.1).before args s = true ∨ ∃ host, (Cond.fieldLinkNest own index C (T k).2.1 (T k).2.2.1 host).before args s = true)
    (hfin : (T k).2.2.2 = false ∨ ((T k).2.2.2 = true ∧ meth.name = "<init>" ∧ own = C ∧ (Cond.fieldLink own index C (T k).2.1 (T k).2.2.1).before args s = true)) {v : Value} (hn : narrow (ty0 k) v = v) (hfit : fits (ty0 k) v = true) (hl : k < fs.length)
    (hdg : decode cc pc = .ok (.putfield index, 3)) (kk : ∀ (H1 : Heap) (i : Nat), va_at D cl (a, .inr (ci, fs.set k v)) H1 → H1.size = H.size → (∀ q : Nat, q ≠ a → H1[q]? = H[q]?) → W p l e R s m args below meth c H1 (locs ++ [⟨a, i⟩]) cells slots Q (F0 m (pc + 3) ls rest)) : W p l e R s m args below meth c H locs cells slots Q (F0 m pc ls (v :: .ref a :: rest)) := by
  have hap := va_apart (own := own) hts hin ty0 hty hnm hK hc
  obtain ⟨r, h1, cell, q1, q2, q3, q4⟩ := hP
  have hr : r = (C, T, N) := Option.some.inj (h1.symm.trans hc)
  subst hr
  obtain ⟨hS, hfc, kC, hkC, hkind⟩ := hK.1 ci _ hc
  obtain ⟨cf, kf, fi, f, hi, hsl⟩ := hS k hk
  have hlay := hts _ (hin _ (u_in_lay hk))
  unfold u_lay at hlay
  have hst := (u_facts hfc hkC (u_lays hts hin hk) hi).1
  have hi' : s.fieldFound? C (T k).2.1 (T k).2.2.1 = some (cf, kf, fi, f) := by rw [hCk] at hi; exact hi
  have fin : ∀ H' : Heap, H'[a]? = some (cell.setSlot f.slot v) → H'.size = H.size → (∀ q, q ≠ a → H'[q]? = H[q]?) → W p l e R s m args below meth c H' (locs ++ [⟨a, f.slot⟩]) cells slots Q (F0 m (pc + 3) ls rest) := by
    intro H' e1 e2 e3
    rw [hsl] at e1 ⊢
    exact kk H' _ ⟨_, hc, t_OB.to (V := updV (vp_V fs) k v) ⟨_, e1, q2, q3, t_set q4 hap hk v⟩ (fun j _ => vp_updV_set hl v j)⟩ e2 e3
  rcases hfin with hfin | ⟨hfin, hin2, hdecl, hlk⟩
  · rw [if_neg (by rw [hfin]; decide)] at hlay
    have h6 := u_store hfc hkC hkind hlay hi (hty k hk) hn hfit
    rcases hlink with hlk | ⟨host, hlk⟩
    · exact W.putK hexec hb (f := f) ⟨hown, hlk, ⟨_, _, _, hi'⟩, hst⟩ (by rw [q2]; exact h6) q1 q3 (by rw [hsl]; exact k2_hasslot (q4 k hk)) rfl rfl hdg fin
    · exact va_WputK hexec hb (f := f) hown hlk hi' hst (by rw [q2]; exact h6) q1 q3 (by rw [hsl]; exact k2_hasslot (q4 k hk)) rfl rfl hdg fin
  · rw [if_pos hfin] at hlay
    have hcf : m.cls = cf := by
      obtain ⟨_, _, c', _, _, _, -, -, hf', -, -, -, hown2, -⟩ := Cond.laysFinal_spec hlay
      have e1 : c' = cf := by have := hi.symm.trans hf'; simp at this; exact this.1.symm
      rw [hCk, ← hdecl] at hown2
      rw [← e1]; exact Option.some.inj (hown.symm.trans hown2)
    have h6 := u_fits hfc hkC hkind (Or.inr hlay) hi (hty k hk) hn hfit
    exact W.putFinK hexec hb hown hlk hi' hst hcf hin2 (by rw [q2]; exact h6) q1 q3 (by rw [hsl]; exact k2_hasslot (q4 k hk)) rfl rfl hdg fin
end PUT
theorem so_put {M : nv_M} {pc : Nat} {ci : Nat} {C : String} {T : u_T} {N : Nat} {ty : Nat → FieldType} (hc : nv_kind ci C T N ty) {k index : Nat} (hk : k < N) (hd : decode M.2.1 pc = .ok (.putfield index, 3))
    (hl : Cond.fieldLink M.1.cls index C (T k).2.1 (T k).2.2.1 ∈ nv_big ∨ ∃ host, Cond.fieldLinkNest M.1.cls index C (T k).2.1 (T k).2.2.1 host ∈ nv_nests)
    (hfin : (T k).2.2.2 = false ∨ ((T k).2.2.2 = true ∧ M.1.name = "<init>" ∧ M.1.cls = C ∧ Cond.fieldLink M.1.cls index C (T k).2.1 (T k).2.2.1 ∈ nv_big)) : nv_SO M pc (nv_put ci k (ty k) (pc + 3)) := by
  intro p l e R s m args below meth c Q X scr c0 s0 hM H locs cells slots lA ls st σ hI hL
  obtain ⟨hx, hb, hret, hml, hown, hts, hlk, hht, hnm, hWd, htr, hfr, hlo⟩ := hM
  have hsv : nv_sv X := hWd.2.2.2.2.2.2.2.1
  obtain ⟨hc1, hc2, hc3, hc4, hc5⟩ := hc
  refine ⟨fun cfg h hf kk => ?_, fun v h => ?_⟩
  · unfold nv_put at h
    split at h
    · rename_i v a r
      split at h
      · rename_i σ' hv
        cases h
        unfold nv_sto at hv
        split at hv
        · rename_i ci' fs ho
          split at hv
          · rename_i hci
            obtain ⟨rfl, hkl, hn, hft⟩ := hci
            cases hv
            obtain ⟨ha, hat⟩ := hI.1 a _ ho
            obtain ⟨hn2, hf2⟩ := nv_rv_narrow hsv hn hft
            simp only [List.map_cons, nv_rv_own ha]
            refine nv_putW hx hb hts hc2 ty hc3 hc4 hown hWd.1 hat hc1 k hk (hc5 k hk) ?_ ?_ hn2 hf2 (by rw [List.length_map]; exact hkl) hd (fun H1 i g1 g2 g3 => ?_)
            · rcases hl with h1 | ⟨host, h1⟩
              · exact Or.inl (hts _ h1)
              · exact Or.inr ⟨host, (hWd.2.2.1 _ h1).use rfl⟩
            · rcases hfin with h1 | ⟨h1, h2, h3, h4⟩
              · exact Or.inl h1
              · exact Or.inr ⟨h1, hnm.trans h2, h3, hts _ h4⟩
            · exact kk _ _ _ _ _ (hI.put ha (by show va_at _ _ (_, .inr (ci', (fs.set k v).map (nv_rv X))) H1; rw [nv_set_map]; exact g1) g2 g3) hL
          · cases hv
        · cases hv
      · cases h
    · cases h
  · unfold nv_put at h
    split at h
    · split at h <;> cases h
    · cases h
