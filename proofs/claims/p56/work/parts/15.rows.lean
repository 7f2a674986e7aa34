/-! SOUNDNESS OF THE ABSTRACT MACHINE, 5: making, rows, what stands since before the start, library arithmetic. -/
theorem nv_In.mk {X : nv_X} {scr : nv_Scr} {s : State} {c0 s0 m : Nat} {H H1 : Heap} {locs : List Loc} {cells slots : Nat} {σ : nv_St} {o : nv_Ob} (hI : nv_In X scr s c0 s0 H locs cells slots σ) (hk : σ.2.2.1 = 0) (ho : σ.2.1 < nv_off) (he : va_at X.2.2.1 nv_cl (H.size, nv_ob X o) H1) (z : H1.size = H.size + 1) (oq : ∀ q : Nat, q < H.size → H1[q]? = H[q]?) :
    nv_In X scr s c0 s0 H1 locs (cells + 1) (slots + m) (nv_mk σ o m) ∧ H.size = X.1 + σ.2.1 := by
  obtain ⟨h1, h2, h3, h4, h5, h6, h7⟩ := hI
  have hz := h2 hk
  refine ⟨⟨?_, fun _ => ?_, ?_, ?_, ?_, ?_, h7⟩, hz⟩
  · intro b o1 hb
    by_cases hba : b = σ.2.1
    · subst hba
      simp only [nv_mk, if_pos] at hb
      cases hb
      rw [← hz]
      exact ⟨ho, he⟩
    · simp only [nv_mk, if_neg hba] at hb
      obtain ⟨g1, g2⟩ := h1 b o1 hb
      exact ⟨g1, g2.kept (oq _ g2.lt)⟩
  · show H1.size = X.1 + (σ.2.1 + 1); omega
  · show X.1 ≤ H1.size; omega
  · exact ⟨Nat.le_trans h4.1 (by omega), fun x g1 g2 => (oq x (Nat.lt_of_lt_of_le g1 h4.1)).trans (h4.2.1 x g1 g2), h4.2.2⟩
  · show c0 + (cells + 1) = σ.2.1 + 1 + σ.2.2.1; omega
  · show s0 + (slots + m) = σ.2.2.2.1 + m + 6 * σ.2.2.1; omega
theorem so_new {M : nv_M} {pc : Nat} {ci : Nat} {C : String} {T : u_T} {N : Nat} {ty : Nat → FieldType} (hc : nv_kind ci C T N ty) {index : Nat} {fs : List Value} (hd : decode M.2.1 pc = .ok (.new index, 3)) (hl : Cond.classLink M.1.cls index C ∈ nv_big) (hi : Cond.instantiable C N ∈ nv_big) (hn : Cond.initialized C ∈ nv_big)
    (hN : fs.length = N) (hfs : ∀ j, j < N → fs[j]? = some (defaultValue (ty j)) ∧ ∀ a, defaultValue (ty j) ≠ .ref a) : nv_SO M pc (nv_new ci fs (pc + 3)) := by
  intro p l e R s m args below meth c Q X scr c0 s0 hM H locs cells slots lA ls st σ hI hL
  obtain ⟨hx, hb, hret, hml, hown, hts, hlk, hht, hnm, hWd, htr, hfr, hlo⟩ := hM
  obtain ⟨hc1, hc2, hc3, hc4, hc5⟩ := hc
  refine ⟨fun cfg h hf kk => ?_, fun v h => ?_⟩
  · unfold nv_new at h
    split at h
    · rename_i hk
      cases h
      obtain ⟨hk, hoff⟩ := hk
      have hKn := hWd.1.1 ci _ hc1
      have f1 : σ.2.1 + 1 + σ.2.2.1 ≤ c0 + R.cells := hf.1
      have f2 : σ.2.2.2.1 + fs.length + 6 * σ.2.2.1 ≤ s0 + R.slots := hf.2
      have f3 := hI.2.2.2.2.1
      have f4 := hI.2.2.2.2.2.1
      refine W.newcK hx hb hown (hts _ hl) (hts _ hi) (hts _ hn) rfl hd (by omega) (by omega) hKn.2.1 rfl fun H1 kC hkC e1 z1 o1 => ?_
      have hat : va_at X.2.2.1 nv_cl (H.size, nv_ob X (.inr (ci, fs))) H1 := by
        refine ⟨_, hc1, (u_born ty hts hc2 hKn hkC e1 hc3).to fun j hj => ?_⟩
        obtain ⟨g1, g2⟩ := hfs j hj
        have : (fs.map (nv_rv X))[j]? = some (defaultValue (ty j)) := by
          rw [List.getElem?_map, g1]
          show some (nv_rv X (defaultValue (ty j))) = _
          cases hdv : defaultValue (ty j) with
          | ref a => exact absurd hdv (g2 a)
          | _ => rfl
        simp [vp_V, this]
      obtain ⟨g1, g2⟩ := hI.mk (m := fs.length) hk hoff hat z1 o1
      have := kk H1 locs (cells + 1) (slots + fs.length) lA g1 hL
      simp only [List.map_cons, nv_rv_own hoff, ← g2] at this
      rw [hN] at this
      exact this
    · cases h
  · unfold nv_new at h
    split at h <;> cases h
theorem so_newi {M : nv_M} {pc : Nat} {t : Nat} {at0 : ArrayType} {ty : FieldType} (hd : decode M.2.1 pc = .ok (.newarray at0, 2)) (hty : newarray.typeOf at0 = ty) (hc : (t = 0 ∧ ty = .char) ∨ (t = 1 ∧ ty = .int)) (hl : Cond.arrayClass ty ∈ nv_big) : nv_SO M pc (nv_newi t (pc + 2)) := by
  intro p l e R s m args below meth c Q X scr c0 s0 hM H locs cells slots lA ls st σ hI hL
  obtain ⟨hx, hb, hret, hml, hown, hts, hlk, hht, hnm, hWd, htr, hfr, hlo⟩ := hM
  refine ⟨fun cfg h hf kk => ?_, fun v h => ?_⟩
  · unfold nv_newi at h
    split at h
    · rename_i x r
      split at h
      · rename_i hk
        cases h
        obtain ⟨hk, hoff, hx0, hx1⟩ := hk
        have f1 : σ.2.1 + 1 + σ.2.2.1 ≤ c0 + R.cells := hf.1
        have f2 : σ.2.2.2.1 + x.toNatClampNeg + 6 * σ.2.2.1 ≤ s0 + R.slots := hf.2
        have f3 := hI.2.2.2.2.1
        have f4 := hI.2.2.2.2.2.1
        subst hty
        have hcb : componentBytes (newarray.typeOf at0) ≤ 4 := by
          rcases hc with ⟨-, h⟩ | ⟨-, h⟩ <;> rw [h] <;> decide
        refine va_newaK hx hb (hts _ hl) rfl hd rfl hx0 rfl (Nat.le_trans (Nat.mul_le_mul hx1 hcb) (by decide)) (by omega) (by omega) rfl fun H1 cA e1 z1 o1 hAr hNm => ?_
        have hdv : defaultValue (newarray.typeOf at0) = .int 0 := by
          rcases hc with ⟨-, h⟩ | ⟨-, h⟩ <;> rw [h] <;> rfl
        have hcA : cA = X.2.2.2 t := by
          rcases hc with ⟨rfl, h⟩ | ⟨rfl, h⟩
          · have h1 := (hWd.1.2 0 _ rfl).2
            rw [h] at hNm
            exact Option.some.inj (hNm.symm.trans h1)
          · have h1 := (hWd.1.2 1 _ rfl).2
            rw [h] at hNm
            exact Option.some.inj (hNm.symm.trans h1)
        have hat : va_at X.2.2.1 nv_cl (H.size, nv_ob X (.inl (t, x.toNatClampNeg, .inl (fun _ => 0)))) H1 := by
          show H1[H.size]? = some (vp_cell (X.2.2.2 t) _)
          rw [vp_cell_i, e1, hcA, hdv]
        obtain ⟨g1, g2⟩ := hI.mk (m := x.toNatClampNeg) hk hoff hat z1 o1
        have := kk H1 locs (cells + 1) (slots + x.toNatClampNeg) lA g1 hL
        simp only [List.map_cons, nv_rv_own hoff, ← g2] at this
        exact this
      · cases h
    · cases h
  · unfold nv_newi at h
    split at h
    · split at h <;> cases h
    · cases h
theorem so_newq {M : nv_M} {pc : Nat} {t index : Nat} {C : String} (hd : decode M.2.1 pc = .ok (.anewarray index, 3)) (hc : (t = 2 ∧ C = RX6) ∨ (t = 3 ∧ C = RX4)) (hl : Cond.classLink M.1.cls index C ∈ nv_big) : nv_SO M pc (nv_newq t (pc + 3)) := by
  intro p l e R s m args below meth c Q X scr c0 s0 hM H locs cells slots lA ls st σ hI hL
  obtain ⟨hx, hb, hret, hml, hown, hts, hlk, hht, hnm, hWd, htr, hfr, hlo⟩ := hM
  refine ⟨fun cfg h hf kk => ?_, fun v h => ?_⟩
  · unfold nv_newq at h
    split at h
    · rename_i x r
      split at h
      · rename_i hk
        cases h
        obtain ⟨hk, hoff, hx0, hx1⟩ := hk
        have f1 : σ.2.1 + 1 + σ.2.2.1 ≤ c0 + R.cells := hf.1
        have f2 : σ.2.2.2.1 + x.toNatClampNeg + 6 * σ.2.2.1 ≤ s0 + R.slots := hf.2
        have f3 := hI.2.2.2.2.1
        have f4 := hI.2.2.2.2.2.1
        have hover : va_AO C s := by
          rcases hc with ⟨-, rfl⟩ | ⟨-, rfl⟩
          · exact hWd.2.2.2.2.1
          · exact hWd.2.2.2.2.2.1
        refine W.anew hx hb hown (hts _ hl) (va_AO.use hover) rfl hd rfl hx0 (by omega) (by omega) (by omega) fun cA kA comp q1 q2 q3 q4 => ?_
        generalize hH1 : H.push ({ cls := cA, slots := Array.replicate x.toNatClampNeg .null, vm := .none } : Cell) = H1
        have z1 : H1.size = H.size + 1 := by rw [← hH1, Array.size_push]
        have e1 : H1[H.size]? = some (arrV cA x.toNatClampNeg (fun _ => .null)) := by rw [← hH1, Array.getElem?_push_size, ← arrV_new]
        have o1 : ∀ q : Nat, q < H.size → H1[q]? = H[q]? := fun q hq => by rw [← hH1, Array.getElem?_push, if_neg (Nat.ne_of_lt hq)]
        have hcA : cA = X.2.2.2 t := by
          rcases hc with ⟨rfl, rfl⟩ | ⟨rfl, rfl⟩
          · obtain ⟨kA', comp', -, -, -, h1⟩ := (hWd.1.2 2 _ rfl).2
            exact Option.some.inj (q1.symm.trans h1)
          · obtain ⟨kA', comp', -, -, -, h1⟩ := (hWd.1.2 3 _ rfl).2
            exact Option.some.inj (q1.symm.trans h1)
        have hat : va_at X.2.2.1 nv_cl (H.size, nv_ob X (.inl (t, x.toNatClampNeg, .inr (fun _ => none)))) H1 := by
          show H1[H.size]? = some (vp_cell (X.2.2.2 t) _)
          rw [vp_cell_q, e1, hcA]
          rfl
        obtain ⟨g1, g2⟩ := hI.mk (m := x.toNatClampNeg) hk hoff hat z1 o1
        have := kk H1 locs (cells + 1) (slots + x.toNatClampNeg) lA g1 hL
        simp only [List.map_cons, nv_rv_own hoff, ← g2] at this
        exact this
      · cases h
    · cases h
  · unfold nv_newq at h
    split at h
    · split at h <;> cases h
    · cases h
/-- an array of type t, as the tables have it -/
def nv_at (t : Nat) (ty : FieldType) : Prop := (t = 0 ∧ ty = .char) ∨ (t = 1 ∧ ty = .int) ∨ (t = 2 ∧ ty = .object RX6) ∨ (t = 3 ∧ ty = .object RX4)
theorem nv_at_K {X : nv_X} {s : State} {t : Nat} {ty : FieldType} (h : nv_at t ty) (hK : va_K X.2.2.1 nv_cl (nv_tys X) s) : (nv_tys X)[t]? = some (X.2.2.2 t, ty) := by
  rcases h with ⟨rfl, rfl⟩ | ⟨rfl, rfl⟩ | ⟨rfl, rfl⟩ | ⟨rfl, rfl⟩ <;> rfl
theorem so_alen {M : nv_M} {pc : Nat} {t : Nat} {ty : FieldType} (hd : decode M.2.1 pc = .ok (.arraylength, 1)) (hc : nv_at t ty) : nv_SO M pc (nv_alen t (pc + 1)) := by
  intro p l e R s m args below meth c Q X scr c0 s0 hM H locs cells slots lA ls st σ hI hL
  obtain ⟨hx, hb, hret, hml, hown, hts, hlk, hht, hnm, hWd, htr, hfr, hlo⟩ := hM
  refine ⟨fun cfg h hf kk => ?_, fun v h => ?_⟩
  · unfold nv_alen at h
    split at h
    · rename_i a r
      split at h
      · rename_i m' hm
        cases h
        unfold nv_len at hm
        split at hm
        · rename_i t' m2 x ho
          split at hm
          · rename_i ht
            subst ht
            cases hm
            obtain ⟨ha, hat⟩ := hI.1 a _ ho
            simp only [List.map_cons, nv_rv_own ha]
            cases x with
            | inl f => exact va_alen hx hb hWd.1 (nv_P1 hat) 0 t' rfl (nv_at_K hc hWd.1) rfl hd (kk _ _ _ _ _ hI hL)
            | inr f => exact va_alen hx hb hWd.1 (nv_P1 hat) 0 t' rfl (nv_at_K hc hWd.1) rfl hd (kk _ _ _ _ _ hI hL)
          · cases hm
        · cases hm
      · cases h
    · cases h
  · unfold nv_alen at h
    split at h
    · split at h <;> cases h
    · cases h
theorem so_iald {M : nv_M} {pc : Nat} (hd : decode M.2.1 pc = .ok (.iaload, 1)) : nv_SO M pc (nv_aldi 1 (pc + 1)) := by
  intro p l e R s m args below meth c Q X scr c0 s0 hM H locs cells slots lA ls st σ hI hL
  obtain ⟨hx, hb, hret, hml, hown, hts, hlk, hht, hnm, hWd, htr, hfr, hlo⟩ := hM
  refine ⟨fun cfg h hf kk => ?_, fun v h => ?_⟩
  · unfold nv_aldi at h
    split at h
    · rename_i x a r
      split at h
      · rename_i v hv
        cases h
        unfold nv_rdi at hv
        split at hv
        · rename_i t' m2 f ho
          split at hv
          · rename_i ht
            obtain ⟨rfl, h0, h1⟩ := ht
            cases hv
            obtain ⟨ha, hat⟩ := hI.1 a _ ho
            simp only [List.map_cons, nv_rv_own ha]
            exact va_iald hx hb hWd.1 (nv_P1 hat) 0 1 rfl rfl (fun q => q.elim h0 (fun q => by omega)) hd (kk _ _ _ _ _ hI hL)
          · cases hv
        · cases hv
      · cases h
    · cases h
  · unfold nv_aldi at h
    split at h
    · split at h <;> cases h
    · cases h
theorem so_cald {M : nv_M} {pc : Nat} (hd : decode M.2.1 pc = .ok (.caload, 1)) : nv_SO M pc (nv_aldi 0 (pc + 1)) := by
  intro p l e R s m args below meth c Q X scr c0 s0 hM H locs cells slots lA ls st σ hI hL
  obtain ⟨hx, hb, hret, hml, hown, hts, hlk, hht, hnm, hWd, htr, hfr, hlo⟩ := hM
  refine ⟨fun cfg h hf kk => ?_, fun v h => ?_⟩
  · unfold nv_aldi at h
    split at h
    · rename_i x a r
      split at h
      · rename_i v hv
        cases h
        unfold nv_rdi at hv
        split at hv
        · rename_i t' m2 f ho
          split at hv
          · rename_i ht
            obtain ⟨rfl, h0, h1⟩ := ht
            cases hv
            obtain ⟨ha, hat⟩ := hI.1 a _ ho
            simp only [List.map_cons, nv_rv_own ha]
            exact va_cald hx hb hWd.1 (nv_P1 hat) 0 0 rfl rfl (fun q => q.elim h0 (fun q => by omega)) hd (kk _ _ _ _ _ hI hL)
          · cases hv
        · cases hv
      · cases h
    · cases h
  · unfold nv_aldi at h
    split at h
    · split at h <;> cases h
    · cases h
theorem nv_rf_rv {X : nv_X} {r : Option Nat} {v : Value} (h : nv_rf r = some v) : nv_rv X v = va_rf (r.map (fun a => X.1 + a)) := by
  cases r with
  | none => cases h; rfl
  | some a =>
    by_cases ha : a < nv_off
    · simp only [nv_rf, if_pos ha] at h
      cases h
      exact nv_rv_own ha
    · simp only [nv_rf, if_neg ha] at h
      cases h
theorem so_aldq {M : nv_M} {pc : Nat} {t : Nat} {C : String} (hd : decode M.2.1 pc = .ok (.aaload, 1)) (hc : (t = 2 ∧ C = RX6) ∨ (t = 3 ∧ C = RX4)) : nv_SO M pc (nv_aldq t (pc + 1)) := by
  intro p l e R s m args below meth c Q X scr c0 s0 hM H locs cells slots lA ls st σ hI hL
  obtain ⟨hx, hb, hret, hml, hown, hts, hlk, hht, hnm, hWd, htr, hfr, hlo⟩ := hM
  refine ⟨fun cfg h hf kk => ?_, fun v h => ?_⟩
  · unfold nv_aldq at h
    split at h
    · rename_i x a r
      split at h
      · rename_i v hv
        cases h
        unfold nv_rdq at hv
        split at hv
        · rename_i t' m2 f ho
          split at hv
          · rename_i ht
            obtain ⟨rfl, h0, h1⟩ := ht
            obtain ⟨ha, hat⟩ := hI.1 a _ ho
            have hk := kk _ _ _ _ _ hI hL
            simp only [List.map_cons, nv_rv_own ha, nv_rf_rv (X := X) hv] at hk ⊢
            have hty : (nv_tys X)[t']? = some (X.2.2.2 t', .object C) := by
              rcases hc with ⟨rfl, rfl⟩ | ⟨rfl, rfl⟩ <;> rfl
            exact va_aldq hx hb hWd.1 (nv_P1 hat) 0 t' rfl hty (fun q => q.elim h0 (fun q => by omega)) hd hk
          · cases hv
        · cases hv
      · cases h
    · cases h
  · unfold nv_aldq at h
    split at h
    · split at h <;> cases h
    · cases h
theorem so_iast {M : nv_M} {pc : Nat} (hd : decode M.2.1 pc = .ok (.iastore, 1)) : nv_SO M pc (nv_iast 1 (pc + 1)) := by
  intro p l e R s m args below meth c Q X scr c0 s0 hM H locs cells slots lA ls st σ hI hL
  obtain ⟨hx, hb, hret, hml, hown, hts, hlk, hht, hnm, hWd, htr, hfr, hlo⟩ := hM
  refine ⟨fun cfg h hf kk => ?_, fun v h => ?_⟩
  · unfold nv_iast at h
    split at h
    · rename_i v x a r
      split at h
      · rename_i σ' hv
        cases h
        unfold nv_wri at hv
        split at hv
        · rename_i t' m2 f ho
          split at hv
          · rename_i ht
            obtain ⟨rfl, h0, h1⟩ := ht
            cases hv
            obtain ⟨ha, hat⟩ := hI.1 a _ ho
            simp only [List.map_cons, nv_rv_own ha]
            refine W.iast hx hb hat ((hWd.1.2 1 _ rfl).1 m2 (fun j => .int (f j))) (fun q => by cases q) (by show ¬ (x < 0 ∨ (arrV _ _ _).slots.size ≤ _); rw [arrV_size]; exact (fun q => q.elim h0 (fun q => Nat.not_le.mpr h1 q))) rfl rfl hd fun H1 e z oq => ?_
            refine kk H1 _ _ _ _ (hI.put ha ?_ z oq) hL
            show H1[X.1 + a]? = some (vp_cell _ _)
            rw [e]
            rw [vp_cell_i, vp_cell_i, arrV_store]
            congr 2
            funext q
            by_cases hq : q = x.toNatClampNeg
            · subst hq
              simp [updV, upd]
            · simp [updV, upd, hq]
          · cases hv
        · cases hv
      · cases h
    · cases h
  · unfold nv_iast at h
    split at h
    · split at h <;> cases h
    · cases h
theorem so_cast {M : nv_M} {pc : Nat} (hd : decode M.2.1 pc = .ok (.castore, 1)) : nv_SO M pc (nv_cast 0 (pc + 1)) := by
  intro p l e R s m args below meth c Q X scr c0 s0 hM H locs cells slots lA ls st σ hI hL
  obtain ⟨hx, hb, hret, hml, hown, hts, hlk, hht, hnm, hWd, htr, hfr, hlo⟩ := hM
  refine ⟨fun cfg h hf kk => ?_, fun v h => ?_⟩
  · unfold nv_cast at h
    split at h
    · rename_i v x a r
      split at h
      · rename_i σ' hv
        cases h
        unfold nv_wri at hv
        split at hv
        · rename_i t' m2 f ho
          split at hv
          · rename_i ht
            obtain ⟨rfl, h0, h1⟩ := ht
            cases hv
            obtain ⟨ha, hat⟩ := hI.1 a _ ho
            simp only [List.map_cons, nv_rv_own ha]
            refine W.cast hx hb hat ((hWd.1.2 0 _ rfl).1 m2 (fun j => .int (f j))) (fun q => by cases q) (by show ¬ (x < 0 ∨ (arrV _ _ _).slots.size ≤ _); rw [arrV_size]; exact (fun q => q.elim h0 (fun q => Nat.not_le.mpr h1 q))) rfl rfl hd fun H1 e z oq => ?_
            refine kk H1 _ _ _ _ (hI.put ha ?_ z oq) hL
            show H1[X.1 + a]? = some (vp_cell _ _)
            rw [e]
            rw [vp_cell_i, vp_cell_i, arrV_store]
            congr 2
            funext q
            by_cases hq : q = x.toNatClampNeg
            · subst hq
              simp [updV, upd, vp_nar]
              try rfl
            · simp [updV, upd, hq]
          · cases hv
        · cases hv
      · cases h
    · cases h
  · unfold nv_cast at h
    split at h
    · split at h <;> cases h
    · cases h
theorem so_astq {M : nv_M} {pc : Nat} {t ci : Nat} {C : String} {T : u_T} {N : Nat} (hd : decode M.2.1 pc = .ok (.aastore, 1)) (hc : (t = 2 ∧ C = RX6) ∨ (t = 3 ∧ C = RX4)) (hci : nv_cl[ci]? = some (C, T, N)) : nv_SO M pc (nv_astq t ci (pc + 1)) := by
  intro p l e R s m args below meth c Q X scr c0 s0 hM H locs cells slots lA ls st σ hI hL
  obtain ⟨hx, hb, hret, hml, hown, hts, hlk, hht, hnm, hWd, htr, hfr, hlo⟩ := hM
  refine ⟨fun cfg h hf kk => ?_, fun v h => ?_⟩
  · unfold nv_astq at h
    split at h
    · rename_i v x a r
      split at h
      · rename_i hv0
        split at h
        · rename_i σ' hv
          cases h
          unfold nv_isO at hv0
          split at hv0
          · rename_i ci' vs hvo
            have hcc : ci' = ci := by simpa using hv0
            subst hcc
            obtain ⟨hva, hvat⟩ := hI.1 v _ hvo
            unfold nv_wrq at hv
            split at hv
            · rename_i t' m2 f ho
              split at hv
              · rename_i ht
                obtain ⟨rfl, h0, h1⟩ := ht
                cases hv
                obtain ⟨ha, hat⟩ := hI.1 a _ ho
                have hty : (nv_tys X)[t']? = some (X.2.2.2 t', .object C) := by
                  rcases hc with ⟨rfl, rfl⟩ | ⟨rfl, rfl⟩ <;> rfl
                simp only [List.map_cons, nv_rv_own ha, nv_rv_own hva]
                obtain ⟨r', hr', cellV, g1, g2, g3, -⟩ := hvat
                have hcls := (hWd.1.1 ci' _ hci).2
                obtain ⟨kA, comp, k1, k2, k3, -⟩ := (hWd.1.2 t' _ hty).2
                have hcomp : comp = X.2.2.1.1 ci' := Option.some.inj (k3.symm.trans hcls.1)
                subst hcomp
                obtain ⟨kC, hkC, -⟩ := hcls.2
                refine W.aast hx hb hat (fun q h => by cases h) (fun h => by cases h) k1 k2 rfl hkC ⟨h0, by show _ < (arrV _ _ _).slots.size; rw [arrV_size]; exact h1⟩ g1 (fun q h => by rw [g3] at h; cases h) (by rw [g2]; exact hkC) (by rw [g2]; exact va_assign hcls) rfl rfl hd fun H1 e z oq => ?_
                refine kk H1 _ _ _ _ (hI.put ha ?_ z oq) hL
                show H1[X.1 + a]? = some (vp_cell _ _)
                rw [e]
                rw [vp_cell_q, vp_cell_q, arrV_store]
                congr 2
                funext q
                by_cases hq : q = x.toNatClampNeg
                · subst hq
                  simp [updV, va_up, va_rf]
                · simp [updV, va_up, hq]
              · cases hv
            · cases hv
          · cases hv0
        · cases h
      · cases h
    · cases h
  · unfold nv_astq at h
    split at h
    · split at h
      · split at h <;> cases h
      · cases h
    · cases h
