/-! SOUNDNESS OF THE ABSTRACT MACHINE, 6: what stands since before the start; the script; library arithmetic. -/
theorem nv_rv_st {X : nv_X} {a k : Nat} (h : a = 1000000 + k) : nv_rv X (.ref a) = X.2.1 k := by
  subst h
  show (if 1000000 + k < nv_off then Value.ref (X.1 + (1000000 + k)) else X.2.1 (1000000 + k - nv_off)) = _
  rw [if_neg (by simp [nv_off]), show 1000000 + k - nv_off = k by simp [nv_off]]
-- a static read
theorem so_gets {M : nv_M} {pc : Nat} {C n d : String} {index : Nat} {v : Value} (hd : decode M.2.1 pc = .ok (.getstatic index, 3)) (hl : Cond.fieldLink M.1.cls index C n d ∈ nv_big)
    (hZ : ∀ (X : nv_X) (s : State), nv_Sx X s s.heap → va_Z C n d (nv_rv X v) (nv_A X) s s.heap) : nv_SO M pc (nv_cst v (pc + 3)) := by
  intro p l e R s m args below meth c Q X scr c0 s0 hM H locs cells slots lA ls st σ hI hL
  obtain ⟨hx, hb, hret, hml, hown, hts, hlk, hht, hnm, hWd, htr, hfr, hlo⟩ := hM
  refine ⟨fun cfg h hf kk => ?_, fun v h => ?_⟩
  · cases h
    exact va_gets hx hb (hZ X s hWd.2.1) hI.2.2.2.1 hown (hts _ hl) (fun x h => h) hd (kk _ _ _ _ _ hI hL)
  · cases h
theorem so_gFORMS {M : nv_M} {pc index : Nat} (hd : decode M.2.1 pc = .ok (.getstatic index, 3)) (hl : Cond.fieldLink M.1.cls index RX7 "FORMS" "[LSpoonNavy$Form;" ∈ nv_big) : nv_SO M pc (nv_cst (.ref 1000300) (pc + 3)) :=
  so_gets hd hl fun X s h => by obtain ⟨a, h1, h2, -⟩ := h.2.2.1; rw [nv_rv_st (k := 300) rfl, h1]; exact h2
theorem so_gSW {M : nv_M} {pc index : Nat} (hd : decode M.2.1 pc = .ok (.getstatic index, 3)) (hl : Cond.fieldLink M.1.cls index RX0 "$SwitchMap$SpoonNavy$Form" "[I" ∈ nv_big) : nv_SO M pc (nv_cst (.ref 1000301) (pc + 3)) :=
  so_gets hd hl fun X s h => by obtain ⟨a, h1, h2, -⟩ := h.2.2.2.1; rw [nv_rv_st (k := 301) rfl, h1]; exact h2
theorem so_gTEXTS {M : nv_M} {pc index : Nat} (hd : decode M.2.1 pc = .ok (.getstatic index, 3)) (hl : Cond.fieldLink M.1.cls index RL "TEXTS" "[Ljava/lang/String;" ∈ nv_big) : nv_SO M pc (nv_cst (.ref 1000302) (pc + 3)) :=
  so_gets hd hl fun X s h => by obtain ⟨a, h1, h2, -⟩ := h.2.2.2.2.1; rw [nv_rv_st (k := 302) rfl, h1]; exact h2
theorem so_gEND {M : nv_M} {pc index : Nat} (hd : decode M.2.1 pc = .ok (.getstatic index, 3)) (hl : Cond.fieldLink M.1.cls index RX3 "END" "LSpoonNavy$Form;" ∈ nv_big) : nv_SO M pc (nv_cst (.ref 1000207) (pc + 3)) :=
  so_gets hd hl fun X s h => by rw [nv_rv_st (k := 207) rfl]; exact h.2.2.2.2.2.1
theorem so_gCOMP {M : nv_M} {pc index : Nat} (hd : decode M.2.1 pc = .ok (.getstatic index, 3)) (hl : Cond.fieldLink M.1.cls index "java/lang/String" "COMPACT_STRINGS" "Z" ∈ nv_big) : nv_SO M pc (nv_cst (.int 1) (pc + 3)) :=
  so_gets (v := .int 1) hd hl fun X s h => h.2.2.2.2.2.2.1
theorem so_gSIO {M : nv_M} {pc index : Nat} (hd : decode M.2.1 pc = .ok (.getstatic index, 3)) (hl : Cond.fieldLink M.1.cls index "jdk/internal/util/Preconditions" "SIOOBE_FORMATTER" "Ljava/util/function/BiFunction;" ∈ nv_big) : nv_SO M pc (nv_cst (.ref 1000303) (pc + 3)) :=
  so_gets hd hl fun X s h => by rw [nv_rv_st (k := 303) rfl]; exact h.2.2.2.2.2.2.2.1
-- lengths
theorem so_lenT {M : nv_M} {pc k N : Nat} {C n d : String} {ty : FieldType} {f : nv_X → Nat → Value} {a : Nat} (ha : a = 1000000 + k) (hd : decode M.2.1 pc = .ok (.arraylength, 1)) (hR : ∀ (X : nv_X) (s : State), nv_Sx X s s.heap → nv_Row X s s.heap k C n d ty N (f X)) : nv_SO M pc (nv_slen a N (pc + 1)) := by
  intro p l e R s m args below meth c Q X scr c0 s0 hM H locs cells slots lA ls st σ hI hL
  obtain ⟨hx, hb, hret, hml, hown, hts, hlk, hht, hnm, hWd, htr, hfr, hlo⟩ := hM
  refine ⟨fun cfg h hf kk => ?_, fun v h => ?_⟩
  · unfold nv_slen at h
    split at h
    · split at h
      · rename_i hba
        cases h
        obtain ⟨t, h1, -, h3⟩ := hR X s hWd.2.1
        simp only [List.map_cons, hba, nv_rv_st ha, h1]
        exact va_tlen hx hb h3 hI.2.2.2.1 rfl hd (kk _ _ _ _ _ hI hL)
      · cases h
    · cases h
  · unfold nv_slen at h
    split at h
    · split at h <;> cases h
    · cases h
theorem so_lFORMS {M : nv_M} {pc : Nat} (hd : decode M.2.1 pc = .ok (.arraylength, 1)) : nv_SO M pc (nv_slen 1000300 8 (pc + 1)) := so_lenT (k := 300) rfl hd (fun X s h => h.2.2.1)
theorem so_lTEXTS {M : nv_M} {pc : Nat} (hd : decode M.2.1 pc = .ok (.arraylength, 1)) : nv_SO M pc (nv_slen 1000302 24 (pc + 1)) := so_lenT (k := 302) rfl hd (fun X s h => h.2.2.2.2.1)
theorem so_lBYTES {M : nv_M} {pc : Nat} (hd : decode M.2.1 pc = .ok (.arraylength, 1)) : nv_SO M pc (nv_slens 1000100 nv_lens (pc + 1)) := by
  intro p l e R s m args below meth c Q X scr c0 s0 hM H locs cells slots lA ls st σ hI hL
  obtain ⟨hx, hb, hret, hml, hown, hts, hlk, hht, hnm, hWd, htr, hfr, hlo⟩ := hM
  refine ⟨fun cfg h hf kk => ?_, fun v h => ?_⟩
  · unfold nv_slens at h
    split at h
    · rename_i b r
      split at h
      · cases h
      · rename_i hlt
        split at h
        · rename_i m0 hm
          cases h
          have hi : b - 1000100 < 32 := (List.getElem?_eq_some_iff.mp hm).1
          obtain ⟨a0, t, h1, h2, -, -, -, h6⟩ := hWd.2.1.1 _ hi
          have hg : nv_lens.getD (b - 1000100) 0 = m0 := by rw [List.getD_eq_getElem?_getD, hm]; rfl
          rw [hg] at h6
          have hge : @LE.le Nat _ 1000100 b := Nat.le_of_not_lt hlt
          simp only [List.map_cons, nv_rv_st (X := X) (a := b) (k := 100 + (b - 1000100)) (by omega), h2]
          exact va_tlen hx hb h6 hI.2.2.2.1 rfl hd (kk _ _ _ _ _ hI hL)
        · cases h
    · cases h
  · unfold nv_slens at h
    split at h
    · split at h
      · cases h
      · split at h <;> cases h
    · cases h
-- places of rows
theorem so_ldSW {M : nv_M} {pc : Nat} (hd : decode M.2.1 pc = .ok (.iaload, 1)) : nv_SO M pc (nv_sald 1000301 nv_swv (pc + 1)) := by
  intro p l e R s m args below meth c Q X scr c0 s0 hM H locs cells slots lA ls st σ hI hL
  obtain ⟨hx, hb, hret, hml, hown, hts, hlk, hht, hnm, hWd, htr, hfr, hlo⟩ := hM
  refine ⟨fun cfg h hf kk => ?_, fun v h => ?_⟩
  · unfold nv_sald at h
    split at h
    · rename_i x b r
      split at h
      · rename_i hba
        obtain ⟨rfl, hx0⟩ := hba
        split at h
        · rename_i v hv
          cases h
          have hi : x.toNatClampNeg < 8 := (List.getElem?_eq_some_iff.mp hv).1
          obtain ⟨t, h1, -, h3⟩ := hWd.2.1.2.2.2.1
          simp only [List.map_cons, nv_rv_st (X := X) (a := 1000301) (k := 301) rfl, h1]
          have hv2 : Value.int (nv_sw.getD x.toNatClampNeg 0) = nv_rv X v := by
            generalize x.toNatClampNeg = i at hv hi
            match i, hi with
            | 0, _ => cases hv; rfl
            | 1, _ => cases hv; rfl
            | 2, _ => cases hv; rfl
            | 3, _ => cases hv; rfl
            | 4, _ => cases hv; rfl
            | 5, _ => cases hv; rfl
            | 6, _ => cases hv; rfl
            | 7, _ => cases hv; rfl
            | k + 8, h => omega
          exact va_ti hx hb h3 hI.2.2.2.1 (fun q => q.elim hx0 (fun q => Nat.not_le.mpr hi q)) hv2 hd (kk _ _ _ _ _ hI hL)
        · cases h
      · cases h
    · cases h
  · unfold nv_sald at h
    split at h
    · split at h
      · split at h <;> cases h
      · cases h
    · cases h
theorem nv_ldR {p : Program} {l : Launch} {e : Env} {R : Room} {s : State} {m : MethodId} {args : Array Value} {below : List Frame} {meth : Method} {c : Code} {H : Heap} {locs : List Loc} {cells slots : Nat} {Q : State → Prop} {cc : ByteArray} {pc : Nat} {ls : Array Slot} {rest : List Value} {A : Nat → Prop} {t N : Nat} {C : String} {f : Nat → Value}
    (hexec : p.tables.exec = Jvm.exec) (hb : c.code = cc) (hT : va_T (.object C) t N f A s s.heap) (hS : va_S A s.heap H locs) {i : Int32} (hin : vp_in i N) {v : Value} (hv : f i.toNatClampNeg = v) (hdg : decode cc pc = .ok (.aaload, 1))
    (kk : W p l e R s m args below meth c H locs cells slots Q (F0 m (pc + 1) ls (v :: rest))) : W p l e R s m args below meth c H locs cells slots Q (F0 m pc ls (.int i :: .ref t :: rest)) := by
  obtain ⟨cell, h1, h2, h3, h4, h5, h6, h7⟩ := hT.kept hS.2.1
  have hlt : i.toNatClampNeg < N := Nat.not_le.mp fun q => hin (Or.inr q)
  exact W.aald (v := v) (ty := .object C) hexec hb h1 h2 rfl h3 (fun q => q.elim (fun q => hin (Or.inl q)) (fun q => hin (Or.inr (Nat.le_trans h4 q)))) (by rw [← hv]; exact h6 _ hlt) rfl rfl hdg kk
theorem so_ldFORMS {M : nv_M} {pc : Nat} (hd : decode M.2.1 pc = .ok (.aaload, 1)) : nv_SO M pc (nv_sald 1000300 nv_fv (pc + 1)) := by
  intro p l e R s m args below meth c Q X scr c0 s0 hM H locs cells slots lA ls st σ hI hL
  obtain ⟨hx, hb, hret, hml, hown, hts, hlk, hht, hnm, hWd, htr, hfr, hlo⟩ := hM
  refine ⟨fun cfg h hf kk => ?_, fun v h => ?_⟩
  · unfold nv_sald at h
    split at h
    · rename_i x b r
      split at h
      · rename_i hba
        obtain ⟨rfl, hx0⟩ := hba
        split at h
        · rename_i v hv
          cases h
          have hi : x.toNatClampNeg < 8 := (List.getElem?_eq_some_iff.mp hv).1
          obtain ⟨t, h1, -, h3⟩ := hWd.2.1.2.2.1
          simp only [List.map_cons, nv_rv_st (X := X) (a := 1000300) (k := 300) rfl, h1]
          have hv2 : X.2.1 (200 + x.toNatClampNeg) = nv_rv X v := by
            generalize x.toNatClampNeg = i at hv hi
            match i, hi with
            | 0, _ => cases hv; exact (nv_rv_st rfl).symm
            | 1, _ => cases hv; exact (nv_rv_st rfl).symm
            | 2, _ => cases hv; exact (nv_rv_st rfl).symm
            | 3, _ => cases hv; exact (nv_rv_st rfl).symm
            | 4, _ => cases hv; exact (nv_rv_st rfl).symm
            | 5, _ => cases hv; exact (nv_rv_st rfl).symm
            | 6, _ => cases hv; exact (nv_rv_st rfl).symm
            | 7, _ => cases hv; exact (nv_rv_st rfl).symm
            | k + 8, h => omega
          exact nv_ldR hx hb h3 hI.2.2.2.1 (fun q => q.elim hx0 (fun q => Nat.not_le.mpr hi q)) hv2 hd (kk _ _ _ _ _ hI hL)
        · cases h
      · cases h
    · cases h
  · unfold nv_sald at h
    split at h
    · split at h
      · split at h <;> cases h
      · cases h
    · cases h
theorem nv_tv_at {i : Nat} {v : Value} (h : nv_tv[i]? = some v) : v = .ref (1000000 + i) := by
  have hi : i < 24 := (List.getElem?_eq_some_iff.mp h).1
  have key : ∀ j, j < 24 → nv_tv[j]? = some (.ref (1000000 + j)) := by decide
  rw [key i hi] at h
  exact (Option.some.inj h).symm
theorem so_ldTEXTS {M : nv_M} {pc : Nat} (hd : decode M.2.1 pc = .ok (.aaload, 1)) : nv_SO M pc (nv_sald 1000302 nv_tv (pc + 1)) := by
  intro p l e R s m args below meth c Q X scr c0 s0 hM H locs cells slots lA ls st σ hI hL
  obtain ⟨hx, hb, hret, hml, hown, hts, hlk, hht, hnm, hWd, htr, hfr, hlo⟩ := hM
  refine ⟨fun cfg h hf kk => ?_, fun v h => ?_⟩
  · unfold nv_sald at h
    split at h
    · rename_i x b r
      split at h
      · rename_i hba
        obtain ⟨rfl, hx0⟩ := hba
        split at h
        · rename_i v hv
          cases h
          have hi : x.toNatClampNeg < 24 := (List.getElem?_eq_some_iff.mp hv).1
          obtain ⟨t, h1, -, h3⟩ := hWd.2.1.2.2.2.2.1
          simp only [List.map_cons, nv_rv_st (X := X) (a := 1000302) (k := 302) rfl, h1]
          have hv2 : X.2.1 x.toNatClampNeg = nv_rv X v := by rw [nv_tv_at hv]; exact (nv_rv_st rfl).symm
          exact nv_ldR hx hb h3 hI.2.2.2.1 (fun q => q.elim hx0 (fun q => Nat.not_le.mpr hi q)) hv2 hd (kk _ _ _ _ _ hI hL)
        · cases h
      · cases h
    · cases h
  · unfold nv_sald at h
    split at h
    · split at h
      · split at h <;> cases h
      · cases h
    · cases h
theorem nv_lens_ok : ∀ i, i < 32 → (nv_byts.getD i []).length = nv_lens.getD i 0 := by decide
theorem so_ldBYTES {M : nv_M} {pc : Nat} (hd : decode M.2.1 pc = .ok (.baload, 1)) : nv_SO M pc (nv_salds 1000100 nv_bv (pc + 1)) := by
  intro p l e R s m args below meth c Q X scr c0 s0 hM H locs cells slots lA ls st σ hI hL
  obtain ⟨hx, hb, hret, hml, hown, hts, hlk, hht, hnm, hWd, htr, hfr, hlo⟩ := hM
  refine ⟨fun cfg h hf kk => ?_, fun v h => ?_⟩
  · unfold nv_salds at h
    split at h
    · rename_i x b r
      split at h
      · cases h
      · rename_i hlt
        split at h
        · rename_i vs hvs
          split at h
          · rename_i v hv
            cases h
            have hi : b - 1000100 < 32 := by
              have := (List.getElem?_eq_some_iff.mp hvs).1
              simpa [nv_bv, nv_byts] using this
            unfold nv_bv at hvs
            rw [List.getElem?_map] at hvs
            obtain ⟨bs, hbs, rfl⟩ := Option.map_eq_some_iff.mp hvs
            rw [List.getElem?_map] at hv
            obtain ⟨z, hz, rfl⟩ := Option.map_eq_some_iff.mp hv
            have hg : nv_byts.getD (b - 1000100) [] = bs := by rw [List.getD_eq_getElem?_getD, hbs]; rfl
            have hz2 : bs.getD x.toNatClampNeg 0 = z := by rw [List.getD_eq_getElem?_getD, hz]; rfl
            have hzl : x.toNatClampNeg < bs.length := (List.getElem?_eq_some_iff.mp hz).1
            have hlen := nv_lens_ok _ hi
            rw [hg] at hlen
            obtain ⟨a0, t, h1, h2, -, -, -, h6⟩ := hWd.2.1.1 _ hi
            rw [hg] at h6
            have hge : @LE.le Nat _ 1000100 b := Nat.le_of_not_lt (fun q => hlt (Or.inl q))
            simp only [List.map_cons, nv_rv_st (X := X) (a := b) (k := 100 + (b - 1000100)) (by omega), h2]
            exact va_tb hx hb h6 hI.2.2.2.1 (fun q => q.elim (fun q => hlt (Or.inr q)) (fun q => by omega)) (by rw [hz2]; rfl) hd (kk _ _ _ _ _ hI hL)
          · cases h
        · cases h
    · cases h
  · unfold nv_salds at h
    split at h
    · split at h
      · cases h
      · split at h
        · split at h <;> cases h
        · cases h
    · cases h
-- fields of constant objects
theorem so_sget {M : nv_M} {pc index : Nat} {o n d : String} {a : Nat} {vs : List Value} (ho : 1000000 ≤ a) (hd : decode M.2.1 pc = .ok (.getfield index, 3))
    (hl : Cond.fieldLink M.1.cls index o n d ∈ nv_big ∨ ∃ host, Cond.fieldLinkNest M.1.cls index o n d host ∈ nv_nests)
    (hF : ∀ (X : nv_X) (s : State) (i : Nat) (v : Value), nv_Sx X s s.heap → vs[i]? = some v → ∃ q, X.2.1 (a - 1000000 + i) = .ref q ∧ va_OF o n d (nv_rv X v) q (nv_A X) s s.heap) : nv_SO M pc (nv_sget a vs (pc + 3)) := by
  intro p l e R s m args below meth c Q X scr c0 s0 hM H locs cells slots lA ls st σ hI hL
  obtain ⟨hx, hb, hret, hml, hown, hts, hlk, hht, hnm, hWd, htr, hfr, hlo⟩ := hM
  refine ⟨fun cfg h hf kk => ?_, fun v h => ?_⟩
  · unfold nv_sget at h
    split at h
    · rename_i b r
      split at h
      · cases h
      · rename_i hlt
        split at h
        · rename_i v hv
          cases h
          obtain ⟨q, h1, h2⟩ := hF X s _ v hWd.2.1 hv
          have hge : a ≤ b := Nat.le_of_not_lt hlt
          simp only [List.map_cons, nv_rv_st (X := X) (a := b) (k := a - 1000000 + (b - a)) (by omega), h1]
          rcases hl with hl | ⟨host, hl⟩
          · exact vk_getf hx hb h2 hI.2.2.2.1 hown (hts _ hl) (fun x h => h) hd (kk _ _ _ _ _ hI hL)
          · obtain ⟨cf, k, fi, f, cell, g1, g2, g3, g4, g5, g6⟩ := h2.kept hI.2.2.2.1.2.1
            exact va_Wgetf hx hb hown ((hWd.2.2.1 _ hl).use rfl) g1 g2 g3 g4 g5 rfl rfl hd (kk _ _ _ _ _ hI hL)
        · cases h
    · cases h
  · unfold nv_sget at h
    split at h
    · split at h
      · cases h
      · split at h <;> cases h
    · cases h
theorem so_fCODER {M : nv_M} {pc index : Nat} (hd : decode M.2.1 pc = .ok (.getfield index, 3)) (hl : Cond.fieldLink M.1.cls index "java/lang/String" "coder" "B" ∈ nv_big) : nv_SO M pc (nv_sget 1000000 nv_codv (pc + 3)) :=
  so_sget (by decide) hd (Or.inl hl) fun X s i v h hv => by
    have hi : i < 32 := (List.getElem?_eq_some_iff.mp hv).1
    have key : ∀ j, j < 32 → nv_codv[j]? = some (.int 0) := by decide
    rw [key i hi] at hv
    cases hv
    obtain ⟨a, b, h1, h2, h3, h4, -⟩ := h.1 i hi
    exact ⟨a, by rw [show 1000000 - 1000000 + i = i by omega]; exact h1, h4⟩
theorem so_fVALUE {M : nv_M} {pc index : Nat} (hd : decode M.2.1 pc = .ok (.getfield index, 3)) (hl : Cond.fieldLink M.1.cls index "java/lang/String" "value" "[B" ∈ nv_big) : nv_SO M pc (nv_sget 1000000 nv_valv (pc + 3)) :=
  so_sget (by decide) hd (Or.inl hl) fun X s i v h hv => by
    have hi : i < 32 := (List.getElem?_eq_some_iff.mp hv).1
    have key : ∀ j, j < 32 → nv_valv[j]? = some (.ref (1000100 + j)) := by decide
    rw [key i hi] at hv
    cases hv
    obtain ⟨a, b, h1, h2, h3, h4, h5, -⟩ := h.1 i hi
    exact ⟨a, by rw [show 1000000 - 1000000 + i = i by omega]; exact h1, by rw [nv_rv_st (k := 100 + i) (by omega), h2]; exact h5⟩
theorem so_fORD {M : nv_M} {pc index : Nat} (hd : decode M.2.1 pc = .ok (.getfield index, 3)) (hl : Cond.fieldLink M.1.cls index "java/lang/Enum" "ordinal" "I" ∈ nv_big) : nv_SO M pc (nv_sget 1000200 nv_ordv (pc + 3)) :=
  so_sget (by decide) hd (Or.inl hl) fun X s i v h hv => by
    have hi : i < 8 := (List.getElem?_eq_some_iff.mp hv).1
    have key : ∀ j, j < 8 → nv_ordv[j]? = some (.int (Int32.ofNat j)) := by decide
    rw [key i hi] at hv
    cases hv
    obtain ⟨a, h1, h2, h3, h4⟩ := h.2.1 i hi
    exact ⟨a, h1, h3⟩
theorem so_fPAT {M : nv_M} {pc index : Nat} {host : String} (hd : decode M.2.1 pc = .ok (.getfield index, 3)) (hl : Cond.fieldLinkNest M.1.cls index RX3 "pattern" "Ljava/lang/String;" host ∈ nv_nests) : nv_SO M pc (nv_sget 1000200 nv_patv (pc + 3)) :=
  so_sget (by decide) hd (Or.inr ⟨host, hl⟩) fun X s i v h hv => by
    have hi : i < 8 := (List.getElem?_eq_some_iff.mp hv).1
    have key : ∀ j, j < 8 → nv_patv[j]? = some (.ref (1000024 + j)) := by decide
    rw [key i hi] at hv
    cases hv
    obtain ⟨a, h1, h2, h3, h4⟩ := h.2.1 i hi
    exact ⟨a, h1, by rw [nv_rv_st (k := 24 + i) (by omega)]; exact h4⟩
-- the script
theorem so_scl {M : nv_M} {pc : Nat} (hd : decode M.2.1 pc = .ok (.arraylength, 1)) : nv_SO M pc (nv_scl (pc + 1)) := by
  intro p l e R s m args below meth c Q X scr c0 s0 hM H locs cells slots lA ls st σ hI hL
  obtain ⟨hx, hb, hret, hml, hown, hts, hlk, hht, hnm, hWd, htr, hfr, hlo⟩ := hM
  refine ⟨fun cfg h hf kk => ?_, fun v h => ?_⟩
  · unfold nv_scl at h
    split at h
    · split at h
      · rename_i hba
        cases h
        obtain ⟨b, h1, h2, h3⟩ := hWd.2.2.2.2.2.2.1
        have hbl : b < s.heap.size := (Array.getElem?_eq_some_iff.mp h3.choose_spec.1).1
        have hk := kk _ _ _ _ _ hI hL
        rw [hI.2.2.2.2.2.2] at hk
        simp only [List.map_cons, hba, nv_rv_st (X := X) (a := nv_scrA) (k := 900) rfl, h1]
        exact va_slen hx hb h3 hbl (Nat.not_le.mpr h2) hI.2.2.2.1 hd hk
      · cases h
    · cases h
  · unfold nv_scl at h
    split at h
    · split at h <;> cases h
    · cases h
theorem so_sci {M : nv_M} {pc : Nat} (hd : decode M.2.1 pc = .ok (.iaload, 1)) : nv_SO M pc (nv_sci (pc + 1)) := by
  intro p l e R s m args below meth c Q X scr c0 s0 hM H locs cells slots lA ls st σ hI hL
  obtain ⟨hx, hb, hret, hml, hown, hts, hlk, hht, hnm, hWd, htr, hfr, hlo⟩ := hM
  refine ⟨fun cfg h hf kk => ?_, fun v h => ?_⟩
  · unfold nv_sci at h
    split at h
    · split at h
      · rename_i hba
        cases h
        obtain ⟨hba, hx0, hx1⟩ := hba
        obtain ⟨b, h1, h2, h3⟩ := hWd.2.2.2.2.2.2.1
        have hbl : b < s.heap.size := (Array.getElem?_eq_some_iff.mp h3.choose_spec.1).1
        have hk := kk _ _ _ _ _ hI hL
        rw [hI.2.2.2.2.2.2] at hk hx1
        simp only [List.map_cons, hba, nv_rv_st (X := X) (a := nv_scrA) (k := 900) rfl, h1]
        exact va_sld hx hb h3 hbl (Nat.not_le.mpr h2) hI.2.2.2.1 (fun q => q.elim hx0 (fun q => Nat.not_le.mpr hx1 q)) hd hk
      · cases h
    · cases h
  · unfold nv_sci at h
    split at h
    · split at h <;> cases h
    · cases h
-- Object's own beginning, library arithmetic
theorem nv_room_map {X : nv_X} (hX : nv_sv X) {r : List Value} (h : nv_room r = true) : ((r.map (nv_rv X)).map fun v => v.category).sum ≤ 8 := by
  have : (r.map (nv_rv X)).map (fun v => v.category) = r.map (fun v => v.category) := by
    rw [List.map_map]
    exact List.map_congr_left fun v _ => nv_rv_cat hX v
  rw [this]
  exact of_decide_eq_true h
theorem so_oinit {M : nv_M} {pc index : Nat} (hd : decode M.2.1 pc = .ok (.invokespecial index, 3)) (hl : Cond.methodLink M.1.cls index Lib.objectInit ∈ nv_big) (hi : Cond.instanceMethod Lib.objectInit ∈ nv_big) (hc : Cond.code Lib.objectInit ⟨#[0xb1]⟩ 1 none ∈ nv_big) (hr : 1 ≤ M.2.2.2.2.2) : nv_SO M pc (nv_oinit (pc + 3)) := by
  intro p l e R s m args below meth c Q X scr c0 s0 hM H locs cells slots lA ls st σ hI hL
  obtain ⟨hx, hb, hret, hml, hown, hts, hlk, hht, hnm, hWd, htr, hfr, hlo⟩ := hM
  have hsv : nv_sv X := hWd.2.2.2.2.2.2.2.1
  refine ⟨fun cfg h hf kk => ?_, fun v h => ?_⟩
  · unfold nv_oinit at h
    split at h
    · split at h
      · rename_i ha
        cases h
        simp only [List.map_cons, nv_rv_own ha.1]
        have h8 := nv_room_map hsv ha.2
        exact W.objInit hx hb hown (hts _ hl) (hts _ hi) (hts _ hc) rfl (hL.2.1.trans hml.symm) rfl hd (by omega) (by show 2 * 0 + _ + 12 ≤ _; omega) (kk _ _ _ _ _ hI hL)
      · cases h
    · cases h
  · unfold nv_oinit at h
    split at h
    · split at h <;> cases h
    · cases h
theorem nv_cellsOk {X : nv_X} {scr : nv_Scr} {R : Room} {s : State} {c0 s0 : Nat} {H : Heap} {locs : List Loc} {cells slots : Nat} {σ : nv_St} (hI : nv_In X scr s c0 s0 H locs cells slots σ) (hf : nv_Fits R c0 s0 σ) : cells ≤ R.cells ∧ slots ≤ R.slots := by
  have f1 := hf.1
  have f2 := hf.2
  have f3 := hI.2.2.2.2.1
  have f4 := hI.2.2.2.2.2.1
  omega
theorem so_abs {M : nv_M} {pc index : Nat} (hd : decode M.2.1 pc = .ok (.invokestatic index, 3)) (hl : Cond.methodLink M.1.cls index Lib.Math.abs.name ∈ nv_big) (hs : Cond.static Lib.Math.abs.name ∈ nv_big) (hi : Cond.initialized "java/lang/Math" ∈ nv_big) (hc : Cond.code Lib.Math.abs.name Lib.Math.abs.code 1 (some .int) ∈ nv_big) (hr : 1 ≤ M.2.2.2.2.2) : nv_SO M pc (nv_abs (pc + 3)) := by
  intro p l e R s m args below meth c Q X scr c0 s0 hM H locs cells slots lA ls st σ hI hL
  obtain ⟨hx, hb, hret, hml, hown, hts, hlk, hht, hnm, hWd, htr, hfr, hlo⟩ := hM
  have hsv : nv_sv X := hWd.2.2.2.2.2.2.2.1
  refine ⟨fun cfg h hf kk => ?_, fun v h => ?_⟩
  · unfold nv_abs at h
    split at h
    · split at h
      · rename_i ha
        cases h
        have h8 := nv_room_map hsv ha
        obtain ⟨f1, f2⟩ := nv_cellsOk hI hf
        exact va_mabs hx hb (hml.trans hL.2.1.symm) hown (hts _ hl) (hts _ hs) (hts _ hi) (hts _ hc) (by omega) (by omega) f1 f2 hd (kk _ _ _ _ _ hI hL)
      · cases h
    · cases h
  · unfold nv_abs at h
    split at h
    · split at h <;> cases h
    · cases h
theorem so_min {M : nv_M} {pc index : Nat} (hd : decode M.2.1 pc = .ok (.invokestatic index, 3)) (hl : Cond.methodLink M.1.cls index Lib.Math.min.name ∈ nv_big) (hs : Cond.static Lib.Math.min.name ∈ nv_big) (hi : Cond.initialized "java/lang/Math" ∈ nv_big) (hc : Cond.code Lib.Math.min.name Lib.Math.min.code 2 (some .int) ∈ nv_big) (hr : 1 ≤ M.2.2.2.2.2) : nv_SO M pc (nv_min (pc + 3)) := by
  intro p l e R s m args below meth c Q X scr c0 s0 hM H locs cells slots lA ls st σ hI hL
  obtain ⟨hx, hb, hret, hml, hown, hts, hlk, hht, hnm, hWd, htr, hfr, hlo⟩ := hM
  have hsv : nv_sv X := hWd.2.2.2.2.2.2.2.1
  refine ⟨fun cfg h hf kk => ?_, fun v h => ?_⟩
  · unfold nv_min at h
    split at h
    · split at h
      · rename_i ha
        cases h
        have h8 := nv_room_map hsv ha
        obtain ⟨f1, f2⟩ := nv_cellsOk hI hf
        exact va_mmin hx hb (hml.trans hL.2.1.symm) hown (hts _ hl) (hts _ hs) (hts _ hi) (hts _ hc) (by omega) (by omega) f1 f2 hd (kk _ _ _ _ _ hI hL)
      · cases h
    · cases h
  · unfold nv_min at h
    split at h
    · split at h <;> cases h
    · cases h
theorem so_max {M : nv_M} {pc index : Nat} (hd : decode M.2.1 pc = .ok (.invokestatic index, 3)) (hl : Cond.methodLink M.1.cls index Lib.Math.max.name ∈ nv_big) (hs : Cond.static Lib.Math.max.name ∈ nv_big) (hi : Cond.initialized "java/lang/Math" ∈ nv_big) (hc : Cond.code Lib.Math.max.name Lib.Math.max.code 2 (some .int) ∈ nv_big) (hr : 1 ≤ M.2.2.2.2.2) : nv_SO M pc (nv_max (pc + 3)) := by
  intro p l e R s m args below meth c Q X scr c0 s0 hM H locs cells slots lA ls st σ hI hL
  obtain ⟨hx, hb, hret, hml, hown, hts, hlk, hht, hnm, hWd, htr, hfr, hlo⟩ := hM
  have hsv : nv_sv X := hWd.2.2.2.2.2.2.2.1
  refine ⟨fun cfg h hf kk => ?_, fun v h => ?_⟩
  · unfold nv_max at h
    split at h
    · split at h
      · rename_i ha
        cases h
        have h8 := nv_room_map hsv ha
        obtain ⟨f1, f2⟩ := nv_cellsOk hI hf
        exact va_mmax hx hb (hml.trans hL.2.1.symm) hown (hts _ hl) (hts _ hs) (hts _ hi) (hts _ hc) (by omega) (by omega) f1 f2 hd (kk _ _ _ _ _ hI hL)
      · cases h
    · cases h
  · unfold nv_max at h
    split at h
    · split at h <;> cases h
    · cases h
