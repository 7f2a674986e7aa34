/-! SOUNDNESS OF THE ABSTRACT MACHINE, 3: deeds on stack and locals. -/
theorem so_iconst {M : nv_M} {pc : Nat} {n : Int} {v : Int32} (hd : decode M.2.1 pc = .ok (.iconst n, 1)) (hv : Int32.ofInt n = v) : nv_SO M pc (nv_cst (.int v) (pc + 1)) := by
  intro p l e R s m args below meth c Q X scr c0 s0 hM H locs cells slots lA ls st σ hI hL
  obtain ⟨hx, hb, hret, hml, hown, hts, hlk, hht, hnm, hWd, htr, hfr, hlo⟩ := hM
  have hsv : nv_sv X := hWd.2.2.2.2.2.2.2.1
  refine ⟨fun cfg h hf k => ?_, fun v h => ?_⟩
  · cases h
    exact lv_iconst hx hb hd hv (k _ _ _ _ _ hI hL)
  · cases h

theorem so_bipush {M : nv_M} {pc : Nat} {n : Int} {v : Int32} (hd : decode M.2.1 pc = .ok (.bipush n, 2)) (hv : (Int8.ofInt n).toInt32 = v) : nv_SO M pc (nv_cst (.int v) (pc + 2)) := by
  intro p l e R s m args below meth c Q X scr c0 s0 hM H locs cells slots lA ls st σ hI hL
  obtain ⟨hx, hb, hret, hml, hown, hts, hlk, hht, hnm, hWd, htr, hfr, hlo⟩ := hM
  have hsv : nv_sv X := hWd.2.2.2.2.2.2.2.1
  refine ⟨fun cfg h hf k => ?_, fun v h => ?_⟩
  · cases h
    exact lv_bipush hx hb hd hv (k _ _ _ _ _ hI hL)
  · cases h

theorem so_sipush {M : nv_M} {pc : Nat} {n : Int} {v : Int32} (hd : decode M.2.1 pc = .ok (.sipush n, 3)) (hv : (Int16.ofInt n).toInt32 = v) : nv_SO M pc (nv_cst (.int v) (pc + 3)) := by
  intro p l e R s m args below meth c Q X scr c0 s0 hM H locs cells slots lA ls st σ hI hL
  obtain ⟨hx, hb, hret, hml, hown, hts, hlk, hht, hnm, hWd, htr, hfr, hlo⟩ := hM
  have hsv : nv_sv X := hWd.2.2.2.2.2.2.2.1
  refine ⟨fun cfg h hf k => ?_, fun v h => ?_⟩
  · cases h
    exact lv_sipush hx hb hd hv (k _ _ _ _ _ hI hL)
  · cases h

theorem so_lconst {M : nv_M} {pc : Nat} {n : Fin 2} {v : Int64} (hd : decode M.2.1 pc = .ok (.lconst n, 1)) (hv : Int64.ofNat (n : Nat) = v) : nv_SO M pc (nv_cst (.long v) (pc + 1)) := by
  intro p l e R s m args below meth c Q X scr c0 s0 hM H locs cells slots lA ls st σ hI hL
  obtain ⟨hx, hb, hret, hml, hown, hts, hlk, hht, hnm, hWd, htr, hfr, hlo⟩ := hM
  have hsv : nv_sv X := hWd.2.2.2.2.2.2.2.1
  refine ⟨fun cfg h hf k => ?_, fun v h => ?_⟩
  · cases h
    exact lv_lconst hx hb hd hv (k _ _ _ _ _ hI hL)
  · cases h

theorem so_null {M : nv_M} {pc : Nat} (hd : decode M.2.1 pc = .ok (.aconst_null, 1)) : nv_SO M pc (nv_cst .null (pc + 1)) := by
  intro p l e R s m args below meth c Q X scr c0 s0 hM H locs cells slots lA ls st σ hI hL
  obtain ⟨hx, hb, hret, hml, hown, hts, hlk, hht, hnm, hWd, htr, hfr, hlo⟩ := hM
  have hsv : nv_sv X := hWd.2.2.2.2.2.2.2.1
  refine ⟨fun cfg h hf k => ?_, fun v h => ?_⟩
  · cases h
    exact lv_null hx hb hd  (k _ _ _ _ _ hI hL)
  · cases h

theorem so_ldc {M : nv_M} {pc : Nat} {i : Nat} {v : Int32} (hd : decode M.2.1 pc = .ok (.ldc i, 2)) (hw : Cond.constant M.1.cls i v ∈ nv_big) : nv_SO M pc (nv_cst (.int v) (pc + 2)) := by
  intro p l e R s m args below meth c Q X scr c0 s0 hM H locs cells slots lA ls st σ hI hL
  obtain ⟨hx, hb, hret, hml, hown, hts, hlk, hht, hnm, hWd, htr, hfr, hlo⟩ := hM
  have hsv : nv_sv X := hWd.2.2.2.2.2.2.2.1
  refine ⟨fun cfg h hf k => ?_, fun v h => ?_⟩
  · cases h
    exact lv_ldc hx hb hown (hts _ hw) hd (k _ _ _ _ _ hI hL)
  · cases h

theorem so_ldcw {M : nv_M} {pc : Nat} {i : Nat} {v : Int32} (hd : decode M.2.1 pc = .ok (.ldc_w i, 3)) (hw : Cond.constant M.1.cls i v ∈ nv_big) : nv_SO M pc (nv_cst (.int v) (pc + 3)) := by
  intro p l e R s m args below meth c Q X scr c0 s0 hM H locs cells slots lA ls st σ hI hL
  obtain ⟨hx, hb, hret, hml, hown, hts, hlk, hht, hnm, hWd, htr, hfr, hlo⟩ := hM
  have hsv : nv_sv X := hWd.2.2.2.2.2.2.2.1
  refine ⟨fun cfg h hf k => ?_, fun v h => ?_⟩
  · cases h
    exact lv_ldcw hx hb hown (hts _ hw) hd (k _ _ _ _ _ hI hL)
  · cases h

theorem so_ldc2 {M : nv_M} {pc : Nat} {i : Nat} {v : Int64} (hd : decode M.2.1 pc = .ok (.ldc2_w i, 3)) (hw : Cond.constantLong M.1.cls i v ∈ nv_big) : nv_SO M pc (nv_cst (.long v) (pc + 3)) := by
  intro p l e R s m args below meth c Q X scr c0 s0 hM H locs cells slots lA ls st σ hI hL
  obtain ⟨hx, hb, hret, hml, hown, hts, hlk, hht, hnm, hWd, htr, hfr, hlo⟩ := hM
  have hsv : nv_sv X := hWd.2.2.2.2.2.2.2.1
  refine ⟨fun cfg h hf k => ?_, fun v h => ?_⟩
  · cases h
    exact lv_ldc2 hx hb hown (hts _ hw) hd (k _ _ _ _ _ hI hL)
  · cases h

theorem so_ldcf {M : nv_M} {pc : Nat} {i : Nat} {v : UInt32} (hd : decode M.2.1 pc = .ok (.ldc i, 2)) (hw : Cond.constantFloat M.1.cls i v ∈ nv_big) : nv_SO M pc (nv_cst (.float v) (pc + 2)) := by
  intro p l e R s m args below meth c Q X scr c0 s0 hM H locs cells slots lA ls st σ hI hL
  obtain ⟨hx, hb, hret, hml, hown, hts, hlk, hht, hnm, hWd, htr, hfr, hlo⟩ := hM
  have hsv : nv_sv X := hWd.2.2.2.2.2.2.2.1
  refine ⟨fun cfg h hf k => ?_, fun v h => ?_⟩
  · cases h
    exact lv_ldcf hx hb hown (hts _ hw) hd (k _ _ _ _ _ hI hL)
  · cases h

theorem so_ldc2d {M : nv_M} {pc : Nat} {i : Nat} {v : UInt64} (hd : decode M.2.1 pc = .ok (.ldc2_w i, 3)) (hw : Cond.constantDouble M.1.cls i v ∈ nv_big) : nv_SO M pc (nv_cst (.double v) (pc + 3)) := by
  intro p l e R s m args below meth c Q X scr c0 s0 hM H locs cells slots lA ls st σ hI hL
  obtain ⟨hx, hb, hret, hml, hown, hts, hlk, hht, hnm, hWd, htr, hfr, hlo⟩ := hM
  have hsv : nv_sv X := hWd.2.2.2.2.2.2.2.1
  refine ⟨fun cfg h hf k => ?_, fun v h => ?_⟩
  · cases h
    exact lv_ldc2d hx hb hown (hts _ hw) hd (k _ _ _ _ _ hI hL)
  · cases h

theorem so_iload_n {M : nv_M} {pc : Nat} {q : Fin 4} {i : Nat} (hd : decode M.2.1 pc = .ok (.iload_n q, 1)) (hq : (q : Nat) = i) : nv_SO M pc (nv_iload i (pc + 1)) := by
  intro p l e R s m args below meth c Q X scr c0 s0 hM H locs cells slots lA ls st σ hI hL
  obtain ⟨hx, hb, hret, hml, hown, hts, hlk, hht, hnm, hWd, htr, hfr, hlo⟩ := hM
  have hsv : nv_sv X := hWd.2.2.2.2.2.2.2.1
  refine ⟨fun cfg h hf k => ?_, fun v h => ?_⟩
  · unfold nv_iload at h
    split at h
    · rename_i x hi
      cases h
      exact lv_iload_n hx hb hd hq (hL.at hi) (k _ _ _ _ _ hI hL)
    · cases h
  · unfold nv_iload at h
    split at h <;> cases h

theorem so_iload {M : nv_M} {pc : Nat} {i : Nat} (hd : decode M.2.1 pc = .ok (.iload i, 2)) : nv_SO M pc (nv_iload i (pc + 2)) := by
  intro p l e R s m args below meth c Q X scr c0 s0 hM H locs cells slots lA ls st σ hI hL
  obtain ⟨hx, hb, hret, hml, hown, hts, hlk, hht, hnm, hWd, htr, hfr, hlo⟩ := hM
  have hsv : nv_sv X := hWd.2.2.2.2.2.2.2.1
  refine ⟨fun cfg h hf k => ?_, fun v h => ?_⟩
  · unfold nv_iload at h
    split at h
    · rename_i x hi
      cases h
      exact lv_iload hx hb hd (hL.at hi) (k _ _ _ _ _ hI hL)
    · cases h
  · unfold nv_iload at h
    split at h <;> cases h

theorem so_lload_n {M : nv_M} {pc : Nat} {q : Fin 4} {i : Nat} (hd : decode M.2.1 pc = .ok (.lload_n q, 1)) (hq : (q : Nat) = i) : nv_SO M pc (nv_lload i (pc + 1)) := by
  intro p l e R s m args below meth c Q X scr c0 s0 hM H locs cells slots lA ls st σ hI hL
  obtain ⟨hx, hb, hret, hml, hown, hts, hlk, hht, hnm, hWd, htr, hfr, hlo⟩ := hM
  have hsv : nv_sv X := hWd.2.2.2.2.2.2.2.1
  refine ⟨fun cfg h hf k => ?_, fun v h => ?_⟩
  · unfold nv_lload at h
    split at h
    · rename_i x hi
      cases h
      exact lv_lload_n hx hb hd hq (hL.at hi) (k _ _ _ _ _ hI hL)
    · cases h
  · unfold nv_lload at h
    split at h <;> cases h

theorem so_lload {M : nv_M} {pc : Nat} {i : Nat} (hd : decode M.2.1 pc = .ok (.lload i, 2)) : nv_SO M pc (nv_lload i (pc + 2)) := by
  intro p l e R s m args below meth c Q X scr c0 s0 hM H locs cells slots lA ls st σ hI hL
  obtain ⟨hx, hb, hret, hml, hown, hts, hlk, hht, hnm, hWd, htr, hfr, hlo⟩ := hM
  have hsv : nv_sv X := hWd.2.2.2.2.2.2.2.1
  refine ⟨fun cfg h hf k => ?_, fun v h => ?_⟩
  · unfold nv_lload at h
    split at h
    · rename_i x hi
      cases h
      exact lv_lload hx hb hd (hL.at hi) (k _ _ _ _ _ hI hL)
    · cases h
  · unfold nv_lload at h
    split at h <;> cases h

theorem so_fload_n {M : nv_M} {pc : Nat} {q : Fin 4} {i : Nat} (hd : decode M.2.1 pc = .ok (.fload_n q, 1)) (hq : (q : Nat) = i) : nv_SO M pc (nv_fload i (pc + 1)) := by
  intro p l e R s m args below meth c Q X scr c0 s0 hM H locs cells slots lA ls st σ hI hL
  obtain ⟨hx, hb, hret, hml, hown, hts, hlk, hht, hnm, hWd, htr, hfr, hlo⟩ := hM
  have hsv : nv_sv X := hWd.2.2.2.2.2.2.2.1
  refine ⟨fun cfg h hf k => ?_, fun v h => ?_⟩
  · unfold nv_fload at h
    split at h
    · rename_i x hi
      cases h
      exact lv_fload_n hx hb hd hq (hL.at hi) (k _ _ _ _ _ hI hL)
    · cases h
  · unfold nv_fload at h
    split at h <;> cases h

theorem so_fload {M : nv_M} {pc : Nat} {i : Nat} (hd : decode M.2.1 pc = .ok (.fload i, 2)) : nv_SO M pc (nv_fload i (pc + 2)) := by
  intro p l e R s m args below meth c Q X scr c0 s0 hM H locs cells slots lA ls st σ hI hL
  obtain ⟨hx, hb, hret, hml, hown, hts, hlk, hht, hnm, hWd, htr, hfr, hlo⟩ := hM
  have hsv : nv_sv X := hWd.2.2.2.2.2.2.2.1
  refine ⟨fun cfg h hf k => ?_, fun v h => ?_⟩
  · unfold nv_fload at h
    split at h
    · rename_i x hi
      cases h
      exact lv_fload hx hb hd (hL.at hi) (k _ _ _ _ _ hI hL)
    · cases h
  · unfold nv_fload at h
    split at h <;> cases h

theorem so_dload_n {M : nv_M} {pc : Nat} {q : Fin 4} {i : Nat} (hd : decode M.2.1 pc = .ok (.dload_n q, 1)) (hq : (q : Nat) = i) : nv_SO M pc (nv_dload i (pc + 1)) := by
  intro p l e R s m args below meth c Q X scr c0 s0 hM H locs cells slots lA ls st σ hI hL
  obtain ⟨hx, hb, hret, hml, hown, hts, hlk, hht, hnm, hWd, htr, hfr, hlo⟩ := hM
  have hsv : nv_sv X := hWd.2.2.2.2.2.2.2.1
  refine ⟨fun cfg h hf k => ?_, fun v h => ?_⟩
  · unfold nv_dload at h
    split at h
    · rename_i x hi
      cases h
      exact lv_dload_n hx hb hd hq (hL.at hi) (k _ _ _ _ _ hI hL)
    · cases h
  · unfold nv_dload at h
    split at h <;> cases h

theorem so_dload {M : nv_M} {pc : Nat} {i : Nat} (hd : decode M.2.1 pc = .ok (.dload i, 2)) : nv_SO M pc (nv_dload i (pc + 2)) := by
  intro p l e R s m args below meth c Q X scr c0 s0 hM H locs cells slots lA ls st σ hI hL
  obtain ⟨hx, hb, hret, hml, hown, hts, hlk, hht, hnm, hWd, htr, hfr, hlo⟩ := hM
  have hsv : nv_sv X := hWd.2.2.2.2.2.2.2.1
  refine ⟨fun cfg h hf k => ?_, fun v h => ?_⟩
  · unfold nv_dload at h
    split at h
    · rename_i x hi
      cases h
      exact lv_dload hx hb hd (hL.at hi) (k _ _ _ _ _ hI hL)
    · cases h
  · unfold nv_dload at h
    split at h <;> cases h

theorem so_aload_n {M : nv_M} {pc : Nat} {q : Fin 4} {i : Nat} (hd : decode M.2.1 pc = .ok (.aload_n q, 1)) (hq : (q : Nat) = i) : nv_SO M pc (nv_aload i (pc + 1)) := by
  intro p l e R s m args below meth c Q X scr c0 s0 hM H locs cells slots lA ls st σ hI hL
  obtain ⟨hx, hb, hret, hml, hown, hts, hlk, hht, hnm, hWd, htr, hfr, hlo⟩ := hM
  have hsv : nv_sv X := hWd.2.2.2.2.2.2.2.1
  refine ⟨fun cfg h hf k => ?_, fun v h => ?_⟩
  · unfold nv_aload at h
    split at h
    · rename_i x hi
      cases h
      have h1 := hL.at hi
      have kk := k _ _ _ _ _ hI hL
      obtain ⟨r, hr⟩ := nv_rv_ref hsv x
      simp only [List.map_cons] at kk
      rw [hr] at h1 kk
      cases r with
      | none => exact lv_aload_nN hx hb hd hq h1 kk
      | some a => exact lv_aload_n hx hb hd hq h1 kk
    · rename_i hi
      cases h
      exact lv_aload_nN hx hb hd hq (hL.at hi) (k _ _ _ _ _ hI hL)
    · cases h
  · unfold nv_aload at h
    split at h <;> cases h

theorem so_aload {M : nv_M} {pc : Nat} {i : Nat} (hd : decode M.2.1 pc = .ok (.aload i, 2)) : nv_SO M pc (nv_aload i (pc + 2)) := by
  intro p l e R s m args below meth c Q X scr c0 s0 hM H locs cells slots lA ls st σ hI hL
  obtain ⟨hx, hb, hret, hml, hown, hts, hlk, hht, hnm, hWd, htr, hfr, hlo⟩ := hM
  have hsv : nv_sv X := hWd.2.2.2.2.2.2.2.1
  refine ⟨fun cfg h hf k => ?_, fun v h => ?_⟩
  · unfold nv_aload at h
    split at h
    · rename_i x hi
      cases h
      have h1 := hL.at hi
      have kk := k _ _ _ _ _ hI hL
      obtain ⟨r, hr⟩ := nv_rv_ref hsv x
      simp only [List.map_cons] at kk
      rw [hr] at h1 kk
      cases r with
      | none => exact lv_aloadN hx hb hd h1 kk
      | some a => exact lv_aload hx hb hd h1 kk
    · rename_i hi
      cases h
      exact lv_aloadN hx hb hd (hL.at hi) (k _ _ _ _ _ hI hL)
    · cases h
  · unfold nv_aload at h
    split at h <;> cases h

theorem so_istore_n {M : nv_M} {pc : Nat} {q : Fin 4} {i : Nat} (hd : decode M.2.1 pc = .ok (.istore_n q, 1)) (hq : (q : Nat) = i) (hn : i < M.2.2.1) : nv_SO M pc (nv_istore i (pc + 1)) := by
  intro p l e R s m args below meth c Q X scr c0 s0 hM H locs cells slots lA ls st σ hI hL
  obtain ⟨hx, hb, hret, hml, hown, hts, hlk, hht, hnm, hWd, htr, hfr, hlo⟩ := hM
  have hsv : nv_sv X := hWd.2.2.2.2.2.2.2.1
  refine ⟨fun cfg h hf k => ?_, fun v h => ?_⟩
  · unfold nv_istore at h
    split at h
    · cases h
      exact lv_istore_n hx hb hd hq hL.has hn rfl (fun lA1 h1 => k _ _ _ _ _ hI (hL.set hsv hn rfl h1))
    · cases h
  · unfold nv_istore at h
    split at h <;> cases h

theorem so_istore {M : nv_M} {pc : Nat} {i : Nat} (hd : decode M.2.1 pc = .ok (.istore i, 2)) (hn : i < M.2.2.1) : nv_SO M pc (nv_istore i (pc + 2)) := by
  intro p l e R s m args below meth c Q X scr c0 s0 hM H locs cells slots lA ls st σ hI hL
  obtain ⟨hx, hb, hret, hml, hown, hts, hlk, hht, hnm, hWd, htr, hfr, hlo⟩ := hM
  have hsv : nv_sv X := hWd.2.2.2.2.2.2.2.1
  refine ⟨fun cfg h hf k => ?_, fun v h => ?_⟩
  · unfold nv_istore at h
    split at h
    · cases h
      exact lv_istore hx hb hd hL.has hn rfl (fun lA1 h1 => k _ _ _ _ _ hI (hL.set hsv hn rfl h1))
    · cases h
  · unfold nv_istore at h
    split at h <;> cases h

theorem so_fstore_n {M : nv_M} {pc : Nat} {q : Fin 4} {i : Nat} (hd : decode M.2.1 pc = .ok (.fstore_n q, 1)) (hq : (q : Nat) = i) (hn : i < M.2.2.1) : nv_SO M pc (nv_fstore i (pc + 1)) := by
  intro p l e R s m args below meth c Q X scr c0 s0 hM H locs cells slots lA ls st σ hI hL
  obtain ⟨hx, hb, hret, hml, hown, hts, hlk, hht, hnm, hWd, htr, hfr, hlo⟩ := hM
  have hsv : nv_sv X := hWd.2.2.2.2.2.2.2.1
  refine ⟨fun cfg h hf k => ?_, fun v h => ?_⟩
  · unfold nv_fstore at h
    split at h
    · cases h
      exact lv_fstore_n hx hb hd hq hL.has hn rfl (fun lA1 h1 => k _ _ _ _ _ hI (hL.set hsv hn rfl h1))
    · cases h
  · unfold nv_fstore at h
    split at h <;> cases h

theorem so_fstore {M : nv_M} {pc : Nat} {i : Nat} (hd : decode M.2.1 pc = .ok (.fstore i, 2)) (hn : i < M.2.2.1) : nv_SO M pc (nv_fstore i (pc + 2)) := by
  intro p l e R s m args below meth c Q X scr c0 s0 hM H locs cells slots lA ls st σ hI hL
  obtain ⟨hx, hb, hret, hml, hown, hts, hlk, hht, hnm, hWd, htr, hfr, hlo⟩ := hM
  have hsv : nv_sv X := hWd.2.2.2.2.2.2.2.1
  refine ⟨fun cfg h hf k => ?_, fun v h => ?_⟩
  · unfold nv_fstore at h
    split at h
    · cases h
      exact lv_fstore hx hb hd hL.has hn rfl (fun lA1 h1 => k _ _ _ _ _ hI (hL.set hsv hn rfl h1))
    · cases h
  · unfold nv_fstore at h
    split at h <;> cases h

theorem so_lstore_n {M : nv_M} {pc : Nat} {q : Fin 4} {i : Nat} (hd : decode M.2.1 pc = .ok (.lstore_n q, 1)) (hq : (q : Nat) = i) (hn : i + 1 < M.2.2.1) : nv_SO M pc (nv_lstore i (pc + 1)) := by
  intro p l e R s m args below meth c Q X scr c0 s0 hM H locs cells slots lA ls st σ hI hL
  obtain ⟨hx, hb, hret, hml, hown, hts, hlk, hht, hnm, hWd, htr, hfr, hlo⟩ := hM
  have hsv : nv_sv X := hWd.2.2.2.2.2.2.2.1
  refine ⟨fun cfg h hf k => ?_, fun v h => ?_⟩
  · unfold nv_lstore at h
    split at h
    · cases h
      exact lv_lstore_n hx hb hd hq hL.has hn rfl (fun lA1 h1 => k _ _ _ _ _ hI (hL.set2 hsv hn rfl h1))
    · cases h
  · unfold nv_lstore at h
    split at h <;> cases h

theorem so_lstore {M : nv_M} {pc : Nat} {i : Nat} (hd : decode M.2.1 pc = .ok (.lstore i, 2)) (hn : i + 1 < M.2.2.1) : nv_SO M pc (nv_lstore i (pc + 2)) := by
  intro p l e R s m args below meth c Q X scr c0 s0 hM H locs cells slots lA ls st σ hI hL
  obtain ⟨hx, hb, hret, hml, hown, hts, hlk, hht, hnm, hWd, htr, hfr, hlo⟩ := hM
  have hsv : nv_sv X := hWd.2.2.2.2.2.2.2.1
  refine ⟨fun cfg h hf k => ?_, fun v h => ?_⟩
  · unfold nv_lstore at h
    split at h
    · cases h
      exact lv_lstore hx hb hd hL.has hn rfl (fun lA1 h1 => k _ _ _ _ _ hI (hL.set2 hsv hn rfl h1))
    · cases h
  · unfold nv_lstore at h
    split at h <;> cases h

theorem so_dstore_n {M : nv_M} {pc : Nat} {q : Fin 4} {i : Nat} (hd : decode M.2.1 pc = .ok (.dstore_n q, 1)) (hq : (q : Nat) = i) (hn : i + 1 < M.2.2.1) : nv_SO M pc (nv_dstore i (pc + 1)) := by
  intro p l e R s m args below meth c Q X scr c0 s0 hM H locs cells slots lA ls st σ hI hL
  obtain ⟨hx, hb, hret, hml, hown, hts, hlk, hht, hnm, hWd, htr, hfr, hlo⟩ := hM
  have hsv : nv_sv X := hWd.2.2.2.2.2.2.2.1
  refine ⟨fun cfg h hf k => ?_, fun v h => ?_⟩
  · unfold nv_dstore at h
    split at h
    · cases h
      exact lv_dstore_n hx hb hd hq hL.has hn rfl (fun lA1 h1 => k _ _ _ _ _ hI (hL.set2 hsv hn rfl h1))
    · cases h
  · unfold nv_dstore at h
    split at h <;> cases h

theorem so_dstore {M : nv_M} {pc : Nat} {i : Nat} (hd : decode M.2.1 pc = .ok (.dstore i, 2)) (hn : i + 1 < M.2.2.1) : nv_SO M pc (nv_dstore i (pc + 2)) := by
  intro p l e R s m args below meth c Q X scr c0 s0 hM H locs cells slots lA ls st σ hI hL
  obtain ⟨hx, hb, hret, hml, hown, hts, hlk, hht, hnm, hWd, htr, hfr, hlo⟩ := hM
  have hsv : nv_sv X := hWd.2.2.2.2.2.2.2.1
  refine ⟨fun cfg h hf k => ?_, fun v h => ?_⟩
  · unfold nv_dstore at h
    split at h
    · cases h
      exact lv_dstore hx hb hd hL.has hn rfl (fun lA1 h1 => k _ _ _ _ _ hI (hL.set2 hsv hn rfl h1))
    · cases h
  · unfold nv_dstore at h
    split at h <;> cases h

theorem so_astore_n {M : nv_M} {pc : Nat} {q : Fin 4} {i : Nat} (hd : decode M.2.1 pc = .ok (.astore_n q, 1)) (hq : (q : Nat) = i) (hn : i < M.2.2.1) : nv_SO M pc (nv_astore i (pc + 1)) := by
  intro p l e R s m args below meth c Q X scr c0 s0 hM H locs cells slots lA ls st σ hI hL
  obtain ⟨hx, hb, hret, hml, hown, hts, hlk, hht, hnm, hWd, htr, hfr, hlo⟩ := hM
  have hsv : nv_sv X := hWd.2.2.2.2.2.2.2.1
  refine ⟨fun cfg h hf k => ?_, fun v h => ?_⟩
  · unfold nv_astore at h
    split at h
    · rename_i x r0
      cases h
      obtain ⟨r, hr⟩ := nv_rv_ref hsv x
      simp only [List.map_cons]
      rw [hr]
      cases r with
      | none => exact lv_astore_nN hx hb hd hq hL.has hn rfl (fun lA1 h1 => k _ _ _ _ _ hI (hL.set hsv hn hr h1))
      | some a => exact lv_astore_n hx hb hd hq hL.has hn rfl (fun lA1 h1 => k _ _ _ _ _ hI (hL.set hsv hn hr h1))
    · cases h
      exact lv_astore_nN hx hb hd hq hL.has hn rfl (fun lA1 h1 => k _ _ _ _ _ hI (hL.set hsv hn rfl h1))
    · cases h
  · unfold nv_astore at h
    split at h <;> cases h

theorem so_astore {M : nv_M} {pc : Nat} {i : Nat} (hd : decode M.2.1 pc = .ok (.astore i, 2)) (hn : i < M.2.2.1) : nv_SO M pc (nv_astore i (pc + 2)) := by
  intro p l e R s m args below meth c Q X scr c0 s0 hM H locs cells slots lA ls st σ hI hL
  obtain ⟨hx, hb, hret, hml, hown, hts, hlk, hht, hnm, hWd, htr, hfr, hlo⟩ := hM
  have hsv : nv_sv X := hWd.2.2.2.2.2.2.2.1
  refine ⟨fun cfg h hf k => ?_, fun v h => ?_⟩
  · unfold nv_astore at h
    split at h
    · rename_i x r0
      cases h
      obtain ⟨r, hr⟩ := nv_rv_ref hsv x
      simp only [List.map_cons]
      rw [hr]
      cases r with
      | none => exact lv_astoreN hx hb hd hL.has hn rfl (fun lA1 h1 => k _ _ _ _ _ hI (hL.set hsv hn hr h1))
      | some a => exact lv_astore hx hb hd hL.has hn rfl (fun lA1 h1 => k _ _ _ _ _ hI (hL.set hsv hn hr h1))
    · cases h
      exact lv_astoreN hx hb hd hL.has hn rfl (fun lA1 h1 => k _ _ _ _ _ hI (hL.set hsv hn rfl h1))
    · cases h
  · unfold nv_astore at h
    split at h <;> cases h

theorem so_iinc {M : nv_M} {pc : Nat} {i : Nat} {n : Int} {v : Int32} (hd : decode M.2.1 pc = .ok (.iinc i n, 3)) (hv : Int32.ofInt n = v) (hn : i < M.2.2.1) : nv_SO M pc (nv_iinc i v (pc + 3)) := by
  intro p l e R s m args below meth c Q X scr c0 s0 hM H locs cells slots lA ls st σ hI hL
  obtain ⟨hx, hb, hret, hml, hown, hts, hlk, hht, hnm, hWd, htr, hfr, hlo⟩ := hM
  have hsv : nv_sv X := hWd.2.2.2.2.2.2.2.1
  refine ⟨fun cfg h hf k => ?_, fun v h => ?_⟩
  · unfold nv_iinc at h
    split at h
    · rename_i x hi
      cases h
      obtain ⟨k0, hk0⟩ := List.getElem?_of_mem ((nv_lq_mem (X := X) ls 0 (i, .int x)).mpr ⟨i, .int x, hi, by simp [nv_rv]⟩)
      subst hv
      exact lv_iinc hx hb hd hL.has hk0 rfl hn rfl (fun lA1 h1 => k _ _ _ _ _ hI (hL.set hsv hn rfl h1))
    · cases h
  · unfold nv_iinc at h
    split at h <;> cases h

theorem so_dup {M : nv_M} {pc : Nat} (hd : decode M.2.1 pc = .ok (.dup, 1)) : nv_SO M pc (nv_dup (pc + 1)) := by
  intro p l e R s m args below meth c Q X scr c0 s0 hM H locs cells slots lA ls st σ hI hL
  obtain ⟨hx, hb, hret, hml, hown, hts, hlk, hht, hnm, hWd, htr, hfr, hlo⟩ := hM
  have hsv : nv_sv X := hWd.2.2.2.2.2.2.2.1
  refine ⟨fun cfg h hf k => ?_, fun v h => ?_⟩
  · unfold nv_dup at h
    split at h
    · cases h
      exact lv_dup hx hb hd rfl (k _ _ _ _ _ hI hL)
    · cases h
      exact lv_dup hx hb hd (by rw [nv_rv_cat hsv]; rfl) (k _ _ _ _ _ hI hL)
    · cases h
  · unfold nv_dup at h
    split at h <;> cases h

theorem so_pop {M : nv_M} {pc : Nat} (hd : decode M.2.1 pc = .ok (.pop, 1)) : nv_SO M pc (nv_pop (pc + 1)) := by
  intro p l e R s m args below meth c Q X scr c0 s0 hM H locs cells slots lA ls st σ hI hL
  obtain ⟨hx, hb, hret, hml, hown, hts, hlk, hht, hnm, hWd, htr, hfr, hlo⟩ := hM
  have hsv : nv_sv X := hWd.2.2.2.2.2.2.2.1
  refine ⟨fun cfg h hf k => ?_, fun v h => ?_⟩
  · unfold nv_pop at h
    split at h
    · cases h
      exact lv_pop hx hb hd rfl (k _ _ _ _ _ hI hL)
    · cases h
      exact lv_pop hx hb hd (by rw [nv_rv_cat hsv]; rfl) (k _ _ _ _ _ hI hL)
    · cases h
  · unfold nv_pop at h
    split at h <;> cases h

theorem so_iadd {M : nv_M} {pc : Nat} (hd : decode M.2.1 pc = .ok (.iadd, 1)) : nv_SO M pc (nv_i2 (fun x y => x + y) (pc + 1)) := by
  intro p l e R s m args below meth c Q X scr c0 s0 hM H locs cells slots lA ls st σ hI hL
  obtain ⟨hx, hb, hret, hml, hown, hts, hlk, hht, hnm, hWd, htr, hfr, hlo⟩ := hM
  have hsv : nv_sv X := hWd.2.2.2.2.2.2.2.1
  refine ⟨fun cfg h hf k => ?_, fun v h => ?_⟩
  · unfold nv_i2 at h
    split at h
    · cases h
      exact lv_iadd hx hb hd (k _ _ _ _ _ hI hL)
    · cases h
  · unfold nv_i2 at h
    split at h <;> cases h

theorem so_isub {M : nv_M} {pc : Nat} (hd : decode M.2.1 pc = .ok (.isub, 1)) : nv_SO M pc (nv_i2 (fun x y => x - y) (pc + 1)) := by
  intro p l e R s m args below meth c Q X scr c0 s0 hM H locs cells slots lA ls st σ hI hL
  obtain ⟨hx, hb, hret, hml, hown, hts, hlk, hht, hnm, hWd, htr, hfr, hlo⟩ := hM
  have hsv : nv_sv X := hWd.2.2.2.2.2.2.2.1
  refine ⟨fun cfg h hf k => ?_, fun v h => ?_⟩
  · unfold nv_i2 at h
    split at h
    · cases h
      exact lv_isub hx hb hd (k _ _ _ _ _ hI hL)
    · cases h
  · unfold nv_i2 at h
    split at h <;> cases h

theorem so_imul {M : nv_M} {pc : Nat} (hd : decode M.2.1 pc = .ok (.imul, 1)) : nv_SO M pc (nv_i2 (fun x y => x * y) (pc + 1)) := by
  intro p l e R s m args below meth c Q X scr c0 s0 hM H locs cells slots lA ls st σ hI hL
  obtain ⟨hx, hb, hret, hml, hown, hts, hlk, hht, hnm, hWd, htr, hfr, hlo⟩ := hM
  have hsv : nv_sv X := hWd.2.2.2.2.2.2.2.1
  refine ⟨fun cfg h hf k => ?_, fun v h => ?_⟩
  · unfold nv_i2 at h
    split at h
    · cases h
      exact lv_imul hx hb hd (k _ _ _ _ _ hI hL)
    · cases h
  · unfold nv_i2 at h
    split at h <;> cases h

theorem so_iand {M : nv_M} {pc : Nat} (hd : decode M.2.1 pc = .ok (.iand, 1)) : nv_SO M pc (nv_i2 (fun x y => x &&& y) (pc + 1)) := by
  intro p l e R s m args below meth c Q X scr c0 s0 hM H locs cells slots lA ls st σ hI hL
  obtain ⟨hx, hb, hret, hml, hown, hts, hlk, hht, hnm, hWd, htr, hfr, hlo⟩ := hM
  have hsv : nv_sv X := hWd.2.2.2.2.2.2.2.1
  refine ⟨fun cfg h hf k => ?_, fun v h => ?_⟩
  · unfold nv_i2 at h
    split at h
    · cases h
      exact lv_iand hx hb hd (k _ _ _ _ _ hI hL)
    · cases h
  · unfold nv_i2 at h
    split at h <;> cases h

theorem so_ishr {M : nv_M} {pc : Nat} (hd : decode M.2.1 pc = .ok (.ishr, 1)) : nv_SO M pc (nv_i2 (fun x y => x >>> (y &&& 31)) (pc + 1)) := by
  intro p l e R s m args below meth c Q X scr c0 s0 hM H locs cells slots lA ls st σ hI hL
  obtain ⟨hx, hb, hret, hml, hown, hts, hlk, hht, hnm, hWd, htr, hfr, hlo⟩ := hM
  have hsv : nv_sv X := hWd.2.2.2.2.2.2.2.1
  refine ⟨fun cfg h hf k => ?_, fun v h => ?_⟩
  · unfold nv_i2 at h
    split at h
    · cases h
      exact lv_ishr hx hb hd (k _ _ _ _ _ hI hL)
    · cases h
  · unfold nv_i2 at h
    split at h <;> cases h

theorem so_ladd {M : nv_M} {pc : Nat} (hd : decode M.2.1 pc = .ok (.ladd, 1)) : nv_SO M pc (nv_l2 (fun x y => x + y) (pc + 1)) := by
  intro p l e R s m args below meth c Q X scr c0 s0 hM H locs cells slots lA ls st σ hI hL
  obtain ⟨hx, hb, hret, hml, hown, hts, hlk, hht, hnm, hWd, htr, hfr, hlo⟩ := hM
  have hsv : nv_sv X := hWd.2.2.2.2.2.2.2.1
  refine ⟨fun cfg h hf k => ?_, fun v h => ?_⟩
  · unfold nv_l2 at h
    split at h
    · cases h
      exact lv_ladd hx hb hd (k _ _ _ _ _ hI hL)
    · cases h
  · unfold nv_l2 at h
    split at h <;> cases h

theorem so_lmul {M : nv_M} {pc : Nat} (hd : decode M.2.1 pc = .ok (.lmul, 1)) : nv_SO M pc (nv_l2 (fun x y => x * y) (pc + 1)) := by
  intro p l e R s m args below meth c Q X scr c0 s0 hM H locs cells slots lA ls st σ hI hL
  obtain ⟨hx, hb, hret, hml, hown, hts, hlk, hht, hnm, hWd, htr, hfr, hlo⟩ := hM
  have hsv : nv_sv X := hWd.2.2.2.2.2.2.2.1
  refine ⟨fun cfg h hf k => ?_, fun v h => ?_⟩
  · unfold nv_l2 at h
    split at h
    · cases h
      exact lv_lmul hx hb hd (k _ _ _ _ _ hI hL)
    · cases h
  · unfold nv_l2 at h
    split at h <;> cases h

theorem so_irem {M : nv_M} {pc : Nat} (hd : decode M.2.1 pc = .ok (.irem, 1)) : nv_SO M pc (nv_irem (pc + 1)) := by
  intro p l e R s m args below meth c Q X scr c0 s0 hM H locs cells slots lA ls st σ hI hL
  obtain ⟨hx, hb, hret, hml, hown, hts, hlk, hht, hnm, hWd, htr, hfr, hlo⟩ := hM
  have hsv : nv_sv X := hWd.2.2.2.2.2.2.2.1
  refine ⟨fun cfg h hf k => ?_, fun v h => ?_⟩
  · unfold nv_irem at h
    split at h
    · split at h
      · cases h
      · rename_i hy
        cases h
        exact lv_irem hx hb hd hy (k _ _ _ _ _ hI hL)
    · cases h
  · unfold nv_irem at h
    split at h
    · split at h <;> cases h
    · cases h

theorem so_fdiv {M : nv_M} {pc : Nat} (hd : decode M.2.1 pc = .ok (.fdiv, 1)) : nv_SO M pc (nv_fdiv (pc + 1)) := by
  intro p l e R s m args below meth c Q X scr c0 s0 hM H locs cells slots lA ls st σ hI hL
  obtain ⟨hx, hb, hret, hml, hown, hts, hlk, hht, hnm, hWd, htr, hfr, hlo⟩ := hM
  have hsv : nv_sv X := hWd.2.2.2.2.2.2.2.1
  refine ⟨fun cfg h hf k => ?_, fun v h => ?_⟩
  · unfold nv_fdiv at h
    split at h
    · split at h
      · rename_i hy
        cases h
        exact lv_fdiv hx hb hd hy (k _ _ _ _ _ hI hL)
      · cases h
    · cases h
  · unfold nv_fdiv at h
    split at h
    · split at h <;> cases h
    · cases h

theorem so_ddiv {M : nv_M} {pc : Nat} (hd : decode M.2.1 pc = .ok (.ddiv, 1)) : nv_SO M pc (nv_ddiv (pc + 1)) := by
  intro p l e R s m args below meth c Q X scr c0 s0 hM H locs cells slots lA ls st σ hI hL
  obtain ⟨hx, hb, hret, hml, hown, hts, hlk, hht, hnm, hWd, htr, hfr, hlo⟩ := hM
  have hsv : nv_sv X := hWd.2.2.2.2.2.2.2.1
  refine ⟨fun cfg h hf k => ?_, fun v h => ?_⟩
  · unfold nv_ddiv at h
    split at h
    · split at h
      · rename_i hy
        cases h
        exact lv_ddiv hx hb hd hy (k _ _ _ _ _ hI hL)
      · cases h
    · cases h
  · unfold nv_ddiv at h
    split at h
    · split at h <;> cases h
    · cases h

theorem so_lcmp {M : nv_M} {pc : Nat} (hd : decode M.2.1 pc = .ok (.lcmp, 1)) : nv_SO M pc (nv_lcmp (pc + 1)) := by
  intro p l e R s m args below meth c Q X scr c0 s0 hM H locs cells slots lA ls st σ hI hL
  obtain ⟨hx, hb, hret, hml, hown, hts, hlk, hht, hnm, hWd, htr, hfr, hlo⟩ := hM
  have hsv : nv_sv X := hWd.2.2.2.2.2.2.2.1
  refine ⟨fun cfg h hf k => ?_, fun v h => ?_⟩
  · unfold nv_lcmp at h
    split at h
    · cases h
      exact W.lcmp hx hb hd (k _ _ _ _ _ hI hL)
    · cases h
  · unfold nv_lcmp at h
    split at h <;> cases h

theorem so_i2l {M : nv_M} {pc : Nat} (hd : decode M.2.1 pc = .ok (.i2l, 1)) : nv_SO M pc (nv_i2l (pc + 1)) := by
  intro p l e R s m args below meth c Q X scr c0 s0 hM H locs cells slots lA ls st σ hI hL
  obtain ⟨hx, hb, hret, hml, hown, hts, hlk, hht, hnm, hWd, htr, hfr, hlo⟩ := hM
  have hsv : nv_sv X := hWd.2.2.2.2.2.2.2.1
  refine ⟨fun cfg h hf k => ?_, fun v h => ?_⟩
  · unfold nv_i2l at h
    split at h
    · cases h
      exact lv_i2l hx hb hd rfl (k _ _ _ _ _ hI hL)
    · cases h
  · unfold nv_i2l at h
    split at h <;> cases h

theorem so_i2f {M : nv_M} {pc : Nat} (hd : decode M.2.1 pc = .ok (.i2f, 1)) : nv_SO M pc (nv_i2f (pc + 1)) := by
  intro p l e R s m args below meth c Q X scr c0 s0 hM H locs cells slots lA ls st σ hI hL
  obtain ⟨hx, hb, hret, hml, hown, hts, hlk, hht, hnm, hWd, htr, hfr, hlo⟩ := hM
  have hsv : nv_sv X := hWd.2.2.2.2.2.2.2.1
  refine ⟨fun cfg h hf k => ?_, fun v h => ?_⟩
  · unfold nv_i2f at h
    split at h
    · cases h
      exact lv_i2f hx hb hd (k _ _ _ _ _ hI hL)
    · cases h
  · unfold nv_i2f at h
    split at h <;> cases h

theorem so_i2d {M : nv_M} {pc : Nat} (hd : decode M.2.1 pc = .ok (.i2d, 1)) : nv_SO M pc (nv_i2d (pc + 1)) := by
  intro p l e R s m args below meth c Q X scr c0 s0 hM H locs cells slots lA ls st σ hI hL
  obtain ⟨hx, hb, hret, hml, hown, hts, hlk, hht, hnm, hWd, htr, hfr, hlo⟩ := hM
  have hsv : nv_sv X := hWd.2.2.2.2.2.2.2.1
  refine ⟨fun cfg h hf k => ?_, fun v h => ?_⟩
  · unfold nv_i2d at h
    split at h
    · cases h
      exact lv_i2d hx hb hd (k _ _ _ _ _ hI hL)
    · cases h
  · unfold nv_i2d at h
    split at h <;> cases h

theorem so_i2c {M : nv_M} {pc : Nat} (hd : decode M.2.1 pc = .ok (.i2c, 1)) : nv_SO M pc (nv_i2c (pc + 1)) := by
  intro p l e R s m args below meth c Q X scr c0 s0 hM H locs cells slots lA ls st σ hI hL
  obtain ⟨hx, hb, hret, hml, hown, hts, hlk, hht, hnm, hWd, htr, hfr, hlo⟩ := hM
  have hsv : nv_sv X := hWd.2.2.2.2.2.2.2.1
  refine ⟨fun cfg h hf k => ?_, fun v h => ?_⟩
  · unfold nv_i2c at h
    split at h
    · cases h
      exact lv_i2c hx hb hd rfl (k _ _ _ _ _ hI hL)
    · cases h
  · unfold nv_i2c at h
    split at h <;> cases h

theorem so_fcmp {M : nv_M} {pc : Nat} {op : CmpOp} (hd : decode M.2.1 pc = .ok (.fcmp op, 1)) : nv_SO M pc (nv_fcmp op (pc + 1)) := by
  intro p l e R s m args below meth c Q X scr c0 s0 hM H locs cells slots lA ls st σ hI hL
  obtain ⟨hx, hb, hret, hml, hown, hts, hlk, hht, hnm, hWd, htr, hfr, hlo⟩ := hM
  have hsv : nv_sv X := hWd.2.2.2.2.2.2.2.1
  refine ⟨fun cfg h hf k => ?_, fun v h => ?_⟩
  · unfold nv_fcmp at h
    split at h
    · cases h
      exact lv_fcmp hx hb hd (k _ _ _ _ _ hI hL)
    · cases h
  · unfold nv_fcmp at h
    split at h <;> cases h

theorem so_dcmp {M : nv_M} {pc : Nat} {op : CmpOp} (hd : decode M.2.1 pc = .ok (.dcmp op, 1)) : nv_SO M pc (nv_dcmp op (pc + 1)) := by
  intro p l e R s m args below meth c Q X scr c0 s0 hM H locs cells slots lA ls st σ hI hL
  obtain ⟨hx, hb, hret, hml, hown, hts, hlk, hht, hnm, hWd, htr, hfr, hlo⟩ := hM
  have hsv : nv_sv X := hWd.2.2.2.2.2.2.2.1
  refine ⟨fun cfg h hf k => ?_, fun v h => ?_⟩
  · unfold nv_dcmp at h
    split at h
    · cases h
      exact lv_dcmp hx hb hd (k _ _ _ _ _ hI hL)
    · cases h
  · unfold nv_dcmp at h
    split at h <;> cases h

theorem so_ifeq {M : nv_M} {pc : Nat} {off : Int} {t : Nat} (hd : decode M.2.1 pc = .ok (.ifCond .eq off, 3)) (ht : (pc : Int) + off = (t : Int)) : nv_SO M pc (nv_ifeq t (pc + 3)) := by
  intro p l e R s m args below meth c Q X scr c0 s0 hM H locs cells slots lA ls st σ hI hL
  obtain ⟨hx, hb, hret, hml, hown, hts, hlk, hht, hnm, hWd, htr, hfr, hlo⟩ := hM
  have hsv : nv_sv X := hWd.2.2.2.2.2.2.2.1
  refine ⟨fun cfg h hf k => ?_, fun v h => ?_⟩
  · unfold nv_ifeq at h
    split at h
    · cases h
      refine lv_if_eq hx hb hd ht (fun hc => ?_) (fun hc => ?_)
      · have k1 := k _ _ _ _ _ hI hL
        simp only [if_pos hc] at k1
        exact k1
      · have k1 := k _ _ _ _ _ hI hL
        simp only [if_neg hc] at k1
        exact k1
    · cases h
  · unfold nv_ifeq at h
    split at h <;> cases h

theorem so_ifne {M : nv_M} {pc : Nat} {off : Int} {t : Nat} (hd : decode M.2.1 pc = .ok (.ifCond .ne off, 3)) (ht : (pc : Int) + off = (t : Int)) : nv_SO M pc (nv_ifne t (pc + 3)) := by
  intro p l e R s m args below meth c Q X scr c0 s0 hM H locs cells slots lA ls st σ hI hL
  obtain ⟨hx, hb, hret, hml, hown, hts, hlk, hht, hnm, hWd, htr, hfr, hlo⟩ := hM
  have hsv : nv_sv X := hWd.2.2.2.2.2.2.2.1
  refine ⟨fun cfg h hf k => ?_, fun v h => ?_⟩
  · unfold nv_ifne at h
    split at h
    · cases h
      refine lv_if_ne hx hb hd ht (fun hc => ?_) (fun hc => ?_)
      · have k1 := k _ _ _ _ _ hI hL
        simp only [if_neg hc] at k1
        exact k1
      · have k1 := k _ _ _ _ _ hI hL
        simp only [if_pos hc] at k1
        exact k1
    · cases h
  · unfold nv_ifne at h
    split at h <;> cases h

theorem so_iflt {M : nv_M} {pc : Nat} {off : Int} {t : Nat} (hd : decode M.2.1 pc = .ok (.ifCond .lt off, 3)) (ht : (pc : Int) + off = (t : Int)) : nv_SO M pc (nv_iflt t (pc + 3)) := by
  intro p l e R s m args below meth c Q X scr c0 s0 hM H locs cells slots lA ls st σ hI hL
  obtain ⟨hx, hb, hret, hml, hown, hts, hlk, hht, hnm, hWd, htr, hfr, hlo⟩ := hM
  have hsv : nv_sv X := hWd.2.2.2.2.2.2.2.1
  refine ⟨fun cfg h hf k => ?_, fun v h => ?_⟩
  · unfold nv_iflt at h
    split at h
    · cases h
      refine lv_if_lt hx hb hd ht (fun hc => ?_) (fun hc => ?_)
      · have k1 := k _ _ _ _ _ hI hL
        simp only [if_pos hc] at k1
        exact k1
      · have k1 := k _ _ _ _ _ hI hL
        simp only [if_neg hc] at k1
        exact k1
    · cases h
  · unfold nv_iflt at h
    split at h <;> cases h

theorem so_ifge {M : nv_M} {pc : Nat} {off : Int} {t : Nat} (hd : decode M.2.1 pc = .ok (.ifCond .ge off, 3)) (ht : (pc : Int) + off = (t : Int)) : nv_SO M pc (nv_ifge t (pc + 3)) := by
  intro p l e R s m args below meth c Q X scr c0 s0 hM H locs cells slots lA ls st σ hI hL
  obtain ⟨hx, hb, hret, hml, hown, hts, hlk, hht, hnm, hWd, htr, hfr, hlo⟩ := hM
  have hsv : nv_sv X := hWd.2.2.2.2.2.2.2.1
  refine ⟨fun cfg h hf k => ?_, fun v h => ?_⟩
  · unfold nv_ifge at h
    split at h
    · cases h
      refine lv_if_ge hx hb hd ht (fun hc => ?_) (fun hc => ?_)
      · have k1 := k _ _ _ _ _ hI hL
        simp only [if_neg (Int32.not_lt.mpr hc)] at k1
        exact k1
      · have k1 := k _ _ _ _ _ hI hL
        simp only [if_pos (Int32.not_le.mp hc)] at k1
        exact k1
    · cases h
  · unfold nv_ifge at h
    split at h <;> cases h

theorem so_ifgt {M : nv_M} {pc : Nat} {off : Int} {t : Nat} (hd : decode M.2.1 pc = .ok (.ifCond .gt off, 3)) (ht : (pc : Int) + off = (t : Int)) : nv_SO M pc (nv_ifgt t (pc + 3)) := by
  intro p l e R s m args below meth c Q X scr c0 s0 hM H locs cells slots lA ls st σ hI hL
  obtain ⟨hx, hb, hret, hml, hown, hts, hlk, hht, hnm, hWd, htr, hfr, hlo⟩ := hM
  have hsv : nv_sv X := hWd.2.2.2.2.2.2.2.1
  refine ⟨fun cfg h hf k => ?_, fun v h => ?_⟩
  · unfold nv_ifgt at h
    split at h
    · cases h
      refine lv_if_gt hx hb hd ht (fun hc => ?_) (fun hc => ?_)
      · have k1 := k _ _ _ _ _ hI hL
        simp only [if_pos hc] at k1
        exact k1
      · have k1 := k _ _ _ _ _ hI hL
        simp only [if_neg hc] at k1
        exact k1
    · cases h
  · unfold nv_ifgt at h
    split at h <;> cases h

theorem so_ifle {M : nv_M} {pc : Nat} {off : Int} {t : Nat} (hd : decode M.2.1 pc = .ok (.ifCond .le off, 3)) (ht : (pc : Int) + off = (t : Int)) : nv_SO M pc (nv_ifle t (pc + 3)) := by
  intro p l e R s m args below meth c Q X scr c0 s0 hM H locs cells slots lA ls st σ hI hL
  obtain ⟨hx, hb, hret, hml, hown, hts, hlk, hht, hnm, hWd, htr, hfr, hlo⟩ := hM
  have hsv : nv_sv X := hWd.2.2.2.2.2.2.2.1
  refine ⟨fun cfg h hf k => ?_, fun v h => ?_⟩
  · unfold nv_ifle at h
    split at h
    · cases h
      refine lv_if_le hx hb hd ht (fun hc => ?_) (fun hc => ?_)
      · have k1 := k _ _ _ _ _ hI hL
        simp only [if_neg (Int32.not_lt.mpr hc)] at k1
        exact k1
      · have k1 := k _ _ _ _ _ hI hL
        simp only [if_pos (Int32.not_le.mp hc)] at k1
        exact k1
    · cases h
  · unfold nv_ifle at h
    split at h <;> cases h

theorem so_ceq {M : nv_M} {pc : Nat} {off : Int} {t : Nat} (hd : decode M.2.1 pc = .ok (.if_icmp .eq off, 3)) (ht : (pc : Int) + off = (t : Int)) : nv_SO M pc (nv_ceq t (pc + 3)) := by
  intro p l e R s m args below meth c Q X scr c0 s0 hM H locs cells slots lA ls st σ hI hL
  obtain ⟨hx, hb, hret, hml, hown, hts, hlk, hht, hnm, hWd, htr, hfr, hlo⟩ := hM
  have hsv : nv_sv X := hWd.2.2.2.2.2.2.2.1
  refine ⟨fun cfg h hf k => ?_, fun v h => ?_⟩
  · unfold nv_ceq at h
    split at h
    · cases h
      refine lv_icmp_eq hx hb hd ht (fun hc => ?_) (fun hc => ?_)
      · have k1 := k _ _ _ _ _ hI hL
        simp only [if_pos hc] at k1
        exact k1
      · have k1 := k _ _ _ _ _ hI hL
        simp only [if_neg hc] at k1
        exact k1
    · cases h
  · unfold nv_ceq at h
    split at h <;> cases h

theorem so_cne {M : nv_M} {pc : Nat} {off : Int} {t : Nat} (hd : decode M.2.1 pc = .ok (.if_icmp .ne off, 3)) (ht : (pc : Int) + off = (t : Int)) : nv_SO M pc (nv_cne t (pc + 3)) := by
  intro p l e R s m args below meth c Q X scr c0 s0 hM H locs cells slots lA ls st σ hI hL
  obtain ⟨hx, hb, hret, hml, hown, hts, hlk, hht, hnm, hWd, htr, hfr, hlo⟩ := hM
  have hsv : nv_sv X := hWd.2.2.2.2.2.2.2.1
  refine ⟨fun cfg h hf k => ?_, fun v h => ?_⟩
  · unfold nv_cne at h
    split at h
    · cases h
      refine lv_icmp_ne hx hb hd ht (fun hc => ?_) (fun hc => ?_)
      · have k1 := k _ _ _ _ _ hI hL
        simp only [if_neg hc] at k1
        exact k1
      · have k1 := k _ _ _ _ _ hI hL
        simp only [if_pos hc] at k1
        exact k1
    · cases h
  · unfold nv_cne at h
    split at h <;> cases h

theorem so_clt {M : nv_M} {pc : Nat} {off : Int} {t : Nat} (hd : decode M.2.1 pc = .ok (.if_icmp .lt off, 3)) (ht : (pc : Int) + off = (t : Int)) : nv_SO M pc (nv_clt t (pc + 3)) := by
  intro p l e R s m args below meth c Q X scr c0 s0 hM H locs cells slots lA ls st σ hI hL
  obtain ⟨hx, hb, hret, hml, hown, hts, hlk, hht, hnm, hWd, htr, hfr, hlo⟩ := hM
  have hsv : nv_sv X := hWd.2.2.2.2.2.2.2.1
  refine ⟨fun cfg h hf k => ?_, fun v h => ?_⟩
  · unfold nv_clt at h
    split at h
    · cases h
      refine lv_icmp_lt hx hb hd ht (fun hc => ?_) (fun hc => ?_)
      · have k1 := k _ _ _ _ _ hI hL
        simp only [if_pos hc] at k1
        exact k1
      · have k1 := k _ _ _ _ _ hI hL
        simp only [if_neg hc] at k1
        exact k1
    · cases h
  · unfold nv_clt at h
    split at h <;> cases h

theorem so_cge {M : nv_M} {pc : Nat} {off : Int} {t : Nat} (hd : decode M.2.1 pc = .ok (.if_icmp .ge off, 3)) (ht : (pc : Int) + off = (t : Int)) : nv_SO M pc (nv_cge t (pc + 3)) := by
  intro p l e R s m args below meth c Q X scr c0 s0 hM H locs cells slots lA ls st σ hI hL
  obtain ⟨hx, hb, hret, hml, hown, hts, hlk, hht, hnm, hWd, htr, hfr, hlo⟩ := hM
  have hsv : nv_sv X := hWd.2.2.2.2.2.2.2.1
  refine ⟨fun cfg h hf k => ?_, fun v h => ?_⟩
  · unfold nv_cge at h
    split at h
    · cases h
      refine lv_icmp_ge hx hb hd ht (fun hc => ?_) (fun hc => ?_)
      · have k1 := k _ _ _ _ _ hI hL
        simp only [if_neg (Int32.not_lt.mpr hc)] at k1
        exact k1
      · have k1 := k _ _ _ _ _ hI hL
        simp only [if_pos (Int32.not_le.mp hc)] at k1
        exact k1
    · cases h
  · unfold nv_cge at h
    split at h <;> cases h

theorem so_cgt {M : nv_M} {pc : Nat} {off : Int} {t : Nat} (hd : decode M.2.1 pc = .ok (.if_icmp .gt off, 3)) (ht : (pc : Int) + off = (t : Int)) : nv_SO M pc (nv_cgt t (pc + 3)) := by
  intro p l e R s m args below meth c Q X scr c0 s0 hM H locs cells slots lA ls st σ hI hL
  obtain ⟨hx, hb, hret, hml, hown, hts, hlk, hht, hnm, hWd, htr, hfr, hlo⟩ := hM
  have hsv : nv_sv X := hWd.2.2.2.2.2.2.2.1
  refine ⟨fun cfg h hf k => ?_, fun v h => ?_⟩
  · unfold nv_cgt at h
    split at h
    · cases h
      refine lv_icmp_gt hx hb hd ht (fun hc => ?_) (fun hc => ?_)
      · have k1 := k _ _ _ _ _ hI hL
        simp only [if_pos hc] at k1
        exact k1
      · have k1 := k _ _ _ _ _ hI hL
        simp only [if_neg hc] at k1
        exact k1
    · cases h
  · unfold nv_cgt at h
    split at h <;> cases h

theorem so_cle {M : nv_M} {pc : Nat} {off : Int} {t : Nat} (hd : decode M.2.1 pc = .ok (.if_icmp .le off, 3)) (ht : (pc : Int) + off = (t : Int)) : nv_SO M pc (nv_cle t (pc + 3)) := by
  intro p l e R s m args below meth c Q X scr c0 s0 hM H locs cells slots lA ls st σ hI hL
  obtain ⟨hx, hb, hret, hml, hown, hts, hlk, hht, hnm, hWd, htr, hfr, hlo⟩ := hM
  have hsv : nv_sv X := hWd.2.2.2.2.2.2.2.1
  refine ⟨fun cfg h hf k => ?_, fun v h => ?_⟩
  · unfold nv_cle at h
    split at h
    · cases h
      refine lv_icmp_le hx hb hd ht (fun hc => ?_) (fun hc => ?_)
      · have k1 := k _ _ _ _ _ hI hL
        simp only [if_neg (Int32.not_lt.mpr hc)] at k1
        exact k1
      · have k1 := k _ _ _ _ _ hI hL
        simp only [if_pos (Int32.not_le.mp hc)] at k1
        exact k1
    · cases h
  · unfold nv_cle at h
    split at h <;> cases h

theorem so_goto {M : nv_M} {pc : Nat} {off : Int} {t : Nat} (hd : decode M.2.1 pc = .ok (.goto off, 3)) (ht : (pc : Int) + off = (t : Int)) : nv_SO M pc (nv_goto t) := by
  intro p l e R s m args below meth c Q X scr c0 s0 hM H locs cells slots lA ls st σ hI hL
  obtain ⟨hx, hb, hret, hml, hown, hts, hlk, hht, hnm, hWd, htr, hfr, hlo⟩ := hM
  have hsv : nv_sv X := hWd.2.2.2.2.2.2.2.1
  refine ⟨fun cfg h hf k => ?_, fun v h => ?_⟩
  · cases h
    exact lv_goto hx hb hd ht (k _ _ _ _ _ hI hL)
  · cases h

theorem so_ifnull {M : nv_M} {pc : Nat} {off : Int} {t : Nat} (hd : decode M.2.1 pc = .ok (.ifnull off, 3)) (ht : (pc : Int) + off = (t : Int)) : nv_SO M pc (nv_ifnull t (pc + 3)) := by
  intro p l e R s m args below meth c Q X scr c0 s0 hM H locs cells slots lA ls st σ hI hL
  obtain ⟨hx, hb, hret, hml, hown, hts, hlk, hht, hnm, hWd, htr, hfr, hlo⟩ := hM
  have hsv : nv_sv X := hWd.2.2.2.2.2.2.2.1
  refine ⟨fun cfg h hf k => ?_, fun v h => ?_⟩
  · unfold nv_ifnull at h
    split at h
    · split at h
      · rename_i ha
        cases h
        simp only [List.map_cons, nv_rv_own ha]
        exact lv_ifnull hx hb hd (k _ _ _ _ _ hI hL)
      · cases h
    · cases h
      exact lv_ifnullN hx hb hd ht (k _ _ _ _ _ hI hL)
    · cases h
  · unfold nv_ifnull at h
    split at h
    · split at h <;> cases h
    · cases h
    · cases h

theorem so_ifnonnull {M : nv_M} {pc : Nat} {off : Int} {t : Nat} (hd : decode M.2.1 pc = .ok (.ifnonnull off, 3)) (ht : (pc : Int) + off = (t : Int)) : nv_SO M pc (nv_ifnonnull t (pc + 3)) := by
  intro p l e R s m args below meth c Q X scr c0 s0 hM H locs cells slots lA ls st σ hI hL
  obtain ⟨hx, hb, hret, hml, hown, hts, hlk, hht, hnm, hWd, htr, hfr, hlo⟩ := hM
  have hsv : nv_sv X := hWd.2.2.2.2.2.2.2.1
  refine ⟨fun cfg h hf k => ?_, fun v h => ?_⟩
  · unfold nv_ifnonnull at h
    split at h
    · split at h
      · rename_i ha
        cases h
        simp only [List.map_cons, nv_rv_own ha]
        exact lv_ifnonnull hx hb hd ht (k _ _ _ _ _ hI hL)
      · cases h
    · cases h
      exact lv_ifnonnullN hx hb hd (k _ _ _ _ _ hI hL)
    · cases h
  · unfold nv_ifnonnull at h
    split at h
    · split at h <;> cases h
    · cases h
    · cases h

/-- a table of jumps: its offsets are the deed's targets -/
theorem so_tsw {M : nv_M} {pc : Nat} {dflt lo hi : Int} {offs : Array Int} {len : Nat} {ts : List Nat} {d : Nat} (hd : decode M.2.1 pc = .ok (.tableswitch dflt lo hi offs, len)) (hdf : (pc : Int) + dflt = (d : Int)) (hlen : lo + ts.length = hi + 1)
    (hall : ∀ i, i < ts.length → (offs[i]?).map (fun o => (pc : Int) + o) = (ts[i]?).map (fun t => (t : Int))) : nv_SO M pc (nv_tsw lo ts d) := by
  intro p l e R s m args below meth c Q X scr c0 s0 hM H locs cells slots lA ls st σ hI hL
  obtain ⟨hx, hb, hret, hml, hown, hts, hlk, hht, hnm, hWd, htr, hfr, hlo⟩ := hM
  have hsv : nv_sv X := hWd.2.2.2.2.2.2.2.1
  refine ⟨fun cfg h hf k => ?_, fun v h => ?_⟩
  · unfold nv_tsw at h
    split at h
    · rename_i x r
      split at h
      · rename_i hlt
        cases h
        exact lv_tableOut hx hb hd (Or.inl hlt) hdf (k _ _ _ _ _ hI hL)
      · rename_i hge
        split at h
        · rename_i t ht
          cases h
          have hl : (x.toInt - lo).toNat < ts.length := (List.getElem?_eq_some_iff.mp ht).1
          have h1 := hall _ hl
          rw [ht] at h1
          cases ho : offs[(x.toInt - lo).toNat]? with
          | none => rw [ho] at h1; cases h1
          | some off =>
            rw [ho] at h1
            have h2 : (pc : Int) + off = (t : Int) := Option.some.inj h1
            exact lv_tableIn hx hb hd hge (by omega) ho h2 (k _ _ _ _ _ hI hL)
        · rename_i ht
          cases h
          have hl : ts.length ≤ (x.toInt - lo).toNat := List.getElem?_eq_none_iff.mp ht
          exact lv_tableOut hx hb hd (Or.inr (by omega)) hdf (k _ _ _ _ _ hI hL)
    · cases h
  · unfold nv_tsw at h
    split at h
    · split at h
      · cases h
      · split at h <;> cases h
    · cases h

theorem so_retv {M : nv_M} {pc : Nat} (hd : decode M.2.1 pc = .ok (.return_, 1)) (hr : M.2.2.2.1 = none) : nv_SO M pc (nv_retv) := by
  intro p l e R s m args below meth c Q X scr c0 s0 hM H locs cells slots lA ls st σ hI hL
  obtain ⟨hx, hb, hret, hml, hown, hts, hlk, hht, hnm, hWd, htr, hfr, hlo⟩ := hM
  have hsv : nv_sv X := hWd.2.2.2.2.2.2.2.1
  refine ⟨fun cfg h hf k => ?_, fun v h => ?_⟩
  · unfold nv_retv at h
    split at h
    · cases h
    · cases h
  · unfold nv_retv at h
    split at h
    · cases h
      exact ⟨rfl, hd, hr⟩
    · cases h

theorem so_reti {M : nv_M} {pc : Nat} {ty : FieldType} (hd : decode M.2.1 pc = .ok (.ireturn, 1)) (hr : M.2.2.2.1 = some ty) : nv_SO M pc (nv_reti ty) := by
  intro p l e R s m args below meth c Q X scr c0 s0 hM H locs cells slots lA ls st σ hI hL
  obtain ⟨hx, hb, hret, hml, hown, hts, hlk, hht, hnm, hWd, htr, hfr, hlo⟩ := hM
  have hsv : nv_sv X := hWd.2.2.2.2.2.2.2.1
  refine ⟨fun cfg h hf k => ?_, fun v h => ?_⟩
  · unfold nv_reti at h
    split at h
    · split at h <;> cases h
    · cases h
  · unfold nv_reti at h
    split at h
    · split at h
      · rename_i hn
        cases h
        exact ⟨rfl, hd, ty, hr, hn⟩
      · cases h
    · cases h

theorem so_reta {M : nv_M} {pc : Nat} {ty : FieldType} (hd : decode M.2.1 pc = .ok (.areturn, 1)) (hr : M.2.2.2.1 = some ty) (ho : (∃ n, ty = .object n) ∨ ∃ t, ty = .array t) : nv_SO M pc (nv_reta) := by
  intro p l e R s m args below meth c Q X scr c0 s0 hM H locs cells slots lA ls st σ hI hL
  obtain ⟨hx, hb, hret, hml, hown, hts, hlk, hht, hnm, hWd, htr, hfr, hlo⟩ := hM
  have hsv : nv_sv X := hWd.2.2.2.2.2.2.2.1
  refine ⟨fun cfg h hf k => ?_, fun v h => ?_⟩
  · unfold nv_reta at h
    split at h
    · cases h
    · cases h
    · cases h
  · unfold nv_reta at h
    split at h
    · cases h
      exact ⟨rfl, hd, ty, hr, ho⟩
    · cases h
      exact ⟨rfl, hd, ty, hr, ho⟩
    · cases h

theorem so_retl {M : nv_M} {pc : Nat} (hd : decode M.2.1 pc = .ok (.lreturn, 1)) (hr : M.2.2.2.1 = some .long) : nv_SO M pc (nv_retl) := by
  intro p l e R s m args below meth c Q X scr c0 s0 hM H locs cells slots lA ls st σ hI hL
  obtain ⟨hx, hb, hret, hml, hown, hts, hlk, hht, hnm, hWd, htr, hfr, hlo⟩ := hM
  have hsv : nv_sv X := hWd.2.2.2.2.2.2.2.1
  refine ⟨fun cfg h hf k => ?_, fun v h => ?_⟩
  · unfold nv_retl at h
    split at h
    · cases h
    · cases h
  · unfold nv_retl at h
    split at h
    · cases h
      exact ⟨rfl, hd, hr⟩
    · cases h

theorem so_retf {M : nv_M} {pc : Nat} (hd : decode M.2.1 pc = .ok (.freturn, 1)) (hr : M.2.2.2.1 = some .float) : nv_SO M pc (nv_retf) := by
  intro p l e R s m args below meth c Q X scr c0 s0 hM H locs cells slots lA ls st σ hI hL
  obtain ⟨hx, hb, hret, hml, hown, hts, hlk, hht, hnm, hWd, htr, hfr, hlo⟩ := hM
  have hsv : nv_sv X := hWd.2.2.2.2.2.2.2.1
  refine ⟨fun cfg h hf k => ?_, fun v h => ?_⟩
  · unfold nv_retf at h
    split at h
    · cases h
    · cases h
  · unfold nv_retf at h
    split at h
    · cases h
      exact ⟨rfl, hd, hr⟩
    · cases h

theorem so_retd {M : nv_M} {pc : Nat} (hd : decode M.2.1 pc = .ok (.dreturn, 1)) (hr : M.2.2.2.1 = some .double) : nv_SO M pc (nv_retd) := by
  intro p l e R s m args below meth c Q X scr c0 s0 hM H locs cells slots lA ls st σ hI hL
  obtain ⟨hx, hb, hret, hml, hown, hts, hlk, hht, hnm, hWd, htr, hfr, hlo⟩ := hM
  have hsv : nv_sv X := hWd.2.2.2.2.2.2.2.1
  refine ⟨fun cfg h hf k => ?_, fun v h => ?_⟩
  · unfold nv_retd at h
    split at h
    · cases h
    · cases h
  · unfold nv_retd at h
    split at h
    · cases h
      exact ⟨rfl, hd, hr⟩
    · cases h

