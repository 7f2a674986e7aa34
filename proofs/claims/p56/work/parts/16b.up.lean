/-! SOUNDNESS OF THE ABSTRACT MACHINE, 6b: no deed lets the counters fall. -/
/-- the counters never fall -/
def nv_le (σ τ : nv_St) : Prop := σ.2.1 + σ.2.2.1 ≤ τ.2.1 + τ.2.2.1 ∧ σ.2.2.2.1 + 6 * σ.2.2.1 ≤ τ.2.2.2.1 + 6 * τ.2.2.1
theorem nv_le.rf (a : nv_St) : nv_le a a := ⟨Nat.le_refl _, Nat.le_refl _⟩
theorem nv_le.trans {a b c : nv_St} (h : nv_le a b) (g : nv_le b c) : nv_le a c := ⟨Nat.le_trans h.1 g.1, Nat.le_trans h.2 g.2⟩
theorem nv_le.fits {R : Room} {c0 s0 : Nat} {a b : nv_St} (h : nv_le a b) (g : nv_Fits R c0 s0 b) : nv_Fits R c0 s0 a := ⟨Nat.le_trans h.1 g.1, Nat.le_trans h.2 g.2⟩
/-- the counters never fall, and the script stays -/
def nv_lk (σ τ : nv_St) : Prop := nv_le σ τ ∧ τ.2.2.2.2 = σ.2.2.2.2
theorem nv_lk.rf (a : nv_St) : nv_lk a a := ⟨nv_le.rf a, rfl⟩
/-- a deed that lets the counters rise alone -/
def nv_up (op : nv_Op) : Prop := ∀ ls st σ cfg, op ls st σ = some (.inl cfg) → nv_lk σ cfg.2.2.2
theorem nv_lk_mk (σ : nv_St) (o : nv_Ob) (m : Nat) : nv_lk σ (nv_mk σ o m) := ⟨⟨by show σ.2.1 + σ.2.2.1 ≤ σ.2.1 + 1 + σ.2.2.1; omega, by show σ.2.2.2.1 + 6 * σ.2.2.1 ≤ σ.2.2.2.1 + m + 6 * σ.2.2.1; omega⟩, rfl⟩
theorem nv_lk_sto {σ σ' : nv_St} {ci k : Nat} {ty : FieldType} {a : Nat} {v : Value} (h : nv_sto σ ci k ty a v = some σ') : nv_lk σ σ' := by
  unfold nv_sto at h
  split at h
  · split at h
    · cases h; exact nv_lk.rf _
    · cases h
  · cases h
theorem nv_lk_wri {σ σ' : nv_St} {t a : Nat} {x v : Int32} (h : nv_wri σ t a x v = some σ') : nv_lk σ σ' := by
  unfold nv_wri at h
  split at h
  · split at h
    · cases h; exact nv_lk.rf _
    · cases h
  · cases h
theorem nv_lk_wrq {σ σ' : nv_St} {t a : Nat} {x : Int32} {v : Nat} (h : nv_wrq σ t a x v = some σ') : nv_lk σ σ' := by
  unfold nv_wrq at h
  split at h
  · split at h
    · cases h; exact nv_lk.rf _
    · cases h
  · cases h
theorem up_cst (v : Value) (n : Nat) : nv_up (nv_cst v n) := by
  intro ls st σ cfg h
  unfold nv_cst at h
  repeat' (first | (cases h <;> first | exact nv_lk.rf _ | exact nv_lk_mk _ _ _ | exact nv_lk_sto (by assumption) | exact nv_lk_wri (by assumption) | exact nv_lk_wrq (by assumption) | (simp only; split <;> exact nv_lk.rf _)) | split at h)
theorem up_iload (i n : Nat) : nv_up (nv_iload i n) := by
  intro ls st σ cfg h
  unfold nv_iload at h
  repeat' (first | (cases h <;> first | exact nv_lk.rf _ | exact nv_lk_mk _ _ _ | exact nv_lk_sto (by assumption) | exact nv_lk_wri (by assumption) | exact nv_lk_wrq (by assumption) | (simp only; split <;> exact nv_lk.rf _)) | split at h)
theorem up_lload (i n : Nat) : nv_up (nv_lload i n) := by
  intro ls st σ cfg h
  unfold nv_lload at h
  repeat' (first | (cases h <;> first | exact nv_lk.rf _ | exact nv_lk_mk _ _ _ | exact nv_lk_sto (by assumption) | exact nv_lk_wri (by assumption) | exact nv_lk_wrq (by assumption) | (simp only; split <;> exact nv_lk.rf _)) | split at h)
theorem up_fload (i n : Nat) : nv_up (nv_fload i n) := by
  intro ls st σ cfg h
  unfold nv_fload at h
  repeat' (first | (cases h <;> first | exact nv_lk.rf _ | exact nv_lk_mk _ _ _ | exact nv_lk_sto (by assumption) | exact nv_lk_wri (by assumption) | exact nv_lk_wrq (by assumption) | (simp only; split <;> exact nv_lk.rf _)) | split at h)
theorem up_dload (i n : Nat) : nv_up (nv_dload i n) := by
  intro ls st σ cfg h
  unfold nv_dload at h
  repeat' (first | (cases h <;> first | exact nv_lk.rf _ | exact nv_lk_mk _ _ _ | exact nv_lk_sto (by assumption) | exact nv_lk_wri (by assumption) | exact nv_lk_wrq (by assumption) | (simp only; split <;> exact nv_lk.rf _)) | split at h)
theorem up_aload (i n : Nat) : nv_up (nv_aload i n) := by
  intro ls st σ cfg h
  unfold nv_aload at h
  repeat' (first | (cases h <;> first | exact nv_lk.rf _ | exact nv_lk_mk _ _ _ | exact nv_lk_sto (by assumption) | exact nv_lk_wri (by assumption) | exact nv_lk_wrq (by assumption) | (simp only; split <;> exact nv_lk.rf _)) | split at h)
theorem up_istore (i n : Nat) : nv_up (nv_istore i n) := by
  intro ls st σ cfg h
  unfold nv_istore at h
  repeat' (first | (cases h <;> first | exact nv_lk.rf _ | exact nv_lk_mk _ _ _ | exact nv_lk_sto (by assumption) | exact nv_lk_wri (by assumption) | exact nv_lk_wrq (by assumption) | (simp only; split <;> exact nv_lk.rf _)) | split at h)
theorem up_fstore (i n : Nat) : nv_up (nv_fstore i n) := by
  intro ls st σ cfg h
  unfold nv_fstore at h
  repeat' (first | (cases h <;> first | exact nv_lk.rf _ | exact nv_lk_mk _ _ _ | exact nv_lk_sto (by assumption) | exact nv_lk_wri (by assumption) | exact nv_lk_wrq (by assumption) | (simp only; split <;> exact nv_lk.rf _)) | split at h)
theorem up_astore (i n : Nat) : nv_up (nv_astore i n) := by
  intro ls st σ cfg h
  unfold nv_astore at h
  repeat' (first | (cases h <;> first | exact nv_lk.rf _ | exact nv_lk_mk _ _ _ | exact nv_lk_sto (by assumption) | exact nv_lk_wri (by assumption) | exact nv_lk_wrq (by assumption) | (simp only; split <;> exact nv_lk.rf _)) | split at h)
theorem up_lstore (i n : Nat) : nv_up (nv_lstore i n) := by
  intro ls st σ cfg h
  unfold nv_lstore at h
  repeat' (first | (cases h <;> first | exact nv_lk.rf _ | exact nv_lk_mk _ _ _ | exact nv_lk_sto (by assumption) | exact nv_lk_wri (by assumption) | exact nv_lk_wrq (by assumption) | (simp only; split <;> exact nv_lk.rf _)) | split at h)
theorem up_dstore (i n : Nat) : nv_up (nv_dstore i n) := by
  intro ls st σ cfg h
  unfold nv_dstore at h
  repeat' (first | (cases h <;> first | exact nv_lk.rf _ | exact nv_lk_mk _ _ _ | exact nv_lk_sto (by assumption) | exact nv_lk_wri (by assumption) | exact nv_lk_wrq (by assumption) | (simp only; split <;> exact nv_lk.rf _)) | split at h)
theorem up_iinc (i : Nat) (c : Int32) (n : Nat) : nv_up (nv_iinc i c n) := by
  intro ls st σ cfg h
  unfold nv_iinc at h
  repeat' (first | (cases h <;> first | exact nv_lk.rf _ | exact nv_lk_mk _ _ _ | exact nv_lk_sto (by assumption) | exact nv_lk_wri (by assumption) | exact nv_lk_wrq (by assumption) | (simp only; split <;> exact nv_lk.rf _)) | split at h)
theorem up_dup (n : Nat) : nv_up (nv_dup n) := by
  intro ls st σ cfg h
  unfold nv_dup at h
  repeat' (first | (cases h <;> first | exact nv_lk.rf _ | exact nv_lk_mk _ _ _ | exact nv_lk_sto (by assumption) | exact nv_lk_wri (by assumption) | exact nv_lk_wrq (by assumption) | (simp only; split <;> exact nv_lk.rf _)) | split at h)
theorem up_pop (n : Nat) : nv_up (nv_pop n) := by
  intro ls st σ cfg h
  unfold nv_pop at h
  repeat' (first | (cases h <;> first | exact nv_lk.rf _ | exact nv_lk_mk _ _ _ | exact nv_lk_sto (by assumption) | exact nv_lk_wri (by assumption) | exact nv_lk_wrq (by assumption) | (simp only; split <;> exact nv_lk.rf _)) | split at h)
theorem up_i2 (f : Int32 → Int32 → Int32) (n : Nat) : nv_up (nv_i2 f n) := by
  intro ls st σ cfg h
  unfold nv_i2 at h
  repeat' (first | (cases h <;> first | exact nv_lk.rf _ | exact nv_lk_mk _ _ _ | exact nv_lk_sto (by assumption) | exact nv_lk_wri (by assumption) | exact nv_lk_wrq (by assumption) | (simp only; split <;> exact nv_lk.rf _)) | split at h)
theorem up_irem (n : Nat) : nv_up (nv_irem n) := by
  intro ls st σ cfg h
  unfold nv_irem at h
  repeat' (first | (cases h <;> first | exact nv_lk.rf _ | exact nv_lk_mk _ _ _ | exact nv_lk_sto (by assumption) | exact nv_lk_wri (by assumption) | exact nv_lk_wrq (by assumption) | (simp only; split <;> exact nv_lk.rf _)) | split at h)
theorem up_l2 (f : Int64 → Int64 → Int64) (n : Nat) : nv_up (nv_l2 f n) := by
  intro ls st σ cfg h
  unfold nv_l2 at h
  repeat' (first | (cases h <;> first | exact nv_lk.rf _ | exact nv_lk_mk _ _ _ | exact nv_lk_sto (by assumption) | exact nv_lk_wri (by assumption) | exact nv_lk_wrq (by assumption) | (simp only; split <;> exact nv_lk.rf _)) | split at h)
theorem up_lcmp (n : Nat) : nv_up (nv_lcmp n) := by
  intro ls st σ cfg h
  unfold nv_lcmp at h
  repeat' (first | (cases h <;> first | exact nv_lk.rf _ | exact nv_lk_mk _ _ _ | exact nv_lk_sto (by assumption) | exact nv_lk_wri (by assumption) | exact nv_lk_wrq (by assumption) | (simp only; split <;> exact nv_lk.rf _)) | split at h)
theorem up_i2l (n : Nat) : nv_up (nv_i2l n) := by
  intro ls st σ cfg h
  unfold nv_i2l at h
  repeat' (first | (cases h <;> first | exact nv_lk.rf _ | exact nv_lk_mk _ _ _ | exact nv_lk_sto (by assumption) | exact nv_lk_wri (by assumption) | exact nv_lk_wrq (by assumption) | (simp only; split <;> exact nv_lk.rf _)) | split at h)
theorem up_i2f (n : Nat) : nv_up (nv_i2f n) := by
  intro ls st σ cfg h
  unfold nv_i2f at h
  repeat' (first | (cases h <;> first | exact nv_lk.rf _ | exact nv_lk_mk _ _ _ | exact nv_lk_sto (by assumption) | exact nv_lk_wri (by assumption) | exact nv_lk_wrq (by assumption) | (simp only; split <;> exact nv_lk.rf _)) | split at h)
theorem up_i2d (n : Nat) : nv_up (nv_i2d n) := by
  intro ls st σ cfg h
  unfold nv_i2d at h
  repeat' (first | (cases h <;> first | exact nv_lk.rf _ | exact nv_lk_mk _ _ _ | exact nv_lk_sto (by assumption) | exact nv_lk_wri (by assumption) | exact nv_lk_wrq (by assumption) | (simp only; split <;> exact nv_lk.rf _)) | split at h)
theorem up_i2c (n : Nat) : nv_up (nv_i2c n) := by
  intro ls st σ cfg h
  unfold nv_i2c at h
  repeat' (first | (cases h <;> first | exact nv_lk.rf _ | exact nv_lk_mk _ _ _ | exact nv_lk_sto (by assumption) | exact nv_lk_wri (by assumption) | exact nv_lk_wrq (by assumption) | (simp only; split <;> exact nv_lk.rf _)) | split at h)
theorem up_fdiv (n : Nat) : nv_up (nv_fdiv n) := by
  intro ls st σ cfg h
  unfold nv_fdiv at h
  repeat' (first | (cases h <;> first | exact nv_lk.rf _ | exact nv_lk_mk _ _ _ | exact nv_lk_sto (by assumption) | exact nv_lk_wri (by assumption) | exact nv_lk_wrq (by assumption) | (simp only; split <;> exact nv_lk.rf _)) | split at h)
theorem up_ddiv (n : Nat) : nv_up (nv_ddiv n) := by
  intro ls st σ cfg h
  unfold nv_ddiv at h
  repeat' (first | (cases h <;> first | exact nv_lk.rf _ | exact nv_lk_mk _ _ _ | exact nv_lk_sto (by assumption) | exact nv_lk_wri (by assumption) | exact nv_lk_wrq (by assumption) | (simp only; split <;> exact nv_lk.rf _)) | split at h)
theorem up_fcmp (o : CmpOp) (n : Nat) : nv_up (nv_fcmp o n) := by
  intro ls st σ cfg h
  unfold nv_fcmp at h
  repeat' (first | (cases h <;> first | exact nv_lk.rf _ | exact nv_lk_mk _ _ _ | exact nv_lk_sto (by assumption) | exact nv_lk_wri (by assumption) | exact nv_lk_wrq (by assumption) | (simp only; split <;> exact nv_lk.rf _)) | split at h)
theorem up_dcmp (o : CmpOp) (n : Nat) : nv_up (nv_dcmp o n) := by
  intro ls st σ cfg h
  unfold nv_dcmp at h
  repeat' (first | (cases h <;> first | exact nv_lk.rf _ | exact nv_lk_mk _ _ _ | exact nv_lk_sto (by assumption) | exact nv_lk_wri (by assumption) | exact nv_lk_wrq (by assumption) | (simp only; split <;> exact nv_lk.rf _)) | split at h)
theorem up_ifeq (t n : Nat) : nv_up (nv_ifeq t n) := by
  intro ls st σ cfg h
  unfold nv_ifeq at h
  repeat' (first | (cases h <;> first | exact nv_lk.rf _ | exact nv_lk_mk _ _ _ | exact nv_lk_sto (by assumption) | exact nv_lk_wri (by assumption) | exact nv_lk_wrq (by assumption) | (simp only; split <;> exact nv_lk.rf _)) | split at h)
theorem up_ifne (t n : Nat) : nv_up (nv_ifne t n) := by
  intro ls st σ cfg h
  unfold nv_ifne at h
  repeat' (first | (cases h <;> first | exact nv_lk.rf _ | exact nv_lk_mk _ _ _ | exact nv_lk_sto (by assumption) | exact nv_lk_wri (by assumption) | exact nv_lk_wrq (by assumption) | (simp only; split <;> exact nv_lk.rf _)) | split at h)
theorem up_iflt (t n : Nat) : nv_up (nv_iflt t n) := by
  intro ls st σ cfg h
  unfold nv_iflt at h
  repeat' (first | (cases h <;> first | exact nv_lk.rf _ | exact nv_lk_mk _ _ _ | exact nv_lk_sto (by assumption) | exact nv_lk_wri (by assumption) | exact nv_lk_wrq (by assumption) | (simp only; split <;> exact nv_lk.rf _)) | split at h)
theorem up_ifge (t n : Nat) : nv_up (nv_ifge t n) := by
  intro ls st σ cfg h
  unfold nv_ifge at h
  repeat' (first | (cases h <;> first | exact nv_lk.rf _ | exact nv_lk_mk _ _ _ | exact nv_lk_sto (by assumption) | exact nv_lk_wri (by assumption) | exact nv_lk_wrq (by assumption) | (simp only; split <;> exact nv_lk.rf _)) | split at h)
theorem up_ifgt (t n : Nat) : nv_up (nv_ifgt t n) := by
  intro ls st σ cfg h
  unfold nv_ifgt at h
  repeat' (first | (cases h <;> first | exact nv_lk.rf _ | exact nv_lk_mk _ _ _ | exact nv_lk_sto (by assumption) | exact nv_lk_wri (by assumption) | exact nv_lk_wrq (by assumption) | (simp only; split <;> exact nv_lk.rf _)) | split at h)
theorem up_ifle (t n : Nat) : nv_up (nv_ifle t n) := by
  intro ls st σ cfg h
  unfold nv_ifle at h
  repeat' (first | (cases h <;> first | exact nv_lk.rf _ | exact nv_lk_mk _ _ _ | exact nv_lk_sto (by assumption) | exact nv_lk_wri (by assumption) | exact nv_lk_wrq (by assumption) | (simp only; split <;> exact nv_lk.rf _)) | split at h)
theorem up_ceq (t n : Nat) : nv_up (nv_ceq t n) := by
  intro ls st σ cfg h
  unfold nv_ceq at h
  repeat' (first | (cases h <;> first | exact nv_lk.rf _ | exact nv_lk_mk _ _ _ | exact nv_lk_sto (by assumption) | exact nv_lk_wri (by assumption) | exact nv_lk_wrq (by assumption) | (simp only; split <;> exact nv_lk.rf _)) | split at h)
theorem up_cne (t n : Nat) : nv_up (nv_cne t n) := by
  intro ls st σ cfg h
  unfold nv_cne at h
  repeat' (first | (cases h <;> first | exact nv_lk.rf _ | exact nv_lk_mk _ _ _ | exact nv_lk_sto (by assumption) | exact nv_lk_wri (by assumption) | exact nv_lk_wrq (by assumption) | (simp only; split <;> exact nv_lk.rf _)) | split at h)
theorem up_clt (t n : Nat) : nv_up (nv_clt t n) := by
  intro ls st σ cfg h
  unfold nv_clt at h
  repeat' (first | (cases h <;> first | exact nv_lk.rf _ | exact nv_lk_mk _ _ _ | exact nv_lk_sto (by assumption) | exact nv_lk_wri (by assumption) | exact nv_lk_wrq (by assumption) | (simp only; split <;> exact nv_lk.rf _)) | split at h)
theorem up_cge (t n : Nat) : nv_up (nv_cge t n) := by
  intro ls st σ cfg h
  unfold nv_cge at h
  repeat' (first | (cases h <;> first | exact nv_lk.rf _ | exact nv_lk_mk _ _ _ | exact nv_lk_sto (by assumption) | exact nv_lk_wri (by assumption) | exact nv_lk_wrq (by assumption) | (simp only; split <;> exact nv_lk.rf _)) | split at h)
theorem up_cgt (t n : Nat) : nv_up (nv_cgt t n) := by
  intro ls st σ cfg h
  unfold nv_cgt at h
  repeat' (first | (cases h <;> first | exact nv_lk.rf _ | exact nv_lk_mk _ _ _ | exact nv_lk_sto (by assumption) | exact nv_lk_wri (by assumption) | exact nv_lk_wrq (by assumption) | (simp only; split <;> exact nv_lk.rf _)) | split at h)
theorem up_cle (t n : Nat) : nv_up (nv_cle t n) := by
  intro ls st σ cfg h
  unfold nv_cle at h
  repeat' (first | (cases h <;> first | exact nv_lk.rf _ | exact nv_lk_mk _ _ _ | exact nv_lk_sto (by assumption) | exact nv_lk_wri (by assumption) | exact nv_lk_wrq (by assumption) | (simp only; split <;> exact nv_lk.rf _)) | split at h)
theorem up_ifnull (t n : Nat) : nv_up (nv_ifnull t n) := by
  intro ls st σ cfg h
  unfold nv_ifnull at h
  repeat' (first | (cases h <;> first | exact nv_lk.rf _ | exact nv_lk_mk _ _ _ | exact nv_lk_sto (by assumption) | exact nv_lk_wri (by assumption) | exact nv_lk_wrq (by assumption) | (simp only; split <;> exact nv_lk.rf _)) | split at h)
theorem up_ifnonnull (t n : Nat) : nv_up (nv_ifnonnull t n) := by
  intro ls st σ cfg h
  unfold nv_ifnonnull at h
  repeat' (first | (cases h <;> first | exact nv_lk.rf _ | exact nv_lk_mk _ _ _ | exact nv_lk_sto (by assumption) | exact nv_lk_wri (by assumption) | exact nv_lk_wrq (by assumption) | (simp only; split <;> exact nv_lk.rf _)) | split at h)
theorem up_alen (t n : Nat) : nv_up (nv_alen t n) := by
  intro ls st σ cfg h
  unfold nv_alen at h
  repeat' (first | (cases h <;> first | exact nv_lk.rf _ | exact nv_lk_mk _ _ _ | exact nv_lk_sto (by assumption) | exact nv_lk_wri (by assumption) | exact nv_lk_wrq (by assumption) | (simp only; split <;> exact nv_lk.rf _)) | split at h)
theorem up_aldi (t n : Nat) : nv_up (nv_aldi t n) := by
  intro ls st σ cfg h
  unfold nv_aldi at h
  repeat' (first | (cases h <;> first | exact nv_lk.rf _ | exact nv_lk_mk _ _ _ | exact nv_lk_sto (by assumption) | exact nv_lk_wri (by assumption) | exact nv_lk_wrq (by assumption) | (simp only; split <;> exact nv_lk.rf _)) | split at h)
theorem up_aldq (t n : Nat) : nv_up (nv_aldq t n) := by
  intro ls st σ cfg h
  unfold nv_aldq at h
  repeat' (first | (cases h <;> first | exact nv_lk.rf _ | exact nv_lk_mk _ _ _ | exact nv_lk_sto (by assumption) | exact nv_lk_wri (by assumption) | exact nv_lk_wrq (by assumption) | (simp only; split <;> exact nv_lk.rf _)) | split at h)
theorem up_newi (t n : Nat) : nv_up (nv_newi t n) := by
  intro ls st σ cfg h
  unfold nv_newi at h
  repeat' (first | (cases h <;> first | exact nv_lk.rf _ | exact nv_lk_mk _ _ _ | exact nv_lk_sto (by assumption) | exact nv_lk_wri (by assumption) | exact nv_lk_wrq (by assumption) | (simp only; split <;> exact nv_lk.rf _)) | split at h)
theorem up_newq (t n : Nat) : nv_up (nv_newq t n) := by
  intro ls st σ cfg h
  unfold nv_newq at h
  repeat' (first | (cases h <;> first | exact nv_lk.rf _ | exact nv_lk_mk _ _ _ | exact nv_lk_sto (by assumption) | exact nv_lk_wri (by assumption) | exact nv_lk_wrq (by assumption) | (simp only; split <;> exact nv_lk.rf _)) | split at h)
theorem up_iast (t n : Nat) : nv_up (nv_iast t n) := by
  intro ls st σ cfg h
  unfold nv_iast at h
  repeat' (first | (cases h <;> first | exact nv_lk.rf _ | exact nv_lk_mk _ _ _ | exact nv_lk_sto (by assumption) | exact nv_lk_wri (by assumption) | exact nv_lk_wrq (by assumption) | (simp only; split <;> exact nv_lk.rf _)) | split at h)
theorem up_cast (t n : Nat) : nv_up (nv_cast t n) := by
  intro ls st σ cfg h
  unfold nv_cast at h
  repeat' (first | (cases h <;> first | exact nv_lk.rf _ | exact nv_lk_mk _ _ _ | exact nv_lk_sto (by assumption) | exact nv_lk_wri (by assumption) | exact nv_lk_wrq (by assumption) | (simp only; split <;> exact nv_lk.rf _)) | split at h)
theorem up_goto (t : Nat) : nv_up (nv_goto t) := by
  intro ls st σ cfg h
  unfold nv_goto at h
  repeat' (first | (cases h <;> first | exact nv_lk.rf _ | exact nv_lk_mk _ _ _ | exact nv_lk_sto (by assumption) | exact nv_lk_wri (by assumption) | exact nv_lk_wrq (by assumption) | (simp only; split <;> exact nv_lk.rf _)) | split at h)
theorem up_tsw (lo : Int) (ts : List Nat) (d : Nat) : nv_up (nv_tsw lo ts d) := by
  intro ls st σ cfg h
  unfold nv_tsw at h
  repeat' (first | (cases h <;> first | exact nv_lk.rf _ | exact nv_lk_mk _ _ _ | exact nv_lk_sto (by assumption) | exact nv_lk_wri (by assumption) | exact nv_lk_wrq (by assumption) | (simp only; split <;> exact nv_lk.rf _)) | split at h)
theorem up_get (ci k n : Nat) : nv_up (nv_get ci k n) := by
  intro ls st σ cfg h
  unfold nv_get at h
  repeat' (first | (cases h <;> first | exact nv_lk.rf _ | exact nv_lk_mk _ _ _ | exact nv_lk_sto (by assumption) | exact nv_lk_wri (by assumption) | exact nv_lk_wrq (by assumption) | (simp only; split <;> exact nv_lk.rf _)) | split at h)
theorem up_put (ci k : Nat) (ty : FieldType) (n : Nat) : nv_up (nv_put ci k ty n) := by
  intro ls st σ cfg h
  unfold nv_put at h
  repeat' (first | (cases h <;> first | exact nv_lk.rf _ | exact nv_lk_mk _ _ _ | exact nv_lk_sto (by assumption) | exact nv_lk_wri (by assumption) | exact nv_lk_wrq (by assumption) | (simp only; split <;> exact nv_lk.rf _)) | split at h)
theorem up_new (ci : Nat) (fs : List Value) (n : Nat) : nv_up (nv_new ci fs n) := by
  intro ls st σ cfg h
  unfold nv_new at h
  repeat' (first | (cases h <;> first | exact nv_lk.rf _ | exact nv_lk_mk _ _ _ | exact nv_lk_sto (by assumption) | exact nv_lk_wri (by assumption) | exact nv_lk_wrq (by assumption) | (simp only; split <;> exact nv_lk.rf _)) | split at h)
theorem up_astq (t ci n : Nat) : nv_up (nv_astq t ci n) := by
  intro ls st σ cfg h
  unfold nv_astq at h
  repeat' (first | (cases h <;> first | exact nv_lk.rf _ | exact nv_lk_mk _ _ _ | exact nv_lk_sto (by assumption) | exact nv_lk_wri (by assumption) | exact nv_lk_wrq (by assumption) | (simp only; split <;> exact nv_lk.rf _)) | split at h)
theorem up_oinit (n : Nat) : nv_up (nv_oinit n) := by
  intro ls st σ cfg h
  unfold nv_oinit at h
  repeat' (first | (cases h <;> first | exact nv_lk.rf _ | exact nv_lk_mk _ _ _ | exact nv_lk_sto (by assumption) | exact nv_lk_wri (by assumption) | exact nv_lk_wrq (by assumption) | (simp only; split <;> exact nv_lk.rf _)) | split at h)
theorem up_slen (a m n : Nat) : nv_up (nv_slen a m n) := by
  intro ls st σ cfg h
  unfold nv_slen at h
  repeat' (first | (cases h <;> first | exact nv_lk.rf _ | exact nv_lk_mk _ _ _ | exact nv_lk_sto (by assumption) | exact nv_lk_wri (by assumption) | exact nv_lk_wrq (by assumption) | (simp only; split <;> exact nv_lk.rf _)) | split at h)
theorem up_slens (a : Nat) (ms : List Nat) (n : Nat) : nv_up (nv_slens a ms n) := by
  intro ls st σ cfg h
  unfold nv_slens at h
  repeat' (first | (cases h <;> first | exact nv_lk.rf _ | exact nv_lk_mk _ _ _ | exact nv_lk_sto (by assumption) | exact nv_lk_wri (by assumption) | exact nv_lk_wrq (by assumption) | (simp only; split <;> exact nv_lk.rf _)) | split at h)
theorem up_sald (a : Nat) (vs : List Value) (n : Nat) : nv_up (nv_sald a vs n) := by
  intro ls st σ cfg h
  unfold nv_sald at h
  repeat' (first | (cases h <;> first | exact nv_lk.rf _ | exact nv_lk_mk _ _ _ | exact nv_lk_sto (by assumption) | exact nv_lk_wri (by assumption) | exact nv_lk_wrq (by assumption) | (simp only; split <;> exact nv_lk.rf _)) | split at h)
theorem up_salds (a : Nat) (vss : List (List Value)) (n : Nat) : nv_up (nv_salds a vss n) := by
  intro ls st σ cfg h
  unfold nv_salds at h
  repeat' (first | (cases h <;> first | exact nv_lk.rf _ | exact nv_lk_mk _ _ _ | exact nv_lk_sto (by assumption) | exact nv_lk_wri (by assumption) | exact nv_lk_wrq (by assumption) | (simp only; split <;> exact nv_lk.rf _)) | split at h)
theorem up_sget (a : Nat) (vs : List Value) (n : Nat) : nv_up (nv_sget a vs n) := by
  intro ls st σ cfg h
  unfold nv_sget at h
  repeat' (first | (cases h <;> first | exact nv_lk.rf _ | exact nv_lk_mk _ _ _ | exact nv_lk_sto (by assumption) | exact nv_lk_wri (by assumption) | exact nv_lk_wrq (by assumption) | (simp only; split <;> exact nv_lk.rf _)) | split at h)
theorem up_scl (n : Nat) : nv_up (nv_scl n) := by
  intro ls st σ cfg h
  unfold nv_scl at h
  repeat' (first | (cases h <;> first | exact nv_lk.rf _ | exact nv_lk_mk _ _ _ | exact nv_lk_sto (by assumption) | exact nv_lk_wri (by assumption) | exact nv_lk_wrq (by assumption) | (simp only; split <;> exact nv_lk.rf _)) | split at h)
theorem up_sci (n : Nat) : nv_up (nv_sci n) := by
  intro ls st σ cfg h
  unfold nv_sci at h
  repeat' (first | (cases h <;> first | exact nv_lk.rf _ | exact nv_lk_mk _ _ _ | exact nv_lk_sto (by assumption) | exact nv_lk_wri (by assumption) | exact nv_lk_wrq (by assumption) | (simp only; split <;> exact nv_lk.rf _)) | split at h)
theorem up_abs (n : Nat) : nv_up (nv_abs n) := by
  intro ls st σ cfg h
  unfold nv_abs at h
  repeat' (first | (cases h <;> first | exact nv_lk.rf _ | exact nv_lk_mk _ _ _ | exact nv_lk_sto (by assumption) | exact nv_lk_wri (by assumption) | exact nv_lk_wrq (by assumption) | (simp only; split <;> exact nv_lk.rf _)) | split at h)
theorem up_min (n : Nat) : nv_up (nv_min n) := by
  intro ls st σ cfg h
  unfold nv_min at h
  repeat' (first | (cases h <;> first | exact nv_lk.rf _ | exact nv_lk_mk _ _ _ | exact nv_lk_sto (by assumption) | exact nv_lk_wri (by assumption) | exact nv_lk_wrq (by assumption) | (simp only; split <;> exact nv_lk.rf _)) | split at h)
theorem up_max (n : Nat) : nv_up (nv_max n) := by
  intro ls st σ cfg h
  unfold nv_max at h
  repeat' (first | (cases h <;> first | exact nv_lk.rf _ | exact nv_lk_mk _ _ _ | exact nv_lk_sto (by assumption) | exact nv_lk_wri (by assumption) | exact nv_lk_wrq (by assumption) | (simp only; split <;> exact nv_lk.rf _)) | split at h)
theorem up_retv  : nv_up (nv_retv ) := by
  intro ls st σ cfg h
  unfold nv_retv at h
  repeat' (first | (cases h <;> first | exact nv_lk.rf _ | exact nv_lk_mk _ _ _ | exact nv_lk_sto (by assumption) | exact nv_lk_wri (by assumption) | exact nv_lk_wrq (by assumption) | (simp only; split <;> exact nv_lk.rf _)) | split at h)
theorem up_reti (ty : FieldType) : nv_up (nv_reti ty) := by
  intro ls st σ cfg h
  unfold nv_reti at h
  repeat' (first | (cases h <;> first | exact nv_lk.rf _ | exact nv_lk_mk _ _ _ | exact nv_lk_sto (by assumption) | exact nv_lk_wri (by assumption) | exact nv_lk_wrq (by assumption) | (simp only; split <;> exact nv_lk.rf _)) | split at h)
theorem up_reta  : nv_up (nv_reta ) := by
  intro ls st σ cfg h
  unfold nv_reta at h
  repeat' (first | (cases h <;> first | exact nv_lk.rf _ | exact nv_lk_mk _ _ _ | exact nv_lk_sto (by assumption) | exact nv_lk_wri (by assumption) | exact nv_lk_wrq (by assumption) | (simp only; split <;> exact nv_lk.rf _)) | split at h)
theorem up_retl  : nv_up (nv_retl ) := by
  intro ls st σ cfg h
  unfold nv_retl at h
  repeat' (first | (cases h <;> first | exact nv_lk.rf _ | exact nv_lk_mk _ _ _ | exact nv_lk_sto (by assumption) | exact nv_lk_wri (by assumption) | exact nv_lk_wrq (by assumption) | (simp only; split <;> exact nv_lk.rf _)) | split at h)
theorem up_retf  : nv_up (nv_retf ) := by
  intro ls st σ cfg h
  unfold nv_retf at h
  repeat' (first | (cases h <;> first | exact nv_lk.rf _ | exact nv_lk_mk _ _ _ | exact nv_lk_sto (by assumption) | exact nv_lk_wri (by assumption) | exact nv_lk_wrq (by assumption) | (simp only; split <;> exact nv_lk.rf _)) | split at h)
theorem up_retd  : nv_up (nv_retd ) := by
  intro ls st σ cfg h
  unfold nv_retd at h
  repeat' (first | (cases h <;> first | exact nv_lk.rf _ | exact nv_lk_mk _ _ _ | exact nv_lk_sto (by assumption) | exact nv_lk_wri (by assumption) | exact nv_lk_wrq (by assumption) | (simp only; split <;> exact nv_lk.rf _)) | split at h)
/-- a deed is sound and lets the counters rise alone -/
def nv_ok (M : nv_M) (pc : Nat) (op : nv_Op) : Prop := nv_SO M pc op ∧ nv_up op
