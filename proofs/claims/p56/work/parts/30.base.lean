/-! THE PURE PART, 1: equations of a run, for the code of the claim. -/
noncomputable def np_X (y pc : Nat) (ls : nv_Ls) (st : List Value) (σ : nv_St) : Option nv_Out := nv_Run np_P y (pc, ls, st, σ)
noncomputable def np_b {α : Type} (o : Option α) (f : α → Option nv_Out) : Option nv_Out := match o with
  | some a => f a
  | none => none
theorem np_b_s {α : Type} {a : α} {f : α → Option nv_Out} : np_b (some a) f = f a := rfl
theorem np_b_n {α : Type} {f : α → Option nv_Out} : np_b none f = none := rfl
/-- behind a call -/
noncomputable def np_aft (y pc nx : Nat) (ls : nv_Ls) (st : List Value) (o : Option nv_Out) : Option nv_Out := nv_aft np_P y pc nx ls st o
theorem np_aft_v {y pc nx : Nat} {ls : nv_Ls} {st : List Value} {v : Value} {σ : nv_St} : np_aft y pc nx ls st (some (.inl (some v), σ)) = np_X y nx ls (v :: st) σ := rfl
theorem np_aft_u {y pc nx : Nat} {ls : nv_Ls} {st : List Value} {σ : nv_St} : np_aft y pc nx ls st (some (.inl none, σ)) = np_X y nx ls st σ := rfl
theorem np_aft_n {y pc nx : Nat} {ls : nv_Ls} {st : List Value} : np_aft y pc nx ls st none = none := rfl
theorem np_aft_x {y pc nx : Nat} {ls : nv_Ls} {st : List Value} {E : String} {σ : nv_St} (h : np_hd y pc E = none) : np_aft y pc nx ls st (some (.inr E, σ)) = some (.inr E, σ) := by
  show (match np_hd y pc E with | some (t, i) => nv_Run np_P y (t, nv_lose ls i, [], σ) | none => some (.inr E, σ)) = _
  rw [h]
theorem np_aft_c {y pc nx t i : Nat} {ls : nv_Ls} {st : List Value} {E : String} {σ : nv_St} (h : np_hd y pc E = some (t, i)) : np_aft y pc nx ls st (some (.inr E, σ)) = np_X y t (nv_lose ls i) [] σ := by
  show (match np_hd y pc E with | some (t, i) => nv_Run np_P y (t, nv_lose ls i, [], σ) | none => some (.inr E, σ)) = _
  rw [h]
  rfl
/-- an if inside what stands behind a call -/
theorem np_aft_if {y pc nx : Nat} {ls : nv_Ls} {st : List Value} {c : Prop} {d : Decidable c} {a b : Option nv_Out} : np_aft y pc nx ls st (@ite _ c d a b) = @ite _ c d (np_aft y pc nx ls st a) (np_aft y pc nx ls st b) := by
  split <;> rfl
theorem np_b_if {α : Type} {c : Prop} {d : Decidable c} {a b : Option α} {f : α → Option nv_Out} : np_b (@ite _ c d a b) f = @ite _ c d (np_b a f) (np_b b f) := by
  split <;> rfl
theorem nv_room_le {r : List Value} (h : r.length ≤ 4) : nv_room r = true := by
  have key : ∀ (r : List Value), (r.map fun v => v.category).sum ≤ 2 * r.length := by
    intro r
    induction r with
    | nil => simp
    | cons v r ih =>
      have : v.category ≤ 2 := by cases v <;> simp [Value.category]
      simp only [List.map_cons, List.sum_cons, List.length_cons]
      omega
  have := key r
  exact decide_eq_true (by omega)
section
variable {y pc : Nat} {ls ls' : nv_Ls} {st st' : List Value} {σ σ' : nv_St} {op : nv_Op} {L : List (Option nv_Ins)}
theorem np_op {pc' : Nat} (hL : np_P.1 y = L) (h : L[pc]? = some (some (.inl op))) (h2 : op ls st σ = some (.inl (pc', ls', st', σ'))) : np_X y pc ls st σ = np_X y pc' ls' st' σ' := by
  subst hL
  exact nv_Run_op h h2
theorem np_br {t n : Nat} {c : Prop} (d : Decidable c) (hL : np_P.1 y = L) (h : L[pc]? = some (some (.inl op))) (h2 : op ls st σ = some (.inl (@ite _ c d t n, ls', st', σ'))) : np_X y pc ls st σ = @ite _ c d (np_X y t ls' st' σ') (np_X y n ls' st' σ') := by
  subst hL
  exact nv_Run_br d h h2
theorem np_ret {v : Option Value} (hL : np_P.1 y = L) (h : L[pc]? = some (some (.inl op))) (h2 : op ls st σ = some (.inr v)) : np_X y pc ls st σ = some (.inl v, σ) := by
  subst hL
  exact nv_Run_ret h h2
theorem np_no (hL : np_P.1 y = L) (h : L[pc]? = some (some (.inl op))) (h2 : op ls st σ = none) : np_X y pc ls st σ = none := by
  subst hL
  cases hx : np_X y pc ls st σ with
  | none => rfl
  | some o =>
    obtain ⟨n, hn⟩ := nv_Run_iff.mp hx
    cases n with
    | zero => simp [nv_run] at hn
    | succ n => simp only [nv_run, h, h2] at hn; cases hn
theorem np_thr {E : String} (hL : np_P.1 y = L) (h : L[pc]? = some (some (.inr (.inr E)))) : np_X y pc ls [] σ = some (.inr E, nv_bump σ) := by
  subst hL
  exact nv_Run_thr h rfl
theorem np_call {y' k nx : Nat} {o : Option Nat} {ls0 : nv_Ls} {r as : List Value} (hL : np_P.1 y = L) (h : L[pc]? = some (some (.inr (.inl (y', k, nx, o))))) (hk : k ≤ st.length) (hd : st.drop k = r) (ht : (st.take k).reverse = as) (hm : r.length ≤ 4) (ha : nv_args (np_P.2.1 y') as = true) (hr : nv_rcv σ as o = true) (hi : nv_init (np_P.2.1 y') as = ls0) :
    np_X y pc ls st σ = np_aft y pc nx ls r (np_X y' 0 ls0 [] σ) := by
  subst hL; subst hi; subst hd; subst ht
  exact nv_Run_call h hk (nv_room_le hm) ha hr
theorem np_get {ci k n a : Nat} {r : List Value} (hL : np_P.1 y = L) (h : L[pc]? = some (some (.inl (nv_get ci k n)))) : np_X y pc ls (.ref a :: r) σ = np_b (nv_fld σ ci k a) (fun v => np_X y n ls (v :: r) σ) := by
  cases hv : nv_fld σ ci k a with
  | none => exact np_no hL h (by simp only [nv_get, hv])
  | some v => exact np_op hL h (by simp only [nv_get, hv])
theorem np_put {ci k n a : Nat} {ty : FieldType} {v : Value} {r : List Value} (hL : np_P.1 y = L) (h : L[pc]? = some (some (.inl (nv_put ci k ty n)))) : np_X y pc ls (v :: .ref a :: r) σ = np_b (nv_sto σ ci k ty a v) (fun σ' => np_X y n ls r σ') := by
  cases hv : nv_sto σ ci k ty a v with
  | none => exact np_no hL h (by simp only [nv_put, hv])
  | some s => exact np_op hL h (by simp only [nv_put, hv])
theorem np_alen {t n a : Nat} {r : List Value} (hL : np_P.1 y = L) (h : L[pc]? = some (some (.inl (nv_alen t n)))) : np_X y pc ls (.ref a :: r) σ = np_b (nv_len σ t a) (fun m => np_X y n ls (.int (Int32.ofNat m) :: r) σ) := by
  cases hv : nv_len σ t a with
  | none => exact np_no hL h (by simp only [nv_alen, hv])
  | some v => exact np_op hL h (by simp only [nv_alen, hv])
theorem np_aldi {t n a : Nat} {x : Int32} {r : List Value} (hL : np_P.1 y = L) (h : L[pc]? = some (some (.inl (nv_aldi t n)))) : np_X y pc ls (.int x :: .ref a :: r) σ = np_b (nv_rdi σ t a x) (fun v => np_X y n ls (.int v :: r) σ) := by
  cases hv : nv_rdi σ t a x with
  | none => exact np_no hL h (by simp only [nv_aldi, hv])
  | some v => exact np_op hL h (by simp only [nv_aldi, hv])
theorem np_aldq {t n a : Nat} {x : Int32} {r : List Value} (hL : np_P.1 y = L) (h : L[pc]? = some (some (.inl (nv_aldq t n)))) : np_X y pc ls (.int x :: .ref a :: r) σ = np_b (nv_rdq σ t a x) (fun v => np_X y n ls (v :: r) σ) := by
  cases hv : nv_rdq σ t a x with
  | none => exact np_no hL h (by simp only [nv_aldq, hv])
  | some v => exact np_op hL h (by simp only [nv_aldq, hv])
theorem np_iast {t n a : Nat} {x v : Int32} {r : List Value} (hL : np_P.1 y = L) (h : L[pc]? = some (some (.inl (nv_iast t n)))) : np_X y pc ls (.int v :: .int x :: .ref a :: r) σ = np_b (nv_wri σ t a x v) (fun σ' => np_X y n ls r σ') := by
  cases hv : nv_wri σ t a x v with
  | none => exact np_no hL h (by simp only [nv_iast, hv])
  | some s => exact np_op hL h (by simp only [nv_iast, hv])
theorem np_cast {t n a : Nat} {x v : Int32} {r : List Value} (hL : np_P.1 y = L) (h : L[pc]? = some (some (.inl (nv_cast t n)))) : np_X y pc ls (.int v :: .int x :: .ref a :: r) σ = np_b (nv_wri σ t a x (vp_nar .char v)) (fun σ' => np_X y n ls r σ') := by
  cases hv : nv_wri σ t a x (vp_nar .char v) with
  | none => exact np_no hL h (by simp only [nv_cast, hv])
  | some s => exact np_op hL h (by simp only [nv_cast, hv])
theorem np_astq {t ci n a v : Nat} {x : Int32} {r : List Value} (hL : np_P.1 y = L) (h : L[pc]? = some (some (.inl (nv_astq t ci n)))) (ho : nv_isO σ ci v = true) : np_X y pc ls (.ref v :: .int x :: .ref a :: r) σ = np_b (nv_wrq σ t a x v) (fun σ' => np_X y n ls r σ') := by
  cases hv : nv_wrq σ t a x v with
  | none => exact np_no hL h (by simp only [nv_astq, hv, ho, if_true])
  | some s => exact np_op hL h (by simp only [nv_astq, hv, ho, if_true])
theorem np_irem {n : Nat} {x z : Int32} {r : List Value} (hL : np_P.1 y = L) (h : L[pc]? = some (some (.inl (nv_irem n)))) (hz : ¬ z = 0) : np_X y pc ls (.int z :: .int x :: r) σ = np_X y n ls (.int (x - x / z * z) :: r) σ := np_op hL h (by simp only [nv_irem, if_neg hz])
theorem np_fdiv {n : Nat} {x z : UInt32} {r : List Value} (hL : np_P.1 y = L) (h : L[pc]? = some (some (.inl (nv_fdiv n)))) (hz : FP.fdiv x z &&& 0x7fffffff ≤ 0x7f800000) : np_X y pc ls (.float z :: .float x :: r) σ = np_X y n ls (.float (FP.fdiv x z) :: r) σ := np_op hL h (by simp only [nv_fdiv, if_pos hz])
theorem np_ddiv {n : Nat} {x z : UInt64} {r : List Value} (hL : np_P.1 y = L) (h : L[pc]? = some (some (.inl (nv_ddiv n)))) (hz : FP.ddiv x z &&& 0x7fffffffffffffff ≤ 0x7ff0000000000000) : np_X y pc ls (.double z :: .double x :: r) σ = np_X y n ls (.double (FP.ddiv x z) :: r) σ := np_op hL h (by simp only [nv_ddiv, if_pos hz])
theorem np_abs {n : Nat} {x : Int32} {r : List Value} (hL : np_P.1 y = L) (h : L[pc]? = some (some (.inl (nv_abs n)))) (hr : r.length ≤ 4) : np_X y pc ls (.int x :: r) σ = np_X y n ls (.int (if 0 ≤ x then x else 0 - x) :: r) σ := np_op hL h (by simp only [nv_abs, nv_room_le hr, if_true])
theorem np_min {n : Nat} {x z : Int32} {r : List Value} (hL : np_P.1 y = L) (h : L[pc]? = some (some (.inl (nv_min n)))) (hr : r.length ≤ 4) : np_X y pc ls (.int z :: .int x :: r) σ = np_X y n ls (.int (if z < x then z else x) :: r) σ := np_op hL h (by simp only [nv_min, nv_room_le hr, if_true])
theorem np_max {n : Nat} {x z : Int32} {r : List Value} (hL : np_P.1 y = L) (h : L[pc]? = some (some (.inl (nv_max n)))) (hr : r.length ≤ 4) : np_X y pc ls (.int z :: .int x :: r) σ = np_X y n ls (.int (if x < z then z else x) :: r) σ := np_op hL h (by simp only [nv_max, nv_room_le hr, if_true])
theorem np_oinit {n a : Nat} {r : List Value} (hL : np_P.1 y = L) (h : L[pc]? = some (some (.inl (nv_oinit n)))) (ha : a < 1000000) (hr : r.length ≤ 4) : np_X y pc ls (.ref a :: r) σ = np_X y n ls r σ := np_op hL h (by simp only [nv_oinit, nv_room_le hr, show a < nv_off from ha, and_self, if_true])
def np_sw (lo : Int) (ts : List Nat) (d : Nat) (x : Int32) : Nat := if x.toInt < lo then d else (ts[(x.toInt - lo).toNat]?).getD d
theorem np_tsw {lo : Int} {ts : List Nat} {d : Nat} {x : Int32} {r : List Value} (hL : np_P.1 y = L) (h : L[pc]? = some (some (.inl (nv_tsw lo ts d)))) : np_X y pc ls (.int x :: r) σ = np_X y (np_sw lo ts d x) ls r σ := by
  refine np_op hL h ?_
  unfold np_sw
  simp only [nv_tsw]
  split
  · rfl
  · split <;> rename_i h1 <;> rw [h1] <;> rfl
theorem np_sald {a n : Nat} {vs : List Value} {x : Int32} {r : List Value} (hL : np_P.1 y = L) (h : L[pc]? = some (some (.inl (nv_sald a vs n)))) (hx : ¬ x < 0) : np_X y pc ls (.int x :: .ref a :: r) σ = np_b (vs[x.toNatClampNeg]?) (fun v => np_X y n ls (v :: r) σ) := by
  cases hv : vs[x.toNatClampNeg]? with
  | none => exact np_no hL h (by simp [nv_sald, hv])
  | some v => exact np_op hL h (by simp [nv_sald, hv, hx])
theorem np_salds {a b n : Nat} {vss : List (List Value)} {x : Int32} {r : List Value} (hL : np_P.1 y = L) (h : L[pc]? = some (some (.inl (nv_salds a vss n)))) (hx : ¬ (b < a ∨ x < 0)) : np_X y pc ls (.int x :: .ref b :: r) σ = np_b (vss[b - a]?) (fun vs => np_b (vs[x.toNatClampNeg]?) (fun v => np_X y n ls (v :: r) σ)) := by
  cases hv : vss[b - a]? with
  | none => exact np_no hL h (by simp [nv_salds, hv])
  | some vs =>
    rw [np_b_s]
    cases hw : vs[x.toNatClampNeg]? with
    | none => exact np_no hL h (by simp [nv_salds, hv, hw])
    | some v => exact np_op hL h (by simp only [nv_salds, if_neg hx, hv, hw])
theorem np_sget {a b n : Nat} {vs : List Value} {r : List Value} (hL : np_P.1 y = L) (h : L[pc]? = some (some (.inl (nv_sget a vs n)))) (hb : ¬ b < a) : np_X y pc ls (.ref b :: r) σ = np_b (vs[b - a]?) (fun v => np_X y n ls (v :: r) σ) := by
  cases hv : vs[b - a]? with
  | none => exact np_no hL h (by simp [nv_sget, hv])
  | some v => exact np_op hL h (by simp only [nv_sget, if_neg hb, hv])
theorem np_slens {a b n : Nat} {ms : List Nat} {r : List Value} (hL : np_P.1 y = L) (h : L[pc]? = some (some (.inl (nv_slens a ms n)))) (hb : ¬ b < a) : np_X y pc ls (.ref b :: r) σ = np_b (ms[b - a]?) (fun m => np_X y n ls (.int (Int32.ofNat m) :: r) σ) := by
  cases hv : ms[b - a]? with
  | none => exact np_no hL h (by simp [nv_slens, hv])
  | some v => exact np_op hL h (by simp only [nv_slens, if_neg hb, hv])
theorem np_sci {n : Nat} {x : Int32} {r : List Value} (hL : np_P.1 y = L) (h : L[pc]? = some (some (.inl (nv_sci n)))) (h0 : ¬ x < 0) (h1 : x.toNatClampNeg < σ.2.2.2.2.1) : np_X y pc ls (.int x :: .ref nv_scrA :: r) σ = np_X y n ls (.int (σ.2.2.2.2.2 x.toNatClampNeg) :: r) σ := np_op hL h (by simp only [nv_sci, h0, h1, not_false_eq_true, and_self, if_true])
end
section
variable {y pc : Nat} {ls ls' : nv_Ls} {st st' : List Value} {σ σ' : nv_St} {op : nv_Op} {L : List (Option nv_Ins)}
theorem np_reti {ty : FieldType} {x : Int32} (hL : np_P.1 y = L) (h : L[pc]? = some (some (.inl (nv_reti ty)))) (hn : narrow ty (.int x) = .int x) : np_X y pc ls [.int x] σ = some (.inl (some (.int x)), σ) := np_ret hL h (by simp only [nv_reti, if_pos hn])
theorem np_ifnull {t n a : Nat} {r : List Value} (hL : np_P.1 y = L) (h : L[pc]? = some (some (.inl (nv_ifnull t n)))) (ha : a < 1000000) : np_X y pc ls (.ref a :: r) σ = np_X y n ls r σ := np_op hL h (by simp only [nv_ifnull, show a < nv_off from ha, if_true])
theorem np_ifnonnull {t n a : Nat} {r : List Value} (hL : np_P.1 y = L) (h : L[pc]? = some (some (.inl (nv_ifnonnull t n)))) (ha : a < 1000000) : np_X y pc ls (.ref a :: r) σ = np_X y t ls r σ := np_op hL h (by simp only [nv_ifnonnull, show a < nv_off from ha, if_true])
end
