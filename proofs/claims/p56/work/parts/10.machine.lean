/-! THE ABSTRACT MACHINE: a small machine over a pure heap; its methods are lists of deeds, one a pc; a run with fuel; its soundness is said in later parts. -/
abbrev nv_Ob : Type := (Nat × Nat × ((Nat → Int32) ⊕ (Nat → Option Nat))) ⊕ (Nat × List Value)
abbrev nv_Scr : Type := Nat × (Nat → Int32)
/-- heap, cells made, exceptions thrown, slots made, the script -/
abbrev nv_St : Type := (Nat → Option nv_Ob) × Nat × Nat × Nat × nv_Scr
abbrev nv_Ls : Type := List (Option Value)
abbrev nv_Cfg : Type := Nat × nv_Ls × List Value × nv_St
abbrev nv_Op : Type := nv_Ls → List Value → nv_St → Option (nv_Cfg ⊕ Option Value)
/-- a deed; a call: callee, arguments (the receiver among them), the pc behind it, the receiver's kind; a throw -/
abbrev nv_Ins : Type := nv_Op ⊕ (Nat × Nat × Nat × Option Nat) ⊕ String
abbrev nv_Out : Type := (Option Value ⊕ String) × nv_St
/-- few words stand below on the stack -/
def nv_room (r : List Value) : Bool := decide ((r.map fun v => v.category).sum ≤ 8)
def nv_bump (σ : nv_St) : nv_St := (σ.1, σ.2.1, σ.2.2.1 + 1, σ.2.2.2.1, σ.2.2.2.2)
/-- static addresses begin here -/
abbrev nv_off : Nat := 1000000
-- locals
def nv_drop2 (ls : nv_Ls) (i : Nat) : nv_Ls := match ls[i]? with
  | some (some (.long _)) => ls.set i none
  | some (some (.double _)) => ls.set i none
  | _ => ls
def nv_setL (ls : nv_Ls) (i : Nat) (v : Value) : nv_Ls := match i with
  | 0 => ls.set 0 (some v)
  | j + 1 => (nv_drop2 ls j).set (j + 1) (some v)
def nv_setL2 (ls : nv_Ls) (i : Nat) (v : Value) : nv_Ls := (nv_setL ls i v).set (i + 1) none
/-- a local is lost -/
def nv_lose (ls : nv_Ls) (i : Nat) : nv_Ls := (nv_setL ls i .null).set i none
-- deeds: constants, locals
def nv_cst (v : Value) (n : Nat) : nv_Op := fun ls st σ => some (.inl (n, ls, v :: st, σ))
def nv_iload (i n : Nat) : nv_Op := fun ls st σ => match ls[i]? with
  | some (some (.int x)) => some (.inl (n, ls, .int x :: st, σ))
  | _ => none
def nv_lload (i n : Nat) : nv_Op := fun ls st σ => match ls[i]? with
  | some (some (.long x)) => some (.inl (n, ls, .long x :: st, σ))
  | _ => none
def nv_fload (i n : Nat) : nv_Op := fun ls st σ => match ls[i]? with
  | some (some (.float x)) => some (.inl (n, ls, .float x :: st, σ))
  | _ => none
def nv_dload (i n : Nat) : nv_Op := fun ls st σ => match ls[i]? with
  | some (some (.double x)) => some (.inl (n, ls, .double x :: st, σ))
  | _ => none
def nv_aload (i n : Nat) : nv_Op := fun ls st σ => match ls[i]? with
  | some (some (.ref x)) => some (.inl (n, ls, .ref x :: st, σ))
  | some (some .null) => some (.inl (n, ls, .null :: st, σ))
  | _ => none
def nv_istore (i n : Nat) : nv_Op := fun ls st σ => match st with
  | .int x :: r => some (.inl (n, nv_setL ls i (.int x), r, σ))
  | _ => none
def nv_fstore (i n : Nat) : nv_Op := fun ls st σ => match st with
  | .float x :: r => some (.inl (n, nv_setL ls i (.float x), r, σ))
  | _ => none
def nv_astore (i n : Nat) : nv_Op := fun ls st σ => match st with
  | .ref x :: r => some (.inl (n, nv_setL ls i (.ref x), r, σ))
  | .null :: r => some (.inl (n, nv_setL ls i .null, r, σ))
  | _ => none
def nv_lstore (i n : Nat) : nv_Op := fun ls st σ => match st with
  | .long x :: r => some (.inl (n, nv_setL2 ls i (.long x), r, σ))
  | _ => none
def nv_dstore (i n : Nat) : nv_Op := fun ls st σ => match st with
  | .double x :: r => some (.inl (n, nv_setL2 ls i (.double x), r, σ))
  | _ => none
def nv_iinc (i : Nat) (c : Int32) (n : Nat) : nv_Op := fun ls st σ => match ls[i]? with
  | some (some (.int x)) => some (.inl (n, nv_setL ls i (.int (x + c)), st, σ))
  | _ => none
def nv_dup (n : Nat) : nv_Op := fun ls st σ => match st with
  | .int x :: r => some (.inl (n, ls, .int x :: .int x :: r, σ))
  | .ref x :: r => some (.inl (n, ls, .ref x :: .ref x :: r, σ))
  | _ => none
def nv_pop (n : Nat) : nv_Op := fun ls st σ => match st with
  | .int _ :: r => some (.inl (n, ls, r, σ))
  | .ref _ :: r => some (.inl (n, ls, r, σ))
  | _ => none
-- arithmetic
def nv_i2 (f : Int32 → Int32 → Int32) (n : Nat) : nv_Op := fun ls st σ => match st with
  | .int y :: .int x :: r => some (.inl (n, ls, .int (f x y) :: r, σ))
  | _ => none
def nv_irem (n : Nat) : nv_Op := fun ls st σ => match st with
  | .int y :: .int x :: r => if y = 0 then none else some (.inl (n, ls, .int (x - x / y * y) :: r, σ))
  | _ => none
def nv_l2 (f : Int64 → Int64 → Int64) (n : Nat) : nv_Op := fun ls st σ => match st with
  | .long y :: .long x :: r => some (.inl (n, ls, .long (f x y) :: r, σ))
  | _ => none
def nv_lcmp (n : Nat) : nv_Op := fun ls st σ => match st with
  | .long y :: .long x :: r => some (.inl (n, ls, .int (lg_cmp x y) :: r, σ))
  | _ => none
def nv_i2l (n : Nat) : nv_Op := fun ls st σ => match st with
  | .int x :: r => some (.inl (n, ls, .long x.toInt64 :: r, σ))
  | _ => none
def nv_i2f (n : Nat) : nv_Op := fun ls st σ => match st with
  | .int x :: r => some (.inl (n, ls, .float (FP.i2f x) :: r, σ))
  | _ => none
def nv_i2d (n : Nat) : nv_Op := fun ls st σ => match st with
  | .int x :: r => some (.inl (n, ls, .double (FP.i2d x) :: r, σ))
  | _ => none
def nv_i2c (n : Nat) : nv_Op := fun ls st σ => match st with
  | .int x :: r => some (.inl (n, ls, .int (x.toUInt32 % 65536).toInt32 :: r, σ))
  | _ => none
def nv_fdiv (n : Nat) : nv_Op := fun ls st σ => match st with
  | .float y :: .float x :: r => if FP.fdiv x y &&& 0x7fffffff ≤ 0x7f800000 then some (.inl (n, ls, .float (FP.fdiv x y) :: r, σ)) else none
  | _ => none
def nv_ddiv (n : Nat) : nv_Op := fun ls st σ => match st with
  | .double y :: .double x :: r => if FP.ddiv x y &&& 0x7fffffffffffffff ≤ 0x7ff0000000000000 then some (.inl (n, ls, .double (FP.ddiv x y) :: r, σ)) else none
  | _ => none
def nv_fcmp (o : CmpOp) (n : Nat) : nv_Op := fun ls st σ => match st with
  | .float y :: .float x :: r => some (.inl (n, ls, .int (Op.cmpValue (FP.fcmp x y) o) :: r, σ))
  | _ => none
def nv_dcmp (o : CmpOp) (n : Nat) : nv_Op := fun ls st σ => match st with
  | .double y :: .double x :: r => some (.inl (n, ls, .int (Op.cmpValue (FP.dcmp x y) o) :: r, σ))
  | _ => none
-- branches: t the target, n the pc behind
def nv_ifeq (t n : Nat) : nv_Op := fun ls st σ => match st with
  | .int x :: r => some (.inl (if x = 0 then t else n, ls, r, σ))
  | _ => none
def nv_ifne (t n : Nat) : nv_Op := fun ls st σ => match st with
  | .int x :: r => some (.inl (if x = 0 then n else t, ls, r, σ))
  | _ => none
def nv_iflt (t n : Nat) : nv_Op := fun ls st σ => match st with
  | .int x :: r => some (.inl (if x < 0 then t else n, ls, r, σ))
  | _ => none
def nv_ifge (t n : Nat) : nv_Op := fun ls st σ => match st with
  | .int x :: r => some (.inl (if x < 0 then n else t, ls, r, σ))
  | _ => none
def nv_ifgt (t n : Nat) : nv_Op := fun ls st σ => match st with
  | .int x :: r => some (.inl (if 0 < x then t else n, ls, r, σ))
  | _ => none
def nv_ifle (t n : Nat) : nv_Op := fun ls st σ => match st with
  | .int x :: r => some (.inl (if 0 < x then n else t, ls, r, σ))
  | _ => none
def nv_ceq (t n : Nat) : nv_Op := fun ls st σ => match st with
  | .int y :: .int x :: r => some (.inl (if x = y then t else n, ls, r, σ))
  | _ => none
def nv_cne (t n : Nat) : nv_Op := fun ls st σ => match st with
  | .int y :: .int x :: r => some (.inl (if x = y then n else t, ls, r, σ))
  | _ => none
def nv_clt (t n : Nat) : nv_Op := fun ls st σ => match st with
  | .int y :: .int x :: r => some (.inl (if x < y then t else n, ls, r, σ))
  | _ => none
def nv_cge (t n : Nat) : nv_Op := fun ls st σ => match st with
  | .int y :: .int x :: r => some (.inl (if x < y then n else t, ls, r, σ))
  | _ => none
def nv_cgt (t n : Nat) : nv_Op := fun ls st σ => match st with
  | .int y :: .int x :: r => some (.inl (if y < x then t else n, ls, r, σ))
  | _ => none
def nv_cle (t n : Nat) : nv_Op := fun ls st σ => match st with
  | .int y :: .int x :: r => some (.inl (if y < x then n else t, ls, r, σ))
  | _ => none
def nv_goto (t : Nat) : nv_Op := fun ls st σ => some (.inl (t, ls, st, σ))
def nv_ifnull (t n : Nat) : nv_Op := fun ls st σ => match st with
  | .ref a :: r => if a < nv_off then some (.inl (n, ls, r, σ)) else none
  | .null :: r => some (.inl (t, ls, r, σ))
  | _ => none
def nv_ifnonnull (t n : Nat) : nv_Op := fun ls st σ => match st with
  | .ref a :: r => if a < nv_off then some (.inl (t, ls, r, σ)) else none
  | .null :: r => some (.inl (n, ls, r, σ))
  | _ => none
/-- a table of jumps from lo on; what is outside goes to d -/
def nv_tsw (lo : Int) (ts : List Nat) (d : Nat) : nv_Op := fun ls st σ => match st with
  | .int x :: r => if x.toInt < lo then some (.inl (d, ls, r, σ)) else match ts[(x.toInt - lo).toNat]? with
    | some t => some (.inl (t, ls, r, σ))
    | none => some (.inl (d, ls, r, σ))
  | _ => none
-- the heap
def nv_fld (σ : nv_St) (ci k a : Nat) : Option Value := match σ.1 a with
  | some (.inr (ci', fs)) => if ci' = ci then fs[k]? else none
  | _ => none
def nv_wr (σ : nv_St) (a : Nat) (o : nv_Ob) : nv_St := (fun q => if q = a then some o else σ.1 q, σ.2.1, σ.2.2.1, σ.2.2.2.1, σ.2.2.2.2)
def nv_sto (σ : nv_St) (ci k : Nat) (ty : FieldType) (a : Nat) (v : Value) : Option nv_St := match σ.1 a with
  | some (.inr (ci', fs)) => if ci' = ci ∧ k < fs.length ∧ narrow ty v = v ∧ fits ty v = true then some (nv_wr σ a (.inr (ci, fs.set k v))) else none
  | _ => none
def nv_get (ci k n : Nat) : nv_Op := fun ls st σ => match st with
  | .ref a :: r => match nv_fld σ ci k a with
    | some v => some (.inl (n, ls, v :: r, σ))
    | none => none
  | _ => none
def nv_put (ci k : Nat) (ty : FieldType) (n : Nat) : nv_Op := fun ls st σ => match st with
  | v :: .ref a :: r => match nv_sto σ ci k ty a v with
    | some σ' => some (.inl (n, ls, r, σ'))
    | none => none
  | _ => none
def nv_mk (σ : nv_St) (o : nv_Ob) (m : Nat) : nv_St := (fun q => if q = σ.2.1 then some o else σ.1 q, σ.2.1 + 1, σ.2.2.1, σ.2.2.2.1 + m, σ.2.2.2.2)
/-- a new object of kind ci with these first fields: only while nothing has been thrown -/
def nv_new (ci : Nat) (fs : List Value) (n : Nat) : nv_Op := fun ls st σ =>
  if σ.2.2.1 = 0 ∧ σ.2.1 < nv_off then some (.inl (n, ls, .ref σ.2.1 :: st, nv_mk σ (.inr (ci, fs)) fs.length)) else none
def nv_newi (t n : Nat) : nv_Op := fun ls st σ => match st with
  | .int x :: r => if σ.2.2.1 = 0 ∧ σ.2.1 < nv_off ∧ ¬ x < 0 ∧ x.toNatClampNeg ≤ 1000 then some (.inl (n, ls, .ref σ.2.1 :: r, nv_mk σ (.inl (t, x.toNatClampNeg, .inl (fun _ => 0))) x.toNatClampNeg)) else none
  | _ => none
def nv_newq (t n : Nat) : nv_Op := fun ls st σ => match st with
  | .int x :: r => if σ.2.2.1 = 0 ∧ σ.2.1 < nv_off ∧ ¬ x < 0 ∧ x.toNatClampNeg ≤ 1000 then some (.inl (n, ls, .ref σ.2.1 :: r, nv_mk σ (.inl (t, x.toNatClampNeg, .inr (fun _ => none))) x.toNatClampNeg)) else none
  | _ => none
def nv_len (σ : nv_St) (t a : Nat) : Option Nat := match σ.1 a with
  | some (.inl (t', m, _)) => if t' = t then some m else none
  | _ => none
def nv_alen (t n : Nat) : nv_Op := fun ls st σ => match st with
  | .ref a :: r => match nv_len σ t a with
    | some m => some (.inl (n, ls, .int (Int32.ofNat m) :: r, σ))
    | none => none
  | _ => none
def nv_rdi (σ : nv_St) (t a : Nat) (x : Int32) : Option Int32 := match σ.1 a with
  | some (.inl (t', m, .inl f)) => if t' = t ∧ ¬ x < 0 ∧ x.toNatClampNeg < m then some (f x.toNatClampNeg) else none
  | _ => none
def nv_rf : Option Nat → Option Value
  | none => some .null
  | some a => if a < nv_off then some (.ref a) else none
def nv_rdq (σ : nv_St) (t a : Nat) (x : Int32) : Option Value := match σ.1 a with
  | some (.inl (t', m, .inr f)) => if t' = t ∧ ¬ x < 0 ∧ x.toNatClampNeg < m then nv_rf (f x.toNatClampNeg) else none
  | _ => none
def nv_wri (σ : nv_St) (t a : Nat) (x v : Int32) : Option nv_St := match σ.1 a with
  | some (.inl (t', m, .inl f)) => if t' = t ∧ ¬ x < 0 ∧ x.toNatClampNeg < m then some (nv_wr σ a (.inl (t, m, .inl (upd f x.toNatClampNeg v)))) else none
  | _ => none
def nv_wrq (σ : nv_St) (t a : Nat) (x : Int32) (v : Nat) : Option nv_St := match σ.1 a with
  | some (.inl (t', m, .inr f)) => if t' = t ∧ ¬ x < 0 ∧ x.toNatClampNeg < m then some (nv_wr σ a (.inl (t, m, .inr (va_up f x.toNatClampNeg (some v))))) else none
  | _ => none
def nv_aldi (t n : Nat) : nv_Op := fun ls st σ => match st with
  | .int x :: .ref a :: r => match nv_rdi σ t a x with
    | some v => some (.inl (n, ls, .int v :: r, σ))
    | none => none
  | _ => none
def nv_aldq (t n : Nat) : nv_Op := fun ls st σ => match st with
  | .int x :: .ref a :: r => match nv_rdq σ t a x with
    | some v => some (.inl (n, ls, v :: r, σ))
    | none => none
  | _ => none
def nv_iast (t n : Nat) : nv_Op := fun ls st σ => match st with
  | .int v :: .int x :: .ref a :: r => match nv_wri σ t a x v with
    | some σ' => some (.inl (n, ls, r, σ'))
    | none => none
  | _ => none
def nv_cast (t n : Nat) : nv_Op := fun ls st σ => match st with
  | .int v :: .int x :: .ref a :: r => match nv_wri σ t a x (vp_nar .char v) with
    | some σ' => some (.inl (n, ls, r, σ'))
    | none => none
  | _ => none
/-- the element must be an object of kind ci -/
def nv_isO (σ : nv_St) (ci a : Nat) : Bool := match σ.1 a with
  | some (.inr (ci', _)) => ci' == ci
  | _ => false
def nv_astq (t ci n : Nat) : nv_Op := fun ls st σ => match st with
  | .ref v :: .int x :: .ref a :: r => if nv_isO σ ci v = true then match nv_wrq σ t a x v with
      | some σ' => some (.inl (n, ls, r, σ'))
      | none => none
    else none
  | _ => none
def nv_oinit (n : Nat) : nv_Op := fun ls st σ => match st with
  | .ref a :: r => if a < nv_off ∧ nv_room r = true then some (.inl (n, ls, r, σ)) else none
  | _ => none
-- what stands since before the start: rows and fields of constant objects, by tables
def nv_slen (a m n : Nat) : nv_Op := fun ls st σ => match st with
  | .ref b :: r => if b = a then some (.inl (n, ls, .int (Int32.ofNat m) :: r, σ)) else none
  | _ => none
/-- lengths of several rows: base address, how many, their lengths -/
def nv_slens (a : Nat) (ms : List Nat) (n : Nat) : nv_Op := fun ls st σ => match st with
  | .ref b :: r => if b < a then none else match ms[b - a]? with
    | some m => some (.inl (n, ls, .int (Int32.ofNat m) :: r, σ))
    | none => none
  | _ => none
def nv_sald (a : Nat) (vs : List Value) (n : Nat) : nv_Op := fun ls st σ => match st with
  | .int x :: .ref b :: r => if b = a ∧ ¬ x < 0 then match vs[x.toNatClampNeg]? with
      | some v => some (.inl (n, ls, v :: r, σ))
      | none => none
    else none
  | _ => none
def nv_salds (a : Nat) (vss : List (List Value)) (n : Nat) : nv_Op := fun ls st σ => match st with
  | .int x :: .ref b :: r => if b < a ∨ x < 0 then none else match vss[b - a]? with
    | some vs => match vs[x.toNatClampNeg]? with
      | some v => some (.inl (n, ls, v :: r, σ))
      | none => none
    | none => none
  | _ => none
def nv_sget (a : Nat) (vs : List Value) (n : Nat) : nv_Op := fun ls st σ => match st with
  | .ref b :: r => if b < a then none else match vs[b - a]? with
    | some v => some (.inl (n, ls, v :: r, σ))
    | none => none
  | _ => none
-- the script
def nv_scrA : Nat := 1000900
def nv_scl (n : Nat) : nv_Op := fun ls st σ => match st with
  | .ref b :: r => if b = nv_scrA then some (.inl (n, ls, .int (Int32.ofNat σ.2.2.2.2.1) :: r, σ)) else none
  | _ => none
def nv_sci (n : Nat) : nv_Op := fun ls st σ => match st with
  | .int x :: .ref b :: r => if b = nv_scrA ∧ ¬ x < 0 ∧ x.toNatClampNeg < σ.2.2.2.2.1 then some (.inl (n, ls, .int (σ.2.2.2.2.2 x.toNatClampNeg) :: r, σ)) else none
  | _ => none
-- library arithmetic
def nv_abs (n : Nat) : nv_Op := fun ls st σ => match st with
  | .int x :: r => if nv_room r = true then some (.inl (n, ls, .int (if 0 ≤ x then x else 0 - x) :: r, σ)) else none
  | _ => none
def nv_min (n : Nat) : nv_Op := fun ls st σ => match st with
  | .int y :: .int x :: r => if nv_room r = true then some (.inl (n, ls, .int (if y < x then y else x) :: r, σ)) else none
  | _ => none
def nv_max (n : Nat) : nv_Op := fun ls st σ => match st with
  | .int y :: .int x :: r => if nv_room r = true then some (.inl (n, ls, .int (if x < y then y else x) :: r, σ)) else none
  | _ => none
-- ends
def nv_retv : nv_Op := fun _ st _ => match st with
  | [] => some (.inr none)
  | _ => none
def nv_reti (ty : FieldType) : nv_Op := fun _ st _ => match st with
  | [.int x] => if narrow ty (.int x) = .int x then some (.inr (some (.int x))) else none
  | _ => none
def nv_reta : nv_Op := fun _ st _ => match st with
  | [.ref a] => some (.inr (some (.ref a)))
  | [.null] => some (.inr (some .null))
  | _ => none
def nv_retl : nv_Op := fun _ st _ => match st with
  | [.long x] => some (.inr (some (.long x)))
  | _ => none
def nv_retf : nv_Op := fun _ st _ => match st with
  | [.float x] => some (.inr (some (.float x)))
  | _ => none
def nv_retd : nv_Op := fun _ st _ => match st with
  | [.double x] => some (.inr (some (.double x)))
  | _ => none
/-! a run: code by method and pc; how many locals a method has; handlers by method, pc and name of what was thrown: where to go on, which local is lost -/
abbrev nv_P : Type := (Nat → List (Option nv_Ins)) × (Nat → Nat) × (Nat → Nat → String → Option (Nat × Nat))
def nv_init (mx : Nat) (as : List Value) : nv_Ls := as.map some ++ List.replicate (mx - as.length) none
/-- the receiver: 1000 a text that stands since before the start, 1001 a form, else an object of that kind -/
def nv_rcv (σ : nv_St) (as : List Value) (o : Option Nat) : Bool := match o with
  | none => true
  | some ci => match as with
    | .ref a :: _ => if ci = 1000 then decide (nv_off ≤ a ∧ a < 1000032) else if ci = 1001 then decide (1000200 ≤ a ∧ a < 1000208) else nv_isO σ ci a
    | _ => false
/-- the arguments are one word each and fit -/
def nv_args (mx : Nat) (as : List Value) : Bool := decide (as.length ≤ mx) && as.all (fun v => v.category == 1)
def nv_run (P : nv_P) : Nat → Nat → nv_Cfg → Option nv_Out
  | 0, _, _ => none
  | n + 1, y, (pc, ls, st, σ) => match (P.1 y)[pc]? with
    | some (some (.inl op)) => match op ls st σ with
      | some (.inl c) => nv_run P n y c
      | some (.inr v) => some (.inl v, σ)
      | none => none
    | some (some (.inr (.inl (y', k, nx, o)))) =>
      if k ≤ st.length ∧ nv_room (st.drop k) = true ∧ nv_args (P.2.1 y') (st.take k).reverse = true ∧ nv_rcv σ (st.take k).reverse o = true then
        match nv_run P n y' (0, nv_init (P.2.1 y') (st.take k).reverse, [], σ) with
        | some (.inl v, σ') => nv_run P n y (nx, ls, v.toList ++ st.drop k, σ')
        | some (.inr E, σ') => match P.2.2 y pc E with
          | some (t, i) => nv_run P n y (t, nv_lose ls i, [], σ')
          | none => some (.inr E, σ')
        | none => none
      else none
    | some (some (.inr (.inr E))) => if nv_room st = true then some (.inr E, nv_bump σ) else none
    | _ => none
theorem nv_run_mono (P : nv_P) : ∀ (n m y : Nat) (c : nv_Cfg) (o : nv_Out), n ≤ m → nv_run P n y c = some o → nv_run P m y c = some o := by
  intro n
  induction n with
  | zero => intro m y c o _ h; simp [nv_run] at h
  | succ n ih =>
    intro m y c o hm h
    obtain ⟨m, rfl⟩ : ∃ k, m = k + 1 := ⟨m - 1, by omega⟩
    obtain ⟨pc, ls, st, σ⟩ := c
    have hm' : n ≤ m := by omega
    simp only [nv_run] at h ⊢
    split at h
    · split at h
      · exact ih m _ _ _ hm' h
      · exact h
      · cases h
    · rename_i y' k nx oo heq
      split at h
      · rename_i hk
        rw [if_pos hk]
        split at h
        · rename_i v σ' hc
          rw [ih m _ _ _ hm' hc]
          exact ih m _ _ _ hm' h
        · rename_i E σ' hc
          rw [ih m _ _ _ hm' hc]
          simp only
          split at h
          · exact ih m _ _ _ hm' h
          · exact h
        · cases h
      · cases h
    · exact h
    · cases h
/-- what a run comes to, if to anything -/
noncomputable def nv_Run (P : nv_P) (y : Nat) (c : nv_Cfg) : Option nv_Out := @dite _ (∃ o, ∃ n, nv_run P n y c = some o) (Classical.propDecidable _) (fun h => some (Classical.choose h)) (fun _ => none)
theorem nv_Run_iff {P : nv_P} {y : Nat} {c : nv_Cfg} {o : nv_Out} : nv_Run P y c = some o ↔ ∃ n, nv_run P n y c = some o := by
  by_cases h : ∃ o, ∃ n, nv_run P n y c = some o
  · have e : nv_Run P y c = some (Classical.choose h) := by unfold nv_Run; exact dif_pos h
    obtain ⟨n, hn⟩ := Classical.choose_spec h
    rw [e]
    constructor
    · intro he
      exact ⟨n, hn.trans he⟩
    · rintro ⟨m, hm⟩
      have h1 := nv_run_mono P n (max n m) y c _ (by omega) hn
      have h2 := nv_run_mono P m (max n m) y c _ (by omega) hm
      exact h1.symm.trans h2
  · have e : nv_Run P y c = none := by unfold nv_Run; exact dif_neg h
    rw [e]
    constructor
    · intro he; cases he
    · rintro ⟨n, hn⟩
      exact absurd ⟨o, n, hn⟩ h
theorem nv_Run_ext {P : nv_P} {y y' : Nat} {c c' : nv_Cfg} (h : ∀ o, (∃ n, nv_run P n y c = some o) ↔ ∃ n, nv_run P n y' c' = some o) : nv_Run P y c = nv_Run P y' c' := by
  apply Option.ext
  intro o
  rw [nv_Run_iff, nv_Run_iff]
  exact h o
theorem nv_Run_op {P : nv_P} {y pc : Nat} {ls : nv_Ls} {st : List Value} {σ : nv_St} {op : nv_Op} {c : nv_Cfg} (h : (P.1 y)[pc]? = some (some (.inl op))) (h2 : op ls st σ = some (.inl c)) : nv_Run P y (pc, ls, st, σ) = nv_Run P y c := by
  apply nv_Run_ext
  intro o
  constructor
  · rintro ⟨n, hn⟩
    cases n with
    | zero => simp [nv_run] at hn
    | succ n =>
      simp only [nv_run, h, h2] at hn
      exact ⟨n, hn⟩
  · rintro ⟨n, hn⟩
    refine ⟨n + 1, ?_⟩
    simp only [nv_run, h, h2]
    exact hn
theorem nv_Run_br {P : nv_P} {y pc : Nat} {ls ls' : nv_Ls} {st st' : List Value} {σ σ' : nv_St} {op : nv_Op} {t n : Nat} {c : Prop} (d : Decidable c) (h : (P.1 y)[pc]? = some (some (.inl op))) (h2 : op ls st σ = some (.inl (@ite _ c d t n, ls', st', σ'))) : nv_Run P y (pc, ls, st, σ) = @ite _ c d (nv_Run P y (t, ls', st', σ')) (nv_Run P y (n, ls', st', σ')) := by
  rw [nv_Run_op h h2]
  split <;> rfl
theorem nv_Run_ret {P : nv_P} {y pc : Nat} {ls : nv_Ls} {st : List Value} {σ : nv_St} {op : nv_Op} {v : Option Value} (h : (P.1 y)[pc]? = some (some (.inl op))) (h2 : op ls st σ = some (.inr v)) : nv_Run P y (pc, ls, st, σ) = some (.inl v, σ) := by
  rw [nv_Run_iff]
  exact ⟨1, by simp only [nv_run, h, h2]⟩
theorem nv_Run_thr {P : nv_P} {y pc : Nat} {ls : nv_Ls} {st : List Value} {σ : nv_St} {E : String} (h : (P.1 y)[pc]? = some (some (.inr (.inr E)))) (hr : nv_room st = true) : nv_Run P y (pc, ls, st, σ) = some (.inr E, nv_bump σ) := by
  rw [nv_Run_iff]
  exact ⟨1, by simp only [nv_run, h, hr, if_true]⟩
/-- behind a call -/
noncomputable def nv_aft (P : nv_P) (y pc nx : Nat) (ls : nv_Ls) (rest : List Value) : Option nv_Out → Option nv_Out
  | some (.inl v, σ') => nv_Run P y (nx, ls, v.toList ++ rest, σ')
  | some (.inr E, σ') => match P.2.2 y pc E with
    | some (t, i) => nv_Run P y (t, nv_lose ls i, [], σ')
    | none => some (.inr E, σ')
  | none => none
theorem nv_Run_call {P : nv_P} {y pc : Nat} {ls : nv_Ls} {st : List Value} {σ : nv_St} {y' k nx : Nat} {o : Option Nat} (h : (P.1 y)[pc]? = some (some (.inr (.inl (y', k, nx, o))))) (hk : k ≤ st.length) (hm : nv_room (st.drop k) = true) (ha : nv_args (P.2.1 y') (st.take k).reverse = true) (hr : nv_rcv σ (st.take k).reverse o = true) :
    nv_Run P y (pc, ls, st, σ) = nv_aft P y pc nx ls (st.drop k) (nv_Run P y' (0, nv_init (P.2.1 y') (st.take k).reverse, [], σ)) := by
  have hc : k ≤ st.length ∧ nv_room (st.drop k) = true ∧ nv_args (P.2.1 y') (st.take k).reverse = true ∧ nv_rcv σ (st.take k).reverse o = true := ⟨hk, hm, ha, hr⟩
  apply Option.ext
  intro r
  rw [nv_Run_iff]
  constructor
  · rintro ⟨n, hn⟩
    cases n with
    | zero => simp [nv_run] at hn
    | succ n =>
      simp only [nv_run, h, if_pos hc] at hn
      split at hn
      · rename_i v σ' hq
        rw [nv_Run_iff.mpr ⟨n, hq⟩]
        exact nv_Run_iff.mpr ⟨n, hn⟩
      · rename_i E σ' hq
        rw [nv_Run_iff.mpr ⟨n, hq⟩]
        simp only [nv_aft]
        split at hn
        · exact nv_Run_iff.mpr ⟨n, hn⟩
        · exact hn
      · cases hn
  · intro hr'
    cases hq : nv_Run P y' (0, nv_init (P.2.1 y') (st.take k).reverse, [], σ) with
    | none => rw [hq] at hr'; simp [nv_aft] at hr'
    | some q =>
      rw [hq] at hr'
      obtain ⟨n, hn⟩ := nv_Run_iff.mp hq
      obtain ⟨v | E, σ'⟩ := q
      · simp only [nv_aft] at hr'
        obtain ⟨m, hm⟩ := nv_Run_iff.mp hr'
        refine ⟨max n m + 1, ?_⟩
        simp only [nv_run, h, if_pos hc]
        rw [nv_run_mono P n (max n m) _ _ _ (by omega) hn]
        exact nv_run_mono P m (max n m) _ _ _ (by omega) hm
      · simp only [nv_aft] at hr'
        cases ht : P.2.2 y pc E with
        | none =>
          rw [ht] at hr'
          refine ⟨n + 1, ?_⟩
          simp only [nv_run, h, if_pos hc]
          rw [hn]
          simp only [ht]
          exact hr'
        | some z =>
          obtain ⟨t, i⟩ := z
          rw [ht] at hr'
          obtain ⟨m, hm⟩ := nv_Run_iff.mp hr'
          refine ⟨max n m + 1, ?_⟩
          simp only [nv_run, h, if_pos hc]
          rw [nv_run_mono P n (max n m) _ _ _ (by omega) hn]
          simp only [ht]
          exact nv_run_mono P m (max n m) _ _ _ (by omega) hm
