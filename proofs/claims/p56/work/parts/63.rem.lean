/-! THE PURE PART, 33: bits of an act; remainders. (nx_and, nx_mod, nx_mask are the kit's starting texts.) -/
theorem nx_and (a b : Nat) : nI a &&& nI b = nI (a &&& b) := by
  apply Int32.toBitVec_inj.1
  show BitVec.ofNat 32 a &&& BitVec.ofNat 32 b = BitVec.ofNat 32 (a &&& b)
  apply BitVec.eq_of_getLsbD_eq
  intro i hi
  simp [hi]
theorem nx_mod (k : Nat) : nI k &&& 65535 = nI (k % 65536) := by
  show nI k &&& nI 65535 = _
  rw [nx_and, show (65535 : Nat) = 2 ^ 16 - 1 from rfl, Nat.and_two_pow_sub_one_eq_mod]
theorem nx_mask (x : Int32) : ∃ k, k < 65536 ∧ x &&& 65535 = nI k := by
  have e : x = nI x.toBitVec.toNat := by
    apply Int32.toBitVec_inj.1
    show x.toBitVec = BitVec.ofNat 32 x.toBitVec.toNat
    simp
  refine ⟨x.toBitVec.toNat % 65536, Nat.mod_lt _ (by omega), ?_⟩
  rw [← nx_mod, ← e]
theorem nI_div {k m : Nat} (hk : k < 65536) (hm : 0 < m) (hm2 : m < 65536) : nI k / nI m = nI (k / m) := by
  have hd : k / m ≤ k := Nat.div_le_self _ _
  apply Int32.toInt.inj
  rw [Int32.toInt_div, nI_toInt (by omega), nI_toInt (by omega), nI_toInt (by omega)]
  have e : ((k : Int).tdiv (m : Int)) = ((k / m : Nat) : Int) := rfl
  rw [e]
  generalize k / m = d at hd
  have e1 : (d : Int) % ((2 ^ 32 : Nat) : Int) = d := Int.emod_eq_of_lt (by omega) (by omega)
  rw [Int.bmod_def, e1, if_pos (by omega)]
theorem nI_mul (a b : Nat) : nI a * nI b = nI (a * b) := by
  apply Int32.toBitVec_inj.1
  show BitVec.ofNat 32 a * BitVec.ofNat 32 b = BitVec.ofNat 32 (a * b)
  exact (BitVec.ofNat_mul a b).symm
theorem nI_mod {k m : Nat} (hk : k < 65536) (hm : 0 < m) (hm2 : m < 65536) : nI k - nI k / nI m * nI m = nI (k % m) := by
  have h1 := Nat.div_add_mod k m
  have h2 : k / m * m = m * (k / m) := Nat.mul_comm _ _
  have h3 : k / m * m ≤ k := Nat.div_mul_le_self _ _
  rw [nI_div hk hm hm2, nI_mul, nI_sub h3]
  congr 1
  omega
theorem np_sw_mem {lo : Int} {ts : List Nat} {d : Nat} {x : Int32} : np_sw lo ts d x = d ∨ np_sw lo ts d x ∈ ts := by
  unfold np_sw
  split
  · exact Or.inl rfl
  · cases h : ts[(x.toInt - lo).toNat]? with
    | none => exact Or.inl rfl
    | some v => exact Or.inr (List.mem_of_getElem? h)
