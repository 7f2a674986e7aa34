/-! THE PURE PART, 32: each of the law's texts is a text of commands. -/
def rq_R (n : Nat) (C D : Nat → Nat → Int32) : Prop := ∀ i, i < n → C 180 i = D 180 i
def rq_E (n : Nat) (x y : rd_T) : Prop := x.1 = y.1 ∧ x.2.1 = y.2.1 ∧ x.2.2.1 = y.2.2.1 ∧ rq_R n x.2.2.2 y.2.2.2
section
variable {n : Nat} {C D : Nat → Nat → Int32}
theorem isa_R (h : rq_R n C D) {i : Nat} {c : Int32} : sp_isa C n i c = sp_isa D n i c := by
  unfold sp_isa
  by_cases hi : i < n
  · rw [h i hi]
  · simp [hi]
theorem dig_R (h : rq_R n C D) {i : Nat} : sp_dig C n i = sp_dig D n i := by
  unfold sp_dig
  by_cases hi : i < n
  · rw [h i hi]
  · simp [hi]
theorem dn_R (h : rq_R n C D) {m e : Nat} : rd_dn C n m e = rd_dn D n m e := by
  unfold rd_dn
  rw [dig_R h, dig_R h]
theorem uC_R (h : rq_R n C D) {q : Nat} {v w : Int32} : rq_R n (np_uC C 181 q v) (np_uC D 181 q w) := fun i hi => by
  have e1 : np_uC C 181 q v 180 i = C 180 i := if_neg (by omega)
  have e2 : np_uC D 181 q w 180 i = D 180 i := if_neg (by omega)
  rw [e1, e2, h i hi]
theorem num_z {m e q : Nat} (h : rd_dn C n m e = 0) : rd_num C n m e q = (false, e, q, C) := by
  unfold rd_num
  exact if_pos h
theorem num_s {m e q : Nat} (h : ¬ rd_dn C n m e = 0) (h5 : q < 5) : rd_num C n m e q = (true, e + rd_dn C n m e, q + 1, np_uC C 181 q (rd_v C n m e)) := by
  unfold rd_num
  rw [if_neg h]
  exact if_pos h5
theorem num_f {m e q : Nat} (h : ¬ rd_dn C n m e = 0) (h5 : ¬ q < 5) : rd_num C n m e q = (false, e + rd_dn C n m e, q, C) := by
  unfold rd_num
  rw [if_neg h]
  exact if_neg h5
theorem E_mk {a b : Bool} {e e' q q' : Nat} (h1 : a = b) (h2 : e = e') (h3 : q = q') (h : rq_R n C D) : rq_E n (a, e, q, C) (b, e', q', D) := ⟨h1, h2, h3, h⟩
theorem num_R (h : rq_R n C D) {m e q : Nat} : rq_E n (rd_num C n m e q) (rd_num D n m e q) := by
  have ed : rd_dn C n m e = rd_dn D n m e := dn_R h
  by_cases h0 : rd_dn C n m e = 0
  · rw [num_z h0, num_z (ed ▸ h0)]
    exact E_mk rfl rfl rfl h
  · have h0' : ¬ rd_dn D n m e = 0 := fun z => h0 (ed.trans z)
    by_cases h5 : q < 5
    · rw [num_s h0 h5, num_s h0' h5]
      exact E_mk rfl (congrArg (fun z => e + z) ed) rfl (uC_R h)
    · rw [num_f h0 h5, num_f h0' h5]
      exact E_mk rfl (congrArg (fun z => e + z) ed) rfl h
theorem sgn_R (h : rq_R n C D) {c : Int32} {e q : Nat} : rq_E n (rd_sgn C n c e q) (rd_sgn D n c e q) := by
  unfold rd_sgn
  rw [isa_R h]
  split
  · exact num_R h
  · split
    · exact num_R h
    · split
      · exact ⟨rfl, rfl, rfl, h⟩
      · exact ⟨rfl, rfl, rfl, h⟩
end
theorem mt_R {n t : Nat} : ∀ (cnt i : Nat) (C D : Nat → Nat → Int32) (e q : Nat), rq_R n C D → rq_E n (rd_mt C n t i cnt e q) (rd_mt D n t i cnt e q)
  | 0, i, C, D, e, q, h => ⟨rfl, rfl, rfl, h⟩
  | cnt + 1, i, C, D, e, q, h => by
    obtain ⟨h1, h2, h3, h4⟩ := sgn_R h (c := tx_ch t i) (e := e) (q := q)
    unfold rd_mt
    rw [h1, h2, h3]
    split
    · exact mt_R cnt (i + 1) _ _ _ _ h4
    · exact ⟨h1, h2, h3, h4⟩
theorem cmd_R {n p fm gm : Nat} : ∀ (cnt i : Nat) (far e q e' q' : Nat) (C D : Nat → Nat → Int32), rq_R n C D → (rd_cmd n p fm i cnt far e q C).1 = (rd_cmd n p gm i cnt far e' q' D).1 ∧ (rd_cmd n p fm i cnt far e q C).2.1 = (rd_cmd n p gm i cnt far e' q' D).2.1 ∧ rq_R n (rd_cmd n p fm i cnt far e q C).2.2.2.2.2 (rd_cmd n p gm i cnt far e' q' D).2.2.2.2.2
  | 0, i, far, e, q, e', q', C, D, h => ⟨rfl, rfl, h⟩
  | cnt + 1, i, far, e, q, e', q', C, D, h => by
    obtain ⟨h1, h2, h3, h4⟩ := mt_R (n := n) (t := 24 + i) (tx_len (24 + i)) 0 C D p 0 h
    unfold rd_cmd
    rw [h1]
    split
    · exact ⟨rfl, h2, h4⟩
    · rw [h2]
      exact cmd_R cnt (i + 1) _ _ _ _ _ _ _ h4
theorem cnt_R {n : Nat} : ∀ (m c p e q fm e' q' gm : Nat) (C D : Nat → Nat → Int32), rq_R n C D → (rd_cnt n m c p e q fm C).1 = (rd_cnt n m c p e' q' gm D).1
  | 0, c, p, e, q, fm, e', q', gm, C, D, h => rfl
  | m + 1, c, p, e, q, fm, e', q', gm, C, D, h => by
    obtain ⟨h1, h2, h3⟩ := cmd_R (n := n) (p := p) (fm := fm) (gm := gm) 8 0 p e q e' q' C D h
    unfold rd_cnt
    rw [h1, h2, isa_R h3]
    split
    · split
      · rfl
      · split
        · exact cnt_R m (c + 1) _ _ _ _ _ _ _ _ _ h3
        · rfl
    · rfl
theorem wr_at {t : Nat} : ∀ (cnt i n : Nat) (C : Nat → Nat → Int32) (x : Nat), rd_wr C t n i cnt 180 x = if n ≤ x ∧ x < n + cnt then tx_ch t (i + (x - n)) else C 180 x
  | 0, i, n, C, x => by
    rw [if_neg (by omega)]
    rfl
  | cnt + 1, i, n, C, x => by
    have := wr_at (t := t) cnt (i + 1) (n + 1) (np_uC C 180 n (tx_ch t i)) x
    show rd_wr (np_uC C 180 n (tx_ch t i)) t (n + 1) (i + 1) cnt 180 x = _
    rw [this]
    by_cases h1 : n + 1 ≤ x ∧ x < n + 1 + cnt
    · rw [if_pos h1, if_pos (by omega), show i + 1 + (x - (n + 1)) = i + (x - n) by omega]
    · rw [if_neg h1]
      by_cases h2 : x = n
      · subst h2
        rw [if_pos (by omega), Nat.sub_self]
        exact if_pos ⟨rfl, rfl⟩
      · rw [if_neg (by omega)]
        exact if_neg (fun q => h2 q.2)
def tx_D (t : Nat) : Nat → Nat → Int32 := fun a i => if a = 180 then tx_ch t i else 0
