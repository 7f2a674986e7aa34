/-! THE PURE PART, 30: a text carried out. -/
theorem rd_dn_n {C : Nat → Nat → Int32} {n m e : Nat} (h : e ≤ n) : e + rd_dn C n m e ≤ n := by
  unfold rd_dn
  by_cases h1 : sp_dig C n e = true
  · rw [if_pos h1]
    have l1 : e < n := by
      unfold sp_dig at h1
      simp only [Bool.and_eq_true, decide_eq_true_eq] at h1
      exact h1.1
    split
    · by_cases h2 : sp_dig C n (e + 1) = true
      · rw [if_pos h2]
        unfold sp_dig at h2
        simp only [Bool.and_eq_true, decide_eq_true_eq] at h2
        have := h2.1
        omega
      · rw [if_neg h2]; omega
    · omega
  · rw [if_neg h1]; omega
theorem rd_num_n {C : Nat → Nat → Int32} {n m e q : Nat} (h : e ≤ n) : (rd_num C n m e q).2.1 ≤ n := by
  have := rd_dn_n (C := C) (m := m) h
  unfold rd_num
  split
  · exact h
  · split
    · exact this
    · exact this
theorem rd_sgn_n {C : Nat → Nat → Int32} {n e q : Nat} {c : Int32} (h : e ≤ n) : (rd_sgn C n c e q).2.1 ≤ n := by
  unfold rd_sgn
  split
  · exact rd_num_n h
  · split
    · exact rd_num_n h
    · split
      · rename_i h2
        unfold sp_isa at h2
        simp only [Bool.and_eq_true, decide_eq_true_eq] at h2
        show e + 1 ≤ n
        omega
      · exact h
theorem rd_mt_n {n t : Nat} : ∀ (cnt i : Nat) (C : Nat → Nat → Int32) (e q : Nat), e ≤ n → (rd_mt C n t i cnt e q).2.1 ≤ n
  | 0, i, C, e, q, h => h
  | cnt + 1, i, C, e, q, h => by
    have h1 := rd_sgn_n (C := C) (c := tx_ch t i) (q := q) h
    unfold rd_mt
    split
    · exact rd_mt_n cnt (i + 1) _ _ _ h1
    · exact h1
theorem rd_cmd_n {n p fm : Nat} (hp : p ≤ n) : ∀ (cnt i : Nat) (far e q : Nat) (C : Nat → Nat → Int32), far ≤ n → (rd_cmd n p fm i cnt far e q C).2.1 ≤ n
  | 0, i, far, e, q, C, hf => hf
  | cnt + 1, i, far, e, q, C, hf => by
    have hb : (rd_pat C n p i).2.1 ≤ n := rd_mt_n (tx_len (24 + i)) 0 C p 0 hp
    unfold rd_cmd
    split
    · exact hb
    · exact rd_cmd_n hp cnt (i + 1) _ _ _ _ (by omega)
theorem rd_cmd_f {n p fm : Nat} (hf : fm < 8) : ∀ (cnt i : Nat), i + cnt = 8 → ∀ (far e q : Nat) (C : Nat → Nat → Int32), q ≤ 100 → (rd_cmd n p fm i cnt far e q C).2.2.1 < 8 ∧ (rd_cmd n p fm i cnt far e q C).2.2.2.2.1 ≤ 100
  | 0, i, h, far, e, q, C, hq => ⟨hf, hq⟩
  | cnt + 1, i, h, far, e, q, C, hq => by
    have hl := (tx_l (24 + i) (by omega)).2
    have hb : (rd_pat C n p i).2.2.1 ≤ 0 + tx_len (24 + i) := (rd_mt_le (n := n) (t := 24 + i) (tx_len (24 + i)) 0 C p 0).2
    unfold rd_cmd
    split
    · exact ⟨by show i < 8; omega, by show (rd_pat C n p i).2.2.1 ≤ 100; omega⟩
    · exact rd_cmd_f hf cnt (i + 1) (by omega) _ _ _ _ (by omega)
theorem rd_cmd_q {n p fm : Nat} : ∀ (cnt i : Nat), i + (cnt + 1) = 8 → ∀ (far e q : Nat) (C : Nat → Nat → Int32), (rd_cmd n p fm i (cnt + 1) far e q C).2.2.2.2.1 ≤ 100
  | 0, i, h, far, e, q, C => by
    have hl := (tx_l (24 + i) (by omega)).2
    have hb : (rd_pat C n p i).2.2.1 ≤ 0 + tx_len (24 + i) := (rd_mt_le (n := n) (t := 24 + i) (tx_len (24 + i)) 0 C p 0).2
    unfold rd_cmd
    split
    · show (rd_pat C n p i).2.2.1 ≤ 100
      omega
    · show (rd_pat C n p i).2.2.1 ≤ 100
      omega
  | cnt + 1, i, h, far, e, q, C => by
    have hl := (tx_l (24 + i) (by omega)).2
    have hb : (rd_pat C n p i).2.2.1 ≤ 0 + tx_len (24 + i) := (rd_mt_le (n := n) (t := 24 + i) (tx_len (24 + i)) 0 C p 0).2
    unfold rd_cmd
    split
    · show (rd_pat C n p i).2.2.1 ≤ 100
      omega
    · exact rd_cmd_q cnt (i + 1) (by omega) _ _ _ _
theorem rd_cmd_fm {n p fm : Nat} (hf : fm < 8) : ∀ (cnt i : Nat), i + cnt = 8 → ∀ (far e q : Nat) (C : Nat → Nat → Int32), (rd_cmd n p fm i cnt far e q C).2.2.1 < 8
  | 0, i, h, far, e, q, C => hf
  | cnt + 1, i, h, far, e, q, C => by
    unfold rd_cmd
    split
    · show i < 8; omega
    · exact rd_cmd_fm hf cnt (i + 1) (by omega) _ _ _ _
theorem rd_cnt_v {n : Nat} : ∀ (m c p e q fm : Nat) (C : Nat → Nat → Int32), fm < 8 → ((rd_cnt n m c p e q fm C).1 = -1 ∨ ∃ i, c ≤ i ∧ i < c + m ∧ (rd_cnt n m c p e q fm C).1 = nI i) ∧ (rd_cnt n m c p e q fm C).2.2.1 < 8
  | 0, c, p, e, q, fm, C, hf => ⟨Or.inl rfl, hf⟩
  | m + 1, c, p, e, q, fm, C, hf => by
    have h8 : (rd_one C n p e q fm).2.2.1 < 8 := rd_cmd_fm hf 8 0 rfl _ _ _ _
    unfold rd_cnt
    split
    · split
      · exact ⟨Or.inr ⟨c, Nat.le_refl _, by omega, rfl⟩, h8⟩
      · split
        · obtain ⟨h1, h2⟩ := rd_cnt_v (n := n) m (c + 1) ((rd_one C n p e q fm).2.1 + 1) (rd_one C n p e q fm).2.2.2.1 (rd_one C n p e q fm).2.2.2.2.1 (rd_one C n p e q fm).2.2.1 (rd_one C n p e q fm).2.2.2.2.2 h8
          refine ⟨?_, h2⟩
          rcases h1 with h1 | ⟨i, a, b, d⟩
          · exact Or.inl h1
          · exact Or.inr ⟨i, by omega, by omega, d⟩
        · exact ⟨Or.inl rfl, h8⟩
    · exact ⟨Or.inl rfl, h8⟩
section
variable {F : Nat → Nat → Int32} {L : Nat → Int64} {C : Nat → Nat → Int32} {fm k : Nat} {scr : nv_Scr} {n p e q : Nat}
theorem GI_rF (h : GI F) : GI (np_rF F n p e q) := GI_same (fun a j u => by
  have := np_us_lt u
  exact (np_rF_o (by omega)).symm) h
theorem rF_id {G : Nat → Nat → Int32} (h : np_loc (np_rF F n p e q) G) : G = np_rF G n p e q := by
  funext a j
  unfold np_rF
  by_cases ha : a = 179
  · subst ha
    have e0 := h 179 j (by omega)
    rw [e0]
    unfold np_rF
    simp
    split
    · rfl
    · split
      · rfl
      · split
        · rfl
        · split
          · rfl
          · rfl
  · simp [ha]
theorem kr_rF {x : Int32} : np_krF (np_rF F n p e q) x = np_rF (np_krF F x) n p e q := by
  unfold np_krF
  split
  · funext a j
    by_cases ha : a = 179
    · subst ha
      rw [np_u_a (by decide)]
      unfold np_rF
      simp [np_u]
    · rw [np_rF_o ha]
      unfold np_u
      split
      · rfl
      · exact np_rF_o ha
  · rfl
theorem u0_rF {j : Nat} {v : Int32} : np_u (np_rF F n p e q) 0 j v = np_rF (np_u F 0 j v) n p e q := by
  funext a i
  by_cases ha : a = 179
  · subst ha
    rw [np_u_a (by decide)]
    unfold np_rF
    simp [np_u]
  · rw [np_rF_o ha]
    unfold np_u
    split
    · rfl
    · exact np_rF_o ha
theorem cp_rF {b c : Nat} (hb : b + 16 ≤ 179) (hc : c + 16 ≤ 179) : np_cp (np_rF F n p e q) b c = np_rF (np_cp F b c) n p e q := by
  funext a i
  by_cases ha : a = 179
  · subst ha
    rw [np_cp_o (by omega)]
    unfold np_rF
    simp
    have : np_cp F b c 179 i = F 179 i := np_cp_o (by omega)
    rw [this]
  · rw [np_rF_o ha]
    unfold np_cp
    split
    · rename_i h
      exact np_rF_o (by omega)
    · exact np_rF_o ha
/-- one command carried out -/
theorem c126 (hf : fm < 8) (hq : q < 1000) (h : GI F) : ∃ r F' L', np_X 126 0 [some (.ref 0), some (.ref 179), none, none, none] [] (np_S (np_rF F n p e q) L C fm k scr) = np_o r (np_S F' L' C fm k scr) ∧ op_res (np_rF F n p e q) L r F' L' := by
  have g := GI_rF (n := n) (p := p) (e := e) (q := q) h
  have hc : fm = 0 ∨ fm = 1 ∨ fm = 2 ∨ fm = 3 ∨ fm = 4 ∨ fm = 5 ∨ fm = 6 ∨ fm = 7 := by omega
  rcases hc with rfl | rfl | rfl | rfl | rfl | rfl | rfl | rfl
  · obtain ⟨r, F', e1, e2⟩ := op44 (L := L) (C := C) (fm := 0) (k := k) (scr := scr) g
    exact ⟨r, F', L, m126_0 hq e1, e2⟩
  · obtain ⟨r, F', e1, e2⟩ := op45 (L := L) (C := C) (fm := 1) (k := k) (scr := scr) g
    refine ⟨r, F', L, m126_1 hq e1, ?_⟩
    rcases e2 with ⟨a, b⟩ | ⟨a, b, c⟩
    · exact Or.inl ⟨by rw [a]; simp [np_bad], b, rfl⟩
    · exact Or.inr ⟨a, b, c, fun _ _ => rfl⟩
  · obtain ⟨r, F', e1, e2⟩ := op47 (L := L) (C := C) (fm := 2) (k := k) (scr := scr) g
    exact ⟨r, F', L, m126_2 hq e1, e2⟩
  · obtain ⟨r, F', L', e1, e2⟩ := op48 (L := L) (C := C) (fm := 3) (k := k) (scr := scr) (z := false) g
    exact ⟨r, F', L', m126_3 hq e1, e2⟩
  · obtain ⟨r, F', L', e1, e2⟩ := op48 (L := L) (C := C) (fm := 4) (k := k) (scr := scr) (z := true) g
    exact ⟨r, F', L', m126_4 hq e1, e2⟩
  · obtain ⟨r, F', e1, e2⟩ := op52 (L := L) (C := C) (fm := 5) (k := k) (scr := scr) g
    exact ⟨r, F', L, m126_5 hq e1, e2⟩
  · obtain ⟨r, F', e1, e2⟩ := op54 (L := L) (C := C) (fm := 6) (k := k) (scr := scr) g
    exact ⟨r, F', L, m126_6 hq e1, e2⟩
  · obtain ⟨r, F', e1, e2⟩ := op46 (L := L) (C := C) (fm := 7) (k := k) (scr := scr) g
    refine ⟨r, F', L, m126_7 hq e1, ?_⟩
    rcases e2 with ⟨a, b⟩ | ⟨a, b, c⟩
    · exact Or.inl ⟨by rw [a]; simp [np_bad], b, rfl⟩
    · exact Or.inr ⟨a, b, c, fun _ _ => rfl⟩
/-- what a text may have changed -/
def RES (F : Nat → Nat → Int32) (L : Nat → Int64) (F' : Nat → Nat → Int32) (L' : Nat → Int64) : Prop := GI F' ∧ (∀ a i, (a = 0 ∧ ¬ i = 8) ∨ 17 ≤ a → ¬ a = 179 → F' a i = F a i) ∧ ∀ b, ¬ b = 1 → L' b = L b
end
section
variable {scr : nv_Scr} {n k : Nat}
theorem np_m1 : ((-1 : Int32) < 0) := by decide
theorem l125 (hn : n ≤ 60) {c : Nat} (hc : c ≤ 60) : ∀ (m i : Nat), i + m = c → ∀ (F : Nat → Nat → Int32) (L : Nat → Int64) (C : Nat → Nat → Int32) (fm p e q : Nat) (l3 : Option Value), p ≤ n → fm < 8 → GI F → (l3 = none ∨ ∃ z, l3 = some (.int z)) → ∃ r F' L' p' e' q' C' fm', np_X 125 9 [some (.ref 0), some (.int (nI c)), some (.int (nI i)), l3] [] (np_S (np_rF F n p e q) L C fm k scr) = np_o r (np_S (np_rF F' n p' e' q') L' C' fm' k scr) ∧ fm' < 8 ∧ RES F L F' L' ∧ (r = -1 ∨ ∃ z, z < 60 ∧ r = nI z)
  | 0, i, h, F, L, C, fm, p, e, q, l3, hp, hf, g, h3 => by
    obtain rfl : i = c := by omega
    refine ⟨-1, F, L, p, e, q, C, fm, ?_, hf, ⟨g, fun _ _ _ _ => rfl, fun _ _ => rfl⟩, Or.inl rfl⟩
    rw [e125_9]
    simp only [e125_0, e125_0u, e125_1, e125_4, e125_7, e125_8n, e125_8i, e125_8r, e125_8v, e125_10, e125_11, e125_14, e125_14u, e125_15, e125_18, e125_21, e125_21i, e125_22, e125_22u, e125_23, e125_23u, e125_24, e125_27, e125_30n, e125_30i, e125_30r, e125_30v, e125_31, e125_32, e125_35, e125_35u, e125_36, e125_37, e125_40, e125_41, e125_42, e125_42u, e125_43, e125_46, e125_49, e125_49i, e125_50n, e125_50i, e125_50r, e125_50v, e125_53, e125_56, e125_57, np_nltn (show ¬ i < i by omega) (show i < 1000 by omega), if_false, np_ni]
  | m + 1, i, h, F, L, C, fm, p, e, q, l3, hp, hf, g, h3 => by
    have hi : i < c := by omega
    have h18 : np_X 18 0 [some (.ref 179), none, none, none, none, none] [] (np_S (np_rF F n p e q) L C fm k scr) = rd_co F L k scr n (rd_one C n p e q fm) := m18 hn (by omega)
    have b1 : (rd_one C n p e q fm).2.1 ≤ n := rd_cmd_n hp 8 0 p e q C hp
    have b2 : (rd_one C n p e q fm).2.2.1 < 8 := rd_cmd_fm hf 8 0 rfl _ _ _ _
    have b3 : (rd_one C n p e q fm).2.2.2.2.1 ≤ 100 := rd_cmd_q 7 0 rfl _ _ _ _
    generalize rd_one C n p e q fm = r at h18 b1 b2 b3
    obtain ⟨b, p1, f1, e1, q1, C1⟩ := r
    dsimp only at h18 b1 b2 b3
    obtain ⟨x, F1, L1, ex, res⟩ := c126 (F := F) (L := L) (C := C1) (fm := f1) (k := k) (scr := scr) (n := n) (p := p1) (e := e1) (q := q1) b2 (by omega) g
    rcases res with ⟨ra, rb, rc⟩ | ⟨ra, rb, rc, rd⟩
    · subst rb; subst rc
      have hx : x < 0 := by
        unfold np_bad at ra
        rcases ra with h | h | h | h | h | h | h | h | h | h <;> subst h <;> decide
      refine ⟨nI i, np_krF F x, L1, p1, e1, q1, C1, f1, ?_, b2, ⟨?_, ?_, fun _ _ => rfl⟩, Or.inr ⟨i, by omega, rfl⟩⟩
      · have e124 := m124 (F := np_rF F n p1 e1 q1) (L := L1) (C := C1) (fm := f1) (k := k) (scr := scr) (x := x)
        rw [kr_rF] at e124
        rw [e125_9]
        rcases h3 with rfl | ⟨z, rfl⟩ <;>
        simp only [e125_0, e125_0u, e125_1, e125_4, e125_7, e125_8n, e125_8i, e125_8r, e125_8v, e125_10, e125_11, e125_14, e125_14u, e125_15, e125_18, e125_21, e125_21i, e125_22, e125_22u, e125_23, e125_23u, e125_24, e125_27, e125_30n, e125_30i, e125_30r, e125_30v, e125_31, e125_32, e125_35, e125_35u, e125_36, e125_37, e125_40, e125_41, e125_42, e125_42u, e125_43, e125_46, e125_49, e125_49i, e125_50n, e125_50i, e125_50r, e125_50v, e125_53, e125_56, e125_57, np_ltn hi (show c < 1000 by omega), if_true, fldN4, np_b_s, isoC, isoN, np_len0, h18, np_aft_v, ex, hx, e124, np_aft_u, np_ni]
      · exact GI_same same_kr g
      · intro a j ha _
        unfold np_krF
        split
        · exact np_u_ne (by omega)
        · rfl
    · have eF := rF_id rb
      have hs := m17 (F := F1) (L := L1) (C := C1) (fm := f1) (k := k) (scr := scr) (n := n) (p := p1) (e := e1) (q := q1) hn (by omega)
      rw [← eF] at hs
      have step : ∃ p2 z, p2 ≤ n ∧ np_X 17 0 [some (.ref 179)] [] (np_S F1 L1 C1 f1 k scr) = np_o z (np_S (np_rF F1 n p2 e1 q1) L1 C1 f1 k scr) := by
        cases hsp : sp_isa C1 n p1 59 with
        | true =>
          rw [hsp, if_pos rfl] at hs
          refine ⟨p1 + 1, 1, ?_, hs⟩
          unfold sp_isa at hsp
          simp only [Bool.and_eq_true, decide_eq_true_eq] at hsp
          omega
        | false =>
          rw [hsp, if_neg (by decide)] at hs
          refine ⟨p1, 0, b1, ?_⟩
          rw [← eF]
          exact hs
      obtain ⟨p2, z, hp2, e17⟩ := step
      obtain ⟨r, F', L', p', e', q', C', fm', ih1, ih2, ih3, ih4⟩ := l125 hn hc m (i + 1) (by omega) F1 L1 C1 f1 p2 e1 q1 (some (.int x)) hp2 b2 rc (Or.inr ⟨_, rfl⟩)
      refine ⟨r, F', L', p', e', q', C', fm', ?_, ih2, ⟨ih3.1, ?_, ?_⟩, ih4⟩
      · rw [← ih1, e125_9]
        rcases h3 with rfl | ⟨z, rfl⟩ <;>
        simp only [e125_0, e125_0u, e125_1, e125_4, e125_7, e125_8n, e125_8i, e125_8r, e125_8v, e125_10, e125_11, e125_14, e125_14u, e125_15, e125_18, e125_21, e125_21i, e125_22, e125_22u, e125_23, e125_23u, e125_24, e125_27, e125_30n, e125_30i, e125_30r, e125_30v, e125_31, e125_32, e125_35, e125_35u, e125_36, e125_37, e125_40, e125_41, e125_42, e125_42u, e125_43, e125_46, e125_49, e125_49i, e125_50n, e125_50i, e125_50r, e125_50v, e125_53, e125_56, e125_57, np_ltn hi (show c < 1000 by omega), if_true, fldN4, np_b_s, isoC, isoN, np_len0, h18, np_aft_v, ex, ra, if_false, e17, nI_1]
      · intro a j ha h9
        rw [ih3.2.1 a j ha h9, rb a j (by omega), np_rF_o h9]
      · intro b hb
        rw [ih3.2.2 b hb, rd b hb]
theorem m125 (hn : n ≤ 60) {c : Nat} (hc : c ≤ 60) {F : Nat → Nat → Int32} {L : Nat → Int64} {C : Nat → Nat → Int32} {fm p e q : Nat} (hf : fm < 8) (g : GI F) : ∃ r F' L' p' e' q' C' fm', np_X 125 0 [some (.ref 0), some (.int (nI c)), none, none] [] (np_S (np_rF F n p e q) L C fm k scr) = np_o r (np_S (np_rF F' n p' e' q') L' C' fm' k scr) ∧ fm' < 8 ∧ RES F L F' L' ∧ (r = -1 ∨ ∃ z, z < 60 ∧ r = nI z) := by
  obtain ⟨r, F', L', p', e', q', C', fm', ih1, ih2⟩ := l125 (k := k) (scr := scr) hn hc c 0 (by omega) F L C fm 0 e q none (by omega) hf g (Or.inl rfl)
  refine ⟨r, F', L', p', e', q', C', fm', ?_, ih2⟩
  rw [nI_0] at ih1
  rw [← ih1]
  simp only [e125_0, e125_0u, e125_1, e125_4, e125_7, e125_8n, e125_8i, e125_8r, e125_8v, e125_10, e125_11, e125_14, e125_14u, e125_15, e125_18, e125_21, e125_21i, e125_22, e125_22u, e125_23, e125_23u, e125_24, e125_27, e125_30n, e125_30i, e125_30r, e125_30v, e125_31, e125_32, e125_35, e125_35u, e125_36, e125_37, e125_40, e125_41, e125_42, e125_42u, e125_43, e125_46, e125_49, e125_49i, e125_50n, e125_50i, e125_50r, e125_50v, e125_53, e125_56, e125_57, fldN4, np_b_s, isoC, np_len0, m15, np_aft_u]
end
