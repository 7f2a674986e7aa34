/-! THE PURE PART, 2: the state behind the constructor. F: whole-number fields by address and place; L: the cells sailed, by game; C: rows of numbers by address; fm: the form that was read last. -/
def np_u (F : Nat → Nat → Int32) (a k : Nat) (v : Int32) : Nat → Nat → Int32 := fun b j => if b = a ∧ j = k then v else F b j
def np_uL (L : Nat → Int64) (a : Nat) (v : Int64) : Nat → Int64 := fun b => if b = a then v else L b
def np_gc (F : Nat → Nat → Int32) (L : Nat → Int64) (b r : Nat) : nv_Ob :=
  if r = 0 then .inr (2, [.ref (b + 1), .ref (b + 2), .ref (b + 3), .int (F b 3), .int (F b 4), .int (F b 5), .int (F b 6), .int (F b 7), .int (F b 8), .int (F b 9), .long (L b), .int (F b 11)])
  else if r = 1 then .inl (2, 12, .inr (fun i => if i < 12 then some (b + 4 + i) else none))
  else if r < 4 then .inr (0, [.int (F (b + r) 0), .int (F (b + r) 1), .int (F (b + r) 2), .int (F (b + r) 3), .int (F (b + r) 4), .int (F (b + r) 5), .int (F (b + r) 6), .int (F (b + r) 7)])
  else .inr (4, [.int (F (b + r) 0), .int (F (b + r) 1), .int (F (b + r) 2), .int (F (b + r) 3), .int (F (b + r) 4), .int (F (b + r) 5), .int (F (b + r) 6), .int (F (b + r) 7), .int (F (b + r) 8)])
def np_h (F : Nat → Nat → Int32) (L : Nat → Int64) (C : Nat → Nat → Int32) (fm : Nat) (a : Nat) : Option nv_Ob :=
  if a = 0 then some (.inr (5, [.ref 1, .ref 17, .ref 33, .ref 49, .ref 179, .ref 182, .int (F 0 6), .int (F 0 7), .int (F 0 8), .int (F 0 9), .int (F 0 10)]))
  else if a = 49 then some (.inr (3, [.ref 50, .int (F 49 1), .int (F 49 2)]))
  else if a = 50 then some (.inl (3, 8, .inr (fun i => if i < 8 then some (51 + 16 * i) else none)))
  else if a = 179 then some (.inr (1, [.ref 180, .ref 181, .int (F 179 2), .int (F 179 3), .int (F 179 4), .int (F 179 5), .ref (1000200 + fm)]))
  else if a = 180 then some (.inl (0, 60, .inl (C 180)))
  else if a = 181 then some (.inl (1, 5, .inl (C 181)))
  else if a = 182 then some (.inl (0, 10, .inl (C 182)))
  else if a < 49 then some (np_gc F L ((a - 1) / 16 * 16 + 1) ((a - 1) % 16))
  else if a < 179 then some (np_gc F L ((a - 51) / 16 * 16 + 51) ((a - 51) % 16))
  else none
def np_S (F : Nat → Nat → Int32) (L : Nat → Int64) (C : Nat → Nat → Int32) (fm k : Nat) (scr : nv_Scr) : nv_St := (np_h F L C fm, 183, k, 1732, scr)
/-- where games begin -/
def np_B (b : Nat) : Prop := b = 1 ∨ b = 17 ∨ b = 33 ∨ ∃ j, j < 8 ∧ b = 51 + 16 * j
def np_isS (a : Nat) : Prop := ∃ b i, np_B b ∧ i < 12 ∧ a = b + 4 + i
def np_isA (a : Nat) : Prop := ∃ b, np_B b ∧ (a = b + 2 ∨ a = b + 3)
theorem np_B1 : np_B 1 := Or.inl rfl
theorem np_B17 : np_B 17 := Or.inr (Or.inl rfl)
theorem np_B33 : np_B 33 := Or.inr (Or.inr (Or.inl rfl))
theorem np_B51 {j : Nat} (h : j < 8) : np_B (51 + 16 * j) := Or.inr (Or.inr (Or.inr ⟨j, h, rfl⟩))
theorem np_isS5 {i : Nat} (h : i < 12) : np_isS (5 + i) := ⟨1, i, np_B1, h, by omega⟩
theorem np_isSb {b i : Nat} (hb : np_B b) (h : i < 12) : np_isS (b + 4 + i) := ⟨b, i, hb, h, rfl⟩
theorem np_isA3 : np_isA 3 := ⟨1, np_B1, Or.inl rfl⟩
theorem np_isA4 : np_isA 4 := ⟨1, np_B1, Or.inr rfl⟩
theorem np_isAb2 {b : Nat} (hb : np_B b) : np_isA (b + 2) := ⟨b, hb, Or.inl rfl⟩
theorem np_isAb3 {b : Nat} (hb : np_B b) : np_isA (b + 3) := ⟨b, hb, Or.inr rfl⟩
section
variable {F : Nat → Nat → Int32} {L : Nat → Int64} {C : Nat → Nat → Int32} {fm k : Nat} {scr : nv_Scr}
theorem np_h_g {b r : Nat} (hb : np_B b) (hr : r < 16) : np_h F L C fm (b + r) = some (np_gc F L b r) := by
  have key : ∀ b' r', b' = b → r' = r → (some (np_gc F L b' r') : Option nv_Ob) = some (np_gc F L b r) := fun _ _ h1 h2 => by rw [h1, h2]
  unfold np_h
  rcases hb with rfl | rfl | rfl | ⟨j, hj, rfl⟩
  · rw [if_neg (by omega), if_neg (by omega), if_neg (by omega), if_neg (by omega), if_neg (by omega), if_neg (by omega), if_neg (by omega), if_pos (by omega)]
    exact key _ _ (by omega) (by omega)
  · rw [if_neg (by omega), if_neg (by omega), if_neg (by omega), if_neg (by omega), if_neg (by omega), if_neg (by omega), if_neg (by omega), if_pos (by omega)]
    exact key _ _ (by omega) (by omega)
  · rw [if_neg (by omega), if_neg (by omega), if_neg (by omega), if_neg (by omega), if_neg (by omega), if_neg (by omega), if_neg (by omega), if_pos (by omega)]
    exact key _ _ (by omega) (by omega)
  · rw [if_neg (by omega), if_neg (by omega), if_neg (by omega), if_neg (by omega), if_neg (by omega), if_neg (by omega), if_neg (by omega), if_neg (by omega), if_pos (by omega)]
    exact key _ _ (by omega) (by omega)
theorem np_B_lt {b : Nat} (hb : np_B b) : 1 ≤ b ∧ b + 16 ≤ 179 ∧ b ≠ 49 ∧ b ≠ 50 := by
  rcases hb with rfl | rfl | rfl | ⟨j, hj, rfl⟩ <;> omega
/-- two places of games are the same place of the same game -/
theorem np_B_eq {b b' r r' : Nat} (hb : np_B b) (hb' : np_B b') (hr : r < 16) (hr' : r' < 16) (h : b + r = b' + r') : b = b' ∧ r = r' := by
  rcases hb with rfl | rfl | rfl | ⟨j, hj, rfl⟩ <;> rcases hb' with rfl | rfl | rfl | ⟨j', hj', rfl⟩ <;> omega
theorem np_h_S {a : Nat} (h : np_isS a) : np_h F L C fm a = some (.inr (4, [.int (F a 0), .int (F a 1), .int (F a 2), .int (F a 3), .int (F a 4), .int (F a 5), .int (F a 6), .int (F a 7), .int (F a 8)])) := by
  obtain ⟨b, i, hb, hi, rfl⟩ := h
  rw [show b + 4 + i = b + (4 + i) by omega, np_h_g hb (by omega)]
  unfold np_gc
  rw [if_neg (by omega), if_neg (by omega), if_neg (by omega)]
theorem np_h_A {a : Nat} (h : np_isA a) : np_h F L C fm a = some (.inr (0, [.int (F a 0), .int (F a 1), .int (F a 2), .int (F a 3), .int (F a 4), .int (F a 5), .int (F a 6), .int (F a 7)])) := by
  obtain ⟨b, hb, rfl | rfl⟩ := h
  · rw [np_h_g hb (by omega)]; rfl
  · rw [np_h_g hb (by omega)]; rfl
theorem np_h_G {b : Nat} (hb : np_B b) : np_h F L C fm b = some (.inr (2, [.ref (b + 1), .ref (b + 2), .ref (b + 3), .int (F b 3), .int (F b 4), .int (F b 5), .int (F b 6), .int (F b 7), .int (F b 8), .int (F b 9), .long (L b), .int (F b 11)])) := by
  have := np_h_g (F := F) (L := L) (C := C) (fm := fm) hb (show 0 < 16 by omega)
  rw [Nat.add_zero] at this
  rw [this]
  rfl
theorem np_h_R {b : Nat} (hb : np_B b) : np_h F L C fm (b + 1) = some (.inl (2, 12, .inr (fun i => if i < 12 then some (b + 4 + i) else none))) := by
  rw [np_h_g hb (by omega)]; rfl
theorem np_isS_lt {a : Nat} (h : np_isS a) : a < 1000000 := by
  obtain ⟨b, i, hb, hi, rfl⟩ := h
  have := np_B_lt hb
  omega
-- reads
theorem fldS {a j : Nat} (h : np_isS a) (hj : j < 9) : nv_fld (np_S F L C fm k scr) 4 j a = some (.int (F a j)) := by
  simp only [nv_fld, np_S, np_h_S h, if_true]
  match j, hj with
  | 0, _ => rfl
  | 1, _ => rfl
  | 2, _ => rfl
  | 3, _ => rfl
  | 4, _ => rfl
  | 5, _ => rfl
  | 6, _ => rfl
  | 7, _ => rfl
  | 8, _ => rfl
  | n + 9, h => omega
theorem fldA {a j : Nat} (h : np_isA a) (hj : j < 8) : nv_fld (np_S F L C fm k scr) 0 j a = some (.int (F a j)) := by
  simp only [nv_fld, np_S, np_h_A h, if_true]
  match j, hj with
  | 0, _ => rfl
  | 1, _ => rfl
  | 2, _ => rfl
  | 3, _ => rfl
  | 4, _ => rfl
  | 5, _ => rfl
  | 6, _ => rfl
  | 7, _ => rfl
  | n + 8, h => omega
theorem fldG {b j : Nat} (h : np_B b) (hj : 3 ≤ j ∧ j < 12 ∧ ¬ j = 10) : nv_fld (np_S F L C fm k scr) 2 j b = some (.int (F b j)) := by
  simp only [nv_fld, np_S, np_h_G h, if_true]
  match j, hj with
  | 3, _ => rfl
  | 4, _ => rfl
  | 5, _ => rfl
  | 6, _ => rfl
  | 7, _ => rfl
  | 8, _ => rfl
  | 9, _ => rfl
  | 11, _ => rfl
  | 0, h => omega
  | 1, h => omega
  | 2, h => omega
  | 10, h => omega
  | n + 12, h => omega
theorem fldG0 {b : Nat} (h : np_B b) : nv_fld (np_S F L C fm k scr) 2 0 b = some (.ref (b + 1)) := by simp only [nv_fld, np_S, np_h_G h, if_true]; rfl
theorem fldG1 {b : Nat} (h : np_B b) : nv_fld (np_S F L C fm k scr) 2 1 b = some (.ref (b + 2)) := by simp only [nv_fld, np_S, np_h_G h, if_true]; rfl
theorem fldG2 {b : Nat} (h : np_B b) : nv_fld (np_S F L C fm k scr) 2 2 b = some (.ref (b + 3)) := by simp only [nv_fld, np_S, np_h_G h, if_true]; rfl
theorem fldG10 {b : Nat} (h : np_B b) : nv_fld (np_S F L C fm k scr) 2 10 b = some (.long (L b)) := by simp only [nv_fld, np_S, np_h_G h, if_true]; rfl
theorem fldN {j : Nat} (hj : 6 ≤ j ∧ j < 11) : nv_fld (np_S F L C fm k scr) 5 j 0 = some (.int (F 0 j)) := by
  match j, hj with
  | 6, _ => rfl
  | 7, _ => rfl
  | 8, _ => rfl
  | 9, _ => rfl
  | 10, _ => rfl
  | 0, h => omega
  | 1, h => omega
  | 2, h => omega
  | 3, h => omega
  | 4, h => omega
  | 5, h => omega
  | n + 11, h => omega
theorem fldN0 : nv_fld (np_S F L C fm k scr) 5 0 0 = some (.ref 1) := rfl
theorem fldN1 : nv_fld (np_S F L C fm k scr) 5 1 0 = some (.ref 17) := rfl
theorem fldN2 : nv_fld (np_S F L C fm k scr) 5 2 0 = some (.ref 33) := rfl
theorem fldN3 : nv_fld (np_S F L C fm k scr) 5 3 0 = some (.ref 49) := rfl
theorem fldN4 : nv_fld (np_S F L C fm k scr) 5 4 0 = some (.ref 179) := rfl
theorem fldN5 : nv_fld (np_S F L C fm k scr) 5 5 0 = some (.ref 182) := rfl
theorem fldH0 : nv_fld (np_S F L C fm k scr) 3 0 49 = some (.ref 50) := rfl
theorem fldH1 : nv_fld (np_S F L C fm k scr) 3 1 49 = some (.int (F 49 1)) := rfl
theorem fldH2 : nv_fld (np_S F L C fm k scr) 3 2 49 = some (.int (F 49 2)) := rfl
theorem fldC0 : nv_fld (np_S F L C fm k scr) 1 0 179 = some (.ref 180) := rfl
theorem fldC1 : nv_fld (np_S F L C fm k scr) 1 1 179 = some (.ref 181) := rfl
theorem fldC2 : nv_fld (np_S F L C fm k scr) 1 2 179 = some (.int (F 179 2)) := rfl
theorem fldC3 : nv_fld (np_S F L C fm k scr) 1 3 179 = some (.int (F 179 3)) := rfl
theorem fldC4 : nv_fld (np_S F L C fm k scr) 1 4 179 = some (.int (F 179 4)) := rfl
theorem fldC5 : nv_fld (np_S F L C fm k scr) 1 5 179 = some (.int (F 179 5)) := rfl
theorem fldC6 : nv_fld (np_S F L C fm k scr) 1 6 179 = some (.ref (1000200 + fm)) := rfl
-- kinds
theorem isoS {a : Nat} (h : np_isS a) : nv_isO (np_S F L C fm k scr) 4 a = true := by simp only [nv_isO, np_S, np_h_S h, beq_self_eq_true]
theorem isoA {a : Nat} (h : np_isA a) : nv_isO (np_S F L C fm k scr) 0 a = true := by simp only [nv_isO, np_S, np_h_A h, beq_self_eq_true]
theorem isoG {b : Nat} (h : np_B b) : nv_isO (np_S F L C fm k scr) 2 b = true := by simp only [nv_isO, np_S, np_h_G h, beq_self_eq_true]
theorem isoN : nv_isO (np_S F L C fm k scr) 5 0 = true := id rfl
theorem isoH : nv_isO (np_S F L C fm k scr) 3 49 = true := id rfl
theorem isoC : nv_isO (np_S F L C fm k scr) 1 179 = true := id rfl
-- rows
theorem lenR {b : Nat} (h : np_B b) : nv_len (np_S F L C fm k scr) 2 (b + 1) = some 12 := by simp only [nv_len, np_S, np_h_R h, if_true]
theorem lenR2 : nv_len (np_S F L C fm k scr) 2 2 = some 12 := rfl
theorem len50 : nv_len (np_S F L C fm k scr) 3 50 = some 8 := rfl
theorem len180 : nv_len (np_S F L C fm k scr) 0 180 = some 60 := rfl
theorem len181 : nv_len (np_S F L C fm k scr) 1 181 = some 5 := rfl
theorem len182 : nv_len (np_S F L C fm k scr) 0 182 = some 10 := rfl
theorem np_nI {i : Nat} (h : i < 1000) : ¬ nI i < 0 ∧ (nI i).toNatClampNeg = i := ⟨nI_pos (by omega), nI_clamp (by omega)⟩
theorem rdR {b i : Nat} (h : np_B b) (hi : i < 12) : nv_rdq (np_S F L C fm k scr) 2 (b + 1) (nI i) = some (.ref (b + 4 + i)) := by
  have hb := np_B_lt h
  obtain ⟨h1, h2⟩ := np_nI (i := i) (by omega)
  simp only [nv_rdq, np_S, np_h_R h, h2]
  rw [if_pos ⟨trivial, h1, hi⟩, if_pos hi]
  simp only [nv_rf]
  rw [if_pos (by show b + 4 + i < 1000000; omega)]
theorem rdR2 {i : Nat} (hi : i < 12) : nv_rdq (np_S F L C fm k scr) 2 2 (nI i) = some (.ref (5 + i)) := rdR np_B1 hi
theorem rd50 {i : Nat} (hi : i < 8) : nv_rdq (np_S F L C fm k scr) 3 50 (nI i) = some (.ref (51 + 16 * i)) := by
  obtain ⟨h1, h2⟩ := np_nI (i := i) (by omega)
  show (if 3 = 3 ∧ ¬ nI i < 0 ∧ (nI i).toNatClampNeg < 8 then nv_rf (if (nI i).toNatClampNeg < 8 then some (51 + 16 * (nI i).toNatClampNeg) else none) else none) = _
  rw [h2, if_pos ⟨rfl, h1, hi⟩, if_pos hi]
  simp only [nv_rf]
  rw [if_pos (by show 51 + 16 * i < 1000000; omega)]
theorem rd180 {i : Nat} (hi : i < 60) : nv_rdi (np_S F L C fm k scr) 0 180 (nI i) = some (C 180 i) := by
  obtain ⟨h1, h2⟩ := np_nI (i := i) (by omega)
  show (if 0 = 0 ∧ ¬ nI i < 0 ∧ (nI i).toNatClampNeg < 60 then some (C 180 (nI i).toNatClampNeg) else none) = _
  rw [h2, if_pos ⟨rfl, h1, hi⟩]
theorem rd181 {i : Nat} (hi : i < 5) : nv_rdi (np_S F L C fm k scr) 1 181 (nI i) = some (C 181 i) := by
  obtain ⟨h1, h2⟩ := np_nI (i := i) (by omega)
  show (if 1 = 1 ∧ ¬ nI i < 0 ∧ (nI i).toNatClampNeg < 5 then some (C 181 (nI i).toNatClampNeg) else none) = _
  rw [h2, if_pos ⟨rfl, h1, hi⟩]
theorem rd182 {i : Nat} (hi : i < 10) : nv_rdi (np_S F L C fm k scr) 0 182 (nI i) = some (C 182 i) := by
  obtain ⟨h1, h2⟩ := np_nI (i := i) (by omega)
  show (if 0 = 0 ∧ ¬ nI i < 0 ∧ (nI i).toNatClampNeg < 10 then some (C 182 (nI i).toNatClampNeg) else none) = _
  rw [h2, if_pos ⟨rfl, h1, hi⟩]
-- stores
theorem np_wr_S {a : Nat} {o : nv_Ob} {F' : Nat → Nat → Int32} {L' : Nat → Int64} {C' : Nat → Nat → Int32} {fm' : Nat} (h1 : np_h F' L' C' fm' a = some o) (h2 : ∀ q, q ≠ a → np_h F' L' C' fm' q = np_h F L C fm q) : nv_wr (np_S F L C fm k scr) a o = np_S F' L' C' fm' k scr := by
  unfold nv_wr np_S
  congr 1
  funext q
  by_cases hq : q = a
  · rw [if_pos hq, hq, h1]
  · rw [if_neg hq, h2 q hq]
theorem np_u_at {a j : Nat} {v : Int32} : np_u F a j v a j = v := by simp [np_u]
theorem np_u_ne {a j b i : Nat} {v : Int32} (h : ¬ (b = a ∧ i = j)) : np_u F a j v b i = F b i := by simp only [np_u, if_neg h]
theorem np_u_ne1 {a j b i : Nat} {v : Int32} (h : b ≠ a) : np_u F a j v b i = F b i := np_u_ne (fun q => h q.1)
/-- a cell depends on its own fields alone -/
theorem np_gc_eq {F F' : Nat → Nat → Int32} {L L' : Nat → Int64} {b r : Nat} (h : ∀ j, F' (b + r) j = F (b + r) j) (hL : r = 0 → L' b = L b) : np_gc F' L' b r = np_gc F L b r := by
  unfold np_gc
  by_cases h0 : r = 0
  · subst h0
    rw [if_pos rfl, if_pos rfl]
    simp only [Nat.add_zero] at h
    simp only [h, hL rfl]
  · rw [if_neg h0, if_neg h0]
    by_cases h1 : r = 1
    · rw [if_pos h1, if_pos h1]
    · rw [if_neg h1, if_neg h1]
      simp only [h]
theorem np_h_eq {F F' : Nat → Nat → Int32} {L L' : Nat → Int64} {C C' : Nat → Nat → Int32} {fm fm' a q : Nat} (hF : ∀ b, b ≠ a → ∀ j, F' b j = F b j) (hL : ∀ b, b ≠ a → L' b = L b) (hC : ∀ b, b ≠ a → C' b = C b) (hf : a ≠ 179 → fm' = fm) (hq : q ≠ a) : np_h F' L' C' fm' q = np_h F L C fm q := by
  unfold np_h
  by_cases h0 : q = 0
  · subst h0; rw [if_pos rfl, if_pos rfl]; simp only [hF 0 hq]
  rw [if_neg h0, if_neg h0]
  by_cases h1 : q = 49
  · subst h1; rw [if_pos rfl, if_pos rfl]; simp only [hF 49 hq]
  rw [if_neg h1, if_neg h1]
  by_cases h2 : q = 50
  · rw [if_pos h2, if_pos h2]
  rw [if_neg h2, if_neg h2]
  by_cases h3 : q = 179
  · subst h3; rw [if_pos rfl, if_pos rfl]; simp only [hF 179 hq, hf (Ne.symm hq)]
  rw [if_neg h3, if_neg h3]
  by_cases h4 : q = 180
  · subst h4; rw [if_pos rfl, if_pos rfl, hC 180 hq]
  rw [if_neg h4, if_neg h4]
  by_cases h5 : q = 181
  · subst h5; rw [if_pos rfl, if_pos rfl, hC 181 hq]
  rw [if_neg h5, if_neg h5]
  by_cases h6 : q = 182
  · subst h6; rw [if_pos rfl, if_pos rfl, hC 182 hq]
  rw [if_neg h6, if_neg h6]
  by_cases h7 : q < 49
  · rw [if_pos h7, if_pos h7]
    have e : (q - 1) / 16 * 16 + 1 + (q - 1) % 16 = q := by omega
    rw [np_gc_eq (F := F) (F' := F') (L := L) (L' := L')]
    · rw [e]; exact hF q hq
    · intro hr; exact hL _ (by omega)
  rw [if_neg h7, if_neg h7]
  by_cases h8 : q < 179
  · rw [if_pos h8, if_pos h8]
    have e : (q - 51) / 16 * 16 + 51 + (q - 51) % 16 = q := by omega
    rw [np_gc_eq (F := F) (F' := F') (L := L) (L' := L')]
    · rw [e]; exact hF q hq
    · intro hr; exact hL _ (by omega)
  rw [if_neg h8, if_neg h8]
theorem np_sto_F {a ci j : Nat} {ty : FieldType} {v : Int32} {fs : List Value} (h : np_h F L C fm a = some (.inr (ci, fs))) (hj : j < fs.length) (hn : narrow ty (.int v) = .int v) (hf : fits ty (.int v) = true) (h2 : np_h (np_u F a j v) L C fm a = some (.inr (ci, fs.set j (.int v)))) : nv_sto (np_S F L C fm k scr) ci j ty a (.int v) = some (np_S (np_u F a j v) L C fm k scr) := by
  simp only [nv_sto, np_S, h]
  rw [if_pos ⟨trivial, hj, hn, hf⟩]
  congr 1
  exact np_wr_S (k := k) (scr := scr) h2 (fun q hq => np_h_eq (a := a) (fun b hb j => np_u_ne1 hb) (fun _ _ => rfl) (fun _ _ => rfl) (fun _ => rfl) hq)
theorem stoS {a j : Nat} {v : Int32} (h : np_isS a) (hj : j < 9) : nv_sto (np_S F L C fm k scr) 4 j .int a (.int v) = some (np_S (np_u F a j v) L C fm k scr) := by
  refine np_sto_F (np_h_S h) hj rfl rfl ?_
  rw [np_h_S h]
  match j, hj with
  | 0, _ => simp [np_u]
  | 1, _ => simp [np_u]
  | 2, _ => simp [np_u]
  | 3, _ => simp [np_u]
  | 4, _ => simp [np_u]
  | 5, _ => simp [np_u]
  | 6, _ => simp [np_u]
  | 7, _ => simp [np_u]
  | 8, _ => simp [np_u]
  | n + 9, h => omega
theorem stoA {a j : Nat} {v : Int32} (h : np_isA a) (hj : j < 8) : nv_sto (np_S F L C fm k scr) 0 j .int a (.int v) = some (np_S (np_u F a j v) L C fm k scr) := by
  refine np_sto_F (np_h_A h) hj rfl rfl ?_
  rw [np_h_A h]
  match j, hj with
  | 0, _ => simp [np_u]
  | 1, _ => simp [np_u]
  | 2, _ => simp [np_u]
  | 3, _ => simp [np_u]
  | 4, _ => simp [np_u]
  | 5, _ => simp [np_u]
  | 6, _ => simp [np_u]
  | 7, _ => simp [np_u]
  | n + 8, h => omega
theorem stoG {b j : Nat} {v : Int32} (h : np_B b) (hj : 3 ≤ j ∧ j < 12 ∧ ¬ j = 10) : nv_sto (np_S F L C fm k scr) 2 j .int b (.int v) = some (np_S (np_u F b j v) L C fm k scr) := by
  refine np_sto_F (np_h_G h) (by simp; omega) rfl rfl ?_
  rw [np_h_G h]
  match j, hj with
  | 3, _ => simp [np_u]
  | 4, _ => simp [np_u]
  | 5, _ => simp [np_u]
  | 6, _ => simp [np_u]
  | 7, _ => simp [np_u]
  | 8, _ => simp [np_u]
  | 9, _ => simp [np_u]
  | 11, _ => simp [np_u]
  | 0, h => omega
  | 1, h => omega
  | 2, h => omega
  | 10, h => omega
  | n + 12, h => omega
theorem np_bool {v : Int32} (h : v = 0 ∨ v = 1) : narrow .boolean (.int v) = .int v ∧ fits .boolean (.int v) = true := by
  rcases h with rfl | rfl <;> exact ⟨rfl, rfl⟩
theorem stoG4 {b : Nat} {v : Int32} (h : np_B b) (hv : v = 0 ∨ v = 1) : nv_sto (np_S F L C fm k scr) 2 4 .boolean b (.int v) = some (np_S (np_u F b 4 v) L C fm k scr) := by
  refine np_sto_F (np_h_G h) (by simp) (np_bool hv).1 (np_bool hv).2 ?_
  rw [np_h_G h]
  simp [np_u]
theorem stoG10 {b : Nat} {v : Int64} (h : np_B b) : nv_sto (np_S F L C fm k scr) 2 10 .long b (.long v) = some (np_S F (np_uL L b v) C fm k scr) := by
  simp only [nv_sto, np_S, np_h_G h]
  rw [if_pos ⟨trivial, by simp, rfl, rfl⟩]
  congr 1
  refine np_wr_S (k := k) (scr := scr) ?_ (fun q hq => np_h_eq (a := b) (fun _ _ _ => rfl) (fun c hc => by simp [np_uL, hc]) (fun _ _ => rfl) (fun _ => rfl) hq)
  rw [np_h_G h]
  simp [np_uL]
theorem stoN {j : Nat} {v : Int32} (hj : 6 ≤ j ∧ j < 11) : nv_sto (np_S F L C fm k scr) 5 j .int 0 (.int v) = some (np_S (np_u F 0 j v) L C fm k scr) := by
  refine np_sto_F (ci := 5) rfl (by simp; omega) rfl rfl ?_
  match j, hj with
  | 6, _ => rfl
  | 7, _ => rfl
  | 8, _ => rfl
  | 9, _ => rfl
  | 10, _ => rfl
  | 0, h => omega
  | 1, h => omega
  | 2, h => omega
  | 3, h => omega
  | 4, h => omega
  | 5, h => omega
  | n + 11, h => omega
theorem stoN7 {v : Int32} (hv : v = 0 ∨ v = 1) : nv_sto (np_S F L C fm k scr) 5 7 .boolean 0 (.int v) = some (np_S (np_u F 0 7 v) L C fm k scr) := np_sto_F (ci := 5) rfl (by simp) (np_bool hv).1 (np_bool hv).2 rfl
theorem stoH1 {v : Int32} : nv_sto (np_S F L C fm k scr) 3 1 .int 49 (.int v) = some (np_S (np_u F 49 1 v) L C fm k scr) := np_sto_F (ci := 3) rfl (by simp) rfl rfl rfl
theorem stoH2 {v : Int32} : nv_sto (np_S F L C fm k scr) 3 2 .int 49 (.int v) = some (np_S (np_u F 49 2 v) L C fm k scr) := np_sto_F (ci := 3) rfl (by simp) rfl rfl rfl
theorem stoC2 {v : Int32} : nv_sto (np_S F L C fm k scr) 1 2 .int 179 (.int v) = some (np_S (np_u F 179 2 v) L C fm k scr) := np_sto_F (ci := 1) rfl (by simp) rfl rfl rfl
theorem stoC3 {v : Int32} : nv_sto (np_S F L C fm k scr) 1 3 .int 179 (.int v) = some (np_S (np_u F 179 3 v) L C fm k scr) := np_sto_F (ci := 1) rfl (by simp) rfl rfl rfl
theorem stoC4 {v : Int32} : nv_sto (np_S F L C fm k scr) 1 4 .int 179 (.int v) = some (np_S (np_u F 179 4 v) L C fm k scr) := np_sto_F (ci := 1) rfl (by simp) rfl rfl rfl
theorem stoC5 {v : Int32} : nv_sto (np_S F L C fm k scr) 1 5 .int 179 (.int v) = some (np_S (np_u F 179 5 v) L C fm k scr) := np_sto_F (ci := 1) rfl (by simp) rfl rfl rfl
theorem stoC6 {f : Nat} : nv_sto (np_S F L C fm k scr) 1 6 (.object "SpoonNavy$Form") 179 (.ref (1000200 + f)) = some (np_S F L C f k scr) := by
  show (if 1 = 1 ∧ 6 < 7 ∧ narrow (.object "SpoonNavy$Form") (.ref (1000200 + f)) = .ref (1000200 + f) ∧ fits (.object "SpoonNavy$Form") (.ref (1000200 + f)) = true then some (nv_wr (np_S F L C fm k scr) 179 (.inr (1, [.ref 180, .ref 181, .int (F 179 2), .int (F 179 3), .int (F 179 4), .int (F 179 5), .ref (1000200 + f)]))) else none) = _
  rw [if_pos ⟨rfl, by decide, rfl, rfl⟩]
  congr 1
  exact np_wr_S (k := k) (scr := scr) rfl (fun q hq => np_h_eq (a := 179) (fun _ _ _ => rfl) (fun _ _ => rfl) (fun _ _ => rfl) (fun h => absurd rfl h) hq)
def np_uC (C : Nat → Nat → Int32) (a i : Nat) (v : Int32) : Nat → Nat → Int32 := fun b j => if b = a ∧ j = i then v else C b j
theorem np_uC_upd {a i : Nat} {v : Int32} : np_uC C a i v a = upd (C a) i v := by
  funext j
  simp [np_uC, upd]
theorem np_uC_ne {a i b : Nat} {v : Int32} (h : b ≠ a) : np_uC C a i v b = C b := by
  funext j
  simp [np_uC, h]
theorem wr180 {i : Nat} {v : Int32} (hi : i < 60) : nv_wri (np_S F L C fm k scr) 0 180 (nI i) v = some (np_S F L (np_uC C 180 i v) fm k scr) := by
  obtain ⟨h1, h2⟩ := np_nI (i := i) (by omega)
  show (if 0 = 0 ∧ ¬ nI i < 0 ∧ (nI i).toNatClampNeg < 60 then some (nv_wr (np_S F L C fm k scr) 180 (.inl (0, 60, .inl (upd (C 180) (nI i).toNatClampNeg v)))) else none) = _
  rw [h2, if_pos ⟨rfl, h1, hi⟩]
  congr 1
  refine np_wr_S (k := k) (scr := scr) ?_ (fun q hq => np_h_eq (a := 180) (fun _ _ _ => rfl) (fun _ _ => rfl) (fun b hb => np_uC_ne hb) (fun _ => rfl) hq)
  rw [← np_uC_upd]; rfl
theorem wr181 {i : Nat} {v : Int32} (hi : i < 5) : nv_wri (np_S F L C fm k scr) 1 181 (nI i) v = some (np_S F L (np_uC C 181 i v) fm k scr) := by
  obtain ⟨h1, h2⟩ := np_nI (i := i) (by omega)
  show (if 1 = 1 ∧ ¬ nI i < 0 ∧ (nI i).toNatClampNeg < 5 then some (nv_wr (np_S F L C fm k scr) 181 (.inl (1, 5, .inl (upd (C 181) (nI i).toNatClampNeg v)))) else none) = _
  rw [h2, if_pos ⟨rfl, h1, hi⟩]
  congr 1
  refine np_wr_S (k := k) (scr := scr) ?_ (fun q hq => np_h_eq (a := 181) (fun _ _ _ => rfl) (fun _ _ => rfl) (fun b hb => np_uC_ne hb) (fun _ => rfl) hq)
  rw [← np_uC_upd]; rfl
theorem wr182 {i : Nat} {v : Int32} (hi : i < 10) : nv_wri (np_S F L C fm k scr) 0 182 (nI i) v = some (np_S F L (np_uC C 182 i v) fm k scr) := by
  obtain ⟨h1, h2⟩ := np_nI (i := i) (by omega)
  show (if 0 = 0 ∧ ¬ nI i < 0 ∧ (nI i).toNatClampNeg < 10 then some (nv_wr (np_S F L C fm k scr) 182 (.inl (0, 10, .inl (upd (C 182) (nI i).toNatClampNeg v)))) else none) = _
  rw [h2, if_pos ⟨rfl, h1, hi⟩]
  congr 1
  refine np_wr_S (k := k) (scr := scr) ?_ (fun q hq => np_h_eq (a := 182) (fun _ _ _ => rfl) (fun _ _ => rfl) (fun b hb => np_uC_ne hb) (fun _ => rfl) hq)
  rw [← np_uC_upd]; rfl
theorem bump {E : Nat} : nv_bump (np_S F L C fm k scr) = np_S F L C fm (k + 1) scr := rfl
end
