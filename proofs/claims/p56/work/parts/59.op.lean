/-! THE PURE PART, 29: what a change comes to, for any arguments (written by wip/p56/gen59.py). -/
def op_res (F : Nat → Nat → Int32) (L : Nat → Int64) (r : Int32) (F' : Nat → Nat → Int32) (L' : Nat → Int64) : Prop := (np_bad r ∧ F' = F ∧ L' = L) ∨ (¬ r < 0 ∧ np_loc F F' ∧ GI F' ∧ ∀ b, ¬ b = 1 → L' b = L b)
section
variable {F : Nat → Nat → Int32} {L : Nat → Int64} {C : Nat → Nat → Int32} {fm k : Nat} {scr : nv_Scr}
theorem bad_obj {a : Nat} {ok : Bool} (h : ¬ sp_obj F a ok = 0) : np_bad (sp_obj F a ok) := by
  rcases @sp_obj_in F a ok with e | e | e | e
  · rw [e]; simp [np_bad]
  · rw [e]; simp [np_bad]
  · rw [e]; simp [np_bad]
  · exact absurd e h
theorem nI_nn {n : Nat} (h : n < 1000) : ¬ nI n < 0 := nI_pos (by omega)
theorem op44 {f x y b c : Int32} (h : GI F) : ∃ r F', np_X 44 0 [some (.ref 1), some (.int f), some (.int x), some (.int y), some (.int b), some (.int c), none, none] [] (np_S F L C fm k scr) = np_o r (np_S F' L C fm k scr) ∧ op_res F L r F' L := by
  by_cases ho : sp_plc F f x y b c = 0
  · obtain ⟨j, hj, hc, g⟩ := GI_pl h ho
    refine ⟨_, _, m44s ho hj hc, Or.inr ⟨?_, np_plF_loc hj, g, fun _ _ => rfl⟩⟩
    rw [GI_num h hj]
    exact nI_nn (by omega)
  · refine ⟨_, _, m44o ho, Or.inl ⟨?_, rfl, rfl⟩⟩
    unfold sp_plc at ho ⊢
    split
    · simp [np_bad]
    · split
      · simp [np_bad]
      · split
        · simp [np_bad]
        · split
          · simp [np_bad]
          · rename_i a1 a2 a3 a4
            exact absurd (by rw [if_neg a1, if_neg a2, if_neg a3, if_neg a4]) ho
theorem GI_cn (h : GI F) : ∃ c, c ≤ 12 ∧ F 1 3 = nI c := by
  obtain ⟨V, hr, hk⟩ := h
  exact ⟨V 1 3, hk.2.1.1, gv_1 hr (by simp)⟩
theorem op45 (h : GI F) : ∃ r F', np_X 45 0 [some (.ref 1)] [] (np_S F L C fm k scr) = np_o r (np_S F' L C fm k scr) ∧ ((r = -3 ∧ F' = F) ∨ (¬ r < 0 ∧ np_loc F F' ∧ GI F')) := by
  cases hb : sp_bgn F with
  | true =>
    obtain ⟨c, h1, h2⟩ := GI_cn h
    exact ⟨_, _, m45s hb, Or.inr ⟨by rw [h2]; exact nI_nn (by omega), np_bgF_loc, GI_bg h hb⟩⟩
  | false => exact ⟨_, _, m45n hb, Or.inl ⟨rfl, rfl⟩⟩
theorem op46 (h : GI F) : ∃ r F', np_X 46 0 [some (.ref 1)] [] (np_S F L C fm k scr) = np_o r (np_S F' L C fm k scr) ∧ ((r = -3 ∧ F' = F) ∨ (¬ r < 0 ∧ np_loc F F' ∧ GI F')) := by
  cases hb : sp_gng F with
  | true =>
    refine ⟨_, _, m46s hb, Or.inr ⟨?_, np_ptF_loc, GI_pt h⟩⟩
    obtain ⟨V, hr, hk⟩ := h
    have hB := hk.2.2.2.1
    unfold gmB at hB
    have e : 1 - F 1 5 = nI (1 - V 1 5) := by
      rw [gv_1 hr (by simp)]
      exact nI_sub (a := 1) (by omega)
    rw [e]
    exact nI_nn (by omega)
  | false => exact ⟨_, _, m46n hb, Or.inl ⟨rfl, rfl⟩⟩
theorem bet_nn : ∀ a, a < 8 → ∀ b, b < 8 → ¬ sp_bet (nI a) (nI b) < 0 := by decide
theorem op47 {x b : Int32} (h : GI F) : ∃ r F', np_X 47 0 [some (.ref 1), some (.int x), some (.int b), none, none, none] [] (np_S F L C fm k scr) = np_o r (np_S F' L C fm k scr) ∧ op_res F L r F' L := by
  cases hn : sp_num F x with
  | none => exact ⟨_, _, m47n hn, Or.inl ⟨by simp [np_bad], rfl, rfl⟩⟩
  | some j =>
    have hj := (sp_num_lt hn).1
    by_cases ho : sp_obj F (5 + j) (sp_okb b) = 0
    · refine ⟨_, _, m47s hn ho, Or.inr ⟨?_, np_roF_loc hj, GI_ro hj h ho, fun _ _ => rfl⟩⟩
      obtain ⟨n, hn8, rfl⟩ := okb_of (sp_obj_z ho).1
      obtain ⟨V, hr, hk⟩ := h
      rw [gv_s hr hj (by decide)]
      exact bet_nn _ (hk.1 j hj).2.2.2.2.1 _ hn8
    · exact ⟨_, _, m47o hn ho, Or.inl ⟨bad_obj ho, rfl, rfl⟩⟩
theorem op48 {x n : Int32} {z : Bool} (h : GI F) : ∃ r F' L', np_X 48 0 [some (.ref 1), some (.int x), some (.int n), some (.int (np_i z)), none, none, none] [] (np_S F L C fm k scr) = np_o r (np_S F' L' C fm k scr) ∧ op_res F L r F' L' := by
  cases hn : sp_num F x with
  | none => exact ⟨_, _, _, m48n hn, Or.inl ⟨by simp [np_bad], rfl, rfl⟩⟩
  | some j =>
    have hj := (sp_num_lt hn).1
    by_cases ho : sp_obj F (5 + j) (sp_okn n) = 0
    · by_cases hc : z = true ∧ F (5 + j) 6 = 0
      · obtain ⟨rfl, hc⟩ := hc
        exact ⟨_, _, _, m48c hn ho hc, Or.inl ⟨by simp [np_bad], rfl, rfl⟩⟩
      · have hc' : z = true → ¬ F (5 + j) 6 = 0 := fun a b => hc ⟨a, b⟩
        by_cases hs : sp_sld F (5 + j) n = 0
        · exact ⟨_, _, _, m48z hn ho hc' hs, Or.inl ⟨by simp [np_bad], rfl, rfl⟩⟩
        · refine ⟨_, _, _, m48s hn ho hc' hs, Or.inr ⟨?_, (np_mv1_loc hj).trans (np_dis_loc 12 0 _ (by omega)), GI_mv hj h ho hc' hs, fun b hb => if_neg hb⟩⟩
          obtain ⟨V, hr, hk⟩ := h
          obtain ⟨s, x', y', -, -, h3, -, -, es, -⟩ := ga_go hr hk hj (sp_obj_z ho).1 hs
          rw [es]
          exact nI_nn (by omega)
    · exact ⟨_, _, _, m48o hn ho, Or.inl ⟨bad_obj ho, rfl, rfl⟩⟩
theorem op52 {x y w : Int32} (h : GI F) : ∃ r F', np_X 52 0 [some (.ref 1), some (.int x), some (.int y), some (.int w), none, none, none] [] (np_S F L C fm k scr) = np_o r (np_S F' L C fm k scr) ∧ op_res F L r F' L := by
  cases hn : sp_num F x with
  | none => exact ⟨_, _, m52n hn, Or.inl ⟨by simp [np_bad], rfl, rfl⟩⟩
  | some j =>
    have hj := (sp_num_lt hn).1
    by_cases ho : sp_sho F (5 + j) y w = 0
    · refine ⟨_, _, m52s hn ho, Or.inr ⟨?_, np_shG_loc hj, GI_sG hj h ho, fun _ _ => rfl⟩⟩
      unfold sp_shr
      split
      · split <;> decide
      · decide
    · refine ⟨_, _, m52o hn ho, Or.inl ⟨?_, rfl, rfl⟩⟩
      unfold sp_sho at ho ⊢
      split
      · rename_i g
        rw [if_pos g] at ho
        split
        · simp [np_bad]
        · rename_i g2
          rw [if_neg g2] at ho
          split
          · simp [np_bad]
          · rename_i g3
            rw [if_neg g3] at ho
            split
            · simp [np_bad]
            · rename_i g4
              rw [if_neg g4] at ho
              exact absurd rfl ho
      · rename_i g
        exact bad_obj g
theorem op54 {x c : Int32} (h : GI F) : ∃ r F', np_X 54 0 [some (.ref 1), some (.int x), some (.int c), none, none, none] [] (np_S F L C fm k scr) = np_o r (np_S F' L C fm k scr) ∧ op_res F L r F' L := by
  cases hn : sp_num F x with
  | none => exact ⟨_, _, m54n hn, Or.inl ⟨by simp [np_bad], rfl, rfl⟩⟩
  | some j =>
    have hj := (sp_num_lt hn).1
    by_cases ho : sp_obj F (5 + j) (sp_okc c) = 0
    · cases hl : sp_lod F (5 + j) c with
      | false => exact ⟨_, _, m54r hn ho hl, Or.inl ⟨by simp [np_bad], rfl, rfl⟩⟩
      | true =>
        refine ⟨_, _, m54s hn ho hl, Or.inr ⟨?_, np_fiF_loc hj, GI_fi hj h ho hl, fun _ _ => rfl⟩⟩
        obtain ⟨n, -, h9, rfl⟩ := okc_of (sp_obj_z ho).1
        obtain ⟨V, hr, hk⟩ := h
        rw [gv_s hr hj (by decide), nI_add]
        have := (hk.1 j hj).2.2.2.2.2.2.1
        exact nI_nn (by omega)
    · exact ⟨_, _, m54o hn ho, Or.inl ⟨bad_obj ho, rfl, rfl⟩⟩
theorem exc4 {r : Int32} (h : np_bad r) : sp_exc r = "java/lang/IndexOutOfBoundsException" ∨ sp_exc r = "java/lang/IllegalArgumentException" ∨ sp_exc r = "java/lang/IllegalStateException" ∨ sp_exc r = "java/lang/UnsupportedOperationException" := by
  unfold sp_exc
  split
  · exact Or.inl rfl
  · split
    · exact Or.inr (Or.inl rfl)
    · split
      · exact Or.inr (Or.inr (Or.inl rfl))
      · exact Or.inr (Or.inr (Or.inr rfl))
/-- the snapshot has not changed -/
def SN (F : Nat → Nat → Int32) (L : Nat → Int64) (F' : Nat → Nat → Int32) (L' : Nat → Int64) : Prop := (∀ a i, 33 ≤ a → a < 49 → F' a i = F a i) ∧ F' 0 7 = F 0 7 ∧ L' 33 = L 33
theorem SN.rf : SN F L F L := ⟨fun _ _ _ _ => rfl, rfl, rfl⟩
theorem SN.tr {F1 F2 : Nat → Nat → Int32} {L1 L2 : Nat → Int64} (h : SN F L F1 L1) (g : SN F1 L1 F2 L2) : SN F L F2 L2 := ⟨fun a i h1 h2 => (g.1 a i h1 h2).trans (h.1 a i h1 h2), g.2.1.trans h.2.1, g.2.2.trans h.2.2⟩
/-- what a change of the face comes to -/
def DR (F : Nat → Nat → Int32) (L : Nat → Int64) (k : Nat) (r : Int32) (F' : Nat → Nat → Int32) (L' : Nat → Int64) (k' : Nat) : Prop := k' ≤ k + 1 ∧ (WI F' ∧ SN F L F' L') ∧ ((r = -100000000 ∧ np_same F F' ∧ L' 1 = L 1) ∨ (¬ r < 0 ∧ UD F L F' L'))
theorem DR_bad {r : Int32} (h : WI F) : DR F L k (-100000000) (np_krF (np_F0 F) r) (np_L0 L) (k + 1) := ⟨Nat.le_refl _, ⟨WI_kr (WI_F0 h), fun a i h1 h2 => by
  unfold np_krF
  split
  · rw [np_u_a (by omega)]; exact np_cp_o (by omega)
  · exact np_cp_o (by omega), by
  unfold np_krF
  split
  · rw [np_u_k (by decide)]; exact np_cp_o (by decide)
  · exact np_cp_o (by decide), if_neg (by decide)⟩, Or.inl ⟨rfl, same_F0.tr same_kr, if_neg (by decide)⟩⟩
theorem DR_ok {F1 : Nat → Nat → Int32} {L1 : Nat → Int64} {r : Int32} (h : WI F) (hr : ¬ r < 0) (hl : np_loc (np_F0 F) F1) (g : GI F1) (hL : ∀ b, ¬ b = 1 → L1 b = np_L0 L b) : ∃ j s, np_Hs F1 j s ∧ WI F1 ∧ DR F L k r (np_psF F1 j s) (np_uL L1 (51 + 16 * j) (L1 17)) k := by
  have w := WI_loc (WI_F0 h) hl g
  obtain ⟨j, s, hH⟩ := w.2.2.1
  have e : L1 17 = L 1 := by rw [hL 17 (by decide)]; exact if_pos rfl
  have j8 := hH.1
  have sn : SN F L (np_psF F1 j s) (np_uL L1 (51 + 16 * j) (L1 17)) := by
    refine ⟨fun a i h1 h2 => ?_, ?_, ?_⟩
    · unfold np_psF
      rw [np_u_a (by omega), np_u_a (by omega), np_cp_o (by omega), hl a i (by omega)]
      exact np_cp_o (by omega)
    · unfold np_psF
      rw [np_u_a (by omega), np_u_a (by omega), np_cp_o (by omega), hl 0 7 (by omega)]
      exact np_cp_o (by omega)
    · show np_uL L1 (51 + 16 * j) (L1 17) 33 = L 33
      unfold np_uL
      rw [if_neg (by omega), hL 33 (by decide)]
      exact if_neg (by decide)
  exact ⟨j, s, hH, w, Nat.le_succ _, ⟨WI_ps w hH, sn⟩, Or.inr ⟨hr, UD_ps h hl w hH e⟩⟩
theorem d141 {f x y b c : Int32} (h : WI F) : ∃ r F' L' k', np_X 141 0 [some (.ref 0), some (.int f), some (.int x), some (.int y), some (.int b), some (.int c), none, none] [] (np_S F L C fm k scr) = np_o r (np_S F' L' C fm k' scr) ∧ DR F L k r F' L' k' := by
  have hB := h.b4 np_B1
  obtain ⟨r, F1, e, res⟩ := op44 (L := np_L0 L) (C := C) (fm := fm) (k := k) (scr := scr) (f := f) (x := x) (y := y) (b := b) (c := c) (GI_same same_F0 h.g)
  rcases res with ⟨ra, rb, rc⟩ | ⟨ra, rb, rc, rd⟩
  · subst rb
    exact ⟨_, _, _, _, x141 isoN (exc4 ra) (m72x hB e ra), DR_bad h⟩
  · obtain ⟨j, s, hH, w1, hd⟩ := DR_ok (k := k) h ra rb rc rd
    exact ⟨_, _, _, _, w141 isoN (m72 hB e ra hH (w1.b4 np_B17)), hd⟩
theorem d147 {x b : Int32} (h : WI F) : ∃ r F' L' k', np_X 147 0 [some (.ref 0), some (.int x), some (.int b), none, none] [] (np_S F L C fm k scr) = np_o r (np_S F' L' C fm k' scr) ∧ DR F L k r F' L' k' := by
  have hB := h.b4 np_B1
  obtain ⟨r, F1, e, res⟩ := op47 (L := np_L0 L) (C := C) (fm := fm) (k := k) (scr := scr) (x := x) (b := b) (GI_same same_F0 h.g)
  rcases res with ⟨ra, rb, rc⟩ | ⟨ra, rb, rc, rd⟩
  · subst rb
    exact ⟨_, _, _, _, x147 isoN (exc4 ra) (m81x hB e ra), DR_bad h⟩
  · obtain ⟨j, s, hH, w1, hd⟩ := DR_ok (k := k) h ra rb rc rd
    exact ⟨_, _, _, _, w147 isoN (m81 hB e ra hH (w1.b4 np_B17)), hd⟩
theorem d148 {x n : Int32} {z : Bool} (h : WI F) : ∃ r F' L' k', np_X 148 0 [some (.ref 0), some (.int x), some (.int n), some (.int (np_i z)), none, none] [] (np_S F L C fm k scr) = np_o r (np_S F' L' C fm k' scr) ∧ DR F L k r F' L' k' := by
  have hB := h.b4 np_B1
  obtain ⟨r, F1, L1, e, res⟩ := op48 (L := np_L0 L) (C := C) (fm := fm) (k := k) (scr := scr) (x := x) (n := n) (z := z) (GI_same same_F0 h.g)
  rcases res with ⟨ra, rb, rc⟩ | ⟨ra, rb, rc, rd⟩
  · subst rb; subst rc
    exact ⟨_, _, _, _, x148 isoN (exc4 ra) (m82x hB e ra), DR_bad h⟩
  · obtain ⟨j, s, hH, w1, hd⟩ := DR_ok (k := k) h ra rb rc rd
    exact ⟨_, _, _, _, w148 isoN (m82 hB e ra hH (w1.b4 np_B17)), hd⟩
theorem d149 {x y w : Int32} (h : WI F) : ∃ r F' L' k', np_X 149 0 [some (.ref 0), some (.int x), some (.int y), some (.int w), none, none] [] (np_S F L C fm k scr) = np_o r (np_S F' L' C fm k' scr) ∧ DR F L k r F' L' k' := by
  have hB := h.b4 np_B1
  obtain ⟨r, F1, e, res⟩ := op52 (L := np_L0 L) (C := C) (fm := fm) (k := k) (scr := scr) (x := x) (y := y) (w := w) (GI_same same_F0 h.g)
  rcases res with ⟨ra, rb, rc⟩ | ⟨ra, rb, rc, rd⟩
  · subst rb
    exact ⟨_, _, _, _, x149 isoN (exc4 ra) (m83x hB e ra), DR_bad h⟩
  · obtain ⟨j, s, hH, w1, hd⟩ := DR_ok (k := k) h ra rb rc rd
    exact ⟨_, _, _, _, w149 isoN (m83 hB e ra hH (w1.b4 np_B17)), hd⟩
theorem d150 {x c : Int32} (h : WI F) : ∃ r F' L' k', np_X 150 0 [some (.ref 0), some (.int x), some (.int c), none, none] [] (np_S F L C fm k scr) = np_o r (np_S F' L' C fm k' scr) ∧ DR F L k r F' L' k' := by
  have hB := h.b4 np_B1
  obtain ⟨r, F1, e, res⟩ := op54 (L := np_L0 L) (C := C) (fm := fm) (k := k) (scr := scr) (x := x) (c := c) (GI_same same_F0 h.g)
  rcases res with ⟨ra, rb, rc⟩ | ⟨ra, rb, rc, rd⟩
  · subst rb
    exact ⟨_, _, _, _, x150 isoN (exc4 ra) (m84x hB e ra), DR_bad h⟩
  · obtain ⟨j, s, hH, w1, hd⟩ := DR_ok (k := k) h ra rb rc rd
    exact ⟨_, _, _, _, w150 isoN (m84 hB e ra hH (w1.b4 np_B17)), hd⟩
theorem d142 (h : WI F) : ∃ r F' L' k', np_X 142 0 [some (.ref 0), none, none] [] (np_S F L C fm k scr) = np_o r (np_S F' L' C fm k' scr) ∧ DR F L k r F' L' k' := by
  have hB := h.b4 np_B1
  obtain ⟨r, F1, e, res⟩ := op45 (L := np_L0 L) (C := C) (fm := fm) (k := k) (scr := scr) (GI_same same_F0 h.g)
  rcases res with ⟨ra, rb⟩ | ⟨ra, rb, rc⟩
  · subst rb; subst ra
    exact ⟨_, _, _, _, x142 isoN rfl (m73x hB e (by simp [np_bad])), DR_bad h⟩
  · obtain ⟨j, s, hH, w1, hd⟩ := DR_ok (k := k) (L1 := np_L0 L) h ra rb rc (fun _ _ => rfl)
    exact ⟨_, _, _, _, w142 isoN (m73 hB e ra hH (w1.b4 np_B17)), hd⟩
theorem d143 (h : WI F) : ∃ r F' L' k', np_X 143 0 [some (.ref 0), none, none] [] (np_S F L C fm k scr) = np_o r (np_S F' L' C fm k' scr) ∧ DR F L k r F' L' k' := by
  have hB := h.b4 np_B1
  obtain ⟨r, F1, e, res⟩ := op46 (L := np_L0 L) (C := C) (fm := fm) (k := k) (scr := scr) (GI_same same_F0 h.g)
  rcases res with ⟨ra, rb⟩ | ⟨ra, rb, rc⟩
  · subst rb; subst ra
    exact ⟨_, _, _, _, x143 isoN rfl (m74x hB e (by simp [np_bad])), DR_bad h⟩
  · obtain ⟨j, s, hH, w1, hd⟩ := DR_ok (k := k) (L1 := np_L0 L) h ra rb rc (fun _ _ => rfl)
    exact ⟨_, _, _, _, w143 isoN (m74 hB e ra hH (w1.b4 np_B17)), hd⟩
-- undo, restore, save
theorem u164 {F' : Nat → Nat → Int32} {L' : Nat → Int64} (w : WI F') (hu : UD F L F' L') : ∃ n F'' L'', n < 8 ∧ np_X 164 0 [some (.ref 0), none, none] [] (np_S F' L' C fm k scr) = np_o (nI n) (np_S F'' L'' C fm k scr) ∧ WI F'' ∧ np_same F F'' ∧ L'' 1 = L 1 ∧ SN F' L' F'' L'' := by
  obtain ⟨j, s, hH, h0, hs, hL⟩ := hu
  have hp := np_B51 (np_pv_lt hH.1)
  refine ⟨s - 1, np_ppF F' j s, np_uL L' 1 (L' (51 + 16 * np_pv j)), by have := hH.2.1; omega, w164 isoN (m120s hH.1 hH.2.1 h0 hH.2.2.1 hH.2.2.2 (w.b4 hp)), WI_pp w hH, ?_, ?_, ?_, ?_, ?_⟩
  · have e := rg_cp np_B1 hp (w.1 _ np_B1) (w.1 _ hp)
    have e2 : np_same (np_ppF F' j s) (np_rg (np_cp F' 1 (51 + 16 * np_pv j)) 1) := fun a i u => by
      have lu := np_us_lt u
      unfold np_ppF
      rw [np_u_a (by omega), np_u_a (by omega)]
      rfl
    exact ((e2.tr e).tr hs).sy
  · show np_uL L' 1 (L' (51 + 16 * np_pv j)) 1 = L 1
    unfold np_uL
    rw [if_pos rfl, hL]
  · intro a i h1 h2
    unfold np_ppF
    rw [np_u_a (by omega), np_u_a (by omega), np_cp_o (by omega)]
  · unfold np_ppF
    rw [np_u_a (by omega), np_u_a (by omega), np_cp_o (by omega)]
  · exact if_neg (by decide)
theorem d164 (h : WI F) : ∃ r F' L' k', np_X 164 0 [some (.ref 0), none, none] [] (np_S F L C fm k scr) = np_o r (np_S F' L' C fm k' scr) ∧ k' ≤ k + 1 ∧ WI F' ∧ ((r = -100000000 ∧ np_same F F' ∧ L' 1 = L 1) ∨ ¬ r < 0) := by
  obtain ⟨j, s, hH⟩ := h.2.2.1
  have hp := np_B51 (np_pv_lt hH.1)
  by_cases h0 : 0 < s
  · exact ⟨_, _, _, _, w164 isoN (m120s hH.1 hH.2.1 h0 hH.2.2.1 hH.2.2.2 (h.b4 hp)), Nat.le_succ _, WI_pp h hH, Or.inr (nI_nn (by have := hH.2.1; omega))⟩
  · obtain rfl : s = 0 := by omega
    exact ⟨_, _, _, _, x164 isoN rfl (m120n hH.1 hH.2.2.1 hH.2.2.2), Nat.le_refl _, h, Or.inl ⟨rfl, np_same.rf, rfl⟩⟩
theorem d165 (h : WI F) : ∃ r F' L' k', np_X 165 0 [some (.ref 0), none, none] [] (np_S F L C fm k scr) = np_o r (np_S F' L' C fm k' scr) ∧ k' ≤ k + 1 ∧ WI F' ∧ ((r = -100000000 ∧ np_same F F' ∧ L' 1 = L 1) ∨ ¬ r < 0) := by
  rcases h.2.1 with h7 | h7
  · exact ⟨_, _, _, _, x165 isoN rfl (m122n h7), Nat.le_refl _, h, Or.inl ⟨rfl, np_same.rf, rfl⟩⟩
  · obtain ⟨c, hc, e⟩ := GI_cn (h.1 33 np_B33)
    refine ⟨_, _, _, _, w165 isoN (m122s h7 (h.b4 np_B33)), Nat.le_succ _, WI_rs h, Or.inr ?_⟩
    have e2 : F 33 3 = nI c := e
    rw [e2]
    exact nI_nn (by omega)
end
