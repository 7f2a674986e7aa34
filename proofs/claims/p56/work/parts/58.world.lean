/-! THE PURE PART, 28: what always holds of the whole state, and what keeps it. -/
def np_us (a j : Nat) : Prop := (a = 1 ∧ 3 ≤ j ∧ j < 12 ∧ ¬ j = 10) ∨ ((a = 3 ∨ a = 4) ∧ j < 8) ∨ (5 ≤ a ∧ a < 17 ∧ j ≤ 8)
/-- the same game -/
def np_same (F G : Nat → Nat → Int32) : Prop := ∀ a j, np_us a j → F a j = G a j
theorem np_same.rf {F : Nat → Nat → Int32} : np_same F F := fun _ _ _ => rfl
theorem np_same.sy {F G : Nat → Nat → Int32} (h : np_same F G) : np_same G F := fun a j u => (h a j u).symm
theorem np_same.tr {F G H : Nat → Nat → Int32} (h : np_same F G) (g : np_same G H) : np_same F H := fun a j u => (h a j u).trans (g a j u)
theorem us_s {i j : Nat} (hi : i < 12) (hj : j < 9) : np_us (5 + i) j := Or.inr (Or.inr ⟨by omega, by omega, by omega⟩)
theorem us_3 {j : Nat} (hj : j < 8) : np_us 3 j := Or.inr (Or.inl ⟨Or.inl rfl, hj⟩)
theorem us_4 {j : Nat} (hj : j < 8) : np_us 4 j := Or.inr (Or.inl ⟨Or.inr rfl, hj⟩)
theorem us_1 {j : Nat} (hj : 3 ≤ j ∧ j < 12 ∧ ¬ j = 10) : np_us 1 j := Or.inl ⟨rfl, hj⟩
theorem np_us_lt {a j : Nat} (h : np_us a j) : 1 ≤ a ∧ a < 17 := by unfold np_us at h; omega
theorem GI_same {F G : Nat → Nat → Int32} (h : np_same F G) (g : GI F) : GI G := by
  obtain ⟨V, ⟨h1, h2, h3⟩, hk⟩ := g
  exact ⟨V, ⟨fun i hi j hj => (h _ _ (us_s hi hj)).symm.trans (h1 i hi j hj), fun j hj => ⟨(h _ _ (us_3 hj)).symm.trans (h2 j hj).1, (h _ _ (us_4 hj)).symm.trans (h2 j hj).2⟩, fun j hj => (h _ _ (us_1 (by omega))).symm.trans (h3 j hj)⟩, hk⟩
/-- the game at b -/
def np_rg (F : Nat → Nat → Int32) (b : Nat) : Nat → Nat → Int32 := fun a j => F (a + (b - 1)) j
theorem np_rg1 {F : Nat → Nat → Int32} : np_rg F 1 = F := rfl
theorem GI_num {F : Nat → Nat → Int32} (h : GI F) {i : Nat} (hi : i < 12) : F (5 + i) 0 = nI i := by
  obtain ⟨V, hr, hk⟩ := h
  rw [gv_s hr hi (by decide), (hk.1 i hi).1]
theorem GI_4 {F : Nat → Nat → Int32} (h : GI F) : F 1 4 = 0 ∨ F 1 4 = 1 := by
  obtain ⟨V, hr, hk⟩ := h
  have hB := hk.2.2.2.1
  unfold gmB at hB
  rw [gv_1 hr (by simp)]
  have : V 1 4 = 0 ∨ V 1 4 = 1 := by omega
  rcases this with e | e <;> rw [e]
  · exact Or.inl rfl
  · exact Or.inr rfl
section
variable {F : Nat → Nat → Int32}
theorem rg_cp {b c : Nat} (hb : np_B b) (hc : np_B c) (gb : GI (np_rg F b)) (gc : GI (np_rg F c)) : np_same (np_rg (np_cp F b c) b) (np_rg F c) := by
  intro a j u
  have l1 := np_B_lt hb
  have l2 := np_B_lt hc
  have lu := np_us_lt u
  show np_cp F b c (a + (b - 1)) j = F (a + (c - 1)) j
  unfold np_cp
  by_cases h : (b ≤ a + (b - 1) ∧ a + (b - 1) < b + 16 ∧ (a + (b - 1) = b ∧ 3 ≤ j ∧ j < 12 ∧ ¬ j = 10 ∨ (a + (b - 1) = b + 2 ∨ a + (b - 1) = b + 3) ∧ j < 8 ∨ b + 4 ≤ a + (b - 1) ∧ 1 ≤ j ∧ j ≤ 8))
  · rw [if_pos h, show c + (a + (b - 1) - b) = a + (c - 1) by omega]
  · rw [if_neg h]
    obtain ⟨i, rfl⟩ : ∃ i, a = 5 + i := ⟨a - 5, by unfold np_us at u; omega⟩
    have hj : j = 0 := by unfold np_us at u; omega
    subst hj
    have e1 := GI_num gb (i := i) (by omega)
    have e2 := GI_num gc (i := i) (by omega)
    exact e1.trans e2.symm
theorem rg_cp_o {b c d : Nat} (hb : np_B b) (hd : np_B d) (hne : ¬ d = b) : np_same (np_rg (np_cp F b c) d) (np_rg F d) := by
  intro a j u
  have lu := np_us_lt u
  have l2 := np_B_lt hd
  have l1 := np_B_lt hb
  show np_cp F b c (a + (d - 1)) j = F (a + (d - 1)) j
  refine np_cp_o fun q => ?_
  have := np_B_eq hd hb (r := a - 1) (r' := a + (d - 1) - b) (by omega) (by omega) (by omega)
  exact hne this.1
def RD (F : Nat → Nat → Int32) (n : Nat) : Prop := F 179 2 = nI n ∧ (∃ p, F 179 3 = nI p) ∧ (∃ e, F 179 4 = nI e) ∧ ∃ q, F 179 5 = nI q
theorem RD_eq {n : Nat} (h : RD F n) : ∃ p e q, F = np_rF F n p e q := by
  obtain ⟨h1, ⟨p, h2⟩, ⟨e, h3⟩, ⟨q, h4⟩⟩ := h
  refine ⟨p, e, q, ?_⟩
  funext a j
  unfold np_rF
  by_cases ha : a = 179
  · subst ha
    by_cases e2 : j = 2
    · subst e2; simp [h1]
    · by_cases e3 : j = 3
      · subst e3; simp [h2]
      · by_cases e4 : j = 4
        · subst e4; simp [h3]
        · by_cases e5 : j = 5
          · subst e5; simp [h4]
          · simp [e2, e3, e4, e5]
  · simp [ha]
theorem RD_r {n p e q : Nat} : RD (np_rF F n p e q) n := ⟨rfl, ⟨p, rfl⟩, ⟨e, rfl⟩, ⟨q, rfl⟩⟩
theorem RD_ot {G : Nat → Nat → Int32} {n : Nat} (h : RD F n) (e : ∀ j, G 179 j = F 179 j) : RD G n := by
  unfold RD at *
  simp only [e]
  exact h
def WI (F : Nat → Nat → Int32) : Prop := (∀ b, np_B b → GI (np_rg F b)) ∧ (F 0 7 = 0 ∨ F 0 7 = 1) ∧ (∃ j s, np_Hs F j s) ∧ RD F 0
theorem WI.g (h : WI F) : GI F := h.1 1 np_B1
theorem WI.b4 (h : WI F) {b : Nat} (hb : np_B b) : F b 4 = 0 ∨ F b 4 = 1 := by
  have := GI_4 (h.1 b hb)
  have l := np_B_lt hb
  have e : np_rg F b 1 4 = F b 4 := by
    show F (1 + (b - 1)) 4 = F b 4
    rw [show 1 + (b - 1) = b by omega]
  rw [e] at this
  exact this
/-- what holds of the games, when the games are the same -/
theorem WI_of {G : Nat → Nat → Int32} (hg : ∀ b, np_B b → GI (np_rg G b)) (h7 : G 0 7 = 0 ∨ G 0 7 = 1) (hH : ∃ j s, np_Hs G j s) (hR : RD G 0) : WI G := ⟨hg, h7, hH, hR⟩
theorem WI_cp {b c : Nat} (hb : np_B b) (hc : np_B c) (h : WI F) : WI (np_cp F b c) := by
  obtain ⟨hg, h7, ⟨j, s, hH⟩, hR⟩ := h
  have l := np_B_lt hb
  refine ⟨fun d hd => ?_, ?_, ⟨j, s, hH.cp hb⟩, RD_ot hR fun j => np_cp_o (by omega)⟩
  · by_cases e : d = b
    · subst e
      exact GI_same (rg_cp hb hc (hg _ hb) (hg _ hc)).sy (hg _ hc)
    · exact GI_same (rg_cp_o hb hd e).sy (hg _ hd)
  · rw [np_cp_o (by omega)]; exact h7
theorem WI_loc {G : Nat → Nat → Int32} (h : WI F) (hl : np_loc F G) (g : GI G) : WI G := by
  obtain ⟨hg, h7, ⟨j, s, hH⟩, hR⟩ := h
  refine ⟨fun d hd => ?_, by rw [hl 0 7 (by omega)]; exact h7, ⟨j, s, hH.loc hl⟩, RD_ot hR fun j => hl 179 j (by omega)⟩
  have l := np_B_lt hd
  by_cases e : d = 1
  · subst e; exact g
  · refine GI_same (fun a j u => ?_) (hg d hd)
    have lu := np_us_lt u
    have l17 : 17 ≤ d := by rcases hd with rfl | rfl | rfl | ⟨i, hi, rfl⟩ <;> omega
    exact (hl (a + (d - 1)) j (by omega)).symm
theorem WI_u0 {k : Nat} {v : Int32} (h : WI F) (hk : ¬ k = 7 ∨ v = 0 ∨ v = 1) : WI (np_u F 0 k v) := by
  obtain ⟨hg, h7, ⟨j, s, hH⟩, hR⟩ := h
  refine ⟨fun d hd => ?_, ?_, ⟨j, s, hH.1, hH.2.1, by rw [np_u_a (by omega)]; exact hH.2.2.1, by rw [np_u_a (by omega)]; exact hH.2.2.2⟩, RD_ot hR fun j => np_u_a (by omega)⟩
  · refine GI_same (fun a j u => ?_) (hg d hd)
    have lu := np_us_lt u
    exact (np_u_a (show ¬ a + (d - 1) = 0 by omega)).symm
  · by_cases e : k = 7
    · subst e
      rw [np_u_eq]
      rcases hk with q | q
      · exact absurd rfl q
      · exact q
    · rw [np_u_k (by omega)]; exact h7
theorem WI_u49 {G : Nat → Nat → Int32} {j s : Nat} (h : WI F) (hj : j < 8) (hs : s ≤ 8) (h1 : G 49 1 = nI j) (h2 : G 49 2 = nI s) (ho : ∀ a i, ¬ a = 49 → G a i = F a i) : WI G := by
  obtain ⟨hg, h7, -, hR⟩ := h
  refine ⟨fun d hd => ?_, by rw [ho 0 7 (by omega)]; exact h7, ⟨j, s, hj, hs, h1, h2⟩, RD_ot hR fun j => ho _ _ (by omega)⟩
  refine GI_same (fun a j u => ?_) (hg d hd)
  have lu := np_us_lt u
  have ne : ¬ a + (d - 1) = 49 := by rcases hd with rfl | rfl | rfl | ⟨i, hi, rfl⟩ <;> omega
  exact (ho _ _ ne).symm
theorem WI_rd {n p e q : Nat} (h : WI F) : (∀ b, np_B b → GI (np_rg (np_rF F n p e q) b)) ∧ ((np_rF F n p e q) 0 7 = 0 ∨ (np_rF F n p e q) 0 7 = 1) ∧ (∃ j s, np_Hs (np_rF F n p e q) j s) := by
  obtain ⟨hg, h7, ⟨j, s, hH⟩, hR⟩ := h
  refine ⟨fun d hd => ?_, by rw [np_rF_o (by omega)]; exact h7, ⟨j, s, hH.1, hH.2.1, by rw [np_rF_o (by omega)]; exact hH.2.2.1, by rw [np_rF_o (by omega)]; exact hH.2.2.2⟩⟩
  refine GI_same (fun a j u => ?_) (hg d hd)
  have lu := np_us_lt u
  have l := np_B_lt hd
  exact (np_rF_o (show ¬ a + (d - 1) = 179 by omega)).symm
theorem WI_ps {j s : Nat} (h : WI F) (hH : np_Hs F j s) : WI (np_psF F j s) := by
  have h1 := WI_cp (np_B51 hH.1) np_B17 h
  exact WI_u49 (j := np_nx j) (s := min (s + 1) 8) h1 np_nx_lt (by omega) (by unfold np_psF; rw [np_u_k (by decide), np_u_eq]) (by unfold np_psF; rw [np_u_eq]) (fun a i ha => by unfold np_psF; rw [np_u_a ha, np_u_a ha])
theorem Hs_ps {j s : Nat} (hH : np_Hs F j s) : np_Hs (np_psF F j s) (np_nx j) (min (s + 1) 8) := ⟨np_nx_lt, by omega, by unfold np_psF; rw [np_u_k (by decide), np_u_eq], by unfold np_psF; rw [np_u_eq]⟩
theorem WI_pp {j s : Nat} (h : WI F) (hH : np_Hs F j s) : WI (np_ppF F j s) := by
  have hp := np_pv_lt hH.1
  have h1 := WI_cp np_B1 (np_B51 hp) h
  exact WI_u49 (j := np_pv j) (s := s - 1) h1 hp (by have := hH.2.1; omega) (by unfold np_ppF; rw [np_u_k (by decide), np_u_eq]) (by unfold np_ppF; rw [np_u_eq]) (fun a i ha => by unfold np_ppF; rw [np_u_a ha, np_u_a ha])
theorem WI_rs (h : WI F) : WI (np_rsF F) := by
  obtain ⟨j, s, hH⟩ := h.2.2.1
  have h1 := WI_cp np_B1 np_B33 h
  exact WI_u49 (j := j) (s := 0) h1 hH.1 (by omega) (by unfold np_rsF; rw [np_u_k (by decide)]; exact (hH.cp np_B1).2.2.1) (by unfold np_rsF; rw [np_u_eq]; rfl) (fun a i ha => by unfold np_rsF; rw [np_u_a ha])
theorem WI_sv (h : WI F) : WI (np_u (np_cp F 33 1) 0 7 1) := WI_u0 (WI_cp np_B33 np_B1 h) (Or.inr (Or.inr rfl))
theorem WI_kr {x : Int32} (h : WI F) : WI (np_krF F x) := by
  unfold np_krF
  split
  · exact WI_u0 h (Or.inl (by decide))
  · exact h
theorem same_kr {x : Int32} : np_same F (np_krF F x) := fun a j u => by
  have := np_us_lt u
  unfold np_krF
  split
  · rw [np_u_a (by omega)]
  · rfl
theorem same_F0 : np_same F (np_F0 F) := fun a j u => by
  have := np_us_lt u
  exact (np_F0_1 (by omega)).symm
theorem WI_F0 (h : WI F) : WI (np_F0 F) := WI_cp np_B17 np_B1 h
/-- the top of the history is the game F with L cells sailed -/
def UD (F : Nat → Nat → Int32) (L : Nat → Int64) (F' : Nat → Nat → Int32) (L' : Nat → Int64) : Prop := ∃ j s, np_Hs F' j s ∧ 0 < s ∧ np_same (np_rg F' (51 + 16 * np_pv j)) F ∧ L' (51 + 16 * np_pv j) = L 1
theorem UD_ps {L L1 : Nat → Int64} {F1 : Nat → Nat → Int32} {j s : Nat} (h : WI F) (hl : np_loc (np_F0 F) F1) (h1 : WI F1) (hH : np_Hs F1 j s) (hL : L1 17 = L 1) : UD F L (np_psF F1 j s) (np_uL L1 (51 + 16 * j) (L1 17)) := by
  refine ⟨np_nx j, min (s + 1) 8, Hs_ps hH, by omega, ?_, ?_⟩
  · rw [np_pv_nx hH.1]
    have e1 : np_same (np_rg (np_cp F1 (51 + 16 * j) 17) (51 + 16 * j)) (np_rg F1 17) := rg_cp (np_B51 hH.1) np_B17 (h1.1 _ (np_B51 hH.1)) (h1.1 _ np_B17)
    have e2 : np_same (np_rg (np_F0 F) 17) (np_rg F 1) := rg_cp np_B17 np_B1 (h.1 _ np_B17) (h.1 _ np_B1)
    intro a i u
    have lu := np_us_lt u
    have j8 := hH.1
    have a1 := e1 a i u
    have a2 := e2 a i u
    have a3 : np_rg F1 17 a i = np_rg (np_F0 F) 17 a i := hl (a + (17 - 1)) i (by omega)
    have a4 : np_rg (np_psF F1 j s) (51 + 16 * j) a i = np_rg (np_cp F1 (51 + 16 * j) 17) (51 + 16 * j) a i := by
      show np_psF F1 j s (a + (51 + 16 * j - 1)) i = _
      unfold np_psF
      rw [np_u_a (by omega), np_u_a (by omega)]
      rfl
    rw [a4, a1, a3, a2]
    rfl
  · rw [np_pv_nx hH.1]
    show np_uL L1 (51 + 16 * j) (L1 17) (51 + 16 * j) = L 1
    unfold np_uL
    rw [if_pos rfl, hL]
end
