/-! THE PURE PART, 54: the state behind the constructor; the law. -/
def zf (r j : Nat) : Int32 := if (r = 2 ∨ r = 3) ∧ j = 2 then 20 else if 4 ≤ r ∧ j = 0 then nI (r - 4) else 0
def zF : Nat → Nat → Int32 := fun a j => if a = 0 then (if j = 9 ∨ j = 10 then -1 else 0) else if a < 49 then zf ((a - 1) % 16) j else if a < 51 then 0 else if a < 179 then zf ((a - 51) % 16) j else 0
def zL : Nat → Int64 := fun _ => 0
def zC : Nat → Nat → Int32 := fun _ _ => 0
theorem zF_b {b r j : Nat} (hb : np_B b) (hr : r < 16) : zF (b + r) j = zf r j := by
  unfold zF
  rcases hb with rfl | rfl | rfl | ⟨i, hi, rfl⟩
  · rw [if_neg (by omega), if_pos (by omega), show (1 + r - 1) % 16 = r by omega]
  · rw [if_neg (by omega), if_pos (by omega), show (17 + r - 1) % 16 = r by omega]
  · rw [if_neg (by omega), if_pos (by omega), show (33 + r - 1) % 16 = r by omega]
  · rw [if_neg (by omega), if_neg (by omega), if_neg (by omega), if_pos (by omega), show (51 + 16 * i + r - 51) % 16 = r by omega]
theorem zQ_gc {b r : Nat} (hb : np_B b) (hr : r < 16) : (z_Q b 12)[r]? = some (np_gc zF zL b r) := by
  have e0 : ∀ j, zF b j = zf 0 j := fun j => zF_b (r := 0) hb (by decide)
  have er : ∀ j, zF (b + r) j = zf r j := fun j => zF_b hb hr
  unfold np_gc z_Q
  by_cases h0 : r = 0
  · subst h0
    rw [if_pos rfl]
    simp only [e0]
    rfl
  · rw [if_neg h0]
    by_cases h1 : r = 1
    · subst h1
      rw [if_pos rfl]
      rfl
    · rw [if_neg h1]
      by_cases h4 : r < 4
      · rw [if_pos h4]
        simp only [er]
        have h23 : r = 2 ∨ r = 3 := by omega
        rcases h23 with rfl | rfl
        · rfl
        · rfl
      · rw [if_neg h4]
        simp only [er]
        obtain ⟨i, rfl⟩ : ∃ i, r = 4 + i := ⟨r - 4, by omega⟩
        have hl : (z_game b :: z_arr b 12 :: z_acc :: z_acc :: (List.range 12).map z_sp)[4 + i]? = ((List.range 12).map z_sp)[i]? := by
          rw [show 4 + i = i + 1 + 1 + 1 + 1 by omega, List.getElem?_cons_succ, List.getElem?_cons_succ, List.getElem?_cons_succ, List.getElem?_cons_succ]
        rw [hl, List.getElem?_map, List.getElem?_range (by omega)]
        have z1 : zf (4 + i) 0 = nI i := by
          unfold zf
          rw [if_neg (by omega), if_pos (by omega), Nat.add_sub_cancel_left]
        have z2 : ∀ j, ¬ j = 0 → zf (4 + i) j = 0 := fun j hj => by
          unfold zf
          rw [if_neg (by omega), if_neg (by omega)]
        rw [z1, z2 1 (by decide), z2 2 (by decide), z2 3 (by decide), z2 4 (by decide), z2 5 (by decide), z2 6 (by decide), z2 7 (by decide), z2 8 (by decide)]
        rfl
theorem z_gms_at {b r : Nat} (hr : r < 16) : ∀ (n i : Nat), i < n → (z_gms b n)[16 * i + r]? = (z_Q (b + 2 + 16 * i) 12)[r]?
  | 0, i, h => by omega
  | n + 1, i, h => by
    show (z_gms b n ++ z_Q (b + 2 + 16 * n) 12)[16 * i + r]? = _
    by_cases e : i = n
    · subst e
      rw [List.getElem?_append_right (by rw [z_gms_len]; omega), z_gms_len, Nat.add_sub_cancel_left]
    · rw [List.getElem?_append_left (by rw [z_gms_len]; omega), z_gms_at hr n i (by omega)]
theorem zT_5 {q : Nat} (h : q < 181) : z_T6[q]? = z_T5[q]? := List.getElem?_append_left (by rw [z_L5]; exact h)
theorem zT_4 {q : Nat} (h : q < 178) : z_T6[q]? = z_T4[q]? := by
  rw [zT_5 (by omega)]
  exact List.getElem?_append_left (by rw [z_L4]; exact h)
theorem zT_3 {q : Nat} (h : q < 48) : z_T6[q]? = z_T3[q]? := by
  rw [zT_4 (by omega)]
  exact List.getElem?_append_left (by rw [z_L3]; exact h)
theorem zT_2 {q : Nat} (h : q < 32) : z_T6[q]? = z_T2[q]? := by
  rw [zT_3 (by omega)]
  exact List.getElem?_append_left (by rw [z_L2]; exact h)
theorem zT_1 {q : Nat} (h : q < 16) : z_T6[q]? = z_T1[q]? := by
  rw [zT_2 (by omega)]
  exact List.getElem?_append_left (by rw [z_L1]; exact h)
theorem zW_B {b r : Nat} (hb : np_B b) (hr : r < 16) : (z_nav :: z_T6)[b + r]? = (z_Q b 12)[r]? := by
  rcases hb with rfl | rfl | rfl | ⟨i, hi, rfl⟩
  · rw [show 1 + r = r + 1 by omega, List.getElem?_cons_succ, zT_1 hr]
    rfl
  · rw [show 17 + r = (16 + r) + 1 by omega, List.getElem?_cons_succ, zT_2 (by omega)]
    unfold z_T2
    rw [List.getElem?_append_right (by rw [z_L1]; omega), z_L1, Nat.add_sub_cancel_left]
  · rw [show 33 + r = (32 + r) + 1 by omega, List.getElem?_cons_succ, zT_3 (by omega)]
    unfold z_T3
    rw [List.getElem?_append_right (by rw [z_L2]; omega), z_L2, Nat.add_sub_cancel_left]
  · rw [show 51 + 16 * i + r = (48 + (16 * i + r + 1 + 1)) + 1 by omega, List.getElem?_cons_succ, zT_4 (by omega)]
    unfold z_T4
    rw [List.getElem?_append_right (by rw [z_L3]; omega), z_L3, Nat.add_sub_cancel_left]
    unfold z_H
    rw [List.getElem?_cons_succ, List.getElem?_cons_succ, z_gms_at hr 8 i hi]
theorem zheap (q : Nat) : (z_nav :: z_T6)[q]? = np_h zF zL zC 7 q := by
  by_cases h0 : q = 0
  · subst h0; rfl
  by_cases h49 : q = 49
  · subst h49
    rw [show 49 = 48 + 1 by rfl, List.getElem?_cons_succ, zT_4 (by decide)]
    unfold z_T4
    rw [List.getElem?_append_right (by rw [z_L3]; decide), z_L3]
    rfl
  by_cases h50 : q = 50
  · subst h50
    rw [show 50 = 49 + 1 by rfl, List.getElem?_cons_succ, zT_4 (by decide)]
    unfold z_T4
    rw [List.getElem?_append_right (by rw [z_L3]; decide), z_L3]
    show some (z_har 49 8) = _
    unfold np_h
    rw [if_neg (by decide), if_neg (by decide), if_pos rfl]
    rfl
  by_cases h179 : q = 179
  · subst h179
    rw [show 179 = 178 + 1 by rfl, List.getElem?_cons_succ, zT_5 (by decide)]
    unfold z_T5
    rw [List.getElem?_append_right (by rw [z_L4]; decide), z_L4]
    rfl
  by_cases h180 : q = 180
  · subst h180
    rw [show 180 = 179 + 1 by rfl, List.getElem?_cons_succ, zT_5 (by decide)]
    unfold z_T5
    rw [List.getElem?_append_right (by rw [z_L4]; decide), z_L4]
    rfl
  by_cases h181 : q = 181
  · subst h181
    rw [show 181 = 180 + 1 by rfl, List.getElem?_cons_succ, zT_5 (by decide)]
    unfold z_T5
    rw [List.getElem?_append_right (by rw [z_L4]; decide), z_L4]
    rfl
  by_cases h182 : q = 182
  · subst h182
    rw [show 182 = 181 + 1 by rfl, List.getElem?_cons_succ]
    unfold z_T6
    rw [List.getElem?_append_right (by rw [z_L5]; decide), z_L5]
    rfl
  by_cases h183 : 183 ≤ q
  · rw [List.getElem?_eq_none (by rw [List.length_cons, z_L6]; omega)]
    unfold np_h
    rw [if_neg h0, if_neg h49, if_neg h50, if_neg h179, if_neg h180, if_neg h181, if_neg h182, if_neg (by omega), if_neg (by omega)]
  have ex : ∃ b r, np_B b ∧ r < 16 ∧ q = b + r := by
    by_cases a : q < 49
    · by_cases a1 : q < 17
      · exact ⟨1, q - 1, np_B1, by omega, by omega⟩
      · by_cases a2 : q < 33
        · exact ⟨17, q - 17, np_B17, by omega, by omega⟩
        · exact ⟨33, q - 33, np_B33, by omega, by omega⟩
    · exact ⟨51 + 16 * ((q - 51) / 16), (q - 51) % 16, np_B51 (by omega), by omega, by omega⟩
  obtain ⟨b, r, hb, hr, rfl⟩ := ex
  rw [zW_B hb hr, zQ_gc hb hr, np_h_g hb hr]
theorem zstart {scr : nv_Scr} : cs_S [] (z_nav :: z_T6) 1732 scr = np_S zF zL zC 7 0 scr := by
  have e1 : ([] : List nv_Ob).length + (z_nav :: z_T6).length = 183 := by rw [List.length_nil, List.length_cons, z_L6]
  have e2 : (fun q => (([] : List nv_Ob) ++ (z_nav :: z_T6))[q]?) = np_h zF zL zC 7 := funext fun q => zheap q
  unfold cs_S np_S
  rw [e1, e2]
def zV : gm_V := fun a j => if (a = 3 ∨ a = 4) ∧ j = 2 then 20 else if 5 ≤ a ∧ j = 0 then a - 5 else 0
theorem zV_s {i j : Nat} (hj : ¬ j = 0) : zV (5 + i) j = 0 := by
  unfold zV
  rw [if_neg (by omega), if_neg (by omega)]
theorem zV_0 {i : Nat} : zV (5 + i) 0 = i := by
  unfold zV
  rw [if_neg (by omega), if_pos (by omega), Nat.add_sub_cancel_left]
theorem zok : gm_ok zV := by
  have c : ∀ f, gm_cnt zV f = 0 := fun f => sn_null 12 0 (fun q _ _ => by unfold gm_ct; rw [if_pos (zV_s (by decide))])
  have u : ∀ f, gm_cub zV f = 0 := fun f => sn_null 12 0 (fun q _ _ => by
    unfold gm_cu
    rw [zV_s (by decide), zV_s (by decide)]
    split <;> rfl)
  refine ⟨fun i hi => ?_, ⟨by decide, fun i _ _ => zV_s (by decide)⟩, fun i j _ _ h => absurd (zV_s (by decide)) h, ⟨by decide, by decide, by decide⟩, ?_, ?_, ⟨fun _ => ⟨rfl, rfl⟩, fun h => absurd h (by decide)⟩, ⟨rfl, by decide⟩⟩
  · rw [zV_0, zV_s (by decide), zV_s (by decide), zV_s (by decide), zV_s (by decide), zV_s (by decide), zV_s (by decide), zV_s (by decide), zV_s (by decide)]
    exact ⟨rfl, by decide, by decide, by decide, by decide, by decide, by decide, by decide, by decide, fun _ => rfl⟩
  · unfold gmX
    rw [c, u]
    exact ⟨rfl, rfl, rfl, by decide, by decide⟩
  · unfold gmX
    rw [c, u]
    exact ⟨rfl, rfl, rfl, by decide, by decide⟩
theorem zGI {b : Nat} (hb : np_B b) : GI (np_rg zF b) := by
  have l := np_B_lt hb
  have e : ∀ a j, 1 ≤ a → a < 17 → np_rg zF b a j = zf (a - 1) j := fun a j h1 h2 => by
    show zF (a + (b - 1)) j = _
    rw [show a + (b - 1) = b + (a - 1) by omega]
    exact zF_b hb (by omega)
  refine ⟨zV, ⟨fun i hi j hj => ?_, fun j hj => ⟨?_, ?_⟩, fun j hj => ?_⟩, zok⟩
  · rw [e _ _ (by omega) (by omega)]
    unfold zf
    by_cases h : j = 0
    · subst h
      rw [if_neg (by omega), if_pos (by omega), zV_0]
      congr 1
      omega
    · rw [if_neg (by omega), if_neg (by omega), zV_s h]
      rfl
  · rw [e _ _ (by decide) (by decide)]
    unfold zf zV
    by_cases h : j = 2
    · rw [if_pos ⟨Or.inl rfl, h⟩, if_pos ⟨Or.inl rfl, h⟩]
      rfl
    · rw [if_neg (fun q => h q.2), if_neg (by omega), if_neg (fun q => h q.2), if_neg (by omega)]
      rfl
  · rw [e _ _ (by decide) (by decide)]
    unfold zf zV
    by_cases h : j = 2
    · rw [if_pos ⟨Or.inr rfl, h⟩, if_pos ⟨Or.inr rfl, h⟩]
      rfl
    · rw [if_neg (fun q => h q.2), if_neg (by omega), if_neg (fun q => h q.2), if_neg (by omega)]
      rfl
  · rw [e _ _ (by decide) (by decide)]
    unfold zf zV
    rw [if_neg (by omega), if_neg (by omega), if_neg (by omega), if_neg (by omega)]
    rfl
theorem zWI : WI zF := ⟨fun b hb => zGI hb, Or.inl rfl, ⟨0, 0, by decide, by decide, rfl, rfl⟩, ⟨rfl, ⟨0, rfl⟩, ⟨0, rfl⟩, ⟨0, rfl⟩⟩⟩
theorem np_law : np_Law := by
  intro L xs hL
  obtain ⟨F', L', C', fm', k', hk, e⟩ := q180 (scr := (L, xs)) hL (L := zL) (C := zC) zWI (show 7 < 8 by decide)
  have e71 := n71 (scr := (L, xs))
  rw [zstart] at e71
  have e0 : nv_mk (np_s0 L xs) (.inr (5, [.null, .null, .null, .null, .null, .null, .int 0, .int 0, .int 0, .int 0, .int 0])) 11 = cs_S [] [z_nnew] 11 (L, xs) := by
    unfold nv_mk np_s0 cs_S
    refine Prod.ext ?_ rfl
    funext q
    show (if q = 0 then some z_nnew else none) = ([z_nnew] : List nv_Ob)[q]?
    by_cases h : q = 0
    · subst h; rfl
    · rw [if_neg h, List.getElem?_eq_none (by rw [List.length_singleton]; omega)]
  have i0 : nv_isO (cs_S [] [z_nnew] 11 (L, xs)) 5 0 = true := rfl
  have h1 : (np_s0 L xs).2.2.1 = 0 := id rfl
  have h2 : (np_s0 L xs).2.1 = 0 := id rfl
  refine ⟨np_S F' L' C' fm' k' (L, xs), ?_, ?_, ?_⟩
  · show np_X 180 0 [some (.ref nv_scrA), none, none, none, none, none, none, none, none] [] (np_s0 L xs) = _
    rw [e180_0 h1 (by rw [h2]; decide), h2, e0, e180_3, e180_4 (by decide) i0, e71, np_aft_u, e180_7r, e]
  · show 183 + k' ≤ 500000
    omega
  · show 1732 + 6 * k' ≤ 4000000
    omega
