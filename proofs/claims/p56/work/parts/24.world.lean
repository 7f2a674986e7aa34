/-! THE START, 1: what stands before the law begins, out of the Statement's premises (written by wip/p56/gen24.py). -/
def np_fl : List Cond := flatC (Jvm.Cond.and given_1 narrow_1)
def np_tx : List Nat := [346, 347, 349, 351, 353, 355, 357, 359, 361, 363, 365, 367, 369, 371, 373, 375, 377, 379, 381, 383, 385, 387, 389, 391]
def np_px : List Nat := [52, 58, 61, 64, 67, 70, 73, 76]
def np_fs : List String := ["SPOON", "START", "TURN", "SAIL", "SNEAK", "FIRE", "LOAD", "END"]
def np_str (i : Nat) : Term := if i < 24 then .string "SpoonNavyLaw" (np_tx.getD i 0) else .string "SpoonNavy$Form" (np_px.getD (i - 24) 0)
def np_vl (i : Nat) : Term := .field (np_str i) "java/lang/String" "value" "[B"
def np_frm (i : Nat) : Term := .static "SpoonNavy$Form" (np_fs.getD i "") "LSpoonNavy$Form;"
def np_tm (k : Nat) : Option Term :=
  if k < 32 then some (np_str k)
  else if k < 100 then none
  else if k < 132 then some (np_vl (k - 100))
  else if k < 200 then none
  else if k < 208 then some (np_frm (k - 200))
  else if k = 300 then some (.static "SpoonNavy" "FORMS" "[LSpoonNavy$Form;")
  else if k = 301 then some (.static "SpoonNavy$1" "$SwitchMap$SpoonNavy$Form" "[I")
  else if k = 302 then some (.static "SpoonNavyLaw" "TEXTS" "[Ljava/lang/String;")
  else if k = 303 then some (.static "jdk/internal/util/Preconditions" "SIOOBE_FORMATTER" "Ljava/util/function/BiFunction;")
  else none
def np_sv (b : Nat) (s : State) (k : Nat) : Value := if k = 900 then .ref b else match np_tm k with
  | some t => match t.eval #[.ref b] s none [] s with
    | some (.ref a) => .ref a
    | _ => .null
  | none => .null
theorem np_sv_ref (b : Nat) (s : State) (k : Nat) : ∃ r : Option Nat, np_sv b s k = va_rf r := by
  unfold np_sv
  split
  · exact ⟨some b, rfl⟩
  · split
    · split
      · rename_i a _; exact ⟨some a, rfl⟩
      · exact ⟨none, rfl⟩
    · exact ⟨none, rfl⟩
theorem np_sv_at {b : Nat} {s : State} {k a : Nat} {t : Term} (hk : ¬ k = 900) (ht : np_tm k = some t) (h : t.eval #[.ref b] s none [] s = some (.ref a)) : np_sv b s k = .ref a := by
  unfold np_sv
  rw [if_neg hk, ht]
  simp only [h]
theorem np_sv_nul {b : Nat} {s : State} {k : Nat} {t : Term} (hk : ¬ k = 900) (ht : np_tm k = some t) (h : t.eval #[.ref b] s none [] s = some .null) : np_sv b s k = .null := by
  unfold np_sv
  rw [if_neg hk, ht]
  simp only [h]
/-- the words of a text -/
def np_swd (i : Nat) : List Cond := [.exactly (np_str i) "java/lang/String", .eq (.field (np_str i) "java/lang/String" "coder" "B") (.int 0), .arrayOf (np_vl i) .byte, .eq (.length (np_vl i)) (.int (Int32.ofNat (nv_lens.getD i 0)))] ++ (List.range (nv_lens.getD i 0)).map (fun j => .eq (.elem (np_vl i) (.int (Int32.ofNat j))) (.int ((nv_byts.getD i []).getD j 0)))
def np_pos : List Nat := [877, 886, 894, 905, 917, 938, 950, 967, 980, 997, 1010, 1032, 1044, 1065, 1082, 1099, 1116, 1133, 1150, 1162, 1174, 1186, 1198, 1212, 1236, 1253, 1263, 1275, 1287, 1300, 1313, 870]
theorem np_sws : ∀ i, i < 32 → (np_fl.drop (np_pos.getD i 0)).take (4 + nv_lens.getD i 0) = np_swd i := by decide +kernel
theorem np_sw_in {i : Nat} (h : i < 32) {w : Cond} (hw : w ∈ np_swd i) : w ∈ np_fl := by
  rw [← np_sws i h] at hw
  exact List.mem_of_mem_drop (List.mem_of_mem_take hw)
section
variable {b : Nat} {s : State}
theorem np_eval_ref {t t' : Term} {a : Nat} (h : (Cond.eq t t').before #[.ref b] s = true) (ht : t'.eval #[.ref b] s none [] s = some (.ref a)) : t.eval #[.ref b] s none [] s = some (.ref a) := by
  cases hv : t.eval #[.ref b] s none [] s with
  | none => simp [Cond.before, Cond.holds, Cond.value, hv] at h
  | some w =>
    simp only [Cond.before, Cond.holds, Cond.value, hv, ht] at h
    cases w <;> simp_all
theorem np_Str (X : nv_X) (hX2 : X.2.1 = np_sv b s) (hA : ∀ a : Nat, a < s.heap.size → ¬ nv_A X a) (hfl : ∀ w ∈ np_fl, w.before #[.ref b] s = true) {i : Nat} (hi : i < 32) : (∃ a : Nat, (np_str i).eval #[.ref b] s none [] s = some (.ref a)) ∧ nv_Str X s s.heap i := by
  have hw : ∀ w ∈ np_swd i, w.before #[.ref b] s = true := fun w h => hfl w (np_sw_in hi h)
  have h1 := hw (.exactly (np_str i) "java/lang/String") (by simp [np_swd])
  have h2 := hw (.eq (.field (np_str i) "java/lang/String" "coder" "B") (.int 0)) (by simp [np_swd])
  have h3 := hw (.arrayOf (np_vl i) .byte) (by simp [np_swd])
  have h4 := hw (.eq (.length (np_vl i)) (.int (Int32.ofNat (nv_lens.getD i 0)))) (by simp [np_swd])
  obtain ⟨a, c, cell, k, ha, hc, hcell, -, hst, hcls, -⟩ := Cond.exactly_spec h1
  have hlen : nv_lens.getD i 0 < 2 ^ 31 := (show ∀ i, i < 32 → nv_lens.getD i 0 < 2 ^ 31 by decide) i hi
  obtain ⟨t, ht, hT⟩ := va_Tof (A := nv_A X) (f := fun j => .int ((nv_byts.getD i []).getD j 0)) hlen h3 (va_eqt h4) (fun j hj => va_eqt (hw (.eq (.elem (np_vl i) (.int (Int32.ofNat j))) (.int ((nv_byts.getD i []).getD j 0))) (by
    unfold np_swd
    exact List.mem_append_right _ (List.mem_map.mpr ⟨j, List.mem_range.mpr hj, rfl⟩)))) hA
  refine ⟨⟨a, ha⟩, a, t, ?_, ?_, ⟨cell, hcell, hst, by rw [hcls]; exact hc, hA a (Array.getElem?_eq_some_iff.mp hcell).1⟩, vk_OFof ha (va_eqt h2) hA, vk_OFof ha ht hA, hT⟩
  · rw [hX2]
    exact np_sv_at (by omega) (by unfold np_tm; rw [if_pos hi]) ha
  · rw [hX2]
    refine np_sv_at (t := np_vl i) (by omega) ?_ ht
    unfold np_tm
    rw [if_neg (by omega), if_neg (by omega), if_pos (by omega), show 100 + i - 100 = i by omega]
def np_fwd (i : Nat) : List Cond := [.exactly (np_frm i) "SpoonNavy$Form", .eq (.field (np_frm i) "java/lang/Enum" "ordinal" "I") (.int (Int32.ofNat i)), .eq (.field (np_frm i) "SpoonNavy$Form" "pattern" "Ljava/lang/String;") (np_str (24 + i))]
def np_fps : List Nat := [65, 69, 74, 80, 87, 95, 104, 4]
theorem np_fws : ∀ i, i < 8 → (np_fl.drop (np_fps.getD i 0)).take 3 = np_fwd i := by decide +kernel
theorem np_fw_in {i : Nat} (h : i < 8) {w : Cond} (hw : w ∈ np_fwd i) : w ∈ np_fl := by
  rw [← np_fws i h] at hw
  exact List.mem_of_mem_drop (List.mem_of_mem_take hw)
theorem np_Frm (X : nv_X) (hX2 : X.2.1 = np_sv b s) (hA : ∀ a : Nat, a < s.heap.size → ¬ nv_A X a) (hfl : ∀ w ∈ np_fl, w.before #[.ref b] s = true) {i : Nat} (hi : i < 8) : (∃ a : Nat, (np_frm i).eval #[.ref b] s none [] s = some (.ref a)) ∧ nv_Frm X s s.heap i := by
  have hw : ∀ w ∈ np_fwd i, w.before #[.ref b] s = true := fun w h => hfl w (np_fw_in hi h)
  have h1 := hw (.exactly (np_frm i) "SpoonNavy$Form") (by simp [np_fwd])
  have h2 := hw (.eq (.field (np_frm i) "java/lang/Enum" "ordinal" "I") (.int (Int32.ofNat i))) (by simp [np_fwd])
  have h3 := hw (.eq (.field (np_frm i) "SpoonNavy$Form" "pattern" "Ljava/lang/String;") (np_str (24 + i))) (by simp [np_fwd])
  obtain ⟨a, c, cell, k, ha, hc, hcell, -, hst, hcls, -⟩ := Cond.exactly_spec h1
  obtain ⟨⟨q, hq⟩, -⟩ := np_Str X hX2 hA hfl (i := 24 + i) (by omega)
  have e1 : X.2.1 (24 + i) = .ref q := by
    rw [hX2]
    exact np_sv_at (by omega) (by unfold np_tm; rw [if_pos (by omega)]) hq
  refine ⟨⟨a, ha⟩, a, ?_, ⟨cell, hcell, hst, by rw [hcls]; exact hc, hA a (Array.getElem?_eq_some_iff.mp hcell).1⟩, vk_OFof ha (va_eqt h2) hA, ?_⟩
  · rw [hX2]
    refine np_sv_at (t := np_frm i) (by omega) ?_ ha
    unfold np_tm
    rw [if_neg (by omega), if_neg (by omega), if_neg (by omega), if_neg (by omega), if_pos (by omega), show 200 + i - 200 = i by omega]
  · rw [e1]
    exact vk_OFof ha (np_eval_ref h3 hq) hA
end
def np_F : Term := .static "SpoonNavy" "FORMS" "[LSpoonNavy$Form;"
def np_Sm : Term := .static "SpoonNavy$1" "$SwitchMap$SpoonNavy$Form" "[I"
def np_T : Term := .static "SpoonNavyLaw" "TEXTS" "[Ljava/lang/String;"
theorem np_Fw1 : (np_fl.drop 11).take 2 = [.arrayOf np_F (.object "SpoonNavy$Form"), .eq (.length np_F) (.int (Int32.ofNat 8))] := by decide +kernel
theorem np_Fw2 : (np_fl.drop 14).take 8 = (List.range 8).map (fun j => .eq (.elem np_F (.int (Int32.ofNat j))) (np_frm j)) := by decide +kernel
theorem np_Sw : (np_fl.drop 28).take 10 = [.arrayOf np_Sm .int, .eq (.length np_Sm) (.int (Int32.ofNat 8))] ++ (List.range 8).map (fun j => .eq (.elem np_Sm (.int (Int32.ofNat j))) (.int (nv_sw.getD j 0))) := by decide +kernel
theorem np_Tw : (np_fl.drop 39).take 26 = [.arrayOf np_T (.object "java/lang/String"), .eq (.length np_T) (.int (Int32.ofNat 24))] ++ (List.range 24).map (fun j => .eq (.elem np_T (.int (Int32.ofNat j))) (np_str j)) := by decide +kernel
theorem np_cut {n m : Nat} {l : List Cond} (h : (np_fl.drop n).take m = l) {w : Cond} (hw : w ∈ l) : w ∈ np_fl := by
  rw [← h] at hw
  exact List.mem_of_mem_drop (List.mem_of_mem_take hw)
theorem ti_N : Cond.initialized "SpoonNavy" ∈ lw_tbl := List.mem_of_getElem? (i := 23) (by decide +kernel)
theorem ti_1 : Cond.initialized "SpoonNavy$1" ∈ lw_tbl := List.mem_of_getElem? (i := 45) (by decide +kernel)
theorem ti_L : Cond.initialized "SpoonNavyLaw" ∈ lw_tbl := List.mem_of_getElem? (i := 22) (by decide +kernel)
theorem ti_F : Cond.initialized "SpoonNavy$Form" ∈ lw_tbl := List.mem_of_getElem? (i := 30) (by decide +kernel)
theorem ti_S : Cond.initialized "java/lang/String" ∈ lw_tbl := List.mem_of_getElem? (i := 36) (by decide +kernel)
theorem ti_P : Cond.initialized "jdk/internal/util/Preconditions" ∈ lw_tbl := List.mem_of_getElem? (i := 43) (by decide +kernel)
theorem ti_T : Cond.initialized "java/lang/Throwable" ∈ lw_tbl := List.mem_of_getElem? (i := 31) (by decide +kernel)
theorem tl_F : Cond.laysStatic "SpoonNavy" "FORMS" "[LSpoonNavy$Form;" ∈ lw_tbl := List.mem_of_getElem? (i := 604) (by decide +kernel)
theorem tl_S : Cond.laysStatic "SpoonNavy$1" "$SwitchMap$SpoonNavy$Form" "[I" ∈ lw_tbl := List.mem_of_getElem? (i := 704) (by decide +kernel)
theorem tl_T : Cond.laysStatic "SpoonNavyLaw" "TEXTS" "[Ljava/lang/String;" ∈ lw_tbl := List.mem_of_getElem? (i := 887) (by decide +kernel)
theorem tl_E : Cond.laysStatic "SpoonNavy$Form" "END" "LSpoonNavy$Form;" ∈ lw_tbl := List.mem_of_getElem? (i := 226) (by decide +kernel)
theorem tl_C : Cond.laysStatic "java/lang/String" "COMPACT_STRINGS" "Z" ∈ lw_tbl := List.mem_of_getElem? (i := 618) (by decide +kernel)
theorem tl_P : Cond.laysStatic "jdk/internal/util/Preconditions" "SIOOBE_FORMATTER" "Ljava/util/function/BiFunction;" ∈ lw_tbl := List.mem_of_getElem? (i := 634) (by decide +kernel)
theorem tl_U : Cond.laysStatic "java/lang/Throwable" "UNASSIGNED_STACK" "[Ljava/lang/StackTraceElement;" ∈ lw_tbl := List.mem_of_getElem? (i := 328) (by decide +kernel)
theorem tl_Z : Cond.laysStatic "java/lang/Throwable" "SUPPRESSED_SENTINEL" "Ljava/util/List;" ∈ lw_tbl := List.mem_of_getElem? (i := 330) (by decide +kernel)
theorem tn_Account : Cond.instantiable "SpoonNavy$Account" 8 ∈ lw_tbl := List.mem_of_getElem? (i := 64) (by decide +kernel)
theorem tn_CommandText : Cond.instantiable "SpoonNavy$CommandText" 7 ∈ lw_tbl := List.mem_of_getElem? (i := 220) (by decide +kernel)
theorem tn_Game : Cond.instantiable "SpoonNavy$Game" 12 ∈ lw_tbl := List.mem_of_getElem? (i := 56) (by decide +kernel)
theorem tn_History : Cond.instantiable "SpoonNavy$History" 3 ∈ lw_tbl := List.mem_of_getElem? (i := 200) (by decide +kernel)
theorem tn_Spoon : Cond.instantiable "SpoonNavy$Spoon" 9 ∈ lw_tbl := List.mem_of_getElem? (i := 104) (by decide +kernel)
theorem tn_SpoonNavy : Cond.instantiable "SpoonNavy" 11 ∈ lw_tbl := List.mem_of_getElem? (i := 48) (by decide +kernel)
theorem ta_char : Cond.arrayClass .char ∈ lw_tbl := List.mem_of_getElem? (i := 251) (by decide +kernel)
theorem ta_int : Cond.arrayClass .int ∈ lw_tbl := List.mem_of_getElem? (i := 252) (by decide +kernel)
theorem ta_Spoon : Cond.arrayOver (.object "SpoonNavy$Spoon") ∈ lw_tbl := List.mem_of_getElem? (i := 62) (by decide +kernel)
theorem ta_Game : Cond.arrayOver (.object "SpoonNavy$Game") ∈ lw_tbl := List.mem_of_getElem? (i := 206) (by decide +kernel)
theorem np_msgT : ∀ q ∈ nv_msgs, Cond.stringRef "SpoonNavy" q.1 q.2 ∈ lw_tbl := by decide +kernel
theorem np_msgF : ∀ q ∈ nv_msgs, Cond.exactly (.string "SpoonNavy" q.1) "java/lang/String" ∈ np_fl := by decide +kernel
theorem np_ncF : ∀ q ∈ nv_nc, Cond.not (.castable q.1 q.2) ∈ np_fl := by decide +kernel
theorem np_csF : Cond.eq (.static "java/lang/String" "COMPACT_STRINGS" "Z") (.int 1) ∈ np_fl := List.mem_of_getElem? (i := 22) (by decide +kernel)
theorem np_pcF : Cond.isRef (.static "jdk/internal/util/Preconditions" "SIOOBE_FORMATTER" "Ljava/util/function/BiFunction;") ∈ np_fl := List.mem_of_getElem? (i := 23) (by decide +kernel)
theorem np_usF : Cond.isRef (.static Bundle.tN "UNASSIGNED_STACK" Bundle.steD) ∈ np_fl := List.mem_of_getElem? (i := 7) (by decide +kernel)
theorem np_ssF : Cond.isRef (.static Bundle.tN "SUPPRESSED_SENTINEL" Bundle.listD) ∈ np_fl := List.mem_of_getElem? (i := 8) (by decide +kernel)
section
variable {b : Nat} {s : State}
theorem np_Row {X : nv_X} (hX2 : X.2.1 = np_sv b s) (hA : ∀ a : Nat, a < s.heap.size → ¬ nv_A X a) {k N : Nat} {C n d : String} {ty : FieldType} {f : Nat → Value} (hk : ¬ k = 900) (ht : np_tm k = some (.static C n d)) (hN : N < 2 ^ 31) (hl : (Cond.laysStatic C n d).before #[.ref b] s = true) (hi : (Cond.initialized C).before #[.ref b] s = true)
    (harr : (Cond.arrayOf (.static C n d) ty).before #[.ref b] s = true) (hlen : (Term.length (.static C n d)).eval #[.ref b] s none [] s = some (.int (Int32.ofNat N))) (hel : ∀ j : Nat, j < N → (Term.elem (.static C n d) (.int (Int32.ofNat j))).eval #[.ref b] s none [] s = some (f j)) : nv_Row X s s.heap k C n d ty N f := by
  obtain ⟨t, h1, h2⟩ := va_Tof hN harr hlen hel hA
  exact ⟨t, by rw [hX2]; exact np_sv_at hk ht h1, va_Zof hl hi h1 hA, h2⟩
theorem np_isRef {t : Term} (h : (Cond.isRef t).before #[.ref b] s = true) : t.eval #[.ref b] s none [] s = some .null ∨ ∃ a : Nat, t.eval #[.ref b] s none [] s = some (.ref a) := by
  cases hv : t.eval #[.ref b] s none [] s with
  | none => simp [Cond.before, Cond.holds, Cond.value, hv] at h
  | some w =>
    simp only [Cond.before, Cond.holds, Cond.value, hv] at h
    cases w with
    | null => exact Or.inl rfl
    | ref t => exact Or.inr ⟨t, rfl⟩
    | _ => simp at h
theorem np_Ar {cA : ClassId} {ty : FieldType} {kA : Class} {comp : ClassId} (h1 : s.vm.classes[cA]? = some kA) (h2 : kA.kind = .array comp ty) : ArrOfT s cA ty := fun N z => ⟨(fun k h => by cases h), kA, h1, comp, h2⟩
theorem np_world {L : Nat} {xs : Nat → Int32} (hts : ∀ w ∈ lw_tbl, w.before #[.ref b] s = true) (hsc : va_X b L xs s s.heap) (hbl : b < s.heap.size) (hgv : (Jvm.Cond.and given_1 narrow_1).before #[.ref b] s = true) : ∃ X : nv_X, X.1 = s.heap.size ∧ nv_Wd X (L, xs) s s.heap ∧ X.2.1 900 = .ref b := by
  have hfl : ∀ w ∈ np_fl, w.before #[.ref b] s = true := flat_of_before _ hgv
  obtain ⟨c0, i0, k0⟩ := u_known (C := RX1) (T := TX1) (N := 8) hts (by decide +kernel) (hts _ tn_Account)
  obtain ⟨c1, i1, k1⟩ := u_known (C := RX2) (T := TX2) (N := 7) hts (by decide +kernel) (hts _ tn_CommandText)
  obtain ⟨c2, i2, k2⟩ := u_known (C := RX4) (T := TX4) (N := 12) hts (by decide +kernel) (hts _ tn_Game)
  obtain ⟨c3, i3, k3⟩ := u_known (C := RX5) (T := TX5) (N := 3) hts (by decide +kernel) (hts _ tn_History)
  obtain ⟨c4, i4, k4⟩ := u_known (C := RX6) (T := TX6) (N := 9) hts (by decide +kernel) (hts _ tn_Spoon)
  obtain ⟨c5, i5, k5⟩ := u_known (C := RX7) (T := TX7) (N := 11) hts (by decide +kernel) (hts _ tn_SpoonNavy)
  obtain ⟨a0, q0, p0, e0, f0, g0⟩ := Cond.arrayClass_spec (hts _ ta_char)
  obtain ⟨a1, q1, p1, e1, f1, g1⟩ := Cond.arrayClass_spec (hts _ ta_int)
  obtain ⟨p2, a2, q2, d2, -, f2, g2, h2⟩ := Cond.arrayOver_spec (hts _ ta_Spoon)
  obtain ⟨p3, a3, q3, d3, -, f3, g3, h3⟩ := Cond.arrayOver_spec (hts _ ta_Game)
  let X : nv_X := (s.heap.size, np_sv b s, (fun c => [c0, c1, c2, c3, c4, c5].getD c c0, fun c => [i0, i1, i2, i3, i4, i5].getD c i0), fun t => [a0, a1, a2, a3].getD t a0)
  have hX2 : X.2.1 = np_sv b s := rfl
  have hA : ∀ a : Nat, a < s.heap.size → ¬ nv_A X a := fun a h => Nat.not_le.mpr h
  have hStr : ∀ i, i < 32 → (∃ a : Nat, (np_str i).eval #[.ref b] s none [] s = some (.ref a)) ∧ nv_Str X s s.heap i := fun i hi => np_Str X hX2 hA hfl hi
  have hFrm : ∀ i, i < 8 → (∃ a : Nat, (np_frm i).eval #[.ref b] s none [] s = some (.ref a)) ∧ nv_Frm X s s.heap i := fun i hi => np_Frm X hX2 hA hfl hi
  have sx : ∀ i, i < 32 → (np_str i).eval #[.ref b] s none [] s = some (X.2.1 i) := by
    intro i hi
    obtain ⟨⟨a, ha⟩, -⟩ := hStr i hi
    rw [hX2, np_sv_at (k := i) (by omega) (by unfold np_tm; rw [if_pos hi]) ha]
    exact ha
  have fx : ∀ i, i < 8 → (np_frm i).eval #[.ref b] s none [] s = some (X.2.1 (200 + i)) := by
    intro i hi
    obtain ⟨⟨a, ha⟩, -⟩ := hFrm i hi
    rw [hX2, np_sv_at (k := 200 + i) (t := np_frm i) (by omega) (by
      unfold np_tm
      rw [if_neg (by omega), if_neg (by omega), if_neg (by omega), if_neg (by omega), if_pos (by omega), show 200 + i - 200 = i by omega]) ha]
    exact ha
  have eqr : ∀ {t t' : Term} {v : Value}, (∃ a : Nat, t'.eval #[.ref b] s none [] s = some (.ref a)) → t'.eval #[.ref b] s none [] s = some v → (Cond.eq t t').before #[.ref b] s = true → t.eval #[.ref b] s none [] s = some v := by
    rintro t t' v ⟨a, ha⟩ hv h
    rw [← hv, ha]
    exact np_eval_ref h ha
  refine ⟨X, rfl, ⟨⟨?_, ?_⟩, ⟨fun i hi => (hStr i hi).2, fun i hi => (hFrm i hi).2, ?_, ?_, ?_, ?_, ?_, ?_, ?_, ?_, ?_⟩, ?_, ?_, hts _ ta_Spoon, hts _ ta_Game, ⟨b, rfl, hbl, hsc⟩, np_sv_ref b s, Nat.le_refl _⟩, rfl⟩
  · intro c q hq
    match c, hq with
    | 0, hq => cases hq; exact k0
    | 1, hq => cases hq; exact k1
    | 2, hq => cases hq; exact k2
    | 3, hq => cases hq; exact k3
    | 4, hq => cases hq; exact k4
    | 5, hq => cases hq; exact k5
    | n + 6, hq => simp at hq
  · intro k q hq
    match k, hq with
    | 0, hq => cases hq; exact ⟨np_Ar f0 g0, e0⟩
    | 1, hq => cases hq; exact ⟨np_Ar f1 g1, e1⟩
    | 2, hq => cases hq; exact ⟨np_Ar f2 g2, q2, p2, f2, g2, d2, h2⟩
    | 3, hq => cases hq; exact ⟨np_Ar f3 g3, q3, p3, f3, g3, d3, h3⟩
    | n + 4, hq => simp at hq
  · refine np_Row hX2 hA (by decide) rfl (by decide) (hts _ tl_F) (hts _ ti_N) (hfl _ (np_cut np_Fw1 List.mem_cons_self)) (va_eqt (hfl _ (np_cut np_Fw1 (List.mem_cons_of_mem _ List.mem_cons_self)))) (fun j hj => ?_)
    exact eqr (hFrm j hj).1 (fx j hj) (hfl _ (np_cut np_Fw2 (List.mem_map.mpr ⟨j, List.mem_range.mpr hj, rfl⟩)))
  · refine np_Row hX2 hA (by decide) rfl (by decide) (hts _ tl_S) (hts _ ti_1) (hfl _ (np_cut np_Sw List.mem_cons_self)) (va_eqt (hfl _ (np_cut np_Sw (List.mem_cons_of_mem _ List.mem_cons_self)))) (fun j hj => ?_)
    exact va_eqt (hfl _ (np_cut np_Sw (List.mem_append_right _ (List.mem_map.mpr ⟨j, List.mem_range.mpr hj, rfl⟩))))
  · refine np_Row hX2 hA (by decide) rfl (by decide) (hts _ tl_T) (hts _ ti_L) (hfl _ (np_cut np_Tw List.mem_cons_self)) (va_eqt (hfl _ (np_cut np_Tw (List.mem_cons_of_mem _ List.mem_cons_self)))) (fun j hj => ?_)
    exact eqr (hStr j (by omega)).1 (sx j (by omega)) (hfl _ (np_cut np_Tw (List.mem_append_right _ (List.mem_map.mpr ⟨j, List.mem_range.mpr hj, rfl⟩))))
  · exact va_Zof (hts _ tl_E) (hts _ ti_F) (fx 7 (by decide)) hA
  · exact va_Zof (hts _ tl_C) (hts _ ti_S) (va_eqt (hfl _ np_csF)) hA
  · rcases np_isRef (hfl _ np_pcF) with h | ⟨a, h⟩
    · rw [hX2, np_sv_nul (k := 303) (by decide) rfl h]
      exact va_Zof (hts _ tl_P) (hts _ ti_P) h hA
    · rw [hX2, np_sv_at (k := 303) (by decide) rfl h]
      exact va_Zof (hts _ tl_P) (hts _ ti_P) h hA
  · exact vx_Zqof (hts _ tl_U) (hts _ ti_T) (hfl _ np_usF) hA
  · exact vx_Zqof (hts _ tl_Z) (hts _ ti_T) (hfl _ np_ssF) hA
  · intro q hq
    obtain ⟨a, -, -, -, ha, -⟩ := Cond.exactly_spec (hfl _ (np_msgF q hq))
    exact ⟨a, vk_R.of (A := #[]) (hts _ (np_msgT q hq)) ha⟩
  · intro w hw
    have hm := List.mem_filter.mp hw
    have h1 := hts w hm.1
    have h2 := hm.2
    cases w <;> first | exact h1 | cases h2
  · intro q hq
    exact va_Nc.of (hfl _ (np_ncF q hq))
end
