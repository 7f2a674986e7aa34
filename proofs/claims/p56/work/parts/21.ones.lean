/-! SOUNDNESS OF THE ABSTRACT CODE, 2: each deed (written by wip/p56/gen20.py). -/
/-- what is owed of one deed: y its method -/
def nv_one (M : nv_M) (y : Nat) (pc : Nat) : nv_Ins → Prop
  | .inl op => nv_ok M pc op
  | .inr (.inl (y', k, nx, o)) => nx = pc + 3 ∧ nv_SC M (np_M y') pc k o ∧ (∀ E, np_hd y pc E = none → ∀ x ∈ tableOf M.2.2.2.2.1, covers x pc = false) ∧ (∀ E t i, np_hd y pc E = some (t, i) → (∀ op, (np_P.1 y)[t]? ≠ some (some op)) ∨ nv_SK M pc E t i)
  | .inr (.inr E) => nv_ST M pc E
def nv_all (M : nv_M) (y : Nat) : Nat → List (Option nv_Ins) → Prop
  | _, [] => True
  | pc, none :: r => nv_all M y (pc + 1) r
  | pc, some i :: r => nv_one M y pc i ∧ nv_all M y (pc + 1) r
theorem nv_all_at {M : nv_M} {y : Nat} : ∀ (l : List (Option nv_Ins)) (pc : Nat), nv_all M y pc l → ∀ (k : Nat) (i : nv_Ins), l[k]? = some (some i) → nv_one M y (pc + k) i
  | [], pc, _, k, i, h => by simp at h
  | none :: r, pc, ha, k, i, h => by
    cases k with
    | zero => simp at h
    | succ k =>
      have := nv_all_at r (pc + 1) ha k i (by simpa using h)
      rw [show pc + (k + 1) = pc + 1 + k by omega]
      exact this
  | some j :: r, pc, ha, k, i, h => by
    cases k with
    | zero =>
      simp at h
      subst h
      exact ha.1
    | succ k =>
      have := nv_all_at r (pc + 1) ha.2 k i (by simpa using h)
      rw [show pc + (k + 1) = pc + 1 + k by omega]
      exact this
section
variable {M : nv_M} {y pc q : Nat} {i : nv_Ins} {r : List (Option nv_Ins)}
theorem na_z : nv_all M y pc [] := trivial
theorem na_n (hq : pc + 1 = q) (h : nv_all M y q r) : nv_all M y pc (none :: r) := by subst hq; exact h
theorem na_1 (hi : nv_one M y pc i) (hq : pc + 1 = q) (h : nv_all M y q r) : nv_all M y pc (some i :: r) := by subst hq; exact ⟨hi, h⟩
theorem na_2 (hi : nv_one M y pc i) (hq : pc + 2 = q) (h : nv_all M y q r) : nv_all M y pc (some i :: none :: r) := by subst hq; exact ⟨hi, h⟩
theorem na_3 (hi : nv_one M y pc i) (hq : pc + 3 = q) (h : nv_all M y q r) : nv_all M y pc (some i :: none :: none :: r) := by subst hq; exact ⟨hi, h⟩
/-- a deed -/
theorem one_d {op : nv_Op} (h : nv_SO M pc op) (g : nv_up op) : nv_one M y pc (.inl op) := ⟨h, g⟩
theorem one_t {E : String} (h : nv_ST M pc E) : nv_one M y pc (.inr (.inr E)) := h
/-- a call in a method without handlers -/
theorem one_c {M' : nv_M} {y' k nx : Nat} {o : Option Nat} (hn : nx = pc + 3) (hm : np_M y' = M') (h0 : np_hls.getD y [] = []) (h1 : M.2.2.2.2.1 = []) (hs : nv_SC M M' pc k o) : nv_one M y pc (.inr (.inl (y', k, nx, o))) := by
  subst hm
  refine ⟨hn, hs, fun E _ x hx => ?_, fun E t i h => ?_⟩
  · rw [h1] at hx; cases hx
  · unfold np_hd at h
    rw [h0] at h
    cases h
/-- a call in a method with handlers, within their reach -/
theorem one_h {M' : nv_M} {y' k nx : Nat} {o : Option Nat} (hn : nx = pc + 3) (hm : np_M y' = M') (hs : nv_SC M M' pc k o) (hin : (np_hls.getD y []).any (fun q => decide (q.1 ≤ pc) && decide (pc < q.2.1)) = true)
    (hst : (np_P.1 y)[9999]? = none) (hk : ∀ q ∈ np_hls.getD y [], q.1 ≤ pc → pc < q.2.1 → nv_SK M pc q.2.2.1 q.2.2.2.1 q.2.2.2.2) : nv_one M y pc (.inr (.inl (y', k, nx, o))) := by
  subst hm
  refine ⟨hn, hs, fun E h => ?_, fun E t i h => ?_⟩
  · unfold np_hd at h
    rw [if_pos hin] at h
    cases h
  · unfold np_hd at h
    rw [if_pos hin] at h
    split at h
    · rename_i q hq
      cases h
      have h1 := List.mem_of_find?_eq_some hq
      have h2 := List.find?_some hq
      simp only [Bool.and_eq_true, decide_eq_true_eq, beq_iff_eq] at h2
      obtain ⟨⟨g1, g2⟩, g3⟩ := h2
      rw [← g3]
      exact Or.inr (hk q h1 g1 g2)
    · cases h
      exact Or.inl fun op => by rw [hst]; simp
/-- a call in a method with handlers, beyond their reach -/
theorem one_o {M' : nv_M} {y' k nx : Nat} {o : Option Nat} (hn : nx = pc + 3) (hm : np_M y' = M') (hs : nv_SC M M' pc k o) (hin : (np_hls.getD y []).any (fun q => decide (q.1 ≤ pc) && decide (pc < q.2.1)) = false) (hc : ∀ x ∈ tableOf M.2.2.2.2.1, covers x pc = false) : nv_one M y pc (.inr (.inl (y', k, nx, o))) := by
  subst hm
  refine ⟨hn, hs, fun E _ => hc, fun E t i h => ?_⟩
  unfold np_hd at h
  rw [if_neg (by rw [hin]; decide)] at h
  cases h
end
theorem mq_0 : np_M 0 = np_M0 := rfl
theorem mq_1 : np_M 1 = np_M1 := rfl
theorem mq_2 : np_M 2 = np_M2 := rfl
theorem mq_3 : np_M 3 = np_M3 := rfl
theorem mq_4 : np_M 4 = np_M4 := rfl
theorem mq_5 : np_M 5 = np_M5 := rfl
theorem mq_6 : np_M 6 = np_M6 := rfl
theorem mq_7 : np_M 7 = np_M7 := rfl
theorem mq_8 : np_M 8 = np_M8 := rfl
theorem mq_9 : np_M 9 = np_M9 := rfl
theorem mq_10 : np_M 10 = np_M10 := rfl
theorem mq_11 : np_M 11 = np_M11 := rfl
theorem mq_12 : np_M 12 = np_M12 := rfl
theorem mq_13 : np_M 13 = np_M13 := rfl
theorem mq_14 : np_M 14 = np_M14 := rfl
theorem mq_15 : np_M 15 = np_M15 := rfl
theorem mq_16 : np_M 16 = np_M16 := rfl
theorem mq_17 : np_M 17 = np_M17 := rfl
theorem mq_18 : np_M 18 = np_M18 := rfl
theorem mq_19 : np_M 19 = np_M19 := rfl
theorem mq_20 : np_M 20 = np_M20 := rfl
theorem mq_21 : np_M 21 = np_M21 := rfl
theorem mq_22 : np_M 22 = np_M22 := rfl
theorem mq_23 : np_M 23 = np_M23 := rfl
theorem mq_24 : np_M 24 = np_M24 := rfl
theorem mq_25 : np_M 25 = np_M25 := rfl
theorem mq_26 : np_M 26 = np_M26 := rfl
theorem mq_27 : np_M 27 = np_M27 := rfl
theorem mq_28 : np_M 28 = np_M28 := rfl
theorem mq_29 : np_M 29 = np_M29 := rfl
theorem mq_30 : np_M 30 = np_M30 := rfl
theorem mq_31 : np_M 31 = np_M31 := rfl
theorem mq_32 : np_M 32 = np_M32 := rfl
theorem mq_33 : np_M 33 = np_M33 := rfl
theorem mq_34 : np_M 34 = np_M34 := rfl
theorem mq_35 : np_M 35 = np_M35 := rfl
theorem mq_36 : np_M 36 = np_M36 := rfl
theorem mq_37 : np_M 37 = np_M37 := rfl
theorem mq_38 : np_M 38 = np_M38 := rfl
theorem mq_39 : np_M 39 = np_M39 := rfl
theorem mq_40 : np_M 40 = np_M40 := rfl
theorem mq_41 : np_M 41 = np_M41 := rfl
theorem mq_42 : np_M 42 = np_M42 := rfl
theorem mq_43 : np_M 43 = np_M43 := rfl
theorem mq_44 : np_M 44 = np_M44 := rfl
theorem mq_45 : np_M 45 = np_M45 := rfl
theorem mq_46 : np_M 46 = np_M46 := rfl
theorem mq_47 : np_M 47 = np_M47 := rfl
theorem mq_48 : np_M 48 = np_M48 := rfl
theorem mq_49 : np_M 49 = np_M49 := rfl
theorem mq_50 : np_M 50 = np_M50 := rfl
theorem mq_51 : np_M 51 = np_M51 := rfl
theorem mq_52 : np_M 52 = np_M52 := rfl
theorem mq_53 : np_M 53 = np_M53 := rfl
theorem mq_54 : np_M 54 = np_M54 := rfl
theorem mq_55 : np_M 55 = np_M55 := rfl
theorem mq_56 : np_M 56 = np_M56 := rfl
theorem mq_57 : np_M 57 = np_M57 := rfl
theorem mq_58 : np_M 58 = np_M58 := rfl
theorem mq_59 : np_M 59 = np_M59 := rfl
theorem mq_60 : np_M 60 = np_M60 := rfl
theorem mq_61 : np_M 61 = np_M61 := rfl
theorem mq_62 : np_M 62 = np_M62 := rfl
theorem mq_63 : np_M 63 = np_M63 := rfl
theorem mq_64 : np_M 64 = np_M64 := rfl
theorem mq_65 : np_M 65 = np_M65 := rfl
theorem mq_66 : np_M 66 = np_M66 := rfl
theorem mq_67 : np_M 67 = np_M67 := rfl
theorem mq_68 : np_M 68 = np_M68 := rfl
theorem mq_69 : np_M 69 = np_M69 := rfl
theorem mq_70 : np_M 70 = np_M70 := rfl
theorem mq_71 : np_M 71 = np_M71 := rfl
theorem mq_72 : np_M 72 = np_M72 := rfl
theorem mq_73 : np_M 73 = np_M73 := rfl
theorem mq_74 : np_M 74 = np_M74 := rfl
theorem mq_75 : np_M 75 = np_M75 := rfl
theorem mq_76 : np_M 76 = np_M76 := rfl
theorem mq_77 : np_M 77 = np_M77 := rfl
theorem mq_78 : np_M 78 = np_M78 := rfl
theorem mq_79 : np_M 79 = np_M79 := rfl
theorem mq_80 : np_M 80 = np_M80 := rfl
theorem mq_81 : np_M 81 = np_M81 := rfl
theorem mq_82 : np_M 82 = np_M82 := rfl
theorem mq_83 : np_M 83 = np_M83 := rfl
theorem mq_84 : np_M 84 = np_M84 := rfl
theorem mq_85 : np_M 85 = np_M85 := rfl
theorem mq_86 : np_M 86 = np_M86 := rfl
theorem mq_87 : np_M 87 = np_M87 := rfl
theorem mq_88 : np_M 88 = np_M88 := rfl
theorem mq_89 : np_M 89 = np_M89 := rfl
theorem mq_90 : np_M 90 = np_M90 := rfl
theorem mq_91 : np_M 91 = np_M91 := rfl
theorem mq_92 : np_M 92 = np_M92 := rfl
theorem mq_93 : np_M 93 = np_M93 := rfl
theorem mq_94 : np_M 94 = np_M94 := rfl
theorem mq_95 : np_M 95 = np_M95 := rfl
theorem mq_96 : np_M 96 = np_M96 := rfl
theorem mq_97 : np_M 97 = np_M97 := rfl
theorem mq_98 : np_M 98 = np_M98 := rfl
theorem mq_99 : np_M 99 = np_M99 := rfl
theorem mq_100 : np_M 100 = np_M100 := rfl
theorem mq_101 : np_M 101 = np_M101 := rfl
theorem mq_102 : np_M 102 = np_M102 := rfl
theorem mq_103 : np_M 103 = np_M103 := rfl
theorem mq_104 : np_M 104 = np_M104 := rfl
theorem mq_105 : np_M 105 = np_M105 := rfl
theorem mq_106 : np_M 106 = np_M106 := rfl
theorem mq_107 : np_M 107 = np_M107 := rfl
theorem mq_108 : np_M 108 = np_M108 := rfl
theorem mq_109 : np_M 109 = np_M109 := rfl
theorem mq_110 : np_M 110 = np_M110 := rfl
theorem mq_111 : np_M 111 = np_M111 := rfl
theorem mq_112 : np_M 112 = np_M112 := rfl
theorem mq_113 : np_M 113 = np_M113 := rfl
theorem mq_114 : np_M 114 = np_M114 := rfl
theorem mq_115 : np_M 115 = np_M115 := rfl
theorem mq_116 : np_M 116 = np_M116 := rfl
theorem mq_117 : np_M 117 = np_M117 := rfl
theorem mq_118 : np_M 118 = np_M118 := rfl
theorem mq_119 : np_M 119 = np_M119 := rfl
theorem mq_120 : np_M 120 = np_M120 := rfl
theorem mq_121 : np_M 121 = np_M121 := rfl
theorem mq_122 : np_M 122 = np_M122 := rfl
theorem mq_123 : np_M 123 = np_M123 := rfl
theorem mq_124 : np_M 124 = np_M124 := rfl
theorem mq_125 : np_M 125 = np_M125 := rfl
theorem mq_126 : np_M 126 = np_M126 := rfl
theorem mq_127 : np_M 127 = np_M127 := rfl
theorem mq_128 : np_M 128 = np_M128 := rfl
theorem mq_129 : np_M 129 = np_M129 := rfl
theorem mq_130 : np_M 130 = np_M130 := rfl
theorem mq_131 : np_M 131 = np_M131 := rfl
theorem mq_132 : np_M 132 = np_M132 := rfl
theorem mq_133 : np_M 133 = np_M133 := rfl
theorem mq_134 : np_M 134 = np_M134 := rfl
theorem mq_135 : np_M 135 = np_M135 := rfl
theorem mq_136 : np_M 136 = np_M136 := rfl
theorem mq_137 : np_M 137 = np_M137 := rfl
theorem mq_138 : np_M 138 = np_M138 := rfl
theorem mq_139 : np_M 139 = np_M139 := rfl
theorem mq_140 : np_M 140 = np_M140 := rfl
theorem mq_141 : np_M 141 = np_M141 := rfl
theorem mq_142 : np_M 142 = np_M142 := rfl
theorem mq_143 : np_M 143 = np_M143 := rfl
theorem mq_144 : np_M 144 = np_M144 := rfl
theorem mq_145 : np_M 145 = np_M145 := rfl
theorem mq_146 : np_M 146 = np_M146 := rfl
theorem mq_147 : np_M 147 = np_M147 := rfl
theorem mq_148 : np_M 148 = np_M148 := rfl
theorem mq_149 : np_M 149 = np_M149 := rfl
theorem mq_150 : np_M 150 = np_M150 := rfl
theorem mq_151 : np_M 151 = np_M151 := rfl
theorem mq_152 : np_M 152 = np_M152 := rfl
theorem mq_153 : np_M 153 = np_M153 := rfl
theorem mq_154 : np_M 154 = np_M154 := rfl
theorem mq_155 : np_M 155 = np_M155 := rfl
theorem mq_156 : np_M 156 = np_M156 := rfl
theorem mq_157 : np_M 157 = np_M157 := rfl
theorem mq_158 : np_M 158 = np_M158 := rfl
theorem mq_159 : np_M 159 = np_M159 := rfl
theorem mq_160 : np_M 160 = np_M160 := rfl
theorem mq_161 : np_M 161 = np_M161 := rfl
theorem mq_162 : np_M 162 = np_M162 := rfl
theorem mq_163 : np_M 163 = np_M163 := rfl
theorem mq_164 : np_M 164 = np_M164 := rfl
theorem mq_165 : np_M 165 = np_M165 := rfl
theorem mq_166 : np_M 166 = np_M166 := rfl
theorem mq_167 : np_M 167 = np_M167 := rfl
theorem mq_168 : np_M 168 = np_M168 := rfl
theorem mq_169 : np_M 169 = np_M169 := rfl
theorem mq_170 : np_M 170 = np_M170 := rfl
theorem mq_171 : np_M 171 = np_M171 := rfl
theorem mq_172 : np_M 172 = np_M172 := rfl
theorem mq_173 : np_M 173 = np_M173 := rfl
theorem mq_174 : np_M 174 = np_M174 := rfl
theorem mq_175 : np_M 175 = np_M175 := rfl
theorem mq_176 : np_M 176 = np_M176 := rfl
theorem mq_177 : np_M 177 = np_M177 := rfl
theorem mq_178 : np_M 178 = np_M178 := rfl
theorem mq_179 : np_M 179 = np_M179 := rfl
theorem mq_180 : np_M 180 = np_M180 := rfl
