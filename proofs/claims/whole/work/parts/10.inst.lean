def wI2 (k : Nat) : Prop := S0[k]? = some (8, 0, [(2, k + 1), (0, 0), (0, 0), (2, k + 2)]) ∧ S0[k + 1]? = some (0, 1000, []) ∧ S0[k + 2]? = some (0, 32, [])
def wI5 (k : Nat) : Prop := S0[k]? = some (11, 0, [(0, 0), (2, k + 1), (2, k + 2), (2, k + 3), (2, k + 4)]) ∧ S0[k + 1]? = some (0, 8, []) ∧ S0[k + 2]? = some (0, 8, []) ∧ S0[k + 3]? = some (0, 8, []) ∧ S0[k + 4]? = some (0, 8, [])
def wI6 (k : Nat) : Prop := S0[k]? = some (12, 0, [(2, 3), (0, 0), (2, k + 1), (2, k + 2), (2, k + 3), (2, k + 4)]) ∧ S0[k + 1]? = some (0, 3, []) ∧ S0[k + 2]? = some (0, 3, []) ∧ S0[k + 3]? = some (0, 18, []) ∧ S0[k + 4]? = some (0, 18, [])
def wI9 (k : Nat) : Prop := S0[k]? = some (15, 0, [(0, 0), (2, k + 1)]) ∧ S0[k + 1]? = some (0, 40, [])
def wI4 (k : Nat) : Prop := S0[k]? = some (10, 0, [(0, 0), (2, k + 1), (2, k + 2), (2, k + 3), (2, k + 4), (0, 0), (2, k + 5), (2, k + 6), (2, k + 7), (2, k + 8), (0, 0), (2, k + 9), (2, k + 10)]) ∧ S0[k + 1]? = some (3, 3, []) ∧ S0[k + 2]? = some (0, 3, []) ∧ S0[k + 3]? = some (0, 3, []) ∧ S0[k + 4]? = some (0, 3, []) ∧ S0[k + 5]? = some (3, 6, []) ∧ S0[k + 6]? = some (0, 6, []) ∧ S0[k + 7]? = some (0, 6, []) ∧ S0[k + 8]? = some (0, 6, []) ∧ S0[k + 9]? = some (0, 12, []) ∧ wI2 (k + 10)
def wI0 (k : Nat) : Prop := S0[k]? = some (6, 0, [(0, 0), (2, k + 8), (2, k + 1), (2, k + 3)]) ∧ wI9 (k + 1) ∧ wI5 (k + 3) ∧ wI6 (k + 8)
theorem in_13 : wI2 13 := ⟨S0_13, S0_14, S0_15⟩
theorem in_26 : wI2 26 := ⟨S0_26, S0_27, S0_28⟩
theorem in_43 : wI5 43 := ⟨S0_43, S0_44, S0_45, S0_46, S0_47⟩
theorem in_139 : wI5 139 := ⟨S0_139, S0_140, S0_141, S0_142, S0_143⟩
theorem in_152 : wI5 152 := ⟨S0_152, S0_153, S0_154, S0_155, S0_156⟩
theorem in_165 : wI5 165 := ⟨S0_165, S0_166, S0_167, S0_168, S0_169⟩
theorem in_178 : wI5 178 := ⟨S0_178, S0_179, S0_180, S0_181, S0_182⟩
theorem in_29 : wI6 29 := ⟨S0_29, S0_30, S0_31, S0_32, S0_33⟩
theorem in_34 : wI6 34 := ⟨S0_34, S0_35, S0_36, S0_37, S0_38⟩
theorem in_50 : wI6 50 := ⟨S0_50, S0_51, S0_52, S0_53, S0_54⟩
theorem in_55 : wI6 55 := ⟨S0_55, S0_56, S0_57, S0_58, S0_59⟩
theorem in_60 : wI6 60 := ⟨S0_60, S0_61, S0_62, S0_63, S0_64⟩
theorem in_65 : wI6 65 := ⟨S0_65, S0_66, S0_67, S0_68, S0_69⟩
theorem in_70 : wI6 70 := ⟨S0_70, S0_71, S0_72, S0_73, S0_74⟩
theorem in_75 : wI6 75 := ⟨S0_75, S0_76, S0_77, S0_78, S0_79⟩
theorem in_80 : wI6 80 := ⟨S0_80, S0_81, S0_82, S0_83, S0_84⟩
theorem in_85 : wI6 85 := ⟨S0_85, S0_86, S0_87, S0_88, S0_89⟩
theorem in_90 : wI6 90 := ⟨S0_90, S0_91, S0_92, S0_93, S0_94⟩
theorem in_95 : wI6 95 := ⟨S0_95, S0_96, S0_97, S0_98, S0_99⟩
theorem in_100 : wI6 100 := ⟨S0_100, S0_101, S0_102, S0_103, S0_104⟩
theorem in_105 : wI6 105 := ⟨S0_105, S0_106, S0_107, S0_108, S0_109⟩
theorem in_110 : wI6 110 := ⟨S0_110, S0_111, S0_112, S0_113, S0_114⟩
theorem in_115 : wI6 115 := ⟨S0_115, S0_116, S0_117, S0_118, S0_119⟩
theorem in_120 : wI6 120 := ⟨S0_120, S0_121, S0_122, S0_123, S0_124⟩
theorem in_125 : wI6 125 := ⟨S0_125, S0_126, S0_127, S0_128, S0_129⟩
theorem in_144 : wI6 144 := ⟨S0_144, S0_145, S0_146, S0_147, S0_148⟩
theorem in_157 : wI6 157 := ⟨S0_157, S0_158, S0_159, S0_160, S0_161⟩
theorem in_170 : wI6 170 := ⟨S0_170, S0_171, S0_172, S0_173, S0_174⟩
theorem in_183 : wI6 183 := ⟨S0_183, S0_184, S0_185, S0_186, S0_187⟩
theorem in_39 : wI9 39 := ⟨S0_39, S0_40⟩
theorem in_41 : wI9 41 := ⟨S0_41, S0_42⟩
theorem in_137 : wI9 137 := ⟨S0_137, S0_138⟩
theorem in_150 : wI9 150 := ⟨S0_150, S0_151⟩
theorem in_163 : wI9 163 := ⟨S0_163, S0_164⟩
theorem in_176 : wI9 176 := ⟨S0_176, S0_177⟩
theorem in_3 : wI4 3 := ⟨S0_3, S0_4, S0_5, S0_6, S0_7, S0_8, S0_9, S0_10, S0_11, S0_12, in_13⟩
theorem in_16 : wI4 16 := ⟨S0_16, S0_17, S0_18, S0_19, S0_20, S0_21, S0_22, S0_23, S0_24, S0_25, in_26⟩
theorem in_136 : wI0 136 := ⟨S0_136, in_137, in_139, in_144⟩
theorem in_149 : wI0 149 := ⟨S0_149, in_150, in_152, in_157⟩
theorem in_162 : wI0 162 := ⟨S0_162, in_163, in_165, in_170⟩
theorem in_175 : wI0 175 := ⟨S0_175, in_176, in_178, in_183⟩
theorem wrow_49 {i : Int32} (h : wib i 16) : ([(2, 50), (2, 55), (2, 60), (2, 65), (2, 70), (2, 75), (2, 80), (2, 85), (2, 90), (2, 95), (2, 100), (2, 105), (2, 110), (2, 115), (2, 120), (2, 125)] : List (Nat × Nat))[i.toNatClampNeg]? = some (2, 50 + 5 * i.toNatClampNeg) := by
  have h2 : i.toNatClampNeg < 16 := Nat.not_le.mp fun q => h (Or.inr q)
  revert h2
  generalize i.toNatClampNeg = j
  revert j
  decide
theorem win_49 {i : Int32} (h : wib i 16) : wI6 (50 + 5 * i.toNatClampNeg) := by
  have h2 : i.toNatClampNeg < 16 := Nat.not_le.mp fun q => h (Or.inr q)
  revert h2
  generalize i.toNatClampNeg = j
  intro h2
  match j, h2 with
  | 0, _ => exact in_50
  | 1, _ => exact in_55
  | 2, _ => exact in_60
  | 3, _ => exact in_65
  | 4, _ => exact in_70
  | 5, _ => exact in_75
  | 6, _ => exact in_80
  | 7, _ => exact in_85
  | 8, _ => exact in_90
  | 9, _ => exact in_95
  | 10, _ => exact in_100
  | 11, _ => exact in_105
  | 12, _ => exact in_110
  | 13, _ => exact in_115
  | 14, _ => exact in_120
  | 15, _ => exact in_125
  | j + 16, h2 => exact absurd h2 (by omega)
theorem wrow_135 {i : Int32} (h : wib i 4) : ([(2, 136), (2, 149), (2, 162), (2, 175)] : List (Nat × Nat))[i.toNatClampNeg]? = some (2, 136 + 13 * i.toNatClampNeg) := by
  have h2 : i.toNatClampNeg < 4 := Nat.not_le.mp fun q => h (Or.inr q)
  revert h2
  generalize i.toNatClampNeg = j
  revert j
  decide
theorem win_135 {i : Int32} (h : wib i 4) : wI0 (136 + 13 * i.toNatClampNeg) := by
  have h2 : i.toNatClampNeg < 4 := Nat.not_le.mp fun q => h (Or.inr q)
  revert h2
  generalize i.toNatClampNeg = j
  intro h2
  match j, h2 with
  | 0, _ => exact in_136
  | 1, _ => exact in_149
  | 2, _ => exact in_162
  | 3, _ => exact in_175
  | j + 4, h2 => exact absurd h2 (by omega)
