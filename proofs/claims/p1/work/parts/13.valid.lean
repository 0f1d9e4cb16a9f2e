/-! the tables are what the code and the Statement say -/
def xOKb (own : String) (ini : Bool) (cc : ByteArray) (en : xE) : Bool := decide (decode cc en.1 = .ok (en.2.1, en.2.2.1)) && (xln en.2.1 en.2.2.1 && xLk own ini en)
def xPk (q : xM) (tab : List xE) : Bool := tab.all (xOKb (xmy q).cls (xini q) (xmb q)) && plainName (xmy q).cls
def xPp (q : xM) (tab : List xE) : Prop := (∀ en ∈ tab, xOK (xmy q).cls (xini q) (xmb q) en) ∧ plainName (xmy q).cls = true
theorem xPk_ok {q : xM} {tab : List xE} (h : xPk q tab = true) : xPp q tab := by
  unfold xPk at h
  rw [Bool.and_eq_true] at h
  refine ⟨fun en hen => ?_, h.2⟩
  have h1 := List.all_eq_true.mp h.1 en hen
  unfold xOKb at h1
  simp only [Bool.and_eq_true, decide_eq_true_eq] at h1
  exact h1
def xAll : List xM → List (List xE) → Prop
  | q :: qs, t :: ts => xPp q t ∧ xAll qs ts
  | _, _ => True
theorem xAll_ok : ∀ {qs : List xM} {ts : List (List xE)}, xAll qs ts → ∀ (j : Nat) (q : xM) (t : List xE), qs[j]? = some q → ts[j]? = some t → xPp q t
  | [], _, _, j, q, t, h, _ => by simp at h
  | _ :: _, [], _, j, q, t, _, h => by simp at h
  | q0 :: qs, t0 :: ts, h, j, q, t, h1, h2 => by
    cases j with
    | zero =>
      rw [List.getElem?_cons_zero] at h1 h2
      cases h1
      cases h2
      exact h.1
    | succ j =>
      rw [List.getElem?_cons_succ] at h1 h2
      exact xAll_ok h.2 j q t h1 h2
set_option maxRecDepth 100000 in
theorem xk_0 : xPk xm_0 xT_0 = true := by decide +kernel
set_option maxRecDepth 100000 in
theorem xk_1 : xPk xm_1 xT_1 = true := by decide +kernel
set_option maxRecDepth 100000 in
theorem xk_2 : xPk xm_2 xT_2 = true := by decide +kernel
set_option maxRecDepth 100000 in
theorem xk_3 : xPk xm_3 xT_3 = true := by decide +kernel
set_option maxRecDepth 100000 in
theorem xk_4 : xPk xm_4 xT_4 = true := by decide +kernel
set_option maxRecDepth 100000 in
theorem xk_5 : xPk xm_5 xT_5 = true := by decide +kernel
set_option maxRecDepth 100000 in
theorem xk_6 : xPk xm_6 xT_6 = true := by decide +kernel
set_option maxRecDepth 100000 in
theorem xk_7 : xPk xm_7 xT_7 = true := by decide +kernel
set_option maxRecDepth 100000 in
theorem xk_8 : xPk xm_8 xT_8 = true := by decide +kernel
set_option maxRecDepth 100000 in
theorem xk_9 : xPk xm_9 xT_9 = true := by decide +kernel
set_option maxRecDepth 100000 in
theorem xk_10 : xPk xm_10 xT_10 = true := by decide +kernel
set_option maxRecDepth 100000 in
theorem xk_11 : xPk xm_11 xT_11 = true := by decide +kernel
set_option maxRecDepth 100000 in
theorem xk_12 : xPk xm_12 xT_12 = true := by decide +kernel
set_option maxRecDepth 100000 in
theorem xk_13 : xPk xm_13 xT_13 = true := by decide +kernel
set_option maxRecDepth 100000 in
theorem xk_14 : xPk xm_14 xT_14 = true := by decide +kernel
set_option maxRecDepth 100000 in
theorem xk_15 : xPk xm_15 xT_15 = true := by decide +kernel
set_option maxRecDepth 100000 in
theorem xk_16 : xPk xm_16 xT_16 = true := by decide +kernel
set_option maxRecDepth 100000 in
theorem xk_17 : xPk xm_17 xT_17 = true := by decide +kernel
set_option maxRecDepth 100000 in
theorem xk_18 : xPk xm_18 xT_18 = true := by decide +kernel
set_option maxRecDepth 100000 in
theorem xk_19 : xPk xm_19 xT_19 = true := by decide +kernel
set_option maxRecDepth 100000 in
theorem xk_20 : xPk xm_20 xT_20 = true := by decide +kernel
set_option maxRecDepth 100000 in
theorem xk_21 : xPk xm_21 xT_21 = true := by decide +kernel
set_option maxRecDepth 100000 in
theorem xk_22 : xPk xm_22 xT_22 = true := by decide +kernel
set_option maxRecDepth 100000 in
theorem xk_23 : xPk xm_23 xT_23 = true := by decide +kernel
set_option maxRecDepth 100000 in
theorem xk_24 : xPk xm_24 xT_24 = true := by decide +kernel
set_option maxRecDepth 100000 in
theorem xk_25 : xPk xm_25 xT_25 = true := by decide +kernel
set_option maxRecDepth 100000 in
theorem xk_26 : xPk xm_26 xT_26 = true := by decide +kernel
set_option maxRecDepth 100000 in
theorem xk_27 : xPk xm_27 xT_27 = true := by decide +kernel
set_option maxRecDepth 100000 in
theorem xk_28 : xPk xm_28 xT_28 = true := by decide +kernel
set_option maxRecDepth 100000 in
theorem xk_29 : xPk xm_29 xT_29 = true := by decide +kernel
set_option maxRecDepth 100000 in
theorem xk_30 : xPk xm_30 xT_30 = true := by decide +kernel
set_option maxRecDepth 100000 in
theorem xk_31 : xPk xm_31 xT_31 = true := by decide +kernel
set_option maxRecDepth 100000 in
theorem xk_32 : xPk xm_32 xT_32 = true := by decide +kernel
set_option maxRecDepth 100000 in
theorem xk_33 : xPk xm_33 xT_33 = true := by decide +kernel
set_option maxRecDepth 100000 in
theorem xk_34 : xPk xm_34 xT_34 = true := by decide +kernel
set_option maxRecDepth 100000 in
theorem xk_35 : xPk xm_35 xT_35 = true := by decide +kernel
set_option maxRecDepth 100000 in
theorem xk_36 : xPk xm_36 xT_36 = true := by decide +kernel
set_option maxRecDepth 100000 in
theorem xk_37 : xPk xm_37 xT_37 = true := by decide +kernel
set_option maxRecDepth 100000 in
theorem xk_38 : xPk xm_38 xT_38 = true := by decide +kernel
set_option maxRecDepth 100000 in
theorem xk_39 : xPk xm_39 xT_39 = true := by decide +kernel
set_option maxRecDepth 100000 in
theorem xk_40 : xPk xm_40 xT_40 = true := by decide +kernel
set_option maxRecDepth 100000 in
theorem xk_41 : xPk xm_41 xT_41 = true := by decide +kernel
set_option maxRecDepth 100000 in
theorem xk_42 : xPk xm_42 xT_42 = true := by decide +kernel
set_option maxRecDepth 100000 in
theorem xk_43 : xPk xm_43 xT_43 = true := by decide +kernel
set_option maxRecDepth 100000 in
theorem xk_44 : xPk xm_44 xT_44 = true := by decide +kernel
set_option maxRecDepth 100000 in
theorem xk_45 : xPk xm_45 xT_45 = true := by decide +kernel
set_option maxRecDepth 100000 in
theorem xk_46 : xPk xm_46 xT_46 = true := by decide +kernel
set_option maxRecDepth 100000 in
theorem xk_47 : xPk xm_47 xT_47 = true := by decide +kernel
set_option maxRecDepth 100000 in
theorem xk_48 : xPk xm_48 xT_48 = true := by decide +kernel
set_option maxRecDepth 100000 in
theorem xk_49 : xPk xm_49 xT_49 = true := by decide +kernel
set_option maxRecDepth 100000 in
theorem xk_50 : xPk xm_50 xT_50 = true := by decide +kernel
set_option maxRecDepth 100000 in
theorem xk_51 : xPk xm_51 xT_51 = true := by decide +kernel
set_option maxRecDepth 100000 in
theorem xk_52 : xPk xm_52 xT_52 = true := by decide +kernel
set_option maxRecDepth 100000 in
theorem xk_53 : xPk xm_53 xT_53 = true := by decide +kernel
set_option maxRecDepth 100000 in
theorem xk_54 : xPk xm_54 xT_54 = true := by decide +kernel
set_option maxRecDepth 100000 in
theorem xk_55 : xPk xm_55 xT_55 = true := by decide +kernel
set_option maxRecDepth 100000 in
theorem xk_56 : xPk xm_56 xT_56 = true := by decide +kernel
set_option maxRecDepth 100000 in
theorem xk_57 : xPk xm_57 xT_57 = true := by decide +kernel
set_option maxRecDepth 100000 in
theorem xk_58 : xPk xm_58 xT_58 = true := by decide +kernel
set_option maxRecDepth 100000 in
theorem xk_59 : xPk xm_59 xT_59 = true := by decide +kernel
set_option maxRecDepth 100000 in
theorem xk_60 : xPk xm_60 xT_60 = true := by decide +kernel
set_option maxRecDepth 100000 in
theorem xk_61 : xPk xm_61 xT_61 = true := by decide +kernel
set_option maxRecDepth 100000 in
theorem xk_62 : xPk xm_62 xT_62 = true := by decide +kernel
set_option maxRecDepth 100000 in
theorem xk_63 : xPk xm_63 xT_63 = true := by decide +kernel
set_option maxRecDepth 100000 in
theorem xk_64 : xPk xm_64 xT_64 = true := by decide +kernel
set_option maxRecDepth 100000 in
theorem xk_65 : xPk xm_65 xT_65 = true := by decide +kernel
set_option maxRecDepth 100000 in
theorem xk_66 : xPk xm_66 xT_66 = true := by decide +kernel
set_option maxRecDepth 100000 in
theorem xk_67 : xPk xm_67 xT_67 = true := by decide +kernel
set_option maxRecDepth 100000 in
theorem xk_68 : xPk xm_68 xT_68 = true := by decide +kernel
set_option maxRecDepth 100000 in
theorem xk_69 : xPk xm_69 xT_69 = true := by decide +kernel
set_option maxRecDepth 100000 in
theorem xk_70 : xPk xm_70 xT_70 = true := by decide +kernel
set_option maxRecDepth 100000 in
theorem xk_71 : xPk xm_71 xT_71 = true := by decide +kernel
set_option maxRecDepth 100000 in
theorem xk_72 : xPk xm_72 xT_72 = true := by decide +kernel
set_option maxRecDepth 100000 in
theorem xk_73 : xPk xm_73 xT_73 = true := by decide +kernel
set_option maxRecDepth 100000 in
theorem xk_74 : xPk xm_74 xT_74 = true := by decide +kernel
set_option maxRecDepth 100000 in
theorem xk_75 : xPk xm_75 xT_75 = true := by decide +kernel
set_option maxRecDepth 100000 in
theorem xk_76 : xPk xm_76 xT_76 = true := by decide +kernel
set_option maxRecDepth 100000 in
theorem xk_77 : xPk xm_77 xT_77 = true := by decide +kernel
set_option maxRecDepth 100000 in
theorem xk_78 : xPk xm_78 xT_78 = true := by decide +kernel
set_option maxRecDepth 100000 in
theorem xk_79 : xPk xm_79 xT_79 = true := by decide +kernel
set_option maxRecDepth 100000 in
theorem xk_80 : xPk xm_80 xT_80 = true := by decide +kernel
set_option maxRecDepth 100000 in
theorem xk_81 : xPk xm_81 xT_81 = true := by decide +kernel
set_option maxRecDepth 100000 in
theorem xk_82 : xPk xm_82 xT_82 = true := by decide +kernel
set_option maxRecDepth 100000 in
theorem xk_83 : xPk xm_83 xT_83 = true := by decide +kernel
set_option maxRecDepth 100000 in
theorem xk_84 : xPk xm_84 xT_84 = true := by decide +kernel
set_option maxRecDepth 100000 in
theorem xk_85 : xPk xm_85 xT_85 = true := by decide +kernel
set_option maxRecDepth 100000 in
theorem xk_86 : xPk xm_86 xT_86 = true := by decide +kernel
set_option maxRecDepth 100000 in
theorem xk_87 : xPk xm_87 xT_87 = true := by decide +kernel
set_option maxRecDepth 100000 in
theorem xk_88 : xPk xm_88 xT_88 = true := by decide +kernel
set_option maxRecDepth 100000 in
theorem xk_89 : xPk xm_89 xT_89 = true := by decide +kernel
set_option maxRecDepth 100000 in
theorem xk_90 : xPk xm_90 xT_90 = true := by decide +kernel
set_option maxRecDepth 100000 in
theorem xk_91 : xPk xm_91 xT_91 = true := by decide +kernel
set_option maxRecDepth 100000 in
theorem xk_92 : xPk xm_92 xT_92 = true := by decide +kernel
set_option maxRecDepth 100000 in
theorem xk_93 : xPk xm_93 xT_93 = true := by decide +kernel
set_option maxRecDepth 100000 in
theorem xk_94 : xPk xm_94 xT_94 = true := by decide +kernel
set_option maxRecDepth 100000 in
theorem xk_95 : xPk xm_95 xT_95 = true := by decide +kernel
set_option maxRecDepth 100000 in
theorem xk_96 : xPk xm_96 xT_96 = true := by decide +kernel
set_option maxRecDepth 100000 in
theorem xk_97 : xPk xm_97 xT_97 = true := by decide +kernel
set_option maxRecDepth 100000 in
theorem xk_98 : xPk xm_98 xT_98 = true := by decide +kernel
set_option maxRecDepth 100000 in
theorem xk_99 : xPk xm_99 xT_99 = true := by decide +kernel
set_option maxRecDepth 100000 in
theorem xk_100 : xPk xm_100 xT_100 = true := by decide +kernel
set_option maxRecDepth 100000 in
theorem xk_101 : xPk xm_101 xT_101 = true := by decide +kernel
set_option maxRecDepth 100000 in
theorem xk_102 : xPk xm_102 xT_102 = true := by decide +kernel
set_option maxRecDepth 100000 in
theorem xk_103 : xPk xm_103 xT_103 = true := by decide +kernel
set_option maxRecDepth 100000 in
theorem xk_104 : xPk xm_104 xT_104 = true := by decide +kernel
set_option maxRecDepth 100000 in
theorem xk_105 : xPk xm_105 xT_105 = true := by decide +kernel
set_option maxRecDepth 100000 in
theorem xk_106 : xPk xm_106 xT_106 = true := by decide +kernel
set_option maxRecDepth 100000 in
theorem xk_107 : xPk xm_107 xT_107 = true := by decide +kernel
set_option maxRecDepth 100000 in
theorem xk_108 : xPk xm_108 xT_108 = true := by decide +kernel
set_option maxRecDepth 100000 in
theorem xk_109 : xPk xm_109 xT_109 = true := by decide +kernel
set_option maxRecDepth 100000 in
theorem xk_110 : xPk xm_110 xT_110 = true := by decide +kernel
set_option maxRecDepth 100000 in
theorem xk_111 : xPk xm_111 xT_111 = true := by decide +kernel
set_option maxRecDepth 100000 in
theorem xk_112 : xPk xm_112 xT_112 = true := by decide +kernel
set_option maxRecDepth 100000 in
theorem xk_113 : xPk xm_113 xT_113 = true := by decide +kernel
set_option maxRecDepth 100000 in
theorem xk_114 : xPk xm_114 xT_114 = true := by decide +kernel
set_option maxRecDepth 100000 in
theorem xk_115 : xPk xm_115 xT_115 = true := by decide +kernel
set_option maxRecDepth 100000 in
theorem xk_116 : xPk xm_116 xT_116 = true := by decide +kernel
set_option maxRecDepth 100000 in
theorem xk_117 : xPk xm_117 xT_117 = true := by decide +kernel
set_option maxRecDepth 100000 in
theorem xk_118 : xPk xm_118 xT_118 = true := by decide +kernel
set_option maxRecDepth 100000 in
theorem xk_119 : xPk xm_119 xT_119 = true := by decide +kernel
set_option maxRecDepth 100000 in
theorem xk_120 : xPk xm_120 xT_120 = true := by decide +kernel
set_option maxRecDepth 100000 in
theorem xk_121 : xPk xm_121 xT_121 = true := by decide +kernel
set_option maxRecDepth 100000 in
theorem xk_122 : xPk xm_122 xT_122 = true := by decide +kernel
set_option maxRecDepth 100000 in
theorem xk_123 : xPk xm_123 xT_123 = true := by decide +kernel
set_option maxRecDepth 100000 in
theorem xk_124 : xPk xm_124 xT_124 = true := by decide +kernel
set_option maxRecDepth 100000 in
theorem xk_125 : xPk xm_125 xT_125 = true := by decide +kernel
set_option maxRecDepth 100000 in
theorem xk_126 : xPk xm_126 xT_126 = true := by decide +kernel
set_option maxRecDepth 100000 in
theorem xk_127 : xPk xm_127 xT_127 = true := by decide +kernel
set_option maxRecDepth 100000 in
theorem xk_128 : xPk xm_128 xT_128 = true := by decide +kernel
set_option maxRecDepth 100000 in
theorem xk_129 : xPk xm_129 xT_129 = true := by decide +kernel
set_option maxRecDepth 100000 in
theorem xk_130 : xPk xm_130 xT_130 = true := by decide +kernel
set_option maxRecDepth 100000 in
theorem xk_131 : xPk xm_131 xT_131 = true := by decide +kernel
set_option maxRecDepth 100000 in
theorem xk_132 : xPk xm_132 xT_132 = true := by decide +kernel
set_option maxRecDepth 100000 in
theorem xk_133 : xPk xm_133 xT_133 = true := by decide +kernel
set_option maxRecDepth 100000 in
theorem xk_134 : xPk xm_134 xT_134 = true := by decide +kernel
set_option maxRecDepth 100000 in
theorem xk_135 : xPk xm_135 xT_135 = true := by decide +kernel
set_option maxRecDepth 100000 in
theorem xk_136 : xPk xm_136 xT_136 = true := by decide +kernel
set_option maxRecDepth 100000 in
theorem xk_137 : xPk xm_137 xT_137 = true := by decide +kernel
set_option maxRecDepth 100000 in
theorem xk_138 : xPk xm_138 xT_138 = true := by decide +kernel
set_option maxRecDepth 100000 in
theorem xk_139 : xPk xm_139 xT_139 = true := by decide +kernel
set_option maxRecDepth 100000 in
theorem xk_140 : xPk xm_140 xT_140 = true := by decide +kernel
set_option maxRecDepth 100000 in
theorem xk_141 : xPk xm_141 xT_141 = true := by decide +kernel
set_option maxRecDepth 100000 in
theorem xk_142 : xPk xm_142 xT_142 = true := by decide +kernel
set_option maxRecDepth 100000 in
theorem xk_143 : xPk xm_143 xT_143 = true := by decide +kernel
set_option maxRecDepth 100000 in
theorem xk_144 : xPk xm_144 xT_144 = true := by decide +kernel
set_option maxRecDepth 100000 in
theorem xk_145 : xPk xm_145 xT_145 = true := by decide +kernel
set_option maxRecDepth 100000 in
theorem xk_146 : xPk xm_146 xT_146 = true := by decide +kernel
set_option maxRecDepth 100000 in
theorem xk_147 : xPk xm_147 xT_147 = true := by decide +kernel
set_option maxRecDepth 100000 in
theorem xk_148 : xPk xm_148 xT_148 = true := by decide +kernel
set_option maxRecDepth 100000 in
theorem xk_149 : xPk xm_149 xT_149 = true := by decide +kernel
set_option maxRecDepth 100000 in
theorem xk_150 : xPk xm_150 xT_150 = true := by decide +kernel
set_option maxRecDepth 100000 in
theorem xk_151 : xPk xm_151 xT_151 = true := by decide +kernel
set_option maxRecDepth 100000 in
theorem xk_152 : xPk xm_152 xT_152 = true := by decide +kernel
set_option maxRecDepth 100000 in
theorem xk_153 : xPk xm_153 xT_153 = true := by decide +kernel
set_option maxRecDepth 100000 in
theorem xk_154 : xPk xm_154 xT_154 = true := by decide +kernel
set_option maxRecDepth 100000 in
theorem xk_155 : xPk xm_155 xT_155 = true := by decide +kernel
set_option maxRecDepth 100000 in
theorem xk_156 : xPk xm_156 xT_156 = true := by decide +kernel
set_option maxRecDepth 100000 in
theorem xk_157 : xPk xm_157 xT_157 = true := by decide +kernel
set_option maxRecDepth 100000 in
theorem xk_158 : xPk xm_158 xT_158 = true := by decide +kernel
set_option maxRecDepth 100000 in
theorem xk_159 : xPk xm_159 xT_159 = true := by decide +kernel
set_option maxRecDepth 100000 in
theorem xk_160 : xPk xm_160 xT_160 = true := by decide +kernel
set_option maxRecDepth 100000 in
theorem xk_161 : xPk xm_161 xT_161 = true := by decide +kernel
set_option maxRecDepth 100000 in
theorem xk_162 : xPk xm_162 xT_162 = true := by decide +kernel
set_option maxRecDepth 100000 in
theorem xk_163 : xPk xm_163 xT_163 = true := by decide +kernel
set_option maxRecDepth 100000 in
theorem xk_164 : xPk xm_164 xT_164 = true := by decide +kernel
set_option maxRecDepth 100000 in
theorem xk_165 : xPk xm_165 xT_165 = true := by decide +kernel
set_option maxRecDepth 100000 in
theorem xk_166 : xPk xm_166 xT_166 = true := by decide +kernel
set_option maxRecDepth 100000 in
theorem xk_167 : xPk xm_167 xT_167 = true := by decide +kernel
set_option maxRecDepth 100000 in
theorem xk_168 : xPk xm_168 xT_168 = true := by decide +kernel
set_option maxRecDepth 100000 in
theorem xk_169 : xPk xm_169 xT_169 = true := by decide +kernel
set_option maxRecDepth 100000 in
theorem xk_170 : xPk xm_170 xT_170 = true := by decide +kernel
set_option maxRecDepth 100000 in
theorem xk_171 : xPk xm_171 xT_171 = true := by decide +kernel
set_option maxRecDepth 100000 in
theorem xk_172 : xPk xm_172 xT_172 = true := by decide +kernel
set_option maxRecDepth 100000 in
theorem xk_173 : xPk xm_173 xT_173 = true := by decide +kernel
set_option maxRecDepth 100000 in
theorem xk_174 : xPk xm_174 xT_174 = true := by decide +kernel
set_option maxRecDepth 100000 in
theorem xk_175 : xPk xm_175 xT_175 = true := by decide +kernel
set_option maxRecDepth 100000 in
theorem xk_176 : xPk xm_176 xT_176 = true := by decide +kernel
set_option maxRecDepth 100000 in
theorem xk_177 : xPk xm_177 xT_177 = true := by decide +kernel
set_option maxRecDepth 100000 in
theorem xk_178 : xPk xm_178 xT_178 = true := by decide +kernel
set_option maxRecDepth 100000 in
theorem xk_179 : xPk xm_179 xT_179 = true := by decide +kernel
set_option maxRecDepth 100000 in
theorem xk_180 : xPk xm_180 xT_180 = true := by decide +kernel
set_option maxRecDepth 100000 in
theorem xk_181 : xPk xm_181 xT_181 = true := by decide +kernel
set_option maxRecDepth 100000 in
theorem xk_182 : xPk xm_182 xT_182 = true := by decide +kernel
set_option maxRecDepth 100000 in
theorem xk_183 : xPk xm_183 xT_183 = true := by decide +kernel
set_option maxRecDepth 100000 in
theorem x_all : xAll xMs xTs := ⟨xPk_ok xk_0, xPk_ok xk_1, xPk_ok xk_2, xPk_ok xk_3, xPk_ok xk_4, xPk_ok xk_5, xPk_ok xk_6, xPk_ok xk_7, xPk_ok xk_8, xPk_ok xk_9, xPk_ok xk_10, xPk_ok xk_11, xPk_ok xk_12, xPk_ok xk_13, xPk_ok xk_14, xPk_ok xk_15, xPk_ok xk_16, xPk_ok xk_17, xPk_ok xk_18, xPk_ok xk_19, xPk_ok xk_20, xPk_ok xk_21, xPk_ok xk_22, xPk_ok xk_23, xPk_ok xk_24, xPk_ok xk_25, xPk_ok xk_26, xPk_ok xk_27, xPk_ok xk_28, xPk_ok xk_29, xPk_ok xk_30, xPk_ok xk_31, xPk_ok xk_32, xPk_ok xk_33, xPk_ok xk_34, xPk_ok xk_35, xPk_ok xk_36, xPk_ok xk_37, xPk_ok xk_38, xPk_ok xk_39, xPk_ok xk_40, xPk_ok xk_41, xPk_ok xk_42, xPk_ok xk_43, xPk_ok xk_44, xPk_ok xk_45, xPk_ok xk_46, xPk_ok xk_47, xPk_ok xk_48, xPk_ok xk_49, xPk_ok xk_50, xPk_ok xk_51, xPk_ok xk_52, xPk_ok xk_53, xPk_ok xk_54, xPk_ok xk_55, xPk_ok xk_56, xPk_ok xk_57, xPk_ok xk_58, xPk_ok xk_59, xPk_ok xk_60, xPk_ok xk_61, xPk_ok xk_62, xPk_ok xk_63, xPk_ok xk_64, xPk_ok xk_65, xPk_ok xk_66, xPk_ok xk_67, xPk_ok xk_68, xPk_ok xk_69, xPk_ok xk_70, xPk_ok xk_71, xPk_ok xk_72, xPk_ok xk_73, xPk_ok xk_74, xPk_ok xk_75, xPk_ok xk_76, xPk_ok xk_77, xPk_ok xk_78, xPk_ok xk_79, xPk_ok xk_80, xPk_ok xk_81, xPk_ok xk_82, xPk_ok xk_83, xPk_ok xk_84, xPk_ok xk_85, xPk_ok xk_86, xPk_ok xk_87, xPk_ok xk_88, xPk_ok xk_89, xPk_ok xk_90, xPk_ok xk_91, xPk_ok xk_92, xPk_ok xk_93, xPk_ok xk_94, xPk_ok xk_95, xPk_ok xk_96, xPk_ok xk_97, xPk_ok xk_98, xPk_ok xk_99, xPk_ok xk_100, xPk_ok xk_101, xPk_ok xk_102, xPk_ok xk_103, xPk_ok xk_104, xPk_ok xk_105, xPk_ok xk_106, xPk_ok xk_107, xPk_ok xk_108, xPk_ok xk_109, xPk_ok xk_110, xPk_ok xk_111, xPk_ok xk_112, xPk_ok xk_113, xPk_ok xk_114, xPk_ok xk_115, xPk_ok xk_116, xPk_ok xk_117, xPk_ok xk_118, xPk_ok xk_119, xPk_ok xk_120, xPk_ok xk_121, xPk_ok xk_122, xPk_ok xk_123, xPk_ok xk_124, xPk_ok xk_125, xPk_ok xk_126, xPk_ok xk_127, xPk_ok xk_128, xPk_ok xk_129, xPk_ok xk_130, xPk_ok xk_131, xPk_ok xk_132, xPk_ok xk_133, xPk_ok xk_134, xPk_ok xk_135, xPk_ok xk_136, xPk_ok xk_137, xPk_ok xk_138, xPk_ok xk_139, xPk_ok xk_140, xPk_ok xk_141, xPk_ok xk_142, xPk_ok xk_143, xPk_ok xk_144, xPk_ok xk_145, xPk_ok xk_146, xPk_ok xk_147, xPk_ok xk_148, xPk_ok xk_149, xPk_ok xk_150, xPk_ok xk_151, xPk_ok xk_152, xPk_ok xk_153, xPk_ok xk_154, xPk_ok xk_155, xPk_ok xk_156, xPk_ok xk_157, xPk_ok xk_158, xPk_ok xk_159, xPk_ok xk_160, xPk_ok xk_161, xPk_ok xk_162, xPk_ok xk_163, xPk_ok xk_164, xPk_ok xk_165, xPk_ok xk_166, xPk_ok xk_167, xPk_ok xk_168, xPk_ok xk_169, xPk_ok xk_170, xPk_ok xk_171, xPk_ok xk_172, xPk_ok xk_173, xPk_ok xk_174, xPk_ok xk_175, xPk_ok xk_176, xPk_ok xk_177, xPk_ok xk_178, xPk_ok xk_179, xPk_ok xk_180, xPk_ok xk_181, xPk_ok xk_182, xPk_ok xk_183, trivial⟩
theorem x_tok : xTok := fun j q tab hq ht => xAll_ok x_all j q tab hq ht
