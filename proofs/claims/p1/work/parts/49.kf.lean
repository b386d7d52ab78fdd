/-! the tables: every method that is reached is as its bytecode says: printed by wip/p1/gtab.py -/
set_option maxRecDepth 100000 in
theorem xk_175 : xr_Mok xr_mt xm_175 = true := by decide +kernel
set_option maxRecDepth 100000 in
theorem xk_176 : xr_Mok xr_mt xm_176 = true := by decide +kernel
set_option maxRecDepth 100000 in
theorem xk_177 : xr_Mok xr_mt xm_177 = true := by decide +kernel
set_option maxRecDepth 100000 in
theorem xk_178 : xr_Mok xr_mt xm_178 = true := by decide +kernel
set_option maxRecDepth 100000 in
theorem xk_179 : xr_Mok xr_mt xm_179 = true := by decide +kernel
set_option maxRecDepth 100000 in
theorem xk_180 : xr_Mok xr_mt xm_180 = true := by decide +kernel
set_option maxRecDepth 100000 in
theorem xk_181 : xr_Mok xr_mt xm_181 = true := by decide +kernel
set_option maxRecDepth 100000 in
theorem xk_182 : xr_Mok xr_mt xm_182 = true := by decide +kernel
set_option maxRecDepth 100000 in
theorem xk_183 : xr_Mok xr_mt xm_183 = true := by decide +kernel
set_option maxRecDepth 100000 in
theorem xk_184 : xr_Mok xr_mt xm_184 = true := by decide +kernel
set_option maxRecDepth 100000 in
theorem xk_185 : xr_Mok xr_mt xm_185 = true := by decide +kernel
set_option maxRecDepth 100000 in
theorem xk_186 : xr_Mok xr_mt xm_186 = true := by decide +kernel
set_option maxRecDepth 100000 in
theorem xk_187 : xr_Mok xr_mt xm_187 = true := by decide +kernel
set_option maxRecDepth 100000 in
theorem xk_188 : xr_Mok xr_mt xm_188 = true := by decide +kernel
set_option maxRecDepth 100000 in
theorem xk_189 : xr_Mok xr_mt xm_189 = true := by decide +kernel
set_option maxRecDepth 100000 in
theorem xk_190 : xr_Mok xr_mt xm_190 = true := by decide +kernel
set_option maxRecDepth 100000 in
theorem xk_191 : xr_Mok xr_mt xm_191 = true := by decide +kernel
set_option maxRecDepth 100000 in
theorem xk_192 : xr_Mok xr_mt xm_192 = true := by decide +kernel
set_option maxRecDepth 100000 in
theorem xk_193 : xr_Mok xr_mt xm_193 = true := by decide +kernel
set_option maxRecDepth 100000 in
theorem xk_194 : xr_Mok xr_mt xm_194 = true := by decide +kernel
set_option maxRecDepth 100000 in
theorem xk_195 : xr_Mok xr_mt xm_195 = true := by decide +kernel
set_option maxRecDepth 100000 in
theorem xk_196 : xr_Mok xr_mt xm_196 = true := by decide +kernel
set_option maxRecDepth 100000 in
theorem xk_197 : xr_Mok xr_mt xm_197 = true := by decide +kernel
set_option maxRecDepth 100000 in
theorem xk_198 : xr_Mok xr_mt xm_198 = true := by decide +kernel
set_option maxRecDepth 100000 in
theorem xk_199 : xr_Mok xr_mt xm_199 = true := by decide +kernel
set_option maxRecDepth 100000 in
theorem xk_200 : xr_Mok xr_mt xm_200 = true := by decide +kernel
set_option maxRecDepth 100000 in
theorem xk_201 : xr_Mok xr_mt xm_201 = true := by decide +kernel
set_option maxRecDepth 100000 in
theorem xk_202 : xr_Mok xr_mt xm_202 = true := by decide +kernel
set_option maxRecDepth 100000 in
theorem xk_203 : xr_Mok xr_mt xm_203 = true := by decide +kernel
set_option maxRecDepth 100000 in
theorem xk_204 : xr_Mok xr_mt xm_204 = true := by decide +kernel
set_option maxRecDepth 100000 in
theorem xk_205 : xr_Mok xr_mt xm_205 = true := by decide +kernel
set_option maxRecDepth 100000 in
theorem xk_all : ∀ M ∈ xr_mt, xr_Mok xr_mt M = true := List.forall_mem_cons.mpr ⟨xk_0, List.forall_mem_cons.mpr ⟨xk_1, List.forall_mem_cons.mpr ⟨xk_2, List.forall_mem_cons.mpr ⟨xk_3, List.forall_mem_cons.mpr ⟨xk_4, List.forall_mem_cons.mpr ⟨xk_5, List.forall_mem_cons.mpr ⟨xk_6, List.forall_mem_cons.mpr ⟨xk_7, List.forall_mem_cons.mpr ⟨xk_8, List.forall_mem_cons.mpr ⟨xk_9, List.forall_mem_cons.mpr ⟨xk_10, List.forall_mem_cons.mpr ⟨xk_11, List.forall_mem_cons.mpr ⟨xk_12, List.forall_mem_cons.mpr ⟨xk_13, List.forall_mem_cons.mpr ⟨xk_14, List.forall_mem_cons.mpr ⟨xk_15, List.forall_mem_cons.mpr ⟨xk_16, List.forall_mem_cons.mpr ⟨xk_17, List.forall_mem_cons.mpr ⟨xk_18, List.forall_mem_cons.mpr ⟨xk_19, List.forall_mem_cons.mpr ⟨xk_20, List.forall_mem_cons.mpr ⟨xk_21, List.forall_mem_cons.mpr ⟨xk_22, List.forall_mem_cons.mpr ⟨xk_23, List.forall_mem_cons.mpr ⟨xk_24, List.forall_mem_cons.mpr ⟨xk_25, List.forall_mem_cons.mpr ⟨xk_26, List.forall_mem_cons.mpr ⟨xk_27, List.forall_mem_cons.mpr ⟨xk_28, List.forall_mem_cons.mpr ⟨xk_29, List.forall_mem_cons.mpr ⟨xk_30, List.forall_mem_cons.mpr ⟨xk_31, List.forall_mem_cons.mpr ⟨xk_32, List.forall_mem_cons.mpr ⟨xk_33, List.forall_mem_cons.mpr ⟨xk_34, List.forall_mem_cons.mpr ⟨xk_35, List.forall_mem_cons.mpr ⟨xk_36, List.forall_mem_cons.mpr ⟨xk_37, List.forall_mem_cons.mpr ⟨xk_38, List.forall_mem_cons.mpr ⟨xk_39, List.forall_mem_cons.mpr ⟨xk_40, List.forall_mem_cons.mpr ⟨xk_41, List.forall_mem_cons.mpr ⟨xk_42, List.forall_mem_cons.mpr ⟨xk_43, List.forall_mem_cons.mpr ⟨xk_44, List.forall_mem_cons.mpr ⟨xk_45, List.forall_mem_cons.mpr ⟨xk_46, List.forall_mem_cons.mpr ⟨xk_47, List.forall_mem_cons.mpr ⟨xk_48, List.forall_mem_cons.mpr ⟨xk_49, List.forall_mem_cons.mpr ⟨xk_50, List.forall_mem_cons.mpr ⟨xk_51, List.forall_mem_cons.mpr ⟨xk_52, List.forall_mem_cons.mpr ⟨xk_53, List.forall_mem_cons.mpr ⟨xk_54, List.forall_mem_cons.mpr ⟨xk_55, List.forall_mem_cons.mpr ⟨xk_56, List.forall_mem_cons.mpr ⟨xk_57, List.forall_mem_cons.mpr ⟨xk_58, List.forall_mem_cons.mpr ⟨xk_59, List.forall_mem_cons.mpr ⟨xk_60, List.forall_mem_cons.mpr ⟨xk_61, List.forall_mem_cons.mpr ⟨xk_62, List.forall_mem_cons.mpr ⟨xk_63, List.forall_mem_cons.mpr ⟨xk_64, List.forall_mem_cons.mpr ⟨xk_65, List.forall_mem_cons.mpr ⟨xk_66, List.forall_mem_cons.mpr ⟨xk_67, List.forall_mem_cons.mpr ⟨xk_68, List.forall_mem_cons.mpr ⟨xk_69, List.forall_mem_cons.mpr ⟨xk_70, List.forall_mem_cons.mpr ⟨xk_71, List.forall_mem_cons.mpr ⟨xk_72, List.forall_mem_cons.mpr ⟨xk_73, List.forall_mem_cons.mpr ⟨xk_74, List.forall_mem_cons.mpr ⟨xk_75, List.forall_mem_cons.mpr ⟨xk_76, List.forall_mem_cons.mpr ⟨xk_77, List.forall_mem_cons.mpr ⟨xk_78, List.forall_mem_cons.mpr ⟨xk_79, List.forall_mem_cons.mpr ⟨xk_80, List.forall_mem_cons.mpr ⟨xk_81, List.forall_mem_cons.mpr ⟨xk_82, List.forall_mem_cons.mpr ⟨xk_83, List.forall_mem_cons.mpr ⟨xk_84, List.forall_mem_cons.mpr ⟨xk_85, List.forall_mem_cons.mpr ⟨xk_86, List.forall_mem_cons.mpr ⟨xk_87, List.forall_mem_cons.mpr ⟨xk_88, List.forall_mem_cons.mpr ⟨xk_89, List.forall_mem_cons.mpr ⟨xk_90, List.forall_mem_cons.mpr ⟨xk_91, List.forall_mem_cons.mpr ⟨xk_92, List.forall_mem_cons.mpr ⟨xk_93, List.forall_mem_cons.mpr ⟨xk_94, List.forall_mem_cons.mpr ⟨xk_95, List.forall_mem_cons.mpr ⟨xk_96, List.forall_mem_cons.mpr ⟨xk_97, List.forall_mem_cons.mpr ⟨xk_98, List.forall_mem_cons.mpr ⟨xk_99, List.forall_mem_cons.mpr ⟨xk_100, List.forall_mem_cons.mpr ⟨xk_101, List.forall_mem_cons.mpr ⟨xk_102, List.forall_mem_cons.mpr ⟨xk_103, List.forall_mem_cons.mpr ⟨xk_104, List.forall_mem_cons.mpr ⟨xk_105, List.forall_mem_cons.mpr ⟨xk_106, List.forall_mem_cons.mpr ⟨xk_107, List.forall_mem_cons.mpr ⟨xk_108, List.forall_mem_cons.mpr ⟨xk_109, List.forall_mem_cons.mpr ⟨xk_110, List.forall_mem_cons.mpr ⟨xk_111, List.forall_mem_cons.mpr ⟨xk_112, List.forall_mem_cons.mpr ⟨xk_113, List.forall_mem_cons.mpr ⟨xk_114, List.forall_mem_cons.mpr ⟨xk_115, List.forall_mem_cons.mpr ⟨xk_116, List.forall_mem_cons.mpr ⟨xk_117, List.forall_mem_cons.mpr ⟨xk_118, List.forall_mem_cons.mpr ⟨xk_119, List.forall_mem_cons.mpr ⟨xk_120, List.forall_mem_cons.mpr ⟨xk_121, List.forall_mem_cons.mpr ⟨xk_122, List.forall_mem_cons.mpr ⟨xk_123, List.forall_mem_cons.mpr ⟨xk_124, List.forall_mem_cons.mpr ⟨xk_125, List.forall_mem_cons.mpr ⟨xk_126, List.forall_mem_cons.mpr ⟨xk_127, List.forall_mem_cons.mpr ⟨xk_128, List.forall_mem_cons.mpr ⟨xk_129, List.forall_mem_cons.mpr ⟨xk_130, List.forall_mem_cons.mpr ⟨xk_131, List.forall_mem_cons.mpr ⟨xk_132, List.forall_mem_cons.mpr ⟨xk_133, List.forall_mem_cons.mpr ⟨xk_134, List.forall_mem_cons.mpr ⟨xk_135, List.forall_mem_cons.mpr ⟨xk_136, List.forall_mem_cons.mpr ⟨xk_137, List.forall_mem_cons.mpr ⟨xk_138, List.forall_mem_cons.mpr ⟨xk_139, List.forall_mem_cons.mpr ⟨xk_140, List.forall_mem_cons.mpr ⟨xk_141, List.forall_mem_cons.mpr ⟨xk_142, List.forall_mem_cons.mpr ⟨xk_143, List.forall_mem_cons.mpr ⟨xk_144, List.forall_mem_cons.mpr ⟨xk_145, List.forall_mem_cons.mpr ⟨xk_146, List.forall_mem_cons.mpr ⟨xk_147, List.forall_mem_cons.mpr ⟨xk_148, List.forall_mem_cons.mpr ⟨xk_149, List.forall_mem_cons.mpr ⟨xk_150, List.forall_mem_cons.mpr ⟨xk_151, List.forall_mem_cons.mpr ⟨xk_152, List.forall_mem_cons.mpr ⟨xk_153, List.forall_mem_cons.mpr ⟨xk_154, List.forall_mem_cons.mpr ⟨xk_155, List.forall_mem_cons.mpr ⟨xk_156, List.forall_mem_cons.mpr ⟨xk_157, List.forall_mem_cons.mpr ⟨xk_158, List.forall_mem_cons.mpr ⟨xk_159, List.forall_mem_cons.mpr ⟨xk_160, List.forall_mem_cons.mpr ⟨xk_161, List.forall_mem_cons.mpr ⟨xk_162, List.forall_mem_cons.mpr ⟨xk_163, List.forall_mem_cons.mpr ⟨xk_164, List.forall_mem_cons.mpr ⟨xk_165, List.forall_mem_cons.mpr ⟨xk_166, List.forall_mem_cons.mpr ⟨xk_167, List.forall_mem_cons.mpr ⟨xk_168, List.forall_mem_cons.mpr ⟨xk_169, List.forall_mem_cons.mpr ⟨xk_170, List.forall_mem_cons.mpr ⟨xk_171, List.forall_mem_cons.mpr ⟨xk_172, List.forall_mem_cons.mpr ⟨xk_173, List.forall_mem_cons.mpr ⟨xk_174, List.forall_mem_cons.mpr ⟨xk_175, List.forall_mem_cons.mpr ⟨xk_176, List.forall_mem_cons.mpr ⟨xk_177, List.forall_mem_cons.mpr ⟨xk_178, List.forall_mem_cons.mpr ⟨xk_179, List.forall_mem_cons.mpr ⟨xk_180, List.forall_mem_cons.mpr ⟨xk_181, List.forall_mem_cons.mpr ⟨xk_182, List.forall_mem_cons.mpr ⟨xk_183, List.forall_mem_cons.mpr ⟨xk_184, List.forall_mem_cons.mpr ⟨xk_185, List.forall_mem_cons.mpr ⟨xk_186, List.forall_mem_cons.mpr ⟨xk_187, List.forall_mem_cons.mpr ⟨xk_188, List.forall_mem_cons.mpr ⟨xk_189, List.forall_mem_cons.mpr ⟨xk_190, List.forall_mem_cons.mpr ⟨xk_191, List.forall_mem_cons.mpr ⟨xk_192, List.forall_mem_cons.mpr ⟨xk_193, List.forall_mem_cons.mpr ⟨xk_194, List.forall_mem_cons.mpr ⟨xk_195, List.forall_mem_cons.mpr ⟨xk_196, List.forall_mem_cons.mpr ⟨xk_197, List.forall_mem_cons.mpr ⟨xk_198, List.forall_mem_cons.mpr ⟨xk_199, List.forall_mem_cons.mpr ⟨xk_200, List.forall_mem_cons.mpr ⟨xk_201, List.forall_mem_cons.mpr ⟨xk_202, List.forall_mem_cons.mpr ⟨xk_203, List.forall_mem_cons.mpr ⟨xk_204, List.forall_mem_cons.mpr ⟨xk_205, (fun _ h => by cases h)⟩⟩⟩⟩⟩⟩⟩⟩⟩⟩⟩⟩⟩⟩⟩⟩⟩⟩⟩⟩⟩⟩⟩⟩⟩⟩⟩⟩⟩⟩⟩⟩⟩⟩⟩⟩⟩⟩⟩⟩⟩⟩⟩⟩⟩⟩⟩⟩⟩⟩⟩⟩⟩⟩⟩⟩⟩⟩⟩⟩⟩⟩⟩⟩⟩⟩⟩⟩⟩⟩⟩⟩⟩⟩⟩⟩⟩⟩⟩⟩⟩⟩⟩⟩⟩⟩⟩⟩⟩⟩⟩⟩⟩⟩⟩⟩⟩⟩⟩⟩⟩⟩⟩⟩⟩⟩⟩⟩⟩⟩⟩⟩⟩⟩⟩⟩⟩⟩⟩⟩⟩⟩⟩⟩⟩⟩⟩⟩⟩⟩⟩⟩⟩⟩⟩⟩⟩⟩⟩⟩⟩⟩⟩⟩⟩⟩⟩⟩⟩⟩⟩⟩⟩⟩⟩⟩⟩⟩⟩⟩⟩⟩⟩⟩⟩⟩⟩⟩⟩⟩⟩⟩⟩⟩⟩⟩⟩⟩⟩⟩⟩⟩⟩⟩⟩⟩⟩⟩⟩⟩⟩⟩⟩⟩⟩⟩⟩⟩⟩⟩⟩⟩⟩⟩⟩⟩
