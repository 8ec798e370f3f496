theorem g_E_14 : jl_gr "TemplateEngine" 14 0 0 := ⟨0, f_E_14, rfl, rfl⟩
theorem g_E_20 : jl_gr "TemplateEngine" 20 0 1 := ⟨1, f_E_20, rfl, rfl⟩
theorem g_E_26 : jl_gr "TemplateEngine" 26 0 4 := ⟨4, f_E_26, rfl, rfl⟩
theorem g_E_30 : jl_gi "TemplateEngine" 30 0 5 := ⟨5, f_E_30, rfl, rfl⟩
theorem g_E_37 : jl_gr "TemplateEngine" 37 0 6 := ⟨6, f_E_37, rfl, rfl⟩
theorem g_E_41 : jl_gi "TemplateEngine" 41 0 7 := ⟨7, f_E_41, rfl, rfl⟩
theorem g_E_51 : jl_gi "TemplateEngine" 51 1 65 := ⟨1, f_E_51, rfl, rfl⟩
theorem g_E_63 : jl_gi "TemplateEngine" 63 0 2 := ⟨2, f_E_63, rfl, rfl⟩
theorem g_E_99 : jl_gi "TemplateEngine" 99 2 128 := ⟨0, f_E_99, rfl, rfl⟩
theorem g_E_108 : jl_gi "TemplateEngine" 108 2 133 := ⟨5, f_E_108, rfl, rfl⟩
theorem g_E_142 : jl_gi "TemplateEngine" 142 4 262 := ⟨6, f_E_142, rfl, rfl⟩
theorem g_E_145 : jl_gr "TemplateEngine" 145 4 257 := ⟨1, f_E_145, rfl, rfl⟩
theorem g_E_149 : jl_gi "TemplateEngine" 149 4 261 := ⟨5, f_E_149, rfl, rfl⟩
theorem g_E_158 : jl_gr "TemplateEngine" 158 3 199 := ⟨7, f_E_158, rfl, rfl⟩
theorem g_E_163 : jl_gr "TemplateEngine" 163 1 64 := ⟨0, f_E_163, rfl, rfl⟩
theorem g_E_174 : jl_gi "TemplateEngine" 174 3 204 := ⟨12, f_E_174, rfl, rfl⟩
theorem g_E_177 : jl_gi "TemplateEngine" 177 0 3 := ⟨3, f_E_177, rfl, rfl⟩
theorem g_E_184 : jl_gi "TemplateEngine" 184 2 134 := ⟨6, f_E_184, rfl, rfl⟩
theorem g_E_187 : jl_gr "TemplateEngine" 187 2 131 := ⟨3, f_E_187, rfl, rfl⟩
theorem g_X_7 : jl_gr "TemplateEngine$Expression" 7 6 384 := ⟨0, f_X_7, rfl, rfl⟩
theorem g_X_13 : jl_gr "TemplateEngine$Expression" 13 6 385 := ⟨1, f_X_13, rfl, rfl⟩
theorem g_X_17 : jl_gr "TemplateEngine$Expression" 17 6 386 := ⟨2, f_X_17, rfl, rfl⟩
theorem g_O_7 : jl_gr "TemplateEngine$Operand" 7 7 448 := ⟨0, f_O_7, rfl, rfl⟩
theorem g_N_7 : jl_gr "TemplateEngine$Part" 7 5 320 := ⟨0, f_N_7, rfl, rfl⟩
theorem g_N_13 : jl_gi "TemplateEngine$Part" 13 5 321 := ⟨1, f_N_13, rfl, rfl⟩
theorem g_R_11 : jl_gr "TemplateEngine$Renderer" 11 3 192 := ⟨0, f_R_11, rfl, rfl⟩
theorem g_R_17 : jl_gr "TemplateEngine$Renderer" 17 3 194 := ⟨2, f_R_17, rfl, rfl⟩
theorem g_R_24 : jl_gr "TemplateEngine$Renderer" 24 3 195 := ⟨3, f_R_24, rfl, rfl⟩
theorem g_R_33 : jl_gr "TemplateEngine$Renderer" 33 3 196 := ⟨4, f_R_33, rfl, rfl⟩
theorem g_R_37 : jl_gr "TemplateEngine$Renderer" 37 3 197 := ⟨5, f_R_37, rfl, rfl⟩
theorem g_R_40 : jl_gr "TemplateEngine$Renderer" 40 3 198 := ⟨6, f_R_40, rfl, rfl⟩
theorem g_R_43 : jl_gr "TemplateEngine$Renderer" 43 3 199 := ⟨7, f_R_43, rfl, rfl⟩
theorem g_R_50 : jl_gr "TemplateEngine$Renderer" 50 3 200 := ⟨8, f_R_50, rfl, rfl⟩
theorem g_R_57 : jl_gi "TemplateEngine$Renderer" 57 3 193 := ⟨1, f_R_57, rfl, rfl⟩
theorem g_R_61 : jl_gi "TemplateEngine$Renderer" 61 3 201 := ⟨9, f_R_61, rfl, rfl⟩
theorem g_R_64 : jl_gi "TemplateEngine$Renderer" 64 3 202 := ⟨10, f_R_64, rfl, rfl⟩
theorem g_R_67 : jl_gi "TemplateEngine$Renderer" 67 3 203 := ⟨11, f_R_67, rfl, rfl⟩
theorem g_R_70 : jl_gr "TemplateEngine$Renderer" 70 5 326 := ⟨6, f_R_70, rfl, rfl⟩
theorem g_R_80 : jl_gi "TemplateEngine$Renderer" 80 3 204 := ⟨12, f_R_80, rfl, rfl⟩
theorem g_R_89 : jl_gr "TemplateEngine$Renderer" 89 5 320 := ⟨0, f_R_89, rfl, rfl⟩
theorem g_R_99 : jl_gr "TemplateEngine$Renderer" 99 5 322 := ⟨2, f_R_99, rfl, rfl⟩
theorem g_R_109 : jl_gr "TemplateEngine$Renderer" 109 5 323 := ⟨3, f_R_109, rfl, rfl⟩
theorem g_R_125 : jl_gi "TemplateEngine$Renderer" 125 5 324 := ⟨4, f_R_125, rfl, rfl⟩
theorem g_R_135 : jl_gr "TemplateEngine$Renderer" 135 5 325 := ⟨5, f_R_135, rfl, rfl⟩
theorem g_R_162 : jl_gr "TemplateEngine$Renderer" 162 5 327 := ⟨7, f_R_162, rfl, rfl⟩
theorem g_R_171 : jl_gi "TemplateEngine$Renderer" 171 2 133 := ⟨5, f_R_171, rfl, rfl⟩
theorem g_R_178 : jl_gr "TemplateEngine$Renderer" 178 2 131 := ⟨3, f_R_178, rfl, rfl⟩
theorem g_R_181 : jl_gr "TemplateEngine$Renderer" 181 6 385 := ⟨1, f_R_181, rfl, rfl⟩
theorem g_R_191 : jl_gr "TemplateEngine$Renderer" 191 6 386 := ⟨2, f_R_191, rfl, rfl⟩
theorem g_R_197 : jl_gr "TemplateEngine$Renderer" 197 6 384 := ⟨0, f_R_197, rfl, rfl⟩
theorem g_R_204 : jl_gr "TemplateEngine$Renderer" 204 2 130 := ⟨2, f_R_204, rfl, rfl⟩
theorem g_R_210 : jl_gi "TemplateEngine$Renderer" 210 2 128 := ⟨0, f_R_210, rfl, rfl⟩
theorem g_R_222 : jl_gi "TemplateEngine$Renderer" 222 2 129 := ⟨1, f_R_222, rfl, rfl⟩
theorem g_R_235 : jl_gr "TemplateEngine$Renderer" 235 7 448 := ⟨0, f_R_235, rfl, rfl⟩
theorem g_R_243 : jl_gr "TemplateEngine$Renderer" 243 7 449 := ⟨1, f_R_243, rfl, rfl⟩
theorem g_R_250 : jl_gi "TemplateEngine$Renderer" 250 7 450 := ⟨2, f_R_250, rfl, rfl⟩
theorem g_R_253 : jl_gr "TemplateEngine$Renderer" 253 7 451 := ⟨3, f_R_253, rfl, rfl⟩
theorem g_P_20 : jl_gr "TemplateEngine$TemplateReader" 20 4 257 := ⟨1, f_P_20, rfl, rfl⟩
theorem g_P_26 : jl_gr "TemplateEngine$TemplateReader" 26 4 258 := ⟨2, f_P_26, rfl, rfl⟩
theorem g_P_30 : jl_gi "TemplateEngine$TemplateReader" 30 4 262 := ⟨6, f_P_30, rfl, rfl⟩
theorem g_P_34 : jl_gr "TemplateEngine$TemplateReader" 34 4 265 := ⟨9, f_P_34, rfl, rfl⟩
theorem g_P_38 : jl_gr "TemplateEngine$TemplateReader" 38 4 256 := ⟨0, f_P_38, rfl, rfl⟩
theorem g_P_42 : jl_gi "TemplateEngine$TemplateReader" 42 1 65 := ⟨1, f_P_42, rfl, rfl⟩
theorem g_P_72 : jl_gi "TemplateEngine$TemplateReader" 72 4 263 := ⟨7, f_P_72, rfl, rfl⟩
theorem g_P_75 : jl_gi "TemplateEngine$TemplateReader" 75 4 264 := ⟨8, f_P_75, rfl, rfl⟩
theorem g_P_90 : jl_gi "TemplateEngine$TemplateReader" 90 4 261 := ⟨5, f_P_90, rfl, rfl⟩
theorem g_P_93 : jl_gi "TemplateEngine$TemplateReader" 93 4 259 := ⟨3, f_P_93, rfl, rfl⟩
theorem g_P_96 : jl_gi "TemplateEngine$TemplateReader" 96 5 321 := ⟨1, f_P_96, rfl, rfl⟩
theorem g_P_106 : jl_gr "TemplateEngine$TemplateReader" 106 5 322 := ⟨2, f_P_106, rfl, rfl⟩
theorem g_P_113 : jl_gr "TemplateEngine$TemplateReader" 113 4 260 := ⟨4, f_P_113, rfl, rfl⟩
theorem g_P_116 : jl_gr "TemplateEngine$TemplateReader" 116 5 325 := ⟨5, f_P_116, rfl, rfl⟩
theorem g_P_119 : jl_gi "TemplateEngine$TemplateReader" 119 5 328 := ⟨8, f_P_119, rfl, rfl⟩
theorem g_P_123 : jl_gr "TemplateEngine$TemplateReader" 123 5 327 := ⟨7, f_P_123, rfl, rfl⟩
theorem g_P_126 : jl_gr "TemplateEngine$TemplateReader" 126 5 326 := ⟨6, f_P_126, rfl, rfl⟩
theorem g_P_135 : jl_gr "TemplateEngine$TemplateReader" 135 5 320 := ⟨0, f_P_135, rfl, rfl⟩
theorem g_P_210 : jl_gr "TemplateEngine$TemplateReader" 210 1 64 := ⟨0, f_P_210, rfl, rfl⟩
theorem g_P_214 : jl_gi "TemplateEngine$TemplateReader" 214 5 324 := ⟨4, f_P_214, rfl, rfl⟩
theorem g_P_221 : jl_gr "TemplateEngine$TemplateReader" 221 5 323 := ⟨3, f_P_221, rfl, rfl⟩
theorem g_P_301 : jl_gr "TemplateEngine$TemplateReader" 301 7 449 := ⟨1, f_P_301, rfl, rfl⟩
theorem g_P_312 : jl_gi "TemplateEngine$TemplateReader" 312 7 450 := ⟨2, f_P_312, rfl, rfl⟩
theorem g_P_330 : jl_gr "TemplateEngine$TemplateReader" 330 7 451 := ⟨3, f_P_330, rfl, rfl⟩
theorem g_T_9 : jl_gr "TemplateEngine$Text" 9 1 64 := ⟨0, f_T_9, rfl, rfl⟩
theorem g_T_15 : jl_gi "TemplateEngine$Text" 15 1 65 := ⟨1, f_T_15, rfl, rfl⟩
theorem g_V_12 : jl_gi "TemplateEngine$Value" 12 2 128 := ⟨0, f_V_12, rfl, rfl⟩
theorem g_V_16 : jl_gi "TemplateEngine$Value" 16 2 129 := ⟨1, f_V_16, rfl, rfl⟩
theorem g_V_19 : jl_gr "TemplateEngine$Value" 19 2 130 := ⟨2, f_V_19, rfl, rfl⟩
theorem g_V_23 : jl_gr "TemplateEngine$Value" 23 2 131 := ⟨3, f_V_23, rfl, rfl⟩
theorem g_V_27 : jl_gr "TemplateEngine$Value" 27 2 132 := ⟨4, f_V_27, rfl, rfl⟩
theorem g_V_31 : jl_gi "TemplateEngine$Value" 31 2 133 := ⟨5, f_V_31, rfl, rfl⟩
theorem g_V_40 : jl_gi "TemplateEngine$Value" 40 1 65 := ⟨1, f_V_40, rfl, rfl⟩
theorem g_M_7 : jl_gi "TemplateEngineModel" 7 8 512 := ⟨0, f_M_7, rfl, rfl⟩
theorem g_M_13 : jl_gi "TemplateEngineModel" 13 8 513 := ⟨1, f_M_13, rfl, rfl⟩
theorem g_M_16 : jl_gi "TemplateEngineModel" 16 8 514 := ⟨2, f_M_16, rfl, rfl⟩
theorem g_M_19 : jl_gi "TemplateEngineModel" 19 8 515 := ⟨3, f_M_19, rfl, rfl⟩
theorem g_M_22 : jl_gi "TemplateEngineModel" 22 8 516 := ⟨4, f_M_22, rfl, rfl⟩
theorem g_M_25 : jl_gi "TemplateEngineModel" 25 8 517 := ⟨5, f_M_25, rfl, rfl⟩
theorem g_M_28 : jl_gi "TemplateEngineModel" 28 8 518 := ⟨6, f_M_28, rfl, rfl⟩
theorem g_M_31 : jl_gr "TemplateEngineModel" 31 8 519 := ⟨7, f_M_31, rfl, rfl⟩
theorem g_M_35 : jl_gr "TemplateEngineModel" 35 8 520 := ⟨8, f_M_35, rfl, rfl⟩
theorem g_M_39 : jl_gr "TemplateEngineModel" 39 8 521 := ⟨9, f_M_39, rfl, rfl⟩
theorem g_M_42 : jl_gr "TemplateEngineModel" 42 8 522 := ⟨10, f_M_42, rfl, rfl⟩
theorem g_M_45 : jl_gr "TemplateEngineModel" 45 8 523 := ⟨11, f_M_45, rfl, rfl⟩
theorem g_M_48 : jl_gr "TemplateEngineModel" 48 8 524 := ⟨12, f_M_48, rfl, rfl⟩
theorem g_M_52 : jl_gr "TemplateEngineModel" 52 8 525 := ⟨13, f_M_52, rfl, rfl⟩
theorem g_M_56 : jl_gr "TemplateEngineModel" 56 8 526 := ⟨14, f_M_56, rfl, rfl⟩
theorem g_M_59 : jl_gr "TemplateEngineModel" 59 8 527 := ⟨15, f_M_59, rfl, rfl⟩
theorem g_M_62 : jl_gr "TemplateEngineModel" 62 8 528 := ⟨16, f_M_62, rfl, rfl⟩
theorem g_M_65 : jl_gr "TemplateEngineModel" 65 8 529 := ⟨17, f_M_65, rfl, rfl⟩
theorem g_M_68 : jl_gr "TemplateEngineModel" 68 8 530 := ⟨18, f_M_68, rfl, rfl⟩
theorem g_M_71 : jl_gr "TemplateEngineModel" 71 8 531 := ⟨19, f_M_71, rfl, rfl⟩
theorem g_M_74 : jl_gr "TemplateEngineModel" 74 8 532 := ⟨20, f_M_74, rfl, rfl⟩
theorem g_M_77 : jl_gr "TemplateEngineModel" 77 8 533 := ⟨21, f_M_77, rfl, rfl⟩
theorem g_M_80 : jl_gr "TemplateEngineModel" 80 8 534 := ⟨22, f_M_80, rfl, rfl⟩
theorem g_M_83 : jl_gr "TemplateEngineModel" 83 8 535 := ⟨23, f_M_83, rfl, rfl⟩
theorem g_M_86 : jl_gr "TemplateEngineModel" 86 8 536 := ⟨24, f_M_86, rfl, rfl⟩
theorem g_M_89 : jl_gr "TemplateEngineModel" 89 8 537 := ⟨25, f_M_89, rfl, rfl⟩
theorem g_M_92 : jl_gr "TemplateEngineModel" 92 8 538 := ⟨26, f_M_92, rfl, rfl⟩
theorem g_M_95 : jl_gr "TemplateEngineModel" 95 8 539 := ⟨27, f_M_95, rfl, rfl⟩
theorem g_M_98 : jl_gr "TemplateEngineModel" 98 8 540 := ⟨28, f_M_98, rfl, rfl⟩
theorem g_M_101 : jl_gr "TemplateEngineModel" 101 8 541 := ⟨29, f_M_101, rfl, rfl⟩
theorem g_M_104 : jl_gr "TemplateEngineModel" 104 8 542 := ⟨30, f_M_104, rfl, rfl⟩
theorem g_M_107 : jl_gr "TemplateEngineModel" 107 8 543 := ⟨31, f_M_107, rfl, rfl⟩
theorem g_M_110 : jl_gr "TemplateEngineModel" 110 8 544 := ⟨32, f_M_110, rfl, rfl⟩
theorem g_M_113 : jl_gi "TemplateEngineModel" 113 8 545 := ⟨33, f_M_113, rfl, rfl⟩
theorem g_M_116 : jl_gi "TemplateEngineModel" 116 8 546 := ⟨34, f_M_116, rfl, rfl⟩
theorem g_M_119 : jl_gi "TemplateEngineModel" 119 8 547 := ⟨35, f_M_119, rfl, rfl⟩
theorem g_M_122 : jl_gi "TemplateEngineModel" 122 8 548 := ⟨36, f_M_122, rfl, rfl⟩
theorem g_M_125 : jl_gi "TemplateEngineModel" 125 8 549 := ⟨37, f_M_125, rfl, rfl⟩
theorem g_M_128 : jl_gi "TemplateEngineModel" 128 8 550 := ⟨38, f_M_128, rfl, rfl⟩
theorem g_M_131 : jl_gi "TemplateEngineModel" 131 8 551 := ⟨39, f_M_131, rfl, rfl⟩
theorem g_M_134 : jl_gr "TemplateEngineModel" 134 8 552 := ⟨40, f_M_134, rfl, rfl⟩
theorem g_M_137 : jl_gr "TemplateEngineModel" 137 8 553 := ⟨41, f_M_137, rfl, rfl⟩
theorem g_M_140 : jl_gr "TemplateEngineModel" 140 8 554 := ⟨42, f_M_140, rfl, rfl⟩
theorem g_M_143 : jl_gr "TemplateEngineModel" 143 8 555 := ⟨43, f_M_143, rfl, rfl⟩
theorem g_M_146 : jl_gr "TemplateEngineModel" 146 8 556 := ⟨44, f_M_146, rfl, rfl⟩
theorem g_M_149 : jl_gr "TemplateEngineModel" 149 8 557 := ⟨45, f_M_149, rfl, rfl⟩
theorem g_M_152 : jl_gr "TemplateEngineModel" 152 8 558 := ⟨46, f_M_152, rfl, rfl⟩
theorem g_M_155 : jl_gr "TemplateEngineModel" 155 8 559 := ⟨47, f_M_155, rfl, rfl⟩
theorem p_E_init_14 : jl_pr m_E_init 14 0 0 := ⟨0, f_E_14, Or.inr ⟨rfl, rfl, rfl⟩, fun _ => w_E_14, Or.inl ⟨_, rfl⟩, rfl⟩
theorem p_E_init_20 : jl_pr m_E_init 20 0 1 := ⟨1, f_E_20, Or.inr ⟨rfl, rfl, rfl⟩, fun _ => w_E_20, Or.inr ⟨_, rfl⟩, rfl⟩
theorem p_E_init_26 : jl_pr m_E_init 26 0 4 := ⟨4, f_E_26, Or.inr ⟨rfl, rfl, rfl⟩, fun _ => w_E_26, Or.inr ⟨_, rfl⟩, rfl⟩
theorem p_E_init_30 : jl_pi m_E_init 30 0 5 := ⟨5, f_E_30, Or.inl rfl, (fun h => by cases h), rfl, rfl⟩
theorem p_E_init_37 : jl_pr m_E_init 37 0 6 := ⟨6, f_E_37, Or.inr ⟨rfl, rfl, rfl⟩, fun _ => w_E_37, Or.inl ⟨_, rfl⟩, rfl⟩
theorem p_E_type_41 : jl_pi m_E_type 41 0 7 := ⟨7, f_E_41, Or.inl rfl, (fun h => by cases h), rfl, rfl⟩
theorem p_E_number_41 : jl_pi m_E_number 41 0 7 := ⟨7, f_E_41, Or.inl rfl, (fun h => by cases h), rfl, rfl⟩
theorem p_E_text_41 : jl_pi m_E_text 41 0 7 := ⟨7, f_E_41, Or.inl rfl, (fun h => by cases h), rfl, rfl⟩
theorem p_E_list_41 : jl_pi m_E_list 41 0 7 := ⟨7, f_E_41, Or.inl rfl, (fun h => by cases h), rfl, rfl⟩
theorem p_E_map_41 : jl_pi m_E_map 41 0 7 := ⟨7, f_E_41, Or.inl rfl, (fun h => by cases h), rfl, rfl⟩
theorem p_E_add_41 : jl_pi m_E_add 41 0 7 := ⟨7, f_E_41, Or.inl rfl, (fun h => by cases h), rfl, rfl⟩
theorem p_E_put_41 : jl_pi m_E_put 41 0 7 := ⟨7, f_E_41, Or.inl rfl, (fun h => by cases h), rfl, rfl⟩
theorem p_E_compile_41 : jl_pi m_E_compile 41 0 7 := ⟨7, f_E_41, Or.inl rfl, (fun h => by cases h), rfl, rfl⟩
theorem p_E_compile_30 : jl_pi m_E_compile 30 0 5 := ⟨5, f_E_30, Or.inl rfl, (fun h => by cases h), rfl, rfl⟩
theorem p_E_render_41 : jl_pi m_E_render 41 0 7 := ⟨7, f_E_41, Or.inl rfl, (fun h => by cases h), rfl, rfl⟩
theorem p_E_at_41 : jl_pi m_E_at 41 0 7 := ⟨7, f_E_41, Or.inl rfl, (fun h => by cases h), rfl, rfl⟩
theorem p_E_kind_41 : jl_pi m_E_kind 41 0 7 := ⟨7, f_E_41, Or.inl rfl, (fun h => by cases h), rfl, rfl⟩
theorem p_E_size_41 : jl_pi m_E_size 41 0 7 := ⟨7, f_E_41, Or.inl rfl, (fun h => by cases h), rfl, rfl⟩
theorem p_E_keep_63 : jl_pi m_E_keep 63 0 2 := ⟨2, f_E_63, Or.inl rfl, (fun h => by cases h), rfl, rfl⟩
theorem p_E_wouldHoldItself_177 : jl_pi m_E_wouldHoldItself 177 0 3 := ⟨3, f_E_177, Or.inl rfl, (fun h => by cases h), rfl, rfl⟩
theorem p_E_isWithin_184 : jl_pi m_E_isWithin 184 2 134 := ⟨6, f_E_184, Or.inl rfl, (fun h => by cases h), rfl, rfl⟩
theorem p_M_init_7 : jl_pi m_M_init 7 8 512 := ⟨0, f_M_7, Or.inl rfl, (fun h => by cases h), rfl, rfl⟩
theorem p_M_init_13 : jl_pi m_M_init 13 8 513 := ⟨1, f_M_13, Or.inl rfl, (fun h => by cases h), rfl, rfl⟩
theorem p_M_init_16 : jl_pi m_M_init 16 8 514 := ⟨2, f_M_16, Or.inl rfl, (fun h => by cases h), rfl, rfl⟩
theorem p_M_init_19 : jl_pi m_M_init 19 8 515 := ⟨3, f_M_19, Or.inl rfl, (fun h => by cases h), rfl, rfl⟩
theorem p_M_init_22 : jl_pi m_M_init 22 8 516 := ⟨4, f_M_22, Or.inl rfl, (fun h => by cases h), rfl, rfl⟩
theorem p_M_init_25 : jl_pi m_M_init 25 8 517 := ⟨5, f_M_25, Or.inl rfl, (fun h => by cases h), rfl, rfl⟩
theorem p_M_init_28 : jl_pi m_M_init 28 8 518 := ⟨6, f_M_28, Or.inl rfl, (fun h => by cases h), rfl, rfl⟩
theorem p_M_init_31 : jl_pr m_M_init 31 8 519 := ⟨7, f_M_31, Or.inr ⟨rfl, rfl, rfl⟩, fun _ => w_M_31, Or.inr ⟨_, rfl⟩, rfl⟩
theorem p_M_init_35 : jl_pr m_M_init 35 8 520 := ⟨8, f_M_35, Or.inr ⟨rfl, rfl, rfl⟩, fun _ => w_M_35, Or.inr ⟨_, rfl⟩, rfl⟩
theorem p_M_init_39 : jl_pr m_M_init 39 8 521 := ⟨9, f_M_39, Or.inr ⟨rfl, rfl, rfl⟩, fun _ => w_M_39, Or.inr ⟨_, rfl⟩, rfl⟩
theorem p_M_init_42 : jl_pr m_M_init 42 8 522 := ⟨10, f_M_42, Or.inr ⟨rfl, rfl, rfl⟩, fun _ => w_M_42, Or.inr ⟨_, rfl⟩, rfl⟩
theorem p_M_init_45 : jl_pr m_M_init 45 8 523 := ⟨11, f_M_45, Or.inr ⟨rfl, rfl, rfl⟩, fun _ => w_M_45, Or.inr ⟨_, rfl⟩, rfl⟩
theorem p_M_init_48 : jl_pr m_M_init 48 8 524 := ⟨12, f_M_48, Or.inr ⟨rfl, rfl, rfl⟩, fun _ => w_M_48, Or.inr ⟨_, rfl⟩, rfl⟩
theorem p_M_init_52 : jl_pr m_M_init 52 8 525 := ⟨13, f_M_52, Or.inr ⟨rfl, rfl, rfl⟩, fun _ => w_M_52, Or.inr ⟨_, rfl⟩, rfl⟩
theorem p_M_init_56 : jl_pr m_M_init 56 8 526 := ⟨14, f_M_56, Or.inr ⟨rfl, rfl, rfl⟩, fun _ => w_M_56, Or.inr ⟨_, rfl⟩, rfl⟩
theorem p_M_init_59 : jl_pr m_M_init 59 8 527 := ⟨15, f_M_59, Or.inr ⟨rfl, rfl, rfl⟩, fun _ => w_M_59, Or.inr ⟨_, rfl⟩, rfl⟩
theorem p_M_init_62 : jl_pr m_M_init 62 8 528 := ⟨16, f_M_62, Or.inr ⟨rfl, rfl, rfl⟩, fun _ => w_M_62, Or.inr ⟨_, rfl⟩, rfl⟩
theorem p_M_init_65 : jl_pr m_M_init 65 8 529 := ⟨17, f_M_65, Or.inr ⟨rfl, rfl, rfl⟩, fun _ => w_M_65, Or.inr ⟨_, rfl⟩, rfl⟩
theorem p_M_init_68 : jl_pr m_M_init 68 8 530 := ⟨18, f_M_68, Or.inr ⟨rfl, rfl, rfl⟩, fun _ => w_M_68, Or.inr ⟨_, rfl⟩, rfl⟩
theorem p_M_init_71 : jl_pr m_M_init 71 8 531 := ⟨19, f_M_71, Or.inr ⟨rfl, rfl, rfl⟩, fun _ => w_M_71, Or.inr ⟨_, rfl⟩, rfl⟩
theorem p_M_init_74 : jl_pr m_M_init 74 8 532 := ⟨20, f_M_74, Or.inr ⟨rfl, rfl, rfl⟩, fun _ => w_M_74, Or.inr ⟨_, rfl⟩, rfl⟩
theorem p_M_init_77 : jl_pr m_M_init 77 8 533 := ⟨21, f_M_77, Or.inr ⟨rfl, rfl, rfl⟩, fun _ => w_M_77, Or.inr ⟨_, rfl⟩, rfl⟩
theorem p_M_init_80 : jl_pr m_M_init 80 8 534 := ⟨22, f_M_80, Or.inr ⟨rfl, rfl, rfl⟩, fun _ => w_M_80, Or.inr ⟨_, rfl⟩, rfl⟩
theorem p_M_init_83 : jl_pr m_M_init 83 8 535 := ⟨23, f_M_83, Or.inr ⟨rfl, rfl, rfl⟩, fun _ => w_M_83, Or.inr ⟨_, rfl⟩, rfl⟩
theorem p_M_init_86 : jl_pr m_M_init 86 8 536 := ⟨24, f_M_86, Or.inr ⟨rfl, rfl, rfl⟩, fun _ => w_M_86, Or.inr ⟨_, rfl⟩, rfl⟩
theorem p_M_init_89 : jl_pr m_M_init 89 8 537 := ⟨25, f_M_89, Or.inr ⟨rfl, rfl, rfl⟩, fun _ => w_M_89, Or.inr ⟨_, rfl⟩, rfl⟩
theorem p_M_init_92 : jl_pr m_M_init 92 8 538 := ⟨26, f_M_92, Or.inr ⟨rfl, rfl, rfl⟩, fun _ => w_M_92, Or.inr ⟨_, rfl⟩, rfl⟩
theorem p_M_init_95 : jl_pr m_M_init 95 8 539 := ⟨27, f_M_95, Or.inr ⟨rfl, rfl, rfl⟩, fun _ => w_M_95, Or.inr ⟨_, rfl⟩, rfl⟩
theorem p_M_init_98 : jl_pr m_M_init 98 8 540 := ⟨28, f_M_98, Or.inr ⟨rfl, rfl, rfl⟩, fun _ => w_M_98, Or.inr ⟨_, rfl⟩, rfl⟩
theorem p_M_init_101 : jl_pr m_M_init 101 8 541 := ⟨29, f_M_101, Or.inr ⟨rfl, rfl, rfl⟩, fun _ => w_M_101, Or.inr ⟨_, rfl⟩, rfl⟩
theorem p_M_init_104 : jl_pr m_M_init 104 8 542 := ⟨30, f_M_104, Or.inr ⟨rfl, rfl, rfl⟩, fun _ => w_M_104, Or.inr ⟨_, rfl⟩, rfl⟩
theorem p_M_init_107 : jl_pr m_M_init 107 8 543 := ⟨31, f_M_107, Or.inr ⟨rfl, rfl, rfl⟩, fun _ => w_M_107, Or.inr ⟨_, rfl⟩, rfl⟩
theorem p_M_init_110 : jl_pr m_M_init 110 8 544 := ⟨32, f_M_110, Or.inr ⟨rfl, rfl, rfl⟩, fun _ => w_M_110, Or.inr ⟨_, rfl⟩, rfl⟩
theorem p_M_init_113 : jl_pi m_M_init 113 8 545 := ⟨33, f_M_113, Or.inl rfl, (fun h => by cases h), rfl, rfl⟩
theorem p_M_init_116 : jl_pi m_M_init 116 8 546 := ⟨34, f_M_116, Or.inl rfl, (fun h => by cases h), rfl, rfl⟩
theorem p_M_init_119 : jl_pi m_M_init 119 8 547 := ⟨35, f_M_119, Or.inl rfl, (fun h => by cases h), rfl, rfl⟩
theorem p_M_init_122 : jl_pi m_M_init 122 8 548 := ⟨36, f_M_122, Or.inl rfl, (fun h => by cases h), rfl, rfl⟩
theorem p_M_init_125 : jl_pi m_M_init 125 8 549 := ⟨37, f_M_125, Or.inl rfl, (fun h => by cases h), rfl, rfl⟩
theorem p_M_init_128 : jl_pi m_M_init 128 8 550 := ⟨38, f_M_128, Or.inl rfl, (fun h => by cases h), rfl, rfl⟩
theorem p_M_init_131 : jl_pi m_M_init 131 8 551 := ⟨39, f_M_131, Or.inl rfl, (fun h => by cases h), rfl, rfl⟩
theorem p_M_init_134 : jl_pr m_M_init 134 8 552 := ⟨40, f_M_134, Or.inr ⟨rfl, rfl, rfl⟩, fun _ => w_M_134, Or.inr ⟨_, rfl⟩, rfl⟩
theorem p_M_init_137 : jl_pr m_M_init 137 8 553 := ⟨41, f_M_137, Or.inr ⟨rfl, rfl, rfl⟩, fun _ => w_M_137, Or.inr ⟨_, rfl⟩, rfl⟩
theorem p_M_init_140 : jl_pr m_M_init 140 8 554 := ⟨42, f_M_140, Or.inr ⟨rfl, rfl, rfl⟩, fun _ => w_M_140, Or.inr ⟨_, rfl⟩, rfl⟩
theorem p_M_init_143 : jl_pr m_M_init 143 8 555 := ⟨43, f_M_143, Or.inr ⟨rfl, rfl, rfl⟩, fun _ => w_M_143, Or.inr ⟨_, rfl⟩, rfl⟩
theorem p_M_init_146 : jl_pr m_M_init 146 8 556 := ⟨44, f_M_146, Or.inr ⟨rfl, rfl, rfl⟩, fun _ => w_M_146, Or.inr ⟨_, rfl⟩, rfl⟩
theorem p_M_init_149 : jl_pr m_M_init 149 8 557 := ⟨45, f_M_149, Or.inr ⟨rfl, rfl, rfl⟩, fun _ => w_M_149, Or.inr ⟨_, rfl⟩, rfl⟩
theorem p_M_init_152 : jl_pr m_M_init 152 8 558 := ⟨46, f_M_152, Or.inr ⟨rfl, rfl, rfl⟩, fun _ => w_M_152, Or.inr ⟨_, rfl⟩, rfl⟩
theorem p_M_init_155 : jl_pr m_M_init 155 8 559 := ⟨47, f_M_155, Or.inr ⟨rfl, rfl, rfl⟩, fun _ => w_M_155, Or.inr ⟨_, rfl⟩, rfl⟩
theorem p_M_refuse_7 : jl_pi m_M_refuse 7 8 512 := ⟨0, f_M_7, Or.inl rfl, (fun h => by cases h), rfl, rfl⟩
theorem p_M_refuse_13 : jl_pi m_M_refuse 13 8 513 := ⟨1, f_M_13, Or.inl rfl, (fun h => by cases h), rfl, rfl⟩
theorem p_M_fine_7 : jl_pi m_M_fine 7 8 512 := ⟨0, f_M_7, Or.inl rfl, (fun h => by cases h), rfl, rfl⟩
theorem p_M_type_16 : jl_pi m_M_type 16 8 514 := ⟨2, f_M_16, Or.inl rfl, (fun h => by cases h), rfl, rfl⟩
theorem p_M_make_22 : jl_pi m_M_make 22 8 516 := ⟨4, f_M_22, Or.inl rfl, (fun h => by cases h), rfl, rfl⟩
theorem p_M_text_16 : jl_pi m_M_text 16 8 514 := ⟨2, f_M_16, Or.inl rfl, (fun h => by cases h), rfl, rfl⟩
theorem p_M_put_16 : jl_pi m_M_put 16 8 514 := ⟨2, f_M_16, Or.inl rfl, (fun h => by cases h), rfl, rfl⟩
theorem p_M_compile_19 : jl_pi m_M_compile 19 8 515 := ⟨3, f_M_19, Or.inl rfl, (fun h => by cases h), rfl, rfl⟩
theorem p_M_compile_16 : jl_pi m_M_compile 16 8 514 := ⟨2, f_M_16, Or.inl rfl, (fun h => by cases h), rfl, rfl⟩
theorem p_M_rawPut_113 : jl_pi m_M_rawPut 113 8 545 := ⟨33, f_M_113, Or.inl rfl, (fun h => by cases h), rfl, rfl⟩
theorem p_M_rawData_131 : jl_pi m_M_rawData 131 8 551 := ⟨39, f_M_131, Or.inl rfl, (fun h => by cases h), rfl, rfl⟩
theorem p_M_showRaw_113 : jl_pi m_M_showRaw 113 8 545 := ⟨33, f_M_113, Or.inl rfl, (fun h => by cases h), rfl, rfl⟩
theorem p_M_showRaw_131 : jl_pi m_M_showRaw 131 8 551 := ⟨39, f_M_131, Or.inl rfl, (fun h => by cases h), rfl, rfl⟩
theorem p_M_showRaw_128 : jl_pi m_M_showRaw 128 8 550 := ⟨38, f_M_128, Or.inl rfl, (fun h => by cases h), rfl, rfl⟩
theorem p_M_emit_128 : jl_pi m_M_emit 128 8 550 := ⟨38, f_M_128, Or.inl rfl, (fun h => by cases h), rfl, rfl⟩
theorem p_M_emit_116 : jl_pi m_M_emit 116 8 546 := ⟨34, f_M_116, Or.inl rfl, (fun h => by cases h), rfl, rfl⟩
theorem p_M_push_125 : jl_pi m_M_push 125 8 549 := ⟨37, f_M_125, Or.inl rfl, (fun h => by cases h), rfl, rfl⟩
theorem p_M_block_122 : jl_pi m_M_block 122 8 548 := ⟨36, f_M_122, Or.inl rfl, (fun h => by cases h), rfl, rfl⟩
theorem p_M_ends_122 : jl_pi m_M_ends 122 8 548 := ⟨36, f_M_122, Or.inl rfl, (fun h => by cases h), rfl, rfl⟩
theorem p_M_ends_125 : jl_pi m_M_ends 125 8 549 := ⟨37, f_M_125, Or.inl rfl, (fun h => by cases h), rfl, rfl⟩
theorem p_M_partial_128 : jl_pi m_M_partial 128 8 550 := ⟨38, f_M_128, Or.inl rfl, (fun h => by cases h), rfl, rfl⟩
theorem p_M_tag_128 : jl_pi m_M_tag 128 8 550 := ⟨38, f_M_128, Or.inl rfl, (fun h => by cases h), rfl, rfl⟩
theorem p_M_tag_25 : jl_pi m_M_tag 25 8 517 := ⟨5, f_M_25, Or.inl rfl, (fun h => by cases h), rfl, rfl⟩
theorem p_M_go_125 : jl_pi m_M_go 125 8 549 := ⟨37, f_M_125, Or.inl rfl, (fun h => by cases h), rfl, rfl⟩
theorem p_M_render_25 : jl_pi m_M_render 25 8 517 := ⟨5, f_M_25, Or.inl rfl, (fun h => by cases h), rfl, rfl⟩
theorem p_M_render_125 : jl_pi m_M_render 125 8 549 := ⟨37, f_M_125, Or.inl rfl, (fun h => by cases h), rfl, rfl⟩
theorem p_M_render_122 : jl_pi m_M_render 122 8 548 := ⟨36, f_M_122, Or.inl rfl, (fun h => by cases h), rfl, rfl⟩
theorem p_M_render_116 : jl_pi m_M_render 116 8 546 := ⟨34, f_M_116, Or.inl rfl, (fun h => by cases h), rfl, rfl⟩
theorem p_M_render_128 : jl_pi m_M_render 128 8 550 := ⟨38, f_M_128, Or.inl rfl, (fun h => by cases h), rfl, rfl⟩
theorem p_M_render_119 : jl_pi m_M_render 119 8 547 := ⟨35, f_M_119, Or.inl rfl, (fun h => by cases h), rfl, rfl⟩
theorem p_M_render_28 : jl_pi m_M_render 28 8 518 := ⟨6, f_M_28, Or.inl rfl, (fun h => by cases h), rfl, rfl⟩
theorem p_M_count_7 : jl_pi m_M_count 7 8 512 := ⟨0, f_M_7, Or.inl rfl, (fun h => by cases h), rfl, rfl⟩
theorem p_X_init_7 : jl_pr m_X_init 7 6 384 := ⟨0, f_X_7, Or.inr ⟨rfl, rfl, rfl⟩, fun _ => w_X_7, Or.inl ⟨_, rfl⟩, rfl⟩
theorem p_X_init_13 : jl_pr m_X_init 13 6 385 := ⟨1, f_X_13, Or.inr ⟨rfl, rfl, rfl⟩, fun _ => w_X_13, Or.inl ⟨_, rfl⟩, rfl⟩
theorem p_X_init_17 : jl_pr m_X_init 17 6 386 := ⟨2, f_X_17, Or.inr ⟨rfl, rfl, rfl⟩, fun _ => w_X_17, Or.inl ⟨_, rfl⟩, rfl⟩
theorem p_O_init_7 : jl_pr m_O_init 7 7 448 := ⟨0, f_O_7, Or.inr ⟨rfl, rfl, rfl⟩, fun _ => w_O_7, Or.inl ⟨_, rfl⟩, rfl⟩
theorem p_N_init_7 : jl_pr m_N_init 7 5 320 := ⟨0, f_N_7, Or.inr ⟨rfl, rfl, rfl⟩, fun _ => w_N_7, Or.inl ⟨_, rfl⟩, rfl⟩
theorem p_N_init_13 : jl_pi m_N_init 13 5 321 := ⟨1, f_N_13, Or.inr ⟨rfl, rfl, rfl⟩, fun _ => w_N_13, rfl, rfl⟩
theorem p_R_init_11 : jl_pr m_R_init 11 3 192 := ⟨0, f_R_11, Or.inr ⟨rfl, rfl, rfl⟩, fun _ => w_R_11, Or.inr ⟨_, rfl⟩, rfl⟩
theorem p_R_init_17 : jl_pr m_R_init 17 3 194 := ⟨2, f_R_17, Or.inr ⟨rfl, rfl, rfl⟩, fun _ => w_R_17, Or.inr ⟨_, rfl⟩, rfl⟩
theorem p_R_init_24 : jl_pr m_R_init 24 3 195 := ⟨3, f_R_24, Or.inr ⟨rfl, rfl, rfl⟩, fun _ => w_R_24, Or.inl ⟨_, rfl⟩, rfl⟩
theorem p_R_init_33 : jl_pr m_R_init 33 3 196 := ⟨4, f_R_33, Or.inr ⟨rfl, rfl, rfl⟩, fun _ => w_R_33, Or.inl ⟨_, rfl⟩, rfl⟩
theorem p_R_init_37 : jl_pr m_R_init 37 3 197 := ⟨5, f_R_37, Or.inr ⟨rfl, rfl, rfl⟩, fun _ => w_R_37, Or.inl ⟨_, rfl⟩, rfl⟩
theorem p_R_init_40 : jl_pr m_R_init 40 3 198 := ⟨6, f_R_40, Or.inl rfl, (fun h => by cases h), Or.inl ⟨_, rfl⟩, rfl⟩
theorem p_R_init_43 : jl_pr m_R_init 43 3 199 := ⟨7, f_R_43, Or.inl rfl, (fun h => by cases h), Or.inl ⟨_, rfl⟩, rfl⟩
theorem p_R_run_50 : jl_pr m_R_run 50 3 200 := ⟨8, f_R_50, Or.inl rfl, (fun h => by cases h), Or.inr ⟨_, rfl⟩, rfl⟩
theorem p_R_run_57 : jl_pi m_R_run 57 3 193 := ⟨1, f_R_57, Or.inl rfl, (fun h => by cases h), rfl, rfl⟩
theorem p_R_run_61 : jl_pi m_R_run 61 3 201 := ⟨9, f_R_61, Or.inl rfl, (fun h => by cases h), rfl, rfl⟩
theorem p_R_run_64 : jl_pi m_R_run 64 3 202 := ⟨10, f_R_64, Or.inl rfl, (fun h => by cases h), rfl, rfl⟩
theorem p_R_run_67 : jl_pi m_R_run 67 3 203 := ⟨11, f_R_67, Or.inl rfl, (fun h => by cases h), rfl, rfl⟩
theorem p_R_run_43 : jl_pr m_R_run 43 3 199 := ⟨7, f_R_43, Or.inl rfl, (fun h => by cases h), Or.inl ⟨_, rfl⟩, rfl⟩
theorem p_R_run_40 : jl_pr m_R_run 40 3 198 := ⟨6, f_R_40, Or.inl rfl, (fun h => by cases h), Or.inl ⟨_, rfl⟩, rfl⟩
theorem p_R_run_80 : jl_pi m_R_run 80 3 204 := ⟨12, f_R_80, Or.inl rfl, (fun h => by cases h), rfl, rfl⟩
theorem p_R_meetTag_67 : jl_pi m_R_meetTag 67 3 203 := ⟨11, f_R_67, Or.inl rfl, (fun h => by cases h), rfl, rfl⟩
theorem p_R_renderPartial_64 : jl_pi m_R_renderPartial 64 3 202 := ⟨10, f_R_64, Or.inl rfl, (fun h => by cases h), rfl, rfl⟩
theorem p_R_renderPartial_61 : jl_pi m_R_renderPartial 61 3 201 := ⟨9, f_R_61, Or.inl rfl, (fun h => by cases h), rfl, rfl⟩
theorem p_R_renderBlock_57 : jl_pi m_R_renderBlock 57 3 193 := ⟨1, f_R_57, Or.inl rfl, (fun h => by cases h), rfl, rfl⟩
theorem p_R_renderEach_57 : jl_pi m_R_renderEach 57 3 193 := ⟨1, f_R_57, Or.inl rfl, (fun h => by cases h), rfl, rfl⟩
theorem p_R_renderEach_64 : jl_pi m_R_renderEach 64 3 202 := ⟨10, f_R_64, Or.inl rfl, (fun h => by cases h), rfl, rfl⟩
theorem p_R_evaluate_210 : jl_pi m_R_evaluate 210 2 128 := ⟨0, f_R_210, Or.inl rfl, (fun h => by cases h), rfl, rfl⟩
theorem p_P_init_20 : jl_pr m_P_init 20 4 257 := ⟨1, f_P_20, Or.inr ⟨rfl, rfl, rfl⟩, fun _ => w_P_20, Or.inl ⟨_, rfl⟩, rfl⟩
theorem p_P_init_26 : jl_pr m_P_init 26 4 258 := ⟨2, f_P_26, Or.inr ⟨rfl, rfl, rfl⟩, fun _ => w_P_26, Or.inr ⟨_, rfl⟩, rfl⟩
theorem p_P_init_30 : jl_pi m_P_init 30 4 262 := ⟨6, f_P_30, Or.inl rfl, (fun h => by cases h), rfl, rfl⟩
theorem p_P_init_34 : jl_pr m_P_init 34 4 265 := ⟨9, f_P_34, Or.inr ⟨rfl, rfl, rfl⟩, fun _ => w_P_34, Or.inr ⟨_, rfl⟩, rfl⟩
theorem p_P_init_38 : jl_pr m_P_init 38 4 256 := ⟨0, f_P_38, Or.inr ⟨rfl, rfl, rfl⟩, fun _ => w_P_38, Or.inl ⟨_, rfl⟩, rfl⟩
theorem p_P_takeApart_72 : jl_pi m_P_takeApart 72 4 263 := ⟨7, f_P_72, Or.inl rfl, (fun h => by cases h), rfl, rfl⟩
theorem p_P_takeApart_75 : jl_pi m_P_takeApart 75 4 264 := ⟨8, f_P_75, Or.inl rfl, (fun h => by cases h), rfl, rfl⟩
theorem p_P_takeApart_30 : jl_pi m_P_takeApart 30 4 262 := ⟨6, f_P_30, Or.inl rfl, (fun h => by cases h), rfl, rfl⟩
theorem p_P_takeApart_90 : jl_pi m_P_takeApart 90 4 261 := ⟨5, f_P_90, Or.inl rfl, (fun h => by cases h), rfl, rfl⟩
theorem p_P_attachPlain_106 : jl_pr m_P_attachPlain 106 5 322 := ⟨2, f_P_106, Or.inl rfl, (fun h => by cases h), Or.inl ⟨_, rfl⟩, rfl⟩
theorem p_P_attach_116 : jl_pr m_P_attach 116 5 325 := ⟨5, f_P_116, Or.inl rfl, (fun h => by cases h), Or.inl ⟨_, rfl⟩, rfl⟩
theorem p_P_attach_123 : jl_pr m_P_attach 123 5 327 := ⟨7, f_P_123, Or.inl rfl, (fun h => by cases h), Or.inl ⟨_, rfl⟩, rfl⟩
theorem p_P_attach_126 : jl_pr m_P_attach 126 5 326 := ⟨6, f_P_126, Or.inl rfl, (fun h => by cases h), Or.inl ⟨_, rfl⟩, rfl⟩
theorem p_P_attach_113 : jl_pr m_P_attach 113 4 260 := ⟨4, f_P_113, Or.inl rfl, (fun h => by cases h), Or.inl ⟨_, rfl⟩, rfl⟩
theorem p_P_beginBlock_93 : jl_pi m_P_beginBlock 93 4 259 := ⟨3, f_P_93, Or.inl rfl, (fun h => by cases h), rfl, rfl⟩
theorem p_P_beginBlock_113 : jl_pr m_P_beginBlock 113 4 260 := ⟨4, f_P_113, Or.inl rfl, (fun h => by cases h), Or.inl ⟨_, rfl⟩, rfl⟩
theorem p_P_beginOther_119 : jl_pz m_P_beginOther 119 5 328 := ⟨8, f_P_119, Or.inl rfl, (fun h => by cases h), rfl, rfl⟩
theorem p_P_beginOther_113 : jl_pr m_P_beginOther 113 4 260 := ⟨4, f_P_113, Or.inl rfl, (fun h => by cases h), Or.inl ⟨_, rfl⟩, rfl⟩
theorem p_P_endBlock_113 : jl_pr m_P_endBlock 113 4 260 := ⟨4, f_P_113, Or.inl rfl, (fun h => by cases h), Or.inl ⟨_, rfl⟩, rfl⟩
theorem p_P_endBlock_93 : jl_pi m_P_endBlock 93 4 259 := ⟨3, f_P_93, Or.inl rfl, (fun h => by cases h), rfl, rfl⟩
theorem p_P_readRest_214 : jl_pi m_P_readRest 214 5 324 := ⟨4, f_P_214, Or.inl rfl, (fun h => by cases h), rfl, rfl⟩
theorem p_P_readRest_221 : jl_pr m_P_readRest 221 5 323 := ⟨3, f_P_221, Or.inl rfl, (fun h => by cases h), Or.inl ⟨_, rfl⟩, rfl⟩
theorem p_P_readNumber_301 : jl_pr m_P_readNumber 301 7 449 := ⟨1, f_P_301, Or.inl rfl, (fun h => by cases h), Or.inl ⟨_, rfl⟩, rfl⟩
theorem p_P_readQuoted_301 : jl_pr m_P_readQuoted 301 7 449 := ⟨1, f_P_301, Or.inl rfl, (fun h => by cases h), Or.inl ⟨_, rfl⟩, rfl⟩
theorem p_P_readQuoted_72 : jl_pi m_P_readQuoted 72 4 263 := ⟨7, f_P_72, Or.inl rfl, (fun h => by cases h), rfl, rfl⟩
theorem p_P_readPath_312 : jl_pi m_P_readPath 312 7 450 := ⟨2, f_P_312, Or.inl rfl, (fun h => by cases h), rfl, rfl⟩
theorem p_P_readPath_330 : jl_pr m_P_readPath 330 7 451 := ⟨3, f_P_330, Or.inl rfl, (fun h => by cases h), Or.inr ⟨_, rfl⟩, rfl⟩
theorem p_P_readName_72 : jl_pi m_P_readName 72 4 263 := ⟨7, f_P_72, Or.inl rfl, (fun h => by cases h), rfl, rfl⟩
theorem p_P_readDigit_72 : jl_pi m_P_readDigit 72 4 263 := ⟨7, f_P_72, Or.inl rfl, (fun h => by cases h), rfl, rfl⟩
theorem p_P_accept_72 : jl_pi m_P_accept 72 4 263 := ⟨7, f_P_72, Or.inl rfl, (fun h => by cases h), rfl, rfl⟩
theorem p_T_init_9 : jl_pr m_T_init 9 1 64 := ⟨0, f_T_9, Or.inr ⟨rfl, rfl, rfl⟩, fun _ => w_T_9, Or.inr ⟨_, rfl⟩, rfl⟩
theorem p_T_clear_15 : jl_pi m_T_clear 15 1 65 := ⟨1, f_T_15, Or.inl rfl, (fun h => by cases h), rfl, rfl⟩
theorem p_T_append_15 : jl_pi m_T_append 15 1 65 := ⟨1, f_T_15, Or.inl rfl, (fun h => by cases h), rfl, rfl⟩
theorem p_V_ofNumber_12 : jl_pi m_V_ofNumber 12 2 128 := ⟨0, f_V_12, Or.inl rfl, (fun h => by cases h), rfl, rfl⟩
theorem p_V_ofNumber_16 : jl_pi m_V_ofNumber 16 2 129 := ⟨1, f_V_16, Or.inl rfl, (fun h => by cases h), rfl, rfl⟩
theorem p_V_ofText_12 : jl_pi m_V_ofText 12 2 128 := ⟨0, f_V_12, Or.inl rfl, (fun h => by cases h), rfl, rfl⟩
theorem p_V_ofText_19 : jl_pr m_V_ofText 19 2 130 := ⟨2, f_V_19, Or.inl rfl, (fun h => by cases h), Or.inl ⟨_, rfl⟩, rfl⟩
theorem p_V_ofEntries_12 : jl_pi m_V_ofEntries 12 2 128 := ⟨0, f_V_12, Or.inl rfl, (fun h => by cases h), rfl, rfl⟩
theorem p_V_ofEntries_23 : jl_pr m_V_ofEntries 23 2 131 := ⟨3, f_V_23, Or.inl rfl, (fun h => by cases h), Or.inr ⟨_, rfl⟩, rfl⟩
theorem p_V_ofEntries_27 : jl_pr m_V_ofEntries 27 2 132 := ⟨4, f_V_27, Or.inl rfl, (fun h => by cases h), Or.inr ⟨_, rfl⟩, rfl⟩
theorem p_V_becomeNumber_12 : jl_pi m_V_becomeNumber 12 2 128 := ⟨0, f_V_12, Or.inl rfl, (fun h => by cases h), rfl, rfl⟩
theorem p_V_becomeNumber_16 : jl_pi m_V_becomeNumber 16 2 129 := ⟨1, f_V_16, Or.inl rfl, (fun h => by cases h), rfl, rfl⟩
theorem p_V_setEntry_31 : jl_pi m_V_setEntry 31 2 133 := ⟨5, f_V_31, Or.inl rfl, (fun h => by cases h), rfl, rfl⟩
theorem jt_at {own E : String} {ic : Nat} {names : List String} (h : (vx_atS own ic E names).all (fun w => decide (w ∈ tables_1) && (goodWord w || decide (w ∈ jw_nest))) = true) : ∀ w ∈ vx_atS own ic E names, w ∈ jw_big ∨ w ∈ jw_nest := by
  intro w hw
  have h1 := List.all_eq_true.mp h w hw
  rw [Bool.and_eq_true, Bool.or_eq_true] at h1
  rcases h1.2 with q | q
  · exact Or.inl (List.mem_filter.mpr ⟨List.mem_append_right _ (of_decide_eq_true h1.1), q⟩)
  · exact Or.inr (of_decide_eq_true q)
theorem jt_mv {own own0 E : String} {ic ic0 : Nat} {names : List String} {w : Cond} (hw : w ∈ vx_atS own ic E names) (e : w ≠ Cond.methodLink own ic (Jvm.Bundle.initS E)) : w ∈ vx_atS own0 ic0 E names := by
  simp only [vx_atS, List.mem_filter] at hw ⊢
  refine ⟨?_, hw.2⟩
  have h1 := hw.1
  simp only [Jvm.Bundle.ownAtoms, List.mem_append, List.mem_cons] at h1 ⊢
  rcases h1 with h1 | h1
  · exact Or.inl h1
  · rcases h1 with h1 | h1
    · exact absurd h1 e
    · exact Or.inr (Or.inr h1)
theorem jx_IllegalArgumentException {own : String} {ic : Nat} (h : Cond.methodLink own ic (Jvm.Bundle.initS "java/lang/IllegalArgumentException") ∈ jw_big) : ∀ w ∈ vx_atS own ic "java/lang/IllegalArgumentException" ["java/lang/RuntimeException", "java/lang/Exception"], w ∈ jw_big ∨ w ∈ jw_nest := by
  intro w hw
  by_cases e : w = Cond.methodLink own ic (Jvm.Bundle.initS "java/lang/IllegalArgumentException")
  · rw [e]; exact Or.inl h
  · exact jt_at (own := "TemplateEngine") (ic := 48) (by decide +kernel) w (jt_mv hw e)
theorem jy_IllegalArgumentException {own : String} {ik ic : Nat} : ∀ w ∈ Cond.classLink own ik "java/lang/IllegalArgumentException" :: Cond.initialized "java/lang/IllegalArgumentException" :: vx_atS own ic "java/lang/IllegalArgumentException" ["java/lang/RuntimeException", "java/lang/Exception"], vx_ot w = true := by
  intro w hw
  rcases List.mem_cons.mp hw with rfl | hw
  · rfl
  rcases List.mem_cons.mp hw with rfl | hw
  · rfl
  by_cases e : w = Cond.methodLink own ic (Jvm.Bundle.initS "java/lang/IllegalArgumentException")
  · rw [e]; rfl
  · have h2 : (vx_atS "TemplateEngine" 48 "java/lang/IllegalArgumentException" ["java/lang/RuntimeException", "java/lang/Exception"]).all vx_ot = true := by decide +kernel
    exact List.all_eq_true.mp h2 w (jt_mv hw e)
theorem jx_IllegalStateException {own : String} {ic : Nat} (h : Cond.methodLink own ic (Jvm.Bundle.initS "java/lang/IllegalStateException") ∈ jw_big) : ∀ w ∈ vx_atS own ic "java/lang/IllegalStateException" ["java/lang/RuntimeException", "java/lang/Exception"], w ∈ jw_big ∨ w ∈ jw_nest := by
  intro w hw
  by_cases e : w = Cond.methodLink own ic (Jvm.Bundle.initS "java/lang/IllegalStateException")
  · rw [e]; exact Or.inl h
  · exact jt_at (own := "TemplateEngine") (ic := 58) (by decide +kernel) w (jt_mv hw e)
theorem jy_IllegalStateException {own : String} {ik ic : Nat} : ∀ w ∈ Cond.classLink own ik "java/lang/IllegalStateException" :: Cond.initialized "java/lang/IllegalStateException" :: vx_atS own ic "java/lang/IllegalStateException" ["java/lang/RuntimeException", "java/lang/Exception"], vx_ot w = true := by
  intro w hw
  rcases List.mem_cons.mp hw with rfl | hw
  · rfl
  rcases List.mem_cons.mp hw with rfl | hw
  · rfl
  by_cases e : w = Cond.methodLink own ic (Jvm.Bundle.initS "java/lang/IllegalStateException")
  · rw [e]; rfl
  · have h2 : (vx_atS "TemplateEngine" 58 "java/lang/IllegalStateException" ["java/lang/RuntimeException", "java/lang/Exception"]).all vx_ot = true := by decide +kernel
    exact List.all_eq_true.mp h2 w (jt_mv hw e)
theorem jx_IndexOutOfBoundsException {own : String} {ic : Nat} (h : Cond.methodLink own ic (Jvm.Bundle.initS "java/lang/IndexOutOfBoundsException") ∈ jw_big) : ∀ w ∈ vx_atS own ic "java/lang/IndexOutOfBoundsException" ["java/lang/RuntimeException", "java/lang/Exception"], w ∈ jw_big ∨ w ∈ jw_nest := by
  intro w hw
  by_cases e : w = Cond.methodLink own ic (Jvm.Bundle.initS "java/lang/IndexOutOfBoundsException")
  · rw [e]; exact Or.inl h
  · exact jt_at (own := "TemplateEngine") (ic := 133) (by decide +kernel) w (jt_mv hw e)
theorem jy_IndexOutOfBoundsException {own : String} {ik ic : Nat} : ∀ w ∈ Cond.classLink own ik "java/lang/IndexOutOfBoundsException" :: Cond.initialized "java/lang/IndexOutOfBoundsException" :: vx_atS own ic "java/lang/IndexOutOfBoundsException" ["java/lang/RuntimeException", "java/lang/Exception"], vx_ot w = true := by
  intro w hw
  rcases List.mem_cons.mp hw with rfl | hw
  · rfl
  rcases List.mem_cons.mp hw with rfl | hw
  · rfl
  by_cases e : w = Cond.methodLink own ic (Jvm.Bundle.initS "java/lang/IndexOutOfBoundsException")
  · rw [e]; rfl
  · have h2 : (vx_atS "TemplateEngine" 133 "java/lang/IndexOutOfBoundsException" ["java/lang/RuntimeException", "java/lang/Exception"]).all vx_ot = true := by decide +kernel
    exact List.all_eq_true.mp h2 w (jt_mv hw e)
theorem jx_ArithmeticException {own : String} {ic : Nat} (h : Cond.methodLink own ic (Jvm.Bundle.initS "java/lang/ArithmeticException") ∈ jw_big) : ∀ w ∈ vx_atS own ic "java/lang/ArithmeticException" ["java/lang/RuntimeException", "java/lang/Exception"], w ∈ jw_big ∨ w ∈ jw_nest := by
  intro w hw
  by_cases e : w = Cond.methodLink own ic (Jvm.Bundle.initS "java/lang/ArithmeticException")
  · rw [e]; exact Or.inl h
  · exact jt_at (own := "TemplateEngine$Renderer") (ic := 154) (by decide +kernel) w (jt_mv hw e)
theorem jy_ArithmeticException {own : String} {ik ic : Nat} : ∀ w ∈ Cond.classLink own ik "java/lang/ArithmeticException" :: Cond.initialized "java/lang/ArithmeticException" :: vx_atS own ic "java/lang/ArithmeticException" ["java/lang/RuntimeException", "java/lang/Exception"], vx_ot w = true := by
  intro w hw
  rcases List.mem_cons.mp hw with rfl | hw
  · rfl
  rcases List.mem_cons.mp hw with rfl | hw
  · rfl
  by_cases e : w = Cond.methodLink own ic (Jvm.Bundle.initS "java/lang/ArithmeticException")
  · rw [e]; rfl
  · have h2 : (vx_atS "TemplateEngine$Renderer" 154 "java/lang/ArithmeticException" ["java/lang/RuntimeException", "java/lang/Exception"]).all vx_ot = true := by decide +kernel
    exact List.all_eq_true.mp h2 w (jt_mv hw e)
theorem jt_atX {own E : String} {ic ix : Nat} {rx : ByteArray} {names : List String} (h : (vx_atX own ic E ix rx names).all (fun w => decide (w ∈ tables_1) && (goodWord w || decide (w ∈ jw_nest))) = true) : ∀ w ∈ vx_atX own ic E ix rx names, w ∈ jw_big ∨ w ∈ jw_nest := by
  intro w hw
  have h1 := List.all_eq_true.mp h w hw
  rw [Bool.and_eq_true, Bool.or_eq_true] at h1
  rcases h1.2 with q | q
  · exact Or.inl (List.mem_filter.mpr ⟨List.mem_append_right _ (of_decide_eq_true h1.1), q⟩)
  · exact Or.inr (of_decide_eq_true q)
theorem jt_mvX {own own0 E : String} {ic ic0 ix : Nat} {rx : ByteArray} {names : List String} {w : Cond} (hw : w ∈ vx_atX own ic E ix rx names) (e : w ≠ Cond.methodLink own ic (Jvm.Bundle.initS E)) : w ∈ vx_atX own0 ic0 E ix rx names := by
  simp only [vx_atX, List.mem_filter] at hw ⊢
  refine ⟨?_, hw.2⟩
  have h1 := hw.1
  simp only [Jvm.Bundle.ownAtomsX, List.mem_append, List.mem_cons] at h1 ⊢
  rcases h1 with h1 | h1
  · exact Or.inl h1
  · rcases h1 with h1 | h1
    · exact absurd h1 e
    · exact Or.inr (Or.inr h1)
theorem jx_NoSuchElementException {own : String} {ic : Nat} (h : Cond.methodLink own ic (Jvm.Bundle.initS "java/util/NoSuchElementException") ∈ jw_big) : ∀ w ∈ vx_atX own ic "java/util/NoSuchElementException" 13 prog_30_method_4_code ["java/lang/RuntimeException", "java/lang/Exception"], w ∈ jw_big ∨ w ∈ jw_nest := by
  intro w hw
  by_cases e : w = Cond.methodLink own ic (Jvm.Bundle.initS "java/util/NoSuchElementException")
  · rw [e]; exact Or.inl h
  · exact jt_atX (own := "TemplateEngine") (ic := 98) (by decide +kernel) w (jt_mvX hw e)
theorem jy_NoSuchElementException {own : String} {ik ic : Nat} : ∀ w ∈ Cond.classLink own ik "java/util/NoSuchElementException" :: Cond.initialized "java/util/NoSuchElementException" :: vx_atX own ic "java/util/NoSuchElementException" 13 prog_30_method_4_code ["java/lang/RuntimeException", "java/lang/Exception"], vx_ot w = true := by
  intro w hw
  rcases List.mem_cons.mp hw with rfl | hw
  · rfl
  rcases List.mem_cons.mp hw with rfl | hw
  · rfl
  by_cases e : w = Cond.methodLink own ic (Jvm.Bundle.initS "java/util/NoSuchElementException")
  · rw [e]; rfl
  · have h2 : (vx_atX "TemplateEngine" 98 "java/util/NoSuchElementException" 13 prog_30_method_4_code ["java/lang/RuntimeException", "java/lang/Exception"]).all vx_ot = true := by decide +kernel
    exact List.all_eq_true.mp h2 w (jt_mvX hw e)
theorem ts_E_type_20 : jw_ts m_E_type 20 "java/lang/IllegalArgumentException" := Or.inl ⟨["java/lang/RuntimeException", "java/lang/Exception"], 44, 46, 48, 0, "no character 0 .. 127", by decide +kernel, by decide +kernel, n_E_44, jt_i1 9 rfl rfl, jx_IllegalArgumentException (jt_i2 4 rfl rfl), jy_IllegalArgumentException, rfl, k_E_type _ _ rfl, k_E_type _ _ rfl, k_E_type _ _ rfl, k_E_type _ _ rfl, k_E_type _ _ rfl, by decide⟩
theorem ts_E_type_43 : jw_ts m_E_type 43 "java/lang/IllegalStateException" := Or.inl ⟨["java/lang/RuntimeException", "java/lang/Exception"], 54, 56, 58, 1, "THE LINE is full", by decide +kernel, by decide +kernel, n_E_54, jt_i1 10 rfl rfl, jx_IllegalStateException (jt_i2 40 rfl rfl), jy_IllegalStateException, rfl, k_E_type _ _ rfl, k_E_type _ _ rfl, k_E_type _ _ rfl, k_E_type _ _ rfl, k_E_type _ _ rfl, by decide⟩
theorem ts_E_number_19 : jw_ts m_E_number 19 "java/lang/IllegalStateException" := Or.inl ⟨["java/lang/RuntimeException", "java/lang/Exception"], 54, 66, 58, 3, "60 DATA were made", by decide +kernel, by decide +kernel, n_E_54, jt_i1 10 rfl rfl, jx_IllegalStateException (jt_i2 40 rfl rfl), jy_IllegalStateException, rfl, k_E_number _ _ rfl, k_E_number _ _ rfl, k_E_number _ _ rfl, k_E_number _ _ rfl, k_E_number _ _ rfl, by decide⟩
theorem ts_E_text_19 : jw_ts m_E_text 19 "java/lang/IllegalStateException" := Or.inl ⟨["java/lang/RuntimeException", "java/lang/Exception"], 54, 66, 58, 3, "60 DATA were made", by decide +kernel, by decide +kernel, n_E_54, jt_i1 10 rfl rfl, jx_IllegalStateException (jt_i2 40 rfl rfl), jy_IllegalStateException, rfl, k_E_text _ _ rfl, k_E_text _ _ rfl, k_E_text _ _ rfl, k_E_text _ _ rfl, k_E_text _ _ rfl, by decide⟩
theorem ts_E_list_19 : jw_ts m_E_list 19 "java/lang/IllegalStateException" := Or.inl ⟨["java/lang/RuntimeException", "java/lang/Exception"], 54, 66, 58, 3, "60 DATA were made", by decide +kernel, by decide +kernel, n_E_54, jt_i1 10 rfl rfl, jx_IllegalStateException (jt_i2 40 rfl rfl), jy_IllegalStateException, rfl, k_E_list _ _ rfl, k_E_list _ _ rfl, k_E_list _ _ rfl, k_E_list _ _ rfl, k_E_list _ _ rfl, by decide⟩
theorem ts_E_map_19 : jw_ts m_E_map 19 "java/lang/IllegalStateException" := Or.inl ⟨["java/lang/RuntimeException", "java/lang/Exception"], 54, 66, 58, 3, "60 DATA were made", by decide +kernel, by decide +kernel, n_E_54, jt_i1 10 rfl rfl, jx_IllegalStateException (jt_i2 40 rfl rfl), jy_IllegalStateException, rfl, k_E_map _ _ rfl, k_E_map _ _ rfl, k_E_map _ _ rfl, k_E_map _ _ rfl, k_E_map _ _ rfl, by decide⟩
theorem ts_E_add_26 : jw_ts m_E_add 26 "java/util/NoSuchElementException" := Or.inr ⟨["java/lang/RuntimeException", "java/lang/Exception"], 94, 96, 98, 4, "no such DATA", 13, prog_30_method_4_code, by decide +kernel, by decide +kernel, n_E_94, jt_i1 12 rfl rfl, jx_NoSuchElementException (jt_i2 128 rfl rfl), jy_NoSuchElementException, rfl, k_E_add _ _ rfl, k_E_add _ _ rfl, k_E_add _ _ rfl, k_E_add _ _ rfl, k_E_add _ _ rfl, by decide, rfl, rfl, rfl, rfl⟩
theorem ts_E_add_65 : jw_ts m_E_add 65 "java/lang/IllegalArgumentException" := Or.inl ⟨["java/lang/RuntimeException", "java/lang/Exception"], 44, 106, 48, 5, "no LIST, or it would contain itself", by decide +kernel, by decide +kernel, n_E_44, jt_i1 9 rfl rfl, jx_IllegalArgumentException (jt_i2 4 rfl rfl), jy_IllegalArgumentException, rfl, k_E_add _ _ rfl, k_E_add _ _ rfl, k_E_add _ _ rfl, k_E_add _ _ rfl, k_E_add _ _ rfl, by decide⟩
theorem ts_E_add_84 : jw_ts m_E_add 84 "java/lang/IllegalStateException" := Or.inl ⟨["java/lang/RuntimeException", "java/lang/Exception"], 54, 111, 58, 6, "the LIST has 10", by decide +kernel, by decide +kernel, n_E_54, jt_i1 10 rfl rfl, jx_IllegalStateException (jt_i2 40 rfl rfl), jy_IllegalStateException, rfl, k_E_add _ _ rfl, k_E_add _ _ rfl, k_E_add _ _ rfl, k_E_add _ _ rfl, k_E_add _ _ rfl, by decide⟩
theorem ts_E_put_26 : jw_ts m_E_put 26 "java/util/NoSuchElementException" := Or.inr ⟨["java/lang/RuntimeException", "java/lang/Exception"], 94, 96, 98, 4, "no such DATA", 13, prog_30_method_4_code, by decide +kernel, by decide +kernel, n_E_94, jt_i1 12 rfl rfl, jx_NoSuchElementException (jt_i2 128 rfl rfl), jy_NoSuchElementException, rfl, k_E_put _ _ rfl, k_E_put _ _ rfl, k_E_put _ _ rfl, k_E_put _ _ rfl, k_E_put _ _ rfl, by decide, rfl, rfl, rfl, rfl⟩
theorem ts_E_put_89 : jw_ts m_E_put 89 "java/lang/IllegalArgumentException" := Or.inl ⟨["java/lang/RuntimeException", "java/lang/Exception"], 44, 121, 48, 7, "no MAP, it would contain itself, or THE LINE is no NAME", by decide +kernel, by decide +kernel, n_E_44, jt_i1 9 rfl rfl, jx_IllegalArgumentException (jt_i2 4 rfl rfl), jy_IllegalArgumentException, rfl, k_E_put _ _ rfl, k_E_put _ _ rfl, k_E_put _ _ rfl, k_E_put _ _ rfl, k_E_put _ _ rfl, by decide⟩
theorem ts_E_put_114 : jw_ts m_E_put 114 "java/lang/IllegalStateException" := Or.inl ⟨["java/lang/RuntimeException", "java/lang/Exception"], 54, 127, 58, 8, "the MAP has 10 others", by decide +kernel, by decide +kernel, n_E_54, jt_i1 10 rfl rfl, jx_IllegalStateException (jt_i2 40 rfl rfl), jy_IllegalStateException, rfl, k_E_put _ _ rfl, k_E_put _ _ rfl, k_E_put _ _ rfl, k_E_put _ _ rfl, k_E_put _ _ rfl, by decide⟩
theorem ts_E_compile_19 : jw_ts m_E_compile 19 "java/lang/IndexOutOfBoundsException" := Or.inl ⟨["java/lang/RuntimeException", "java/lang/Exception"], 129, 131, 133, 9, "no TEMPLATE 0 .. 3", by decide +kernel, by decide +kernel, n_E_129, jt_i1 13 rfl rfl, jx_IndexOutOfBoundsException (jt_i2 185 rfl rfl), jy_IndexOutOfBoundsException, rfl, k_E_compile _ _ rfl, k_E_compile _ _ rfl, k_E_compile _ _ rfl, k_E_compile _ _ rfl, k_E_compile _ _ rfl, by decide⟩
theorem ts_E_compile_79 : jw_ts m_E_compile 79 "java/lang/IllegalArgumentException" := Or.inl ⟨["java/lang/RuntimeException", "java/lang/Exception"], 44, 143, 48, 30, "the template has a FAULT", by decide +kernel, by decide +kernel, n_E_44, jt_i1 9 rfl rfl, jx_IllegalArgumentException (jt_i2 4 rfl rfl), jy_IllegalArgumentException, rfl, k_E_compile _ _ rfl, k_E_compile _ _ rfl, k_E_compile _ _ rfl, k_E_compile _ _ rfl, k_E_compile _ _ rfl, by decide⟩
theorem ts_E_render_19 : jw_ts m_E_render 19 "java/lang/IndexOutOfBoundsException" := Or.inl ⟨["java/lang/RuntimeException", "java/lang/Exception"], 129, 131, 133, 9, "no TEMPLATE 0 .. 3", by decide +kernel, by decide +kernel, n_E_129, jt_i1 13 rfl rfl, jx_IndexOutOfBoundsException (jt_i2 185 rfl rfl), jy_IndexOutOfBoundsException, rfl, k_E_render _ _ rfl, k_E_render _ _ rfl, k_E_render _ _ rfl, k_E_render _ _ rfl, k_E_render _ _ rfl, by decide⟩
theorem ts_E_render_46 : jw_ts m_E_render 46 "java/util/NoSuchElementException" := Or.inr ⟨["java/lang/RuntimeException", "java/lang/Exception"], 94, 152, 98, 31, "no such TEMPLATE or DATA", 13, prog_30_method_4_code, by decide +kernel, by decide +kernel, n_E_94, jt_i1 12 rfl rfl, jx_NoSuchElementException (jt_i2 128 rfl rfl), jy_NoSuchElementException, rfl, k_E_render _ _ rfl, k_E_render _ _ rfl, k_E_render _ _ rfl, k_E_render _ _ rfl, k_E_render _ _ rfl, by decide, rfl, rfl, rfl, rfl⟩
theorem ts_E_at_28 : jw_ts m_E_at 28 "java/lang/IndexOutOfBoundsException" := Or.inl ⟨["java/lang/RuntimeException", "java/lang/Exception"], 129, 161, 133, 40, "no such character", by decide +kernel, by decide +kernel, n_E_129, jt_i1 13 rfl rfl, jx_IndexOutOfBoundsException (jt_i2 185 rfl rfl), jy_IndexOutOfBoundsException, rfl, k_E_at _ _ rfl, k_E_at _ _ rfl, k_E_at _ _ rfl, k_E_at _ _ rfl, k_E_at _ _ rfl, by decide⟩
theorem ts_E_kind_18 : jw_ts m_E_kind 18 "java/util/NoSuchElementException" := Or.inr ⟨["java/lang/RuntimeException", "java/lang/Exception"], 94, 96, 98, 4, "no such DATA", 13, prog_30_method_4_code, by decide +kernel, by decide +kernel, n_E_94, jt_i1 12 rfl rfl, jx_NoSuchElementException (jt_i2 128 rfl rfl), jy_NoSuchElementException, rfl, k_E_kind _ _ rfl, k_E_kind _ _ rfl, k_E_kind _ _ rfl, k_E_kind _ _ rfl, k_E_kind _ _ rfl, by decide, rfl, rfl, rfl, rfl⟩
theorem ts_E_size_18 : jw_ts m_E_size 18 "java/util/NoSuchElementException" := Or.inr ⟨["java/lang/RuntimeException", "java/lang/Exception"], 94, 96, 98, 4, "no such DATA", 13, prog_30_method_4_code, by decide +kernel, by decide +kernel, n_E_94, jt_i1 12 rfl rfl, jx_NoSuchElementException (jt_i2 128 rfl rfl), jy_NoSuchElementException, rfl, k_E_size _ _ rfl, k_E_size _ _ rfl, k_E_size _ _ rfl, k_E_size _ _ rfl, k_E_size _ _ rfl, by decide, rfl, rfl, rfl, rfl⟩
theorem ts_R_meetTag_10 : jw_ts m_R_meetTag 10 "java/lang/IllegalStateException" := Or.inl ⟨["java/lang/RuntimeException", "java/lang/Exception"], 138, 140, 142, 32, "a 601st TAG would be come to", by decide +kernel, by decide +kernel, n_R_138, jt_i1 10 rfl rfl, jx_IllegalStateException (jt_i4 91 rfl rfl), jy_IllegalStateException, rfl, k_R_meetTag _ _ rfl, k_R_meetTag _ _ rfl, k_R_meetTag _ _ rfl, k_R_meetTag _ _ rfl, k_R_meetTag _ _ rfl, by decide⟩
theorem ts_R_renderPartial_11 : jw_ts m_R_renderPartial 11 "java/util/NoSuchElementException" := Or.inr ⟨["java/lang/RuntimeException", "java/lang/Exception"], 145, 147, 149, 38, "no such partial", 13, prog_30_method_4_code, by decide +kernel, by decide +kernel, n_R_145, jt_i1 12 rfl rfl, jx_NoSuchElementException (jt_i4 184 rfl rfl), jy_NoSuchElementException, rfl, k_R_renderPartial _ _ rfl, k_R_renderPartial _ _ rfl, k_R_renderPartial _ _ rfl, k_R_renderPartial _ _ rfl, k_R_renderPartial _ _ rfl, by decide, rfl, rfl, rfl, rfl⟩
theorem ts_R_renderPartial_29 : jw_ts m_R_renderPartial 29 "java/lang/ArithmeticException" := Or.inl ⟨["java/lang/RuntimeException", "java/lang/Exception"], 150, 152, 154, 39, "a 4th TEMPLATE would be under way", by decide +kernel, by decide +kernel, n_R_150, jt_i1 29 rfl rfl, jx_ArithmeticException (jt_i4 195 rfl rfl), jy_ArithmeticException, rfl, k_R_renderPartial _ _ rfl, k_R_renderPartial _ _ rfl, k_R_renderPartial _ _ rfl, k_R_renderPartial _ _ rfl, k_R_renderPartial _ _ rfl, by decide⟩
theorem ts_T_append_12 : jw_ts m_T_append 12 "java/lang/IllegalStateException" := Or.inl ⟨["java/lang/RuntimeException", "java/lang/Exception"], 19, 21, 23, 2, "the text would be too long", by decide +kernel, by decide +kernel, n_T_19, jt_i1 10 rfl rfl, jx_IllegalStateException (jt_i2 52 rfl rfl), jy_IllegalStateException, rfl, k_T_append _ _ rfl, k_T_append _ _ rfl, k_T_append _ _ rfl, k_T_append _ _ rfl, k_T_append _ _ rfl, by decide⟩
theorem q_T_67 : Cond.constantLong "TemplateEngine$Text" 67 (27) ∈ jw_big := jt_i2 160 rfl rfl
theorem q_R_257 : Cond.constantLong "TemplateEngine$Renderer" 257 (-1) ∈ jw_big := jt_i4 113 rfl rfl
theorem q_M_180 : Cond.constantLong "TemplateEngineModel" 180 (32) ∈ jw_big := jt_i5 208 rfl rfl
theorem q_M_182 : Cond.constantLong "TemplateEngineModel" 182 (96) ∈ jw_big := jt_i5 209 rfl rfl
theorem q_M_256 : Cond.constantLong "TemplateEngineModel" 256 (31611) ∈ jw_big := jt_i5 226 rfl rfl
theorem q_M_192 : Cond.constantLong "TemplateEngineModel" 192 (255) ∈ jw_big := jt_i5 231 rfl rfl
theorem q_M_258 : Cond.constantLong "TemplateEngineModel" 258 (8092539) ∈ jw_big := jt_i5 236 rfl rfl
theorem q_M_260 : Cond.constantLong "TemplateEngineModel" 260 (8224125) ∈ jw_big := jt_i5 237 rfl rfl
theorem q_M_262 : Cond.constantLong "TemplateEngineModel" 262 (32125) ∈ jw_big := jt_i5 238 rfl rfl
theorem q_M_218 : Cond.constantLong "TemplateEngineModel" 218 (7696416) ∈ jw_big := jt_i6 11 rfl rfl
theorem q_M_220 : Cond.constantLong "TemplateEngineModel" 220 (1818586656) ∈ jw_big := jt_i6 12 rfl rfl
theorem q_M_222 : Cond.constantLong "TemplateEngineModel" 222 (1852797984) ∈ jw_big := jt_i6 13 rfl rfl
theorem q_M_224 : Cond.constantLong "TemplateEngineModel" 224 (1633969184) ∈ jw_big := jt_i6 14 rfl rfl
theorem q_M_226 : Cond.constantLong "TemplateEngineModel" 226 (6648096) ∈ jw_big := jt_i6 15 rfl rfl
theorem q_M_228 : Cond.constantLong "TemplateEngineModel" 228 (6386720) ∈ jw_big := jt_i6 16 rfl rfl
theorem q_M_197 : Cond.constantLong "TemplateEngineModel" 197 (70821567817080) ∈ jw_big := jt_i6 29 rfl rfl
theorem q_M_203 : Cond.constantLong "TemplateEngineModel" 203 (70808599950196) ∈ jw_big := jt_i6 30 rfl rfl
theorem q_M_205 : Cond.constantLong "TemplateEngineModel" 205 (3026479) ∈ jw_big := jt_i6 31 rfl rfl
theorem q_M_210 : Cond.constantLong "TemplateEngineModel" 210 (1952999795) ∈ jw_big := jt_i6 36 rfl rfl
theorem q_M_242 : Cond.constantLong "TemplateEngineModel" 242 (594109984) ∈ jw_big := jt_i6 41 rfl rfl
theorem q_M_244 : Cond.constantLong "TemplateEngineModel" 244 (2550551843551838208) ∈ jw_big := jt_i6 42 rfl rfl
theorem q_M_246 : Cond.constantLong "TemplateEngineModel" 246 (2555627262240096256) ∈ jw_big := jt_i6 43 rfl rfl
theorem q_M_248 : Cond.constantLong "TemplateEngineModel" 248 (1701606245) ∈ jw_big := jt_i6 44 rfl rfl
theorem q_M_250 : Cond.constantLong "TemplateEngineModel" 250 (3107174) ∈ jw_big := jt_i6 45 rfl rfl
theorem q_M_252 : Cond.constantLong "TemplateEngineModel" 252 (203564344168) ∈ jw_big := jt_i6 46 rfl rfl
theorem q_M_254 : Cond.constantLong "TemplateEngineModel" 254 (203866862696) ∈ jw_big := jt_i6 47 rfl rfl
theorem q_M_289 : Cond.constantLong "TemplateEngineModel" 289 (9) ∈ jw_big := jt_i6 156 rfl rfl
theorem q_M_291 : Cond.constantLong "TemplateEngineModel" 291 (10) ∈ jw_big := jt_i6 157 rfl rfl
theorem q_M_293 : Cond.constantLong "TemplateEngineModel" 293 (48) ∈ jw_big := jt_i6 158 rfl rfl
theorem q_M_352 : Cond.constantLong "TemplateEngineModel" 352 (164843319355) ∈ jw_big := jt_i6 195 rfl rfl
theorem q_M_354 : Cond.constantLong "TemplateEngineModel" 354 (644641851) ∈ jw_big := jt_i6 196 rfl rfl
theorem q_M_356 : Cond.constantLong "TemplateEngineModel" 356 (644314171) ∈ jw_big := jt_i6 197 rfl rfl
theorem q_M_358 : Cond.constantLong "TemplateEngineModel" 358 (42268743398459) ∈ jw_big := jt_i6 198 rfl rfl
