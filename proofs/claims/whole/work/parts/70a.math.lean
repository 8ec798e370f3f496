/-! Math.max, min, abs as rules; links -/
theorem mx_T_56 : Cond.methodLink "TemplateEngine$Text" 56 ({ cls := "java/lang/Math", name := "max", desc := "(II)I" } : Jvm.MethodName) ∈ jw_big := jt_i2 78 rfl rfl
theorem mx_V_34 : Cond.methodLink "TemplateEngine$Value" 34 ({ cls := "java/lang/Math", name := "max", desc := "(II)I" } : Jvm.MethodName) ∈ jw_big := jt_i2 148 rfl rfl
theorem mx_P_138 : Cond.methodLink "TemplateEngine$TemplateReader" 138 ({ cls := "TemplateEngine$Sort", name := "ordinal", desc := "()I" } : Jvm.MethodName) ∈ jw_big := jt_i3 162 rfl rfl
theorem mx_jA_304 : Cond.methodLink "java/util/Arrays" 304 ({ cls := "java/lang/Math", name := "min", desc := "(II)I" } : Jvm.MethodName) ∈ jw_big := jt_i4 18 rfl rfl
theorem mx_jA_150 : Cond.methodLink "java/util/Arrays" 150 ({ cls := "java/lang/System", name := "arraycopy", desc := "(Ljava/lang/Object;ILjava/lang/Object;II)V" } : Jvm.MethodName) ∈ jw_big := jt_i4 21 rfl rfl
theorem mx_R_93 : Cond.methodLink "TemplateEngine$Renderer" 93 ({ cls := "TemplateEngine$Sort", name := "ordinal", desc := "()I" } : Jvm.MethodName) ∈ jw_big := jt_i4 80 rfl rfl
theorem mx_R_240 : Cond.methodLink "TemplateEngine$Renderer" 240 ({ cls := "TemplateEngine$OperandSort", name := "ordinal", desc := "()I" } : Jvm.MethodName) ∈ jw_big := jt_i4 102 rfl rfl
theorem mx_R_201 : Cond.methodLink "TemplateEngine$Renderer" 201 ({ cls := "TemplateEngine$Helper", name := "ordinal", desc := "()I" } : Jvm.MethodName) ∈ jw_big := jt_i4 124 rfl rfl
theorem mx_T_50 : Cond.methodLink "TemplateEngine$Text" 50 ({ cls := "java/lang/Math", name := "abs", desc := "(I)I" } : Jvm.MethodName) ∈ jw_big := jt_i4 134 rfl rfl
theorem ms_max : Cond.static Lib.Math.max.name ∈ jw_big := jt_i2 79 rfl rfl
theorem md_max : Cond.code Lib.Math.max.name Lib.Math.max.code 2 (some .int) ∈ jw_big := by
  have h : (Cond.code ({ cls := "java/lang/Math", name := "max", desc := "(II)I" } : Jvm.MethodName) prog_22_method_65_code (2 : Nat) (Option.some Jvm.ClassFile.FieldType.int)) ∈ jw_big := jt_i2 80 rfl rfl
  exact h
theorem ms_min : Cond.static Lib.Math.min.name ∈ jw_big := jt_i4 19 rfl rfl
theorem md_min : Cond.code Lib.Math.min.name Lib.Math.min.code 2 (some .int) ∈ jw_big := by
  have h : (Cond.code ({ cls := "java/lang/Math", name := "min", desc := "(II)I" } : Jvm.MethodName) prog_22_method_69_code (2 : Nat) (Option.some Jvm.ClassFile.FieldType.int)) ∈ jw_big := jt_i4 20 rfl rfl
  exact h
theorem ms_abs : Cond.static Lib.Math.abs.name ∈ jw_big := jt_i4 135 rfl rfl
theorem md_abs : Cond.code Lib.Math.abs.name Lib.Math.abs.code 1 (some .int) ∈ jw_big := by
  have h : (Cond.code ({ cls := "java/lang/Math", name := "abs", desc := "(I)I" } : Jvm.MethodName) prog_22_method_59_code (1 : Nat) (Option.some Jvm.ClassFile.FieldType.int)) ∈ jw_big := jt_i4 136 rfl rfl
  exact h
theorem ms_ini : Cond.initialized "java/lang/Math" ∈ jw_big := jt_i1 11 rfl rfl
section JMR
variable {g : jg_G} {d : Nat} {M : jw_M} {T : Code → Prop} {pc : Nat} {ls : List (Option jV)} {st : List jV} {h : jh_H} {kc ks : Nat} {Q : jw_O → jh_H → Prop}
theorem jw_max {idx : Nat} {x y z : Int32} (hd : M.2.2.2.2 pc = some (.invokestatic idx, 3)) (hk : Cond.methodLink M.1.cls idx Lib.Math.max.name ∈ jw_big) (hd1 : 1 ≤ d) (hst0 : (st.map jv_c).sum ≤ 8) (hz : (if x < y then y else x) = z) (k : jw_J g d M T (pc + 3) ls (.inl z :: st) h kc ks Q) : jw_J g d M T pc ls (.inl y :: .inl x :: st) h kc ks Q := by
  have hst0 : ((st.map jv).map fun v => v.category).sum ≤ 8 := by rw [jv_sum]; exact hst0
  subst hz
  intro p e s m args below meth c R Z H locs cells slots arr hA hT hE hP hS hl hc hs
  obtain ⟨hx, hb, hml, hown, hts, hr, hlk, hnm, hwd, hdf, hdl, hst, hok⟩ := id hA
  exact va_mmax hx hb (by rw [hml]; exact hl.1.symm) hown (hts _ hk) (hts _ ms_max) (hts _ ms_ini) (hts _ md_max) (by omega) (by omega) (by omega) (by omega) (hok _ _ hd) (k p e s m args below meth c R Z H locs cells slots arr hA hT hE hP hS hl hc hs)
theorem jw_min {idx : Nat} {x y z : Int32} (hd : M.2.2.2.2 pc = some (.invokestatic idx, 3)) (hk : Cond.methodLink M.1.cls idx Lib.Math.min.name ∈ jw_big) (hd1 : 1 ≤ d) (hst0 : (st.map jv_c).sum ≤ 8) (hz : (if y < x then y else x) = z) (k : jw_J g d M T (pc + 3) ls (.inl z :: st) h kc ks Q) : jw_J g d M T pc ls (.inl y :: .inl x :: st) h kc ks Q := by
  have hst0 : ((st.map jv).map fun v => v.category).sum ≤ 8 := by rw [jv_sum]; exact hst0
  subst hz
  intro p e s m args below meth c R Z H locs cells slots arr hA hT hE hP hS hl hc hs
  obtain ⟨hx, hb, hml, hown, hts, hr, hlk, hnm, hwd, hdf, hdl, hst, hok⟩ := id hA
  exact va_mmin hx hb (by rw [hml]; exact hl.1.symm) hown (hts _ hk) (hts _ ms_min) (hts _ ms_ini) (hts _ md_min) (by omega) (by omega) (by omega) (by omega) (hok _ _ hd) (k p e s m args below meth c R Z H locs cells slots arr hA hT hE hP hS hl hc hs)
theorem jw_abs {idx : Nat} {x z : Int32} (hd : M.2.2.2.2 pc = some (.invokestatic idx, 3)) (hk : Cond.methodLink M.1.cls idx Lib.Math.abs.name ∈ jw_big) (hd1 : 1 ≤ d) (hst0 : (st.map jv_c).sum ≤ 8) (hz : (if 0 ≤ x then x else 0 - x) = z) (k : jw_J g d M T (pc + 3) ls (.inl z :: st) h kc ks Q) : jw_J g d M T pc ls (.inl x :: st) h kc ks Q := by
  have hst0 : ((st.map jv).map fun v => v.category).sum ≤ 8 := by rw [jv_sum]; exact hst0
  subst hz
  intro p e s m args below meth c R Z H locs cells slots arr hA hT hE hP hS hl hc hs
  obtain ⟨hx, hb, hml, hown, hts, hr, hlk, hnm, hwd, hdf, hdl, hst, hok⟩ := id hA
  exact va_mabs hx hb (by rw [hml]; exact hl.1.symm) hown (hts _ hk) (hts _ ms_abs) (hts _ ms_ini) (hts _ md_abs) (by omega) (by omega) (by omega) (by omega) (hok _ _ hd) (k p e s m args below meth c R Z H locs cells slots arr hA hT hE hP hS hl hc hs)
end JMR
