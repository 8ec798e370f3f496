/-! CONSTANTS: the rules; Object.<init>; the JDK's methods -/
def jk_j (g : jg_G) (x : jk_X) : jV := match x with
  | .inl i => .inl i
  | .inr n => .inr (.inr (some (jg_c g n)))
theorem jk_jv (g : jg_G) (x : jk_X) : jv (jk_j g x) = jk_v g x := by cases x <;> rfl
/-- a field is linked: as it is, or across the nest -/
def jl_q (own : String) (idx : Nat) (C n d : String) : Prop := Cond.fieldLink own idx C n d ∈ jw_big ∨ ∃ ho, Cond.fieldLinkNest own idx C n d ho ∈ jw_nest
theorem ko_in : Cond.instanceMethod Lib.objectInit ∈ jw_big := jt_i1 36 rfl rfl
theorem ko_cd : Cond.code Lib.objectInit ⟨#[0xb1]⟩ 1 none ∈ jw_big := jt_i1 37 rfl rfl
section JKR
variable {g : jg_G} {d : Nat} {M : jw_M} {T : Code → Prop} {pc : Nat} {ls : List (Option jV)} {st : List jV} {h : jh_H} {kc ks : Nat} {Q : jw_O → jh_H → Prop}
theorem jw_ldcS {is : Nat} {text : String} (n : Nat) (hd : M.2.2.2.2 pc = some (.ldc is, 2)) (hq : jc_strs[n]? = some (M.1.cls, is, text)) (k : jw_J g d M T (pc + 2) ls (.inr (.inr (some (jg_c g n))) :: st) h kc ks Q) : jw_J g d M T pc ls st h kc ks Q := by
  intro p e s m args below meth c R Z H locs cells slots arr hA hT hE hP hS hl hc hs
  obtain ⟨hx, hb, hml, hown, hts, hr, hlk, hnm, hwd, hdf, hdl, hst, hok⟩ := id hA
  exact va_ldcS hx hb hown (hwd.2.2.1.1 n _ hq) (hok _ _ hd) (k p e s m args below meth c R Z H locs cells slots arr hA hT hE hP hS hl hc hs)
theorem jw_ldcW {is : Nat} {text : String} (n : Nat) (hd : M.2.2.2.2 pc = some (.ldc_w is, 3)) (hq : jc_strs[n]? = some (M.1.cls, is, text)) (k : jw_J g d M T (pc + 3) ls (.inr (.inr (some (jg_c g n))) :: st) h kc ks Q) : jw_J g d M T pc ls st h kc ks Q := by
  intro p e s m args below meth c R Z H locs cells slots arr hA hT hE hP hS hl hc hs
  obtain ⟨hx, hb, hml, hown, hts, hr, hlk, hnm, hwd, hdf, hdl, hst, hok⟩ := id hA
  have hZ := hwd.2.2.1.1 n _ hq
  intro T0 hT0 X
  obtain ⟨t, a1, b1⟩ := k p e s m args below meth c R Z H locs cells slots arr hA hT hE hP hS hl hc hs T0 hT0 X
  exact ⟨t, X.ldcStringW hx hown (text := text) (a := jg_c g n) hZ.1 hZ.2 (g := F0 m pc arr (st.map jv)) rfl (by rw [hb]; exact hok _ _ hd) t a1, b1⟩
theorem jw_gst {idx : Nat} {q : String × String × String × jk_X} (hd : M.2.2.2.2 pc = some (.getstatic idx, 3)) (hq : q ∈ jk_Z) (hk : jl_q M.1.cls idx q.1 q.2.1 q.2.2.1) (k : jw_J g d M T (pc + 3) ls (jk_j g q.2.2.2 :: st) h kc ks Q) : jw_J g d M T pc ls st h kc ks Q := by
  intro p e s m args below meth c R Z H locs cells slots arr hA hT hE hP hS hl hc hs
  obtain ⟨hx, hb, hml, hown, hts, hr, hlk, hnm, hwd, hdf, hdl, hst, hok⟩ := id hA
  have kk := k p e s m args below meth c R Z H locs cells slots arr hA hT hE hP hS hl hc hs
  rw [List.map_cons, jk_jv] at kk
  have hZ := (jc_con_K hwd.2.2).1 q hq
  rcases hk with hk | ⟨ho, hk⟩
  · exact va_gets hx hb hZ hS hown (hts _ hk) (fun _ z => z) (hok _ _ hd) kk
  · exact va_getsN hx hb hZ hS hown (jc_con_f hwd.2.2 hk _) (fun _ z => z) (hok _ _ hd) kk
/-- a static of which only 'a reference or null' is known -/
theorem jw_gsq {idx : Nat} (hd : M.2.2.2.2 pc = some (.getstatic idx, 3)) (hk : Cond.fieldLink M.1.cls idx "jdk/internal/util/Preconditions" "SIOOBE_FORMATTER" "Ljava/util/function/BiFunction;" ∈ jw_big) (k : ∀ r : Option Nat, jw_J g d M T (pc + 3) ls (.inr (.inr r) :: st) h kc ks Q) : jw_J g d M T pc ls st h kc ks Q := by
  intro p e s m args below meth c R Z H locs cells slots arr hA hT hE hP hS hl hc hs
  obtain ⟨hx, hb, hml, hown, hts, hr, hlk, hnm, hwd, hdf, hdl, hst, hok⟩ := id hA
  rcases (jc_con_K hwd.2.2).2.2.2.2.2.2 with hZ | ⟨t, hZ⟩
  · exact va_gets hx hb hZ hS hown (hts _ hk) (fun _ z => z) (hok _ _ hd) (k none p e s m args below meth c R Z H locs cells slots arr hA hT hE hP hS hl hc hs)
  · exact va_gets hx hb hZ hS hown (hts _ hk) (fun _ z => z) (hok _ _ hd) (k (some t) p e s m args below meth c R Z H locs cells slots arr hA hT hE hP hS hl hc hs)
theorem jw_gkf {idx : Nat} {q : String × String × String × jk_X × Nat} (hd : M.2.2.2.2 pc = some (.getfield idx, 3)) (hq : q ∈ jk_F) (hk : jl_q M.1.cls idx q.1 q.2.1 q.2.2.1) (k : jw_J g d M T (pc + 3) ls (jk_j g q.2.2.2.1 :: st) h kc ks Q) : jw_J g d M T pc ls (.inr (.inr (some (jg_c g q.2.2.2.2))) :: st) h kc ks Q := by
  intro p e s m args below meth c R Z H locs cells slots arr hA hT hE hP hS hl hc hs
  obtain ⟨hx, hb, hml, hown, hts, hr, hlk, hnm, hwd, hdf, hdl, hst, hok⟩ := id hA
  have kk := k p e s m args below meth c R Z H locs cells slots arr hA hT hE hP hS hl hc hs
  rw [List.map_cons, jk_jv] at kk
  have hZ := (jc_con_K hwd.2.2).2.2.1 q hq
  rcases hk with hk | ⟨ho, hk⟩
  · exact vk_getf hx hb hZ hS hown (hts _ hk) (fun _ z => z) (hok _ _ hd) kk
  · obtain ⟨cf, kf, fi, f, cell, h1, h2, h3, h4, h5, h6⟩ := hZ.kept hS.2.1
    exact va_Wgetf hx hb hown (jc_con_f hwd.2.2 hk _) h1 h2 h3 h4 h5 rfl rfl (hok _ _ hd) kk
theorem jw_klen {q : FieldType × Nat × List jk_X} (hd : M.2.2.2.2 pc = some (.arraylength, 1)) (hq : q ∈ jk_T) (k : jw_J g d M T (pc + 1) ls (.inl (nI q.2.2.length) :: st) h kc ks Q) : jw_J g d M T pc ls (.inr (.inr (some (jg_c g q.2.1))) :: st) h kc ks Q := by
  intro p e s m args below meth c R Z H locs cells slots arr hA hT hE hP hS hl hc hs
  obtain ⟨hx, hb, hml, hown, hts, hr, hlk, hnm, hwd, hdf, hdl, hst, hok⟩ := id hA
  exact va_tlen hx hb ((jc_con_K hwd.2.2).2.2.2.1 q hq) hS rfl (hok _ _ hd) (k p e s m args below meth c R Z H locs cells slots arr hA hT hE hP hS hl hc hs)
theorem jw_kiald {a : Nat} {L : List jk_X} {i : Int32} (j : Nat) (hd : M.2.2.2.2 pc = some (.iaload, 1)) (hq : (FieldType.int, a, L) ∈ jk_T) (hi : i = nI j) (hj : j < L.length) (hn : L.length < 2 ^ 31) (k : jw_J g d M T (pc + 1) ls (jk_j g (L.getD j (.inl 0)) :: st) h kc ks Q) : jw_J g d M T pc ls (.inl i :: .inr (.inr (some (jg_c g a))) :: st) h kc ks Q := by
  intro p e s m args below meth c R Z H locs cells slots arr hA hT hE hP hS hl hc hs
  obtain ⟨hx, hb, hml, hown, hts, hr, hlk, hnm, hwd, hdf, hdl, hst, hok⟩ := id hA
  have kk := k p e s m args below meth c R Z H locs cells slots arr hA hT hE hP hS hl hc hs
  rw [List.map_cons, jk_jv] at kk
  subst hi
  exact va_ti hx hb ((jc_con_K hwd.2.2).2.2.2.1 _ hq) hS (vp_in_nI hj hn) (by show jk_v g (L.getD (nI j).toNatClampNeg (.inl 0)) = _; rw [nI_clamp (by omega)]) (hok _ _ hd) kk
theorem jw_kbald {a : Nat} {L : List jk_X} {i : Int32} (j : Nat) (hd : M.2.2.2.2 pc = some (.baload, 1)) (hq : (FieldType.byte, a, L) ∈ jk_T) (hi : i = nI j) (hj : j < L.length) (hn : L.length < 2 ^ 31) (k : jw_J g d M T (pc + 1) ls (jk_j g (L.getD j (.inl 0)) :: st) h kc ks Q) : jw_J g d M T pc ls (.inl i :: .inr (.inr (some (jg_c g a))) :: st) h kc ks Q := by
  intro p e s m args below meth c R Z H locs cells slots arr hA hT hE hP hS hl hc hs
  obtain ⟨hx, hb, hml, hown, hts, hr, hlk, hnm, hwd, hdf, hdl, hst, hok⟩ := id hA
  have kk := k p e s m args below meth c R Z H locs cells slots arr hA hT hE hP hS hl hc hs
  rw [List.map_cons, jk_jv] at kk
  subst hi
  exact va_tb hx hb ((jc_con_K hwd.2.2).2.2.2.1 _ hq) hS (vp_in_nI hj hn) (by show jk_v g (L.getD (nI j).toNatClampNeg (.inl 0)) = _; rw [nI_clamp (by omega)]) (hok _ _ hd) kk
theorem jw_kaald {a : Nat} {L : List jk_X} {i : Int32} {C : String} (j : Nat) (hd : M.2.2.2.2 pc = some (.aaload, 1)) (hq : (FieldType.object C, a, L) ∈ jk_T) (hi : i = nI j) (hj : j < L.length) (hn : L.length < 2 ^ 31) (k : jw_J g d M T (pc + 1) ls (jk_j g (L.getD j (.inl 0)) :: st) h kc ks Q) : jw_J g d M T pc ls (.inl i :: .inr (.inr (some (jg_c g a))) :: st) h kc ks Q := by
  intro p e s m args below meth c R Z H locs cells slots arr hA hT hE hP hS hl hc hs
  obtain ⟨hx, hb, hml, hown, hts, hr, hlk, hnm, hwd, hdf, hdl, hst, hok⟩ := id hA
  have kk := k p e s m args below meth c R Z H locs cells slots arr hA hT hE hP hS hl hc hs
  rw [List.map_cons, jk_jv] at kk
  subst hi
  exact vb_tq hx hb ((jc_con_K hwd.2.2).2.2.2.1 _ hq) hS (vp_in_nI hj hn) (by show jk_v g (L.getD (nI j).toNatClampNeg (.inl 0)) = _; rw [nI_clamp (by omega)]) (hok _ _ hd) kk
/-- enum constants differ -/
theorem jw_kne {i j : Nat} (hi : i < 24) (hj : j < 24) (hij : i ≠ j) (k : jg_c g (100 + i) ≠ jg_c g (100 + j) → jw_J g d M T pc ls st h kc ks Q) : jw_J g d M T pc ls st h kc ks Q := by
  intro p e s m args below meth c R Z H locs cells slots arr hA hT hE hP hS hl hc hs
  obtain ⟨hx, hb, hml, hown, hts, hr, hlk, hnm, hwd, hdf, hdl, hst, hok⟩ := id hA
  exact k (fun z => hij ((jc_con_K hwd.2.2).2.2.2.2.1 i j hi hj z)) p e s m args below meth c R Z H locs cells slots arr hA hT hE hP hS hl hc hs
theorem jw_kinj (k : (∀ i j, i < 24 → j < 24 → jg_c g (100 + i) = jg_c g (100 + j) → i = j) → jw_J g d M T pc ls st h kc ks Q) : jw_J g d M T pc ls st h kc ks Q := by
  intro p e s m args below meth c R Z H locs cells slots arr hA hT hE hP hS hl hc hs
  obtain ⟨hx, hb, hml, hown, hts, hr, hlk, hnm, hwd, hdf, hdl, hst, hok⟩ := id hA
  exact k (jc_con_K hwd.2.2).2.2.2.2.1 p e s m args below meth c R Z H locs cells slots arr hA hT hE hP hS hl hc hs
/-- a call on a constant -/
theorem js_callK {M' : jw_M} {d' n idx mc ms a : Nat} {As : List jV} (hd : M.2.2.2.2 pc = some (.invokevirtual idx, 3)) (hm : jl_m M' n) (hk : jl_k M.1.cls idx M'.1) (hin : Cond.instanceMethod M'.1 ∈ jw_big) (hse : Cond.selects M'.1.cls M'.1 M'.1 ∈ jw_big) (ho : (M'.1.cls, a) ∈ jk_O) (hn : As.length = n)
    (hC : jw_C g d' mc ms M' (.inr (.inr (some (jg_c g a))) :: As) h (fun o h' => match o with | .inl (some x) => jw_J g d M T (pc + 3) ls (x :: st) h' (kc - mc) (ks - ms) Q | .inl none => jw_J g d M T (pc + 3) ls st h' (kc - mc) (ks - ms) Q | .inr E => Q (.inr E) h'))
    (hd1 : d' + 1 ≤ d) (hst0 : (st.map jv_c).sum ≤ 8) (hmc : mc ≤ kc) (hms : ms ≤ ks) (hT : T = jw_T0) : jw_J g d M T pc ls (As.reverse ++ .inr (.inr (some (jg_c g a))) :: st) h kc ks Q := by
  have hst0 : ((st.map jv).map fun v => v.category).sum ≤ 8 := by rw [jv_sum]; exact hst0
  have hcov : ∀ c, T c → ∀ x ∈ c.exceptionTable.toList, covers x pc = false := fun c hc x hx => by subst hT; exact absurd (hc x hx) id
  intro p e s m args below meth c R Z H locs cells slots arr hA hT1 hE hP hS hl hc hs
  obtain ⟨hx, hb, hml, hown, hts, hr, hlk, hnm, hwd, hdf, hdl, hst, hok⟩ := id hA
  have hrec : ∃ cell : Cell, H[jg_c g a]? = some cell ∧ cell.vm.isStatics = false ∧ s.vm.findClass M'.1.cls = some cell.cls := by
    obtain ⟨cell, h1, h2, h3, -⟩ := ((jc_con_K hwd.2.2).2.1 _ ho).kept hS.2.1
    exact ⟨cell, h1, h2, h3⟩
  have hpre := jw_pre hA hP hS (.inr (.inr (some (jg_c g a))) :: As)
  refine jw_after hA hT1 hE hS hl hc hs hmc hms ?_ (fun v _ z => by cases v <;> exact z) (fun _ _ z => z) hcov (a := (Value.ref (jg_c g a) :: As.map jv).toArray) (Q' := fun o h' => match o with | .inl (some x) => jw_J g d M T (pc + 3) ls (x :: st) h' (kc - mc) (ks - ms) Q | .inl none => jw_J g d M T (pc + 3) ls st h' (kc - mc) (ks - ms) Q | .inr E => Q (.inr E) h')
  rcases hk with hk | ⟨host, hk⟩
  · exact vx_runV (nL := M.2.2.1) (cc := M.2.1) ⟨hx, hb, hml, hown, hts⟩ hC ⟨jw_cb hts hm hk hd1 hdf hdl, hts _ hin, hts _ hse⟩ ⟨jw_blind, hrec, hpre⟩ rfl ((List.length_map _).trans hn) hl.1 (by simp [jv, va_rf]) (lv_room hst0) (hok _ _ hd) ⟨by omega, by omega⟩
  · exact jn_V (nL := M.2.2.1) (cc := M.2.1) ⟨hx, hb, hml, hown, hts⟩ hC ⟨jw_cn hts hm (hwd.2.2.2.1 _ hk) hd1 hdf hdl, hts _ hin, hts _ hse⟩ ⟨jw_blind, hrec, hpre⟩ rfl ((List.length_map _).trans hn) hl.1 (by simp [jv, va_rf]) (lv_room hst0) (hok _ _ hd) ⟨by omega, by omega⟩
/-- Object.<init> -/
theorem jw_obj {idx a : Nat} (hd : M.2.2.2.2 pc = some (.invokespecial idx, 3)) (hk : Cond.methodLink M.1.cls idx Lib.objectInit ∈ jw_big) (hd1 : 1 ≤ d) (hst0 : (st.map jv_c).sum ≤ 8) (k : jw_J g d M T (pc + 3) ls st h kc ks Q) : jw_J g d M T pc ls (.inr (.inr (some a)) :: st) h kc ks Q := by
  have hst0 : ((st.map jv).map fun v => v.category).sum ≤ 8 := by rw [jv_sum]; exact hst0
  intro p e s m args below meth c R Z H locs cells slots arr hA hT hE hP hS hl hc hs
  obtain ⟨hx, hb, hml, hown, hts, hr, hlk, hnm, hwd, hdf, hdl, hst, hok⟩ := id hA
  exact W.objInit hx hb hown (hts _ hk) (hts _ ko_in) (hts _ ko_cd) (g := F0 m pc arr (.ref a :: st.map jv)) rfl (by rw [hml]; exact hl.1) rfl (hok _ _ hd) (by omega) (by show 2 * 0 + _ + 12 ≤ _; omega) (k p e s m args below meth c R Z H locs cells slots arr hA hT hE hP hS hl hc hs)
end JKR
theorem oi_E_3 : Cond.methodLink "TemplateEngine" 3 Lib.objectInit ∈ jw_big := jt_i1 35 rfl rfl
theorem oi_T_3 : Cond.methodLink "TemplateEngine$Text" 3 Lib.objectInit ∈ jw_big := jt_i1 43 rfl rfl
theorem oi_R_3 : Cond.methodLink "TemplateEngine$Renderer" 3 Lib.objectInit ∈ jw_big := jt_i1 66 rfl rfl
theorem oi_V_3 : Cond.methodLink "TemplateEngine$Value" 3 Lib.objectInit ∈ jw_big := jt_i1 76 rfl rfl
theorem oi_P_3 : Cond.methodLink "TemplateEngine$TemplateReader" 3 Lib.objectInit ∈ jw_big := jt_i2 196 rfl rfl
theorem oi_N_1 : Cond.methodLink "TemplateEngine$Part" 1 Lib.objectInit ∈ jw_big := jt_i2 204 rfl rfl
theorem oi_O_1 : Cond.methodLink "TemplateEngine$Operand" 1 Lib.objectInit ∈ jw_big := jt_i3 203 rfl rfl
theorem oi_X_1 : Cond.methodLink "TemplateEngine$Expression" 1 Lib.objectInit ∈ jw_big := jt_i4 30 rfl rfl
theorem oi_M_1 : Cond.methodLink "TemplateEngineModel" 1 Lib.objectInit ∈ jw_big := jt_i5 0 rfl rfl
def m_jS_length : jw_M := (({ cls := "java/lang/String", name := "length", desc := "()I" } : Jvm.MethodName), prog_24_method_54_code, 1, (Option.some Jvm.ClassFile.FieldType.int), jt_b [(.aload_n 0, 1), (.getfield 9, 3), (.arraylength, 1), (.aload_n 0, 1), (.invokevirtual 335, 3), (.ishr, 1), (.ireturn, 1)])
theorem k_jS_length : ∀ pc x, m_jS_length.2.2.2.2 pc = some x → decode m_jS_length.2.1 pc = .ok x := jt_k (by decide +kernel)
theorem l_jS_length : jl_m m_jS_length 0 := ⟨jt_i3 52 rfl rfl, jt_i1 18 rfl rfl, ⟨by decide, by decide, by decide +kernel⟩, by decide⟩
theorem i_jS_length : Cond.instanceMethod m_jS_length.1 ∈ jw_big := jt_i3 50 rfl rfl
theorem s_jS_length : Cond.selects m_jS_length.1.cls m_jS_length.1 m_jS_length.1 ∈ jw_big := jt_i3 51 rfl rfl
def m_jS_coder : jw_M := (({ cls := "java/lang/String", name := "coder", desc := "()B" } : Jvm.MethodName), prog_24_method_152_code, 1, (Option.some Jvm.ClassFile.FieldType.byte), jt_b [(.getstatic 38, 3), (.ifCond .eq 10, 3), (.aload_n 0, 1), (.getfield 15, 3), (.goto 4, 3), (.iconst 1, 1), (.ireturn, 1)])
theorem k_jS_coder : ∀ pc x, m_jS_coder.2.2.2.2 pc = some x → decode m_jS_coder.2.1 pc = .ok x := jt_k (by decide +kernel)
theorem l_jS_coder : jl_m m_jS_coder 0 := ⟨jt_i3 56 rfl rfl, jt_i1 18 rfl rfl, ⟨by decide, by decide, by decide +kernel⟩, by decide⟩
theorem i_jS_coder : Cond.instanceMethod m_jS_coder.1 ∈ jw_big := jt_i3 54 rfl rfl
theorem s_jS_coder : Cond.selects m_jS_coder.1.cls m_jS_coder.1 m_jS_coder.1 ∈ jw_big := jt_i3 55 rfl rfl
def m_jS_charAt : jw_M := (({ cls := "java/lang/String", name := "charAt", desc := "(I)C" } : Jvm.MethodName), prog_24_method_56_code, 2, (Option.some Jvm.ClassFile.FieldType.char), jt_b [(.aload_n 0, 1), (.invokevirtual 492, 3), (.ifCond .eq 12, 3), (.aload_n 0, 1), (.getfield 9, 3), (.iload_n 1, 1), (.invokestatic 495, 3), (.ireturn, 1), (.aload_n 0, 1), (.getfield 9, 3), (.iload_n 1, 1), (.invokestatic 498, 3), (.ireturn, 1)])
theorem k_jS_charAt : ∀ pc x, m_jS_charAt.2.2.2.2 pc = some x → decode m_jS_charAt.2.1 pc = .ok x := jt_k (by decide +kernel)
theorem l_jS_charAt : jl_m m_jS_charAt 1 := ⟨jt_i3 62 rfl rfl, jt_i1 18 rfl rfl, ⟨by decide, by decide, by decide +kernel⟩, by decide⟩
theorem i_jS_charAt : Cond.instanceMethod m_jS_charAt.1 ∈ jw_big := jt_i3 60 rfl rfl
theorem s_jS_charAt : Cond.selects m_jS_charAt.1.cls m_jS_charAt.1 m_jS_charAt.1 ∈ jw_big := jt_i3 61 rfl rfl
def m_jS_isLatin1 : jw_M := (({ cls := "java/lang/String", name := "isLatin1", desc := "()Z" } : Jvm.MethodName), prog_24_method_154_code, 1, (Option.some Jvm.ClassFile.FieldType.boolean), jt_b [(.getstatic 38, 3), (.ifCond .eq 14, 3), (.aload_n 0, 1), (.getfield 15, 3), (.ifCond .ne 7, 3), (.iconst 1, 1), (.goto 4, 3), (.iconst 0, 1), (.ireturn, 1)])
theorem k_jS_isLatin1 : ∀ pc x, m_jS_isLatin1.2.2.2.2 pc = some x → decode m_jS_isLatin1.2.1 pc = .ok x := jt_k (by decide +kernel)
theorem l_jS_isLatin1 : jl_m m_jS_isLatin1 0 := ⟨jt_i3 66 rfl rfl, jt_i1 18 rfl rfl, ⟨by decide, by decide, by decide +kernel⟩, by decide⟩
theorem i_jS_isLatin1 : Cond.instanceMethod m_jS_isLatin1.1 ∈ jw_big := jt_i3 64 rfl rfl
theorem s_jS_isLatin1 : Cond.selects m_jS_isLatin1.1.cls m_jS_isLatin1.1 m_jS_isLatin1.1 ∈ jw_big := jt_i3 65 rfl rfl
def m_jL_charAt : jw_M := (({ cls := "java/lang/StringLatin1", name := "charAt", desc := "([BI)C" } : Jvm.MethodName), prog_25_method_2_code, 2, (Option.some Jvm.ClassFile.FieldType.char), jt_b [(.iload_n 1, 1), (.aload_n 0, 1), (.arraylength, 1), (.invokestatic 9, 3), (.aload_n 0, 1), (.iload_n 1, 1), (.baload, 1), (.sipush 255, 3), (.iand, 1), (.i2c, 1), (.ireturn, 1)])
theorem k_jL_charAt : ∀ pc x, m_jL_charAt.2.2.2.2 pc = some x → decode m_jL_charAt.2.1 pc = .ok x := jt_k (by decide +kernel)
theorem l_jL_charAt : jl_m m_jL_charAt 2 := ⟨jt_i3 69 rfl rfl, jt_i1 19 rfl rfl, ⟨by decide, by decide, by decide +kernel⟩, by decide⟩
theorem i_jL_charAt : Cond.static m_jL_charAt.1 ∈ jw_big := jt_i3 68 rfl rfl
def m_jS_checkIndex : jw_M := (({ cls := "java/lang/String", name := "checkIndex", desc := "(II)V" } : Jvm.MethodName), prog_24_method_155_code, 2, (Option.none : Option Jvm.ClassFile.FieldType), jt_b [(.iload_n 0, 1), (.iload_n 1, 1), (.getstatic 1053, 3), (.invokestatic 1059, 3), (.pop, 1), (.return_, 1)])
theorem k_jS_checkIndex : ∀ pc x, m_jS_checkIndex.2.2.2.2 pc = some x → decode m_jS_checkIndex.2.1 pc = .ok x := jt_k (by decide +kernel)
theorem l_jS_checkIndex : jl_m m_jS_checkIndex 2 := ⟨jt_i3 72 rfl rfl, jt_i1 18 rfl rfl, ⟨by decide, by decide, by decide +kernel⟩, by decide⟩
theorem i_jS_checkIndex : Cond.static m_jS_checkIndex.1 ∈ jw_big := jt_i3 71 rfl rfl
def m_jP_checkIndex : jw_M := (({ cls := "jdk/internal/util/Preconditions", name := "checkIndex", desc := "(IILjava/util/function/BiFunction;)I" } : Jvm.MethodName), prog_31_method_11_code, 3, (Option.some Jvm.ClassFile.FieldType.int), jt_b [(.iload_n 0, 1), (.ifCond .lt 8, 3), (.iload_n 0, 1), (.iload_n 1, 1), (.if_icmp .lt 10, 3), (.aload_n 2, 1), (.iload_n 0, 1), (.iload_n 1, 1), (.invokestatic 95, 3), (.athrow, 1), (.iload_n 0, 1), (.ireturn, 1)])
theorem k_jP_checkIndex : ∀ pc x, m_jP_checkIndex.2.2.2.2 pc = some x → decode m_jP_checkIndex.2.1 pc = .ok x := jt_k (by decide +kernel)
theorem l_jP_checkIndex : jl_m m_jP_checkIndex 3 := ⟨jt_i3 77 rfl rfl, jt_i1 20 rfl rfl, ⟨by decide, by decide, by decide +kernel⟩, by decide⟩
theorem i_jP_checkIndex : Cond.static m_jP_checkIndex.1 ∈ jw_big := jt_i3 76 rfl rfl
def m_jE_ordinal : jw_M := (({ cls := "java/lang/Enum", name := "ordinal", desc := "()I" } : Jvm.MethodName), prog_17_method_2_code, 1, (Option.some Jvm.ClassFile.FieldType.int), jt_b [(.aload_n 0, 1), (.getfield 7, 3), (.ireturn, 1)])
theorem k_jE_ordinal : ∀ pc x, m_jE_ordinal.2.2.2.2 pc = some x → decode m_jE_ordinal.2.1 pc = .ok x := jt_k (by decide +kernel)
theorem l_jE_ordinal : jl_m m_jE_ordinal 0 := ⟨jt_i3 167 rfl rfl, jt_i1 16 rfl rfl, ⟨by decide, by decide, by decide +kernel⟩, by decide⟩
theorem i_jE_ordinal : Cond.instanceMethod m_jE_ordinal.1 ∈ jw_big := jt_i3 166 rfl rfl
def m_jM_max : jw_M := (({ cls := "java/lang/Math", name := "max", desc := "(II)I" } : Jvm.MethodName), prog_22_method_65_code, 2, (Option.some Jvm.ClassFile.FieldType.int), jt_b [(.iload_n 0, 1), (.iload_n 1, 1), (.if_icmp .lt 7, 3), (.iload_n 0, 1), (.goto 4, 3), (.iload_n 1, 1), (.ireturn, 1)])
theorem k_jM_max : ∀ pc x, m_jM_max.2.2.2.2 pc = some x → decode m_jM_max.2.1 pc = .ok x := jt_k (by decide +kernel)
theorem l_jM_max : jl_m m_jM_max 2 := ⟨jt_i2 80 rfl rfl, jt_i1 11 rfl rfl, ⟨by decide, by decide, by decide +kernel⟩, by decide⟩
theorem i_jM_max : Cond.static m_jM_max.1 ∈ jw_big := jt_i2 79 rfl rfl
def m_jM_min : jw_M := (({ cls := "java/lang/Math", name := "min", desc := "(II)I" } : Jvm.MethodName), prog_22_method_69_code, 2, (Option.some Jvm.ClassFile.FieldType.int), jt_b [(.iload_n 0, 1), (.iload_n 1, 1), (.if_icmp .gt 7, 3), (.iload_n 0, 1), (.goto 4, 3), (.iload_n 1, 1), (.ireturn, 1)])
theorem k_jM_min : ∀ pc x, m_jM_min.2.2.2.2 pc = some x → decode m_jM_min.2.1 pc = .ok x := jt_k (by decide +kernel)
theorem l_jM_min : jl_m m_jM_min 2 := ⟨jt_i4 20 rfl rfl, jt_i1 11 rfl rfl, ⟨by decide, by decide, by decide +kernel⟩, by decide⟩
theorem i_jM_min : Cond.static m_jM_min.1 ∈ jw_big := jt_i4 19 rfl rfl
def m_jM_abs : jw_M := (({ cls := "java/lang/Math", name := "abs", desc := "(I)I" } : Jvm.MethodName), prog_22_method_59_code, 1, (Option.some Jvm.ClassFile.FieldType.int), jt_b [(.iload_n 0, 1), (.ifCond .ge 8, 3), (.iload_n 0, 1), (.ineg, 1), (.goto 4, 3), (.iload_n 0, 1), (.ireturn, 1)])
theorem k_jM_abs : ∀ pc x, m_jM_abs.2.2.2.2 pc = some x → decode m_jM_abs.2.1 pc = .ok x := jt_k (by decide +kernel)
theorem l_jM_abs : jl_m m_jM_abs 1 := ⟨jt_i4 136 rfl rfl, jt_i1 11 rfl rfl, ⟨by decide, by decide, by decide +kernel⟩, by decide⟩
theorem i_jM_abs : Cond.static m_jM_abs.1 ∈ jw_big := jt_i4 135 rfl rfl
def m_jA_copyOf : jw_M := (({ cls := "java/util/Arrays", name := "copyOf", desc := "([JI)[J" } : Jvm.MethodName), prog_29_method_124_code, 3, (Option.some (Jvm.ClassFile.FieldType.array Jvm.ClassFile.FieldType.long)), jt_b [(.iload_n 1, 1), (.aload_n 0, 1), (.arraylength, 1), (.if_icmp .ne 11, 3), (.aload_n 0, 1), (.invokevirtual 319, 3), (.checkcast 320, 3), (.areturn, 1), (.iload_n 1, 1), (.newarray .long, 2), (.astore_n 2, 1), (.aload_n 0, 1), (.iconst 0, 1), (.aload_n 2, 1), (.iconst 0, 1), (.aload_n 0, 1), (.arraylength, 1), (.iload_n 1, 1), (.invokestatic 304, 3), (.invokestatic 150, 3), (.aload_n 2, 1), (.areturn, 1)])
theorem k_jA_copyOf : ∀ pc x, m_jA_copyOf.2.2.2.2 pc = some x → decode m_jA_copyOf.2.1 pc = .ok x := jt_k (by decide +kernel)
theorem l_jA_copyOf : jl_m m_jA_copyOf 2 := ⟨jt_i4 10 rfl rfl, jt_i1 26 rfl rfl, ⟨by decide, by decide, by decide +kernel⟩, by decide⟩
theorem i_jA_copyOf : Cond.static m_jA_copyOf.1 ∈ jw_big := jt_i4 9 rfl rfl
theorem c_T_56 : jl_k "TemplateEngine$Text" 56 m_jM_max.1 := Or.inl (jt_i2 78 rfl rfl)
theorem c_V_34 : jl_k "TemplateEngine$Value" 34 m_jM_max.1 := Or.inl (jt_i2 148 rfl rfl)
theorem y_P_11 : jl_q "TemplateEngine$TemplateReader" 11 "TemplateEngine$Sort" "ROOT" "LTemplateEngine$Sort;" := Or.inl (jt_i2 199 rfl rfl)
theorem c_T_26 : jl_k "TemplateEngine$Text" 26 m_jS_length.1 := Or.inl (jt_i3 49 rfl rfl)
theorem c_jS_335 : jl_k "java/lang/String" 335 m_jS_coder.1 := Or.inl (jt_i3 53 rfl rfl)
theorem y_jS_38 : jl_q "java/lang/String" 38 "java/lang/String" "COMPACT_STRINGS" "Z" := Or.inl (jt_i3 57 rfl rfl)
theorem c_T_31 : jl_k "TemplateEngine$Text" 31 m_jS_charAt.1 := Or.inl (jt_i3 59 rfl rfl)
theorem c_jS_492 : jl_k "java/lang/String" 492 m_jS_isLatin1.1 := Or.inl (jt_i3 63 rfl rfl)
theorem c_jS_495 : jl_k "java/lang/String" 495 m_jL_charAt.1 := Or.inl (jt_i3 67 rfl rfl)
theorem c_jL_9 : jl_k "java/lang/StringLatin1" 9 m_jS_checkIndex.1 := Or.inl (jt_i3 70 rfl rfl)
theorem y_jS_1053 : Cond.fieldLink "java/lang/String" 1053 "jdk/internal/util/Preconditions" "SIOOBE_FORMATTER" "Ljava/util/function/BiFunction;" ∈ jw_big := jt_i3 73 rfl rfl
theorem c_jS_1059 : jl_k "java/lang/String" 1059 m_jP_checkIndex.1 := Or.inl (jt_i3 75 rfl rfl)
theorem c_jU_414 : jl_k "java/lang/StringUTF16" 414 m_jS_checkIndex.1 := Or.inl (jt_i3 87 rfl rfl)
theorem y_P_99 : jl_q "TemplateEngine$TemplateReader" 99 "TemplateEngine$Sort" "PLAIN" "LTemplateEngine$Sort;" := Or.inl (jt_i3 101 rfl rfl)
theorem c_P_67 : jl_k "TemplateEngine$TemplateReader" 67 m_jS_length.1 := Or.inl (jt_i3 112 rfl rfl)
theorem y_P_161 : jl_q "TemplateEngine$TemplateReader" 161 "TemplateEngine$Sort" "RAW" "LTemplateEngine$Sort;" := Or.inl (jt_i3 117 rfl rfl)
theorem y_P_170 : jl_q "TemplateEngine$TemplateReader" 170 "TemplateEngine$Sort" "REMARK" "LTemplateEngine$Sort;" := Or.inl (jt_i3 124 rfl rfl)
theorem y_P_148 : jl_q "TemplateEngine$TemplateReader" 148 "TemplateEngine$Sort" "IF" "LTemplateEngine$Sort;" := Or.inl (jt_i3 127 rfl rfl)
theorem y_P_155 : jl_q "TemplateEngine$TemplateReader" 155 "TemplateEngine$Sort" "EACH" "LTemplateEngine$Sort;" := Or.inl (jt_i3 130 rfl rfl)
theorem y_P_158 : jl_q "TemplateEngine$TemplateReader" 158 "TemplateEngine$Sort" "WITH" "LTemplateEngine$Sort;" := Or.inl (jt_i3 133 rfl rfl)
theorem y_P_181 : jl_q "TemplateEngine$TemplateReader" 181 "TemplateEngine$Sort" "PARTIAL" "LTemplateEngine$Sort;" := Or.inl (jt_i3 136 rfl rfl)
theorem y_P_189 : jl_q "TemplateEngine$TemplateReader" 189 "TemplateEngine$Sort" "ELSE" "LTemplateEngine$Sort;" := Or.inl (jt_i3 143 rfl rfl)
theorem y_P_194 : jl_q "TemplateEngine$TemplateReader" 194 "TemplateEngine$Sort" "END_IF" "LTemplateEngine$Sort;" := Or.inl (jt_i3 146 rfl rfl)
theorem y_P_199 : jl_q "TemplateEngine$TemplateReader" 199 "TemplateEngine$Sort" "END_EACH" "LTemplateEngine$Sort;" := Or.inl (jt_i3 149 rfl rfl)
theorem y_P_204 : jl_q "TemplateEngine$TemplateReader" 204 "TemplateEngine$Sort" "END_WITH" "LTemplateEngine$Sort;" := Or.inl (jt_i3 152 rfl rfl)
theorem y_P_207 : jl_q "TemplateEngine$TemplateReader" 207 "TemplateEngine$Sort" "SHOWN" "LTemplateEngine$Sort;" := Or.inl (jt_i3 154 rfl rfl)
theorem y_P_129 : jl_q "TemplateEngine$TemplateReader" 129 "TemplateEngine$1" "$SwitchMap$TemplateEngine$Sort" "[I" := Or.inl (jt_i3 160 rfl rfl)
theorem y_P_245 : jl_q "TemplateEngine$TemplateReader" 245 "TemplateEngine$TemplateReader" "HELPERS" "[LTemplateEngine$Helper;" := Or.inl (jt_i3 176 rfl rfl)
theorem y_P_249 : jl_q "TemplateEngine$TemplateReader" 249 "TemplateEngine$Helper" "NONE" "LTemplateEngine$Helper;" := Or.inl (jt_i3 178 rfl rfl)
theorem y_P_292 : jl_q "TemplateEngine$TemplateReader" 292 "TemplateEngine$OperandSort" "LITERAL" "LTemplateEngine$OperandSort;" := Or.inl (jt_i3 198 rfl rfl)
theorem y_P_272 : jl_q "TemplateEngine$TemplateReader" 272 "TemplateEngine$OperandSort" "INDEX" "LTemplateEngine$OperandSort;" := Or.inl (jt_i3 229 rfl rfl)
theorem y_P_283 : jl_q "TemplateEngine$TemplateReader" 283 "TemplateEngine$OperandSort" "FIRST" "LTemplateEngine$OperandSort;" := Or.inl (jt_i3 232 rfl rfl)
theorem y_P_309 : jl_q "TemplateEngine$TemplateReader" 309 "TemplateEngine$OperandSort" "PATH" "LTemplateEngine$OperandSort;" := Or.inl (jt_i3 238 rfl rfl)
theorem c_P_325 : jl_k "TemplateEngine$TemplateReader" 325 m_jA_copyOf.1 := Or.inl (jt_i4 8 rfl rfl)
theorem c_jA_304 : jl_k "java/util/Arrays" 304 m_jM_min.1 := Or.inl (jt_i4 18 rfl rfl)
theorem y_R_83 : jl_q "TemplateEngine$Renderer" 83 "TemplateEngine$1" "$SwitchMap$TemplateEngine$Sort" "[I" := Or.inl (jt_i4 79 rfl rfl)
theorem y_R_232 : jl_q "TemplateEngine$Renderer" 232 "TemplateEngine$1" "$SwitchMap$TemplateEngine$OperandSort" "[I" := Or.inl (jt_i4 100 rfl rfl)
theorem y_R_194 : jl_q "TemplateEngine$Renderer" 194 "TemplateEngine$1" "$SwitchMap$TemplateEngine$Helper" "[I" := Or.inl (jt_i4 122 rfl rfl)
theorem c_T_50 : jl_k "TemplateEngine$Text" 50 m_jM_abs.1 := Or.inl (jt_i4 134 rfl rfl)
theorem y_R_155 : jl_q "TemplateEngine$Renderer" 155 "TemplateEngine$Sort" "IF" "LTemplateEngine$Sort;" := Or.inl (jt_i4 205 rfl rfl)
theorem y_R_165 : jl_q "TemplateEngine$Renderer" 165 "TemplateEngine$Sort" "WITH" "LTemplateEngine$Sort;" := Or.inl (jt_i4 206 rfl rfl)
theorem y_R_168 : jl_q "TemplateEngine$Renderer" 168 "TemplateEngine$Sort" "EACH" "LTemplateEngine$Sort;" := Or.inl (jt_i4 207 rfl rfl)
theorem y_jS_9 : jl_q "java/lang/String" 9 "java/lang/String" "value" "[B" := Or.inl (jt_i6 220 rfl rfl)
theorem y_jS_15 : jl_q "java/lang/String" 15 "java/lang/String" "coder" "B" := Or.inl (jt_i6 221 rfl rfl)
theorem y_jE_7 : jl_q "java/lang/Enum" 7 "java/lang/Enum" "ordinal" "I" := Or.inl (jt_i6 222 rfl rfl)
theorem y_P_253 : jl_q "TemplateEngine$TemplateReader" 253 "TemplateEngine$Helper" "opening" "Ljava/lang/String;" := Or.inr ⟨"TemplateEngine", jt_n1 45 rfl⟩
theorem y_P_233 : jl_q "TemplateEngine$TemplateReader" 233 "TemplateEngine$Helper" "operands" "I" := Or.inr ⟨"TemplateEngine", jt_n1 46 rfl⟩
theorem kz_0 : ("TemplateEngine$Sort", "ROOT", "LTemplateEngine$Sort;", (.inr 100 : jk_X)) ∈ jk_Z := List.mem_of_getElem? (i := 0) rfl
theorem kz_1 : ("TemplateEngine$Sort", "PLAIN", "LTemplateEngine$Sort;", (.inr 101 : jk_X)) ∈ jk_Z := List.mem_of_getElem? (i := 1) rfl
theorem kz_2 : ("TemplateEngine$Sort", "RAW", "LTemplateEngine$Sort;", (.inr 102 : jk_X)) ∈ jk_Z := List.mem_of_getElem? (i := 2) rfl
theorem kz_3 : ("TemplateEngine$Sort", "SHOWN", "LTemplateEngine$Sort;", (.inr 103 : jk_X)) ∈ jk_Z := List.mem_of_getElem? (i := 3) rfl
theorem kz_4 : ("TemplateEngine$Sort", "REMARK", "LTemplateEngine$Sort;", (.inr 104 : jk_X)) ∈ jk_Z := List.mem_of_getElem? (i := 4) rfl
theorem kz_5 : ("TemplateEngine$Sort", "PARTIAL", "LTemplateEngine$Sort;", (.inr 105 : jk_X)) ∈ jk_Z := List.mem_of_getElem? (i := 5) rfl
theorem kz_6 : ("TemplateEngine$Sort", "IF", "LTemplateEngine$Sort;", (.inr 106 : jk_X)) ∈ jk_Z := List.mem_of_getElem? (i := 6) rfl
theorem kz_7 : ("TemplateEngine$Sort", "EACH", "LTemplateEngine$Sort;", (.inr 107 : jk_X)) ∈ jk_Z := List.mem_of_getElem? (i := 7) rfl
theorem kz_8 : ("TemplateEngine$Sort", "WITH", "LTemplateEngine$Sort;", (.inr 108 : jk_X)) ∈ jk_Z := List.mem_of_getElem? (i := 8) rfl
theorem kz_9 : ("TemplateEngine$Sort", "ELSE", "LTemplateEngine$Sort;", (.inr 109 : jk_X)) ∈ jk_Z := List.mem_of_getElem? (i := 9) rfl
theorem kz_10 : ("TemplateEngine$Sort", "END_IF", "LTemplateEngine$Sort;", (.inr 110 : jk_X)) ∈ jk_Z := List.mem_of_getElem? (i := 10) rfl
theorem kz_11 : ("TemplateEngine$Sort", "END_EACH", "LTemplateEngine$Sort;", (.inr 111 : jk_X)) ∈ jk_Z := List.mem_of_getElem? (i := 11) rfl
theorem kz_12 : ("TemplateEngine$Sort", "END_WITH", "LTemplateEngine$Sort;", (.inr 112 : jk_X)) ∈ jk_Z := List.mem_of_getElem? (i := 12) rfl
theorem kz_13 : ("TemplateEngine$Helper", "NONE", "LTemplateEngine$Helper;", (.inr 113 : jk_X)) ∈ jk_Z := List.mem_of_getElem? (i := 13) rfl
theorem kz_14 : ("TemplateEngine$Helper", "UP", "LTemplateEngine$Helper;", (.inr 114 : jk_X)) ∈ jk_Z := List.mem_of_getElem? (i := 14) rfl
theorem kz_15 : ("TemplateEngine$Helper", "LEN", "LTemplateEngine$Helper;", (.inr 115 : jk_X)) ∈ jk_Z := List.mem_of_getElem? (i := 15) rfl
theorem kz_16 : ("TemplateEngine$Helper", "NOT", "LTemplateEngine$Helper;", (.inr 116 : jk_X)) ∈ jk_Z := List.mem_of_getElem? (i := 16) rfl
theorem kz_17 : ("TemplateEngine$Helper", "ADD", "LTemplateEngine$Helper;", (.inr 117 : jk_X)) ∈ jk_Z := List.mem_of_getElem? (i := 17) rfl
theorem kz_18 : ("TemplateEngine$Helper", "EQ", "LTemplateEngine$Helper;", (.inr 118 : jk_X)) ∈ jk_Z := List.mem_of_getElem? (i := 18) rfl
theorem kz_19 : ("TemplateEngine$Helper", "AT", "LTemplateEngine$Helper;", (.inr 119 : jk_X)) ∈ jk_Z := List.mem_of_getElem? (i := 19) rfl
theorem kz_20 : ("TemplateEngine$OperandSort", "PATH", "LTemplateEngine$OperandSort;", (.inr 120 : jk_X)) ∈ jk_Z := List.mem_of_getElem? (i := 20) rfl
theorem kz_21 : ("TemplateEngine$OperandSort", "INDEX", "LTemplateEngine$OperandSort;", (.inr 121 : jk_X)) ∈ jk_Z := List.mem_of_getElem? (i := 21) rfl
theorem kz_22 : ("TemplateEngine$OperandSort", "FIRST", "LTemplateEngine$OperandSort;", (.inr 122 : jk_X)) ∈ jk_Z := List.mem_of_getElem? (i := 22) rfl
theorem kz_23 : ("TemplateEngine$OperandSort", "LITERAL", "LTemplateEngine$OperandSort;", (.inr 123 : jk_X)) ∈ jk_Z := List.mem_of_getElem? (i := 23) rfl
theorem kz_24 : ("TemplateEngine$1", "$SwitchMap$TemplateEngine$Sort", "[I", (.inr 300 : jk_X)) ∈ jk_Z := List.mem_of_getElem? (i := 24) rfl
theorem kz_25 : ("TemplateEngine$1", "$SwitchMap$TemplateEngine$Helper", "[I", (.inr 301 : jk_X)) ∈ jk_Z := List.mem_of_getElem? (i := 25) rfl
theorem kz_26 : ("TemplateEngine$1", "$SwitchMap$TemplateEngine$OperandSort", "[I", (.inr 302 : jk_X)) ∈ jk_Z := List.mem_of_getElem? (i := 26) rfl
theorem kz_27 : ("TemplateEngine$TemplateReader", "HELPERS", "[LTemplateEngine$Helper;", (.inr 303 : jk_X)) ∈ jk_Z := List.mem_of_getElem? (i := 27) rfl
theorem kz_28 : ("java/lang/String", "COMPACT_STRINGS", "Z", (.inl 1 : jk_X)) ∈ jk_Z := List.mem_of_getElem? (i := 28) rfl
theorem kq_100 : ("TemplateEngine$Sort", 100) ∈ jk_O := List.mem_of_getElem? (i := 0) rfl
theorem kq_101 : ("TemplateEngine$Sort", 101) ∈ jk_O := List.mem_of_getElem? (i := 1) rfl
theorem kq_102 : ("TemplateEngine$Sort", 102) ∈ jk_O := List.mem_of_getElem? (i := 2) rfl
theorem kq_104 : ("TemplateEngine$Sort", 104) ∈ jk_O := List.mem_of_getElem? (i := 3) rfl
theorem kq_106 : ("TemplateEngine$Sort", 106) ∈ jk_O := List.mem_of_getElem? (i := 4) rfl
theorem kq_107 : ("TemplateEngine$Sort", 107) ∈ jk_O := List.mem_of_getElem? (i := 5) rfl
theorem kq_108 : ("TemplateEngine$Sort", 108) ∈ jk_O := List.mem_of_getElem? (i := 6) rfl
theorem kq_105 : ("TemplateEngine$Sort", 105) ∈ jk_O := List.mem_of_getElem? (i := 7) rfl
theorem kq_109 : ("TemplateEngine$Sort", 109) ∈ jk_O := List.mem_of_getElem? (i := 8) rfl
theorem kq_110 : ("TemplateEngine$Sort", 110) ∈ jk_O := List.mem_of_getElem? (i := 9) rfl
theorem kq_111 : ("TemplateEngine$Sort", 111) ∈ jk_O := List.mem_of_getElem? (i := 10) rfl
theorem kq_112 : ("TemplateEngine$Sort", 112) ∈ jk_O := List.mem_of_getElem? (i := 11) rfl
theorem kq_103 : ("TemplateEngine$Sort", 103) ∈ jk_O := List.mem_of_getElem? (i := 12) rfl
theorem kq_113 : ("TemplateEngine$Helper", 113) ∈ jk_O := List.mem_of_getElem? (i := 13) rfl
theorem kq_123 : ("TemplateEngine$OperandSort", 123) ∈ jk_O := List.mem_of_getElem? (i := 14) rfl
theorem kq_121 : ("TemplateEngine$OperandSort", 121) ∈ jk_O := List.mem_of_getElem? (i := 15) rfl
theorem kq_122 : ("TemplateEngine$OperandSort", 122) ∈ jk_O := List.mem_of_getElem? (i := 16) rfl
theorem kq_120 : ("TemplateEngine$OperandSort", 120) ∈ jk_O := List.mem_of_getElem? (i := 17) rfl
theorem kq_114 : ("TemplateEngine$Helper", 114) ∈ jk_O := List.mem_of_getElem? (i := 18) rfl
theorem kq_115 : ("TemplateEngine$Helper", 115) ∈ jk_O := List.mem_of_getElem? (i := 19) rfl
theorem kq_116 : ("TemplateEngine$Helper", 116) ∈ jk_O := List.mem_of_getElem? (i := 20) rfl
theorem kq_117 : ("TemplateEngine$Helper", 117) ∈ jk_O := List.mem_of_getElem? (i := 21) rfl
theorem kq_118 : ("TemplateEngine$Helper", 118) ∈ jk_O := List.mem_of_getElem? (i := 22) rfl
theorem kq_119 : ("TemplateEngine$Helper", 119) ∈ jk_O := List.mem_of_getElem? (i := 23) rfl
theorem kq_10 : ("java/lang/String", 10) ∈ jk_O := List.mem_of_getElem? (i := 24) rfl
theorem kq_11 : ("java/lang/String", 11) ∈ jk_O := List.mem_of_getElem? (i := 25) rfl
theorem kq_12 : ("java/lang/String", 12) ∈ jk_O := List.mem_of_getElem? (i := 26) rfl
theorem kq_13 : ("java/lang/String", 13) ∈ jk_O := List.mem_of_getElem? (i := 27) rfl
theorem kq_14 : ("java/lang/String", 14) ∈ jk_O := List.mem_of_getElem? (i := 28) rfl
theorem kq_15 : ("java/lang/String", 15) ∈ jk_O := List.mem_of_getElem? (i := 29) rfl
theorem kq_16 : ("java/lang/String", 16) ∈ jk_O := List.mem_of_getElem? (i := 30) rfl
theorem kq_17 : ("java/lang/String", 17) ∈ jk_O := List.mem_of_getElem? (i := 31) rfl
theorem kq_18 : ("java/lang/String", 18) ∈ jk_O := List.mem_of_getElem? (i := 32) rfl
theorem kq_19 : ("java/lang/String", 19) ∈ jk_O := List.mem_of_getElem? (i := 33) rfl
theorem kq_20 : ("java/lang/String", 20) ∈ jk_O := List.mem_of_getElem? (i := 34) rfl
theorem kq_21 : ("java/lang/String", 21) ∈ jk_O := List.mem_of_getElem? (i := 35) rfl
theorem kq_22 : ("java/lang/String", 22) ∈ jk_O := List.mem_of_getElem? (i := 36) rfl
theorem kq_23 : ("java/lang/String", 23) ∈ jk_O := List.mem_of_getElem? (i := 37) rfl
theorem kq_24 : ("java/lang/String", 24) ∈ jk_O := List.mem_of_getElem? (i := 38) rfl
theorem kq_25 : ("java/lang/String", 25) ∈ jk_O := List.mem_of_getElem? (i := 39) rfl
theorem kq_26 : ("java/lang/String", 26) ∈ jk_O := List.mem_of_getElem? (i := 40) rfl
theorem kq_27 : ("java/lang/String", 27) ∈ jk_O := List.mem_of_getElem? (i := 41) rfl
theorem kq_28 : ("java/lang/String", 28) ∈ jk_O := List.mem_of_getElem? (i := 42) rfl
theorem kq_29 : ("java/lang/String", 29) ∈ jk_O := List.mem_of_getElem? (i := 43) rfl
theorem kq_33 : ("java/lang/String", 33) ∈ jk_O := List.mem_of_getElem? (i := 44) rfl
theorem kq_34 : ("java/lang/String", 34) ∈ jk_O := List.mem_of_getElem? (i := 45) rfl
theorem kq_35 : ("java/lang/String", 35) ∈ jk_O := List.mem_of_getElem? (i := 46) rfl
theorem kq_36 : ("java/lang/String", 36) ∈ jk_O := List.mem_of_getElem? (i := 47) rfl
theorem kq_37 : ("java/lang/String", 37) ∈ jk_O := List.mem_of_getElem? (i := 48) rfl
theorem kq_42 : ("java/lang/String", 42) ∈ jk_O := List.mem_of_getElem? (i := 49) rfl
theorem kq_43 : ("java/lang/String", 43) ∈ jk_O := List.mem_of_getElem? (i := 50) rfl
theorem kq_44 : ("java/lang/String", 44) ∈ jk_O := List.mem_of_getElem? (i := 51) rfl
theorem kq_45 : ("java/lang/String", 45) ∈ jk_O := List.mem_of_getElem? (i := 52) rfl
theorem kq_46 : ("java/lang/String", 46) ∈ jk_O := List.mem_of_getElem? (i := 53) rfl
theorem kq_47 : ("java/lang/String", 47) ∈ jk_O := List.mem_of_getElem? (i := 54) rfl
theorem kf_ordinal_100 : ("java/lang/Enum", "ordinal", "I", (.inl 0 : jk_X), 100) ∈ jk_F := List.mem_of_getElem? (i := 0) rfl
theorem kf_ordinal_101 : ("java/lang/Enum", "ordinal", "I", (.inl 1 : jk_X), 101) ∈ jk_F := List.mem_of_getElem? (i := 1) rfl
theorem kf_ordinal_102 : ("java/lang/Enum", "ordinal", "I", (.inl 2 : jk_X), 102) ∈ jk_F := List.mem_of_getElem? (i := 2) rfl
theorem kf_ordinal_104 : ("java/lang/Enum", "ordinal", "I", (.inl 4 : jk_X), 104) ∈ jk_F := List.mem_of_getElem? (i := 3) rfl
theorem kf_ordinal_106 : ("java/lang/Enum", "ordinal", "I", (.inl 6 : jk_X), 106) ∈ jk_F := List.mem_of_getElem? (i := 4) rfl
theorem kf_ordinal_107 : ("java/lang/Enum", "ordinal", "I", (.inl 7 : jk_X), 107) ∈ jk_F := List.mem_of_getElem? (i := 5) rfl
theorem kf_ordinal_108 : ("java/lang/Enum", "ordinal", "I", (.inl 8 : jk_X), 108) ∈ jk_F := List.mem_of_getElem? (i := 6) rfl
theorem kf_ordinal_105 : ("java/lang/Enum", "ordinal", "I", (.inl 5 : jk_X), 105) ∈ jk_F := List.mem_of_getElem? (i := 7) rfl
theorem kf_ordinal_109 : ("java/lang/Enum", "ordinal", "I", (.inl 9 : jk_X), 109) ∈ jk_F := List.mem_of_getElem? (i := 8) rfl
theorem kf_ordinal_110 : ("java/lang/Enum", "ordinal", "I", (.inl 10 : jk_X), 110) ∈ jk_F := List.mem_of_getElem? (i := 9) rfl
theorem kf_ordinal_111 : ("java/lang/Enum", "ordinal", "I", (.inl 11 : jk_X), 111) ∈ jk_F := List.mem_of_getElem? (i := 10) rfl
theorem kf_ordinal_112 : ("java/lang/Enum", "ordinal", "I", (.inl 12 : jk_X), 112) ∈ jk_F := List.mem_of_getElem? (i := 11) rfl
theorem kf_ordinal_103 : ("java/lang/Enum", "ordinal", "I", (.inl 3 : jk_X), 103) ∈ jk_F := List.mem_of_getElem? (i := 12) rfl
theorem kf_ordinal_113 : ("java/lang/Enum", "ordinal", "I", (.inl 0 : jk_X), 113) ∈ jk_F := List.mem_of_getElem? (i := 13) rfl
theorem kf_opening_113 : ("TemplateEngine$Helper", "opening", "Ljava/lang/String;", (.inr 41 : jk_X), 113) ∈ jk_F := List.mem_of_getElem? (i := 14) rfl
theorem kf_operands_113 : ("TemplateEngine$Helper", "operands", "I", (.inl 1 : jk_X), 113) ∈ jk_F := List.mem_of_getElem? (i := 15) rfl
theorem kf_ordinal_123 : ("java/lang/Enum", "ordinal", "I", (.inl 3 : jk_X), 123) ∈ jk_F := List.mem_of_getElem? (i := 16) rfl
theorem kf_ordinal_121 : ("java/lang/Enum", "ordinal", "I", (.inl 1 : jk_X), 121) ∈ jk_F := List.mem_of_getElem? (i := 17) rfl
theorem kf_ordinal_122 : ("java/lang/Enum", "ordinal", "I", (.inl 2 : jk_X), 122) ∈ jk_F := List.mem_of_getElem? (i := 18) rfl
theorem kf_ordinal_120 : ("java/lang/Enum", "ordinal", "I", (.inl 0 : jk_X), 120) ∈ jk_F := List.mem_of_getElem? (i := 19) rfl
theorem kf_ordinal_114 : ("java/lang/Enum", "ordinal", "I", (.inl 1 : jk_X), 114) ∈ jk_F := List.mem_of_getElem? (i := 20) rfl
theorem kf_opening_114 : ("TemplateEngine$Helper", "opening", "Ljava/lang/String;", (.inr 42 : jk_X), 114) ∈ jk_F := List.mem_of_getElem? (i := 21) rfl
theorem kf_operands_114 : ("TemplateEngine$Helper", "operands", "I", (.inl 1 : jk_X), 114) ∈ jk_F := List.mem_of_getElem? (i := 22) rfl
theorem kf_ordinal_115 : ("java/lang/Enum", "ordinal", "I", (.inl 2 : jk_X), 115) ∈ jk_F := List.mem_of_getElem? (i := 23) rfl
theorem kf_opening_115 : ("TemplateEngine$Helper", "opening", "Ljava/lang/String;", (.inr 43 : jk_X), 115) ∈ jk_F := List.mem_of_getElem? (i := 24) rfl
theorem kf_operands_115 : ("TemplateEngine$Helper", "operands", "I", (.inl 1 : jk_X), 115) ∈ jk_F := List.mem_of_getElem? (i := 25) rfl
theorem kf_ordinal_116 : ("java/lang/Enum", "ordinal", "I", (.inl 3 : jk_X), 116) ∈ jk_F := List.mem_of_getElem? (i := 26) rfl
theorem kf_opening_116 : ("TemplateEngine$Helper", "opening", "Ljava/lang/String;", (.inr 44 : jk_X), 116) ∈ jk_F := List.mem_of_getElem? (i := 27) rfl
theorem kf_operands_116 : ("TemplateEngine$Helper", "operands", "I", (.inl 1 : jk_X), 116) ∈ jk_F := List.mem_of_getElem? (i := 28) rfl
theorem kf_ordinal_117 : ("java/lang/Enum", "ordinal", "I", (.inl 4 : jk_X), 117) ∈ jk_F := List.mem_of_getElem? (i := 29) rfl
theorem kf_opening_117 : ("TemplateEngine$Helper", "opening", "Ljava/lang/String;", (.inr 45 : jk_X), 117) ∈ jk_F := List.mem_of_getElem? (i := 30) rfl
theorem kf_operands_117 : ("TemplateEngine$Helper", "operands", "I", (.inl 2 : jk_X), 117) ∈ jk_F := List.mem_of_getElem? (i := 31) rfl
theorem kf_ordinal_118 : ("java/lang/Enum", "ordinal", "I", (.inl 5 : jk_X), 118) ∈ jk_F := List.mem_of_getElem? (i := 32) rfl
theorem kf_opening_118 : ("TemplateEngine$Helper", "opening", "Ljava/lang/String;", (.inr 46 : jk_X), 118) ∈ jk_F := List.mem_of_getElem? (i := 33) rfl
theorem kf_operands_118 : ("TemplateEngine$Helper", "operands", "I", (.inl 2 : jk_X), 118) ∈ jk_F := List.mem_of_getElem? (i := 34) rfl
theorem kf_ordinal_119 : ("java/lang/Enum", "ordinal", "I", (.inl 6 : jk_X), 119) ∈ jk_F := List.mem_of_getElem? (i := 35) rfl
theorem kf_opening_119 : ("TemplateEngine$Helper", "opening", "Ljava/lang/String;", (.inr 47 : jk_X), 119) ∈ jk_F := List.mem_of_getElem? (i := 36) rfl
theorem kf_operands_119 : ("TemplateEngine$Helper", "operands", "I", (.inl 2 : jk_X), 119) ∈ jk_F := List.mem_of_getElem? (i := 37) rfl
theorem kf_coder_10 : ("java/lang/String", "coder", "B", (.inl 0 : jk_X), 10) ∈ jk_F := List.mem_of_getElem? (i := 38) rfl
theorem kf_coder_11 : ("java/lang/String", "coder", "B", (.inl 0 : jk_X), 11) ∈ jk_F := List.mem_of_getElem? (i := 39) rfl
theorem kf_coder_12 : ("java/lang/String", "coder", "B", (.inl 0 : jk_X), 12) ∈ jk_F := List.mem_of_getElem? (i := 40) rfl
theorem kf_coder_13 : ("java/lang/String", "coder", "B", (.inl 0 : jk_X), 13) ∈ jk_F := List.mem_of_getElem? (i := 41) rfl
theorem kf_coder_14 : ("java/lang/String", "coder", "B", (.inl 0 : jk_X), 14) ∈ jk_F := List.mem_of_getElem? (i := 42) rfl
theorem kf_coder_15 : ("java/lang/String", "coder", "B", (.inl 0 : jk_X), 15) ∈ jk_F := List.mem_of_getElem? (i := 43) rfl
theorem kf_coder_16 : ("java/lang/String", "coder", "B", (.inl 0 : jk_X), 16) ∈ jk_F := List.mem_of_getElem? (i := 44) rfl
theorem kf_coder_17 : ("java/lang/String", "coder", "B", (.inl 0 : jk_X), 17) ∈ jk_F := List.mem_of_getElem? (i := 45) rfl
theorem kf_coder_18 : ("java/lang/String", "coder", "B", (.inl 0 : jk_X), 18) ∈ jk_F := List.mem_of_getElem? (i := 46) rfl
theorem kf_coder_19 : ("java/lang/String", "coder", "B", (.inl 0 : jk_X), 19) ∈ jk_F := List.mem_of_getElem? (i := 47) rfl
theorem kf_coder_20 : ("java/lang/String", "coder", "B", (.inl 0 : jk_X), 20) ∈ jk_F := List.mem_of_getElem? (i := 48) rfl
theorem kf_coder_21 : ("java/lang/String", "coder", "B", (.inl 0 : jk_X), 21) ∈ jk_F := List.mem_of_getElem? (i := 49) rfl
theorem kf_coder_22 : ("java/lang/String", "coder", "B", (.inl 0 : jk_X), 22) ∈ jk_F := List.mem_of_getElem? (i := 50) rfl
theorem kf_coder_23 : ("java/lang/String", "coder", "B", (.inl 0 : jk_X), 23) ∈ jk_F := List.mem_of_getElem? (i := 51) rfl
theorem kf_coder_24 : ("java/lang/String", "coder", "B", (.inl 0 : jk_X), 24) ∈ jk_F := List.mem_of_getElem? (i := 52) rfl
theorem kf_coder_25 : ("java/lang/String", "coder", "B", (.inl 0 : jk_X), 25) ∈ jk_F := List.mem_of_getElem? (i := 53) rfl
theorem kf_coder_26 : ("java/lang/String", "coder", "B", (.inl 0 : jk_X), 26) ∈ jk_F := List.mem_of_getElem? (i := 54) rfl
theorem kf_coder_27 : ("java/lang/String", "coder", "B", (.inl 0 : jk_X), 27) ∈ jk_F := List.mem_of_getElem? (i := 55) rfl
theorem kf_coder_28 : ("java/lang/String", "coder", "B", (.inl 0 : jk_X), 28) ∈ jk_F := List.mem_of_getElem? (i := 56) rfl
theorem kf_coder_29 : ("java/lang/String", "coder", "B", (.inl 0 : jk_X), 29) ∈ jk_F := List.mem_of_getElem? (i := 57) rfl
theorem kf_coder_33 : ("java/lang/String", "coder", "B", (.inl 0 : jk_X), 33) ∈ jk_F := List.mem_of_getElem? (i := 58) rfl
theorem kf_coder_34 : ("java/lang/String", "coder", "B", (.inl 0 : jk_X), 34) ∈ jk_F := List.mem_of_getElem? (i := 59) rfl
theorem kf_coder_35 : ("java/lang/String", "coder", "B", (.inl 0 : jk_X), 35) ∈ jk_F := List.mem_of_getElem? (i := 60) rfl
theorem kf_coder_36 : ("java/lang/String", "coder", "B", (.inl 0 : jk_X), 36) ∈ jk_F := List.mem_of_getElem? (i := 61) rfl
theorem kf_coder_37 : ("java/lang/String", "coder", "B", (.inl 0 : jk_X), 37) ∈ jk_F := List.mem_of_getElem? (i := 62) rfl
theorem kf_coder_42 : ("java/lang/String", "coder", "B", (.inl 0 : jk_X), 42) ∈ jk_F := List.mem_of_getElem? (i := 63) rfl
theorem kf_coder_43 : ("java/lang/String", "coder", "B", (.inl 0 : jk_X), 43) ∈ jk_F := List.mem_of_getElem? (i := 64) rfl
theorem kf_coder_44 : ("java/lang/String", "coder", "B", (.inl 0 : jk_X), 44) ∈ jk_F := List.mem_of_getElem? (i := 65) rfl
theorem kf_coder_45 : ("java/lang/String", "coder", "B", (.inl 0 : jk_X), 45) ∈ jk_F := List.mem_of_getElem? (i := 66) rfl
theorem kf_coder_46 : ("java/lang/String", "coder", "B", (.inl 0 : jk_X), 46) ∈ jk_F := List.mem_of_getElem? (i := 67) rfl
theorem kf_coder_47 : ("java/lang/String", "coder", "B", (.inl 0 : jk_X), 47) ∈ jk_F := List.mem_of_getElem? (i := 68) rfl
theorem kf_value_10 : ("java/lang/String", "value", "[B", (.inr 210 : jk_X), 10) ∈ jk_F := List.mem_of_getElem? (i := 69) rfl
theorem kf_value_11 : ("java/lang/String", "value", "[B", (.inr 211 : jk_X), 11) ∈ jk_F := List.mem_of_getElem? (i := 70) rfl
theorem kf_value_12 : ("java/lang/String", "value", "[B", (.inr 212 : jk_X), 12) ∈ jk_F := List.mem_of_getElem? (i := 71) rfl
theorem kf_value_13 : ("java/lang/String", "value", "[B", (.inr 213 : jk_X), 13) ∈ jk_F := List.mem_of_getElem? (i := 72) rfl
theorem kf_value_14 : ("java/lang/String", "value", "[B", (.inr 214 : jk_X), 14) ∈ jk_F := List.mem_of_getElem? (i := 73) rfl
theorem kf_value_15 : ("java/lang/String", "value", "[B", (.inr 215 : jk_X), 15) ∈ jk_F := List.mem_of_getElem? (i := 74) rfl
theorem kf_value_16 : ("java/lang/String", "value", "[B", (.inr 216 : jk_X), 16) ∈ jk_F := List.mem_of_getElem? (i := 75) rfl
theorem kf_value_17 : ("java/lang/String", "value", "[B", (.inr 217 : jk_X), 17) ∈ jk_F := List.mem_of_getElem? (i := 76) rfl
theorem kf_value_18 : ("java/lang/String", "value", "[B", (.inr 218 : jk_X), 18) ∈ jk_F := List.mem_of_getElem? (i := 77) rfl
theorem kf_value_19 : ("java/lang/String", "value", "[B", (.inr 219 : jk_X), 19) ∈ jk_F := List.mem_of_getElem? (i := 78) rfl
theorem kf_value_20 : ("java/lang/String", "value", "[B", (.inr 220 : jk_X), 20) ∈ jk_F := List.mem_of_getElem? (i := 79) rfl
theorem kf_value_21 : ("java/lang/String", "value", "[B", (.inr 221 : jk_X), 21) ∈ jk_F := List.mem_of_getElem? (i := 80) rfl
theorem kf_value_22 : ("java/lang/String", "value", "[B", (.inr 222 : jk_X), 22) ∈ jk_F := List.mem_of_getElem? (i := 81) rfl
theorem kf_value_23 : ("java/lang/String", "value", "[B", (.inr 223 : jk_X), 23) ∈ jk_F := List.mem_of_getElem? (i := 82) rfl
theorem kf_value_24 : ("java/lang/String", "value", "[B", (.inr 224 : jk_X), 24) ∈ jk_F := List.mem_of_getElem? (i := 83) rfl
theorem kf_value_25 : ("java/lang/String", "value", "[B", (.inr 225 : jk_X), 25) ∈ jk_F := List.mem_of_getElem? (i := 84) rfl
theorem kf_value_26 : ("java/lang/String", "value", "[B", (.inr 226 : jk_X), 26) ∈ jk_F := List.mem_of_getElem? (i := 85) rfl
theorem kf_value_27 : ("java/lang/String", "value", "[B", (.inr 227 : jk_X), 27) ∈ jk_F := List.mem_of_getElem? (i := 86) rfl
theorem kf_value_28 : ("java/lang/String", "value", "[B", (.inr 228 : jk_X), 28) ∈ jk_F := List.mem_of_getElem? (i := 87) rfl
theorem kf_value_29 : ("java/lang/String", "value", "[B", (.inr 229 : jk_X), 29) ∈ jk_F := List.mem_of_getElem? (i := 88) rfl
theorem kf_value_33 : ("java/lang/String", "value", "[B", (.inr 233 : jk_X), 33) ∈ jk_F := List.mem_of_getElem? (i := 89) rfl
theorem kf_value_34 : ("java/lang/String", "value", "[B", (.inr 234 : jk_X), 34) ∈ jk_F := List.mem_of_getElem? (i := 90) rfl
theorem kf_value_35 : ("java/lang/String", "value", "[B", (.inr 235 : jk_X), 35) ∈ jk_F := List.mem_of_getElem? (i := 91) rfl
theorem kf_value_36 : ("java/lang/String", "value", "[B", (.inr 236 : jk_X), 36) ∈ jk_F := List.mem_of_getElem? (i := 92) rfl
theorem kf_value_37 : ("java/lang/String", "value", "[B", (.inr 237 : jk_X), 37) ∈ jk_F := List.mem_of_getElem? (i := 93) rfl
theorem kf_value_42 : ("java/lang/String", "value", "[B", (.inr 242 : jk_X), 42) ∈ jk_F := List.mem_of_getElem? (i := 94) rfl
theorem kf_value_43 : ("java/lang/String", "value", "[B", (.inr 243 : jk_X), 43) ∈ jk_F := List.mem_of_getElem? (i := 95) rfl
theorem kf_value_44 : ("java/lang/String", "value", "[B", (.inr 244 : jk_X), 44) ∈ jk_F := List.mem_of_getElem? (i := 96) rfl
theorem kf_value_45 : ("java/lang/String", "value", "[B", (.inr 245 : jk_X), 45) ∈ jk_F := List.mem_of_getElem? (i := 97) rfl
theorem kf_value_46 : ("java/lang/String", "value", "[B", (.inr 246 : jk_X), 46) ∈ jk_F := List.mem_of_getElem? (i := 98) rfl
theorem kf_value_47 : ("java/lang/String", "value", "[B", (.inr 247 : jk_X), 47) ∈ jk_F := List.mem_of_getElem? (i := 99) rfl
theorem kt_210 : ((.byte : FieldType), 210, ([.inl 123, .inl 123] : List jk_X)) ∈ jk_T := List.mem_of_getElem? (i := 0) rfl
theorem kt_211 : ((.byte : FieldType), 211, ([.inl 123, .inl 123, .inl 123] : List jk_X)) ∈ jk_T := List.mem_of_getElem? (i := 1) rfl
theorem kt_212 : ((.byte : FieldType), 212, ([.inl 125, .inl 125, .inl 125] : List jk_X)) ∈ jk_T := List.mem_of_getElem? (i := 2) rfl
theorem kt_213 : ((.byte : FieldType), 213, ([.inl 125, .inl 125] : List jk_X)) ∈ jk_T := List.mem_of_getElem? (i := 3) rfl
theorem kt_214 : ((.byte : FieldType), 214, ([.inl 33] : List jk_X)) ∈ jk_T := List.mem_of_getElem? (i := 4) rfl
theorem kt_215 : ((.byte : FieldType), 215, ([.inl 35, .inl 105, .inl 102, .inl 32] : List jk_X)) ∈ jk_T := List.mem_of_getElem? (i := 5) rfl
theorem kt_216 : ((.byte : FieldType), 216, ([.inl 35, .inl 101, .inl 97, .inl 99, .inl 104, .inl 32] : List jk_X)) ∈ jk_T := List.mem_of_getElem? (i := 6) rfl
theorem kt_217 : ((.byte : FieldType), 217, ([.inl 35, .inl 119, .inl 105, .inl 116, .inl 104, .inl 32] : List jk_X)) ∈ jk_T := List.mem_of_getElem? (i := 7) rfl
theorem kt_218 : ((.byte : FieldType), 218, ([.inl 62, .inl 32] : List jk_X)) ∈ jk_T := List.mem_of_getElem? (i := 8) rfl
theorem kt_219 : ((.byte : FieldType), 219, ([.inl 101, .inl 108, .inl 115, .inl 101] : List jk_X)) ∈ jk_T := List.mem_of_getElem? (i := 9) rfl
theorem kt_220 : ((.byte : FieldType), 220, ([.inl 47, .inl 105, .inl 102] : List jk_X)) ∈ jk_T := List.mem_of_getElem? (i := 10) rfl
theorem kt_221 : ((.byte : FieldType), 221, ([.inl 47, .inl 101, .inl 97, .inl 99, .inl 104] : List jk_X)) ∈ jk_T := List.mem_of_getElem? (i := 11) rfl
theorem kt_222 : ((.byte : FieldType), 222, ([.inl 47, .inl 119, .inl 105, .inl 116, .inl 104] : List jk_X)) ∈ jk_T := List.mem_of_getElem? (i := 12) rfl
theorem kt_223 : ((.byte : FieldType), 223, ([.inl 34] : List jk_X)) ∈ jk_T := List.mem_of_getElem? (i := 13) rfl
theorem kt_224 : ((.byte : FieldType), 224, ([.inl 64, .inl 105, .inl 110, .inl 100, .inl 101, .inl 120] : List jk_X)) ∈ jk_T := List.mem_of_getElem? (i := 14) rfl
theorem kt_225 : ((.byte : FieldType), 225, ([.inl 64, .inl 102, .inl 105, .inl 114, .inl 115, .inl 116] : List jk_X)) ∈ jk_T := List.mem_of_getElem? (i := 15) rfl
theorem kt_226 : ((.byte : FieldType), 226, ([.inl 46, .inl 46, .inl 47] : List jk_X)) ∈ jk_T := List.mem_of_getElem? (i := 16) rfl
theorem kt_227 : ((.byte : FieldType), 227, ([.inl 116, .inl 104, .inl 105, .inl 115] : List jk_X)) ∈ jk_T := List.mem_of_getElem? (i := 17) rfl
theorem kt_228 : ((.byte : FieldType), 228, ([.inl 46] : List jk_X)) ∈ jk_T := List.mem_of_getElem? (i := 18) rfl
theorem kt_229 : ((.byte : FieldType), 229, ([.inl 32] : List jk_X)) ∈ jk_T := List.mem_of_getElem? (i := 19) rfl
theorem kt_233 : ((.byte : FieldType), 233, ([.inl 91, .inl 109, .inl 97, .inl 112, .inl 93] : List jk_X)) ∈ jk_T := List.mem_of_getElem? (i := 20) rfl
theorem kt_234 : ((.byte : FieldType), 234, ([.inl 38, .inl 97, .inl 109, .inl 112, .inl 59] : List jk_X)) ∈ jk_T := List.mem_of_getElem? (i := 21) rfl
theorem kt_235 : ((.byte : FieldType), 235, ([.inl 38, .inl 108, .inl 116, .inl 59] : List jk_X)) ∈ jk_T := List.mem_of_getElem? (i := 22) rfl
theorem kt_236 : ((.byte : FieldType), 236, ([.inl 38, .inl 103, .inl 116, .inl 59] : List jk_X)) ∈ jk_T := List.mem_of_getElem? (i := 23) rfl
theorem kt_237 : ((.byte : FieldType), 237, ([.inl 38, .inl 113, .inl 117, .inl 111, .inl 116, .inl 59] : List jk_X)) ∈ jk_T := List.mem_of_getElem? (i := 24) rfl
theorem kt_242 : ((.byte : FieldType), 242, ([.inl 117, .inl 112, .inl 32] : List jk_X)) ∈ jk_T := List.mem_of_getElem? (i := 25) rfl
theorem kt_243 : ((.byte : FieldType), 243, ([.inl 108, .inl 101, .inl 110, .inl 32] : List jk_X)) ∈ jk_T := List.mem_of_getElem? (i := 26) rfl
theorem kt_244 : ((.byte : FieldType), 244, ([.inl 110, .inl 111, .inl 116, .inl 32] : List jk_X)) ∈ jk_T := List.mem_of_getElem? (i := 27) rfl
theorem kt_245 : ((.byte : FieldType), 245, ([.inl 97, .inl 100, .inl 100, .inl 32] : List jk_X)) ∈ jk_T := List.mem_of_getElem? (i := 28) rfl
theorem kt_246 : ((.byte : FieldType), 246, ([.inl 101, .inl 113, .inl 32] : List jk_X)) ∈ jk_T := List.mem_of_getElem? (i := 29) rfl
theorem kt_247 : ((.byte : FieldType), 247, ([.inl 97, .inl 116, .inl 32] : List jk_X)) ∈ jk_T := List.mem_of_getElem? (i := 30) rfl
theorem kt_300 : ((.int : FieldType), 300, ([.inl 0, .inl 10, .inl 11, .inl 12, .inl 8, .inl 9, .inl 1, .inl 2, .inl 3, .inl 4, .inl 5, .inl 6, .inl 7] : List jk_X)) ∈ jk_T := List.mem_of_getElem? (i := 31) rfl
theorem kt_301 : ((.int : FieldType), 301, ([.inl 0, .inl 1, .inl 2, .inl 3, .inl 4, .inl 5, .inl 6] : List jk_X)) ∈ jk_T := List.mem_of_getElem? (i := 32) rfl
theorem kt_302 : ((.int : FieldType), 302, ([.inl 0, .inl 2, .inl 3, .inl 1] : List jk_X)) ∈ jk_T := List.mem_of_getElem? (i := 33) rfl
theorem kt_303 : (((.object "TemplateEngine$Helper") : FieldType), 303, ([.inr 113, .inr 114, .inr 115, .inr 116, .inr 117, .inr 118, .inr 119] : List jk_X)) ∈ jk_T := List.mem_of_getElem? (i := 34) rfl
/-- the string n has the characters L -/
def sk_ok (n : Nat) (L : List Nat) : Prop := (FieldType.byte, 200 + n, L.map (fun c => (.inl (nI c) : jk_X))) ∈ jk_T ∧ ("java/lang/String", n) ∈ jk_O ∧ ("java/lang/String", "value", "[B", (.inr (200 + n) : jk_X), n) ∈ jk_F ∧ ("java/lang/String", "coder", "B", (.inl 0 : jk_X), n) ∈ jk_F ∧ (∀ c ∈ L, c < 128) ∧ L.length ≤ 100
theorem sk_10 : sk_ok 10 [123, 123] := ⟨kt_210, kq_10, kf_value_10, kf_coder_10, by decide, by decide⟩
theorem sk_11 : sk_ok 11 [123, 123, 123] := ⟨kt_211, kq_11, kf_value_11, kf_coder_11, by decide, by decide⟩
theorem sk_12 : sk_ok 12 [125, 125, 125] := ⟨kt_212, kq_12, kf_value_12, kf_coder_12, by decide, by decide⟩
theorem sk_13 : sk_ok 13 [125, 125] := ⟨kt_213, kq_13, kf_value_13, kf_coder_13, by decide, by decide⟩
theorem sk_14 : sk_ok 14 [33] := ⟨kt_214, kq_14, kf_value_14, kf_coder_14, by decide, by decide⟩
theorem sk_15 : sk_ok 15 [35, 105, 102, 32] := ⟨kt_215, kq_15, kf_value_15, kf_coder_15, by decide, by decide⟩
theorem sk_16 : sk_ok 16 [35, 101, 97, 99, 104, 32] := ⟨kt_216, kq_16, kf_value_16, kf_coder_16, by decide, by decide⟩
theorem sk_17 : sk_ok 17 [35, 119, 105, 116, 104, 32] := ⟨kt_217, kq_17, kf_value_17, kf_coder_17, by decide, by decide⟩
theorem sk_18 : sk_ok 18 [62, 32] := ⟨kt_218, kq_18, kf_value_18, kf_coder_18, by decide, by decide⟩
theorem sk_19 : sk_ok 19 [101, 108, 115, 101] := ⟨kt_219, kq_19, kf_value_19, kf_coder_19, by decide, by decide⟩
theorem sk_20 : sk_ok 20 [47, 105, 102] := ⟨kt_220, kq_20, kf_value_20, kf_coder_20, by decide, by decide⟩
theorem sk_21 : sk_ok 21 [47, 101, 97, 99, 104] := ⟨kt_221, kq_21, kf_value_21, kf_coder_21, by decide, by decide⟩
theorem sk_22 : sk_ok 22 [47, 119, 105, 116, 104] := ⟨kt_222, kq_22, kf_value_22, kf_coder_22, by decide, by decide⟩
theorem sk_23 : sk_ok 23 [34] := ⟨kt_223, kq_23, kf_value_23, kf_coder_23, by decide, by decide⟩
theorem sk_24 : sk_ok 24 [64, 105, 110, 100, 101, 120] := ⟨kt_224, kq_24, kf_value_24, kf_coder_24, by decide, by decide⟩
theorem sk_25 : sk_ok 25 [64, 102, 105, 114, 115, 116] := ⟨kt_225, kq_25, kf_value_25, kf_coder_25, by decide, by decide⟩
theorem sk_26 : sk_ok 26 [46, 46, 47] := ⟨kt_226, kq_26, kf_value_26, kf_coder_26, by decide, by decide⟩
theorem sk_27 : sk_ok 27 [116, 104, 105, 115] := ⟨kt_227, kq_27, kf_value_27, kf_coder_27, by decide, by decide⟩
theorem sk_28 : sk_ok 28 [46] := ⟨kt_228, kq_28, kf_value_28, kf_coder_28, by decide, by decide⟩
theorem sk_29 : sk_ok 29 [32] := ⟨kt_229, kq_29, kf_value_29, kf_coder_29, by decide, by decide⟩
theorem sk_33 : sk_ok 33 [91, 109, 97, 112, 93] := ⟨kt_233, kq_33, kf_value_33, kf_coder_33, by decide, by decide⟩
theorem sk_34 : sk_ok 34 [38, 97, 109, 112, 59] := ⟨kt_234, kq_34, kf_value_34, kf_coder_34, by decide, by decide⟩
theorem sk_35 : sk_ok 35 [38, 108, 116, 59] := ⟨kt_235, kq_35, kf_value_35, kf_coder_35, by decide, by decide⟩
theorem sk_36 : sk_ok 36 [38, 103, 116, 59] := ⟨kt_236, kq_36, kf_value_36, kf_coder_36, by decide, by decide⟩
theorem sk_37 : sk_ok 37 [38, 113, 117, 111, 116, 59] := ⟨kt_237, kq_37, kf_value_37, kf_coder_37, by decide, by decide⟩
theorem sk_42 : sk_ok 42 [117, 112, 32] := ⟨kt_242, kq_42, kf_value_42, kf_coder_42, by decide, by decide⟩
theorem sk_43 : sk_ok 43 [108, 101, 110, 32] := ⟨kt_243, kq_43, kf_value_43, kf_coder_43, by decide, by decide⟩
theorem sk_44 : sk_ok 44 [110, 111, 116, 32] := ⟨kt_244, kq_44, kf_value_44, kf_coder_44, by decide, by decide⟩
theorem sk_45 : sk_ok 45 [97, 100, 100, 32] := ⟨kt_245, kq_45, kf_value_45, kf_coder_45, by decide, by decide⟩
theorem sk_46 : sk_ok 46 [101, 113, 32] := ⟨kt_246, kq_46, kf_value_46, kf_coder_46, by decide, by decide⟩
theorem sk_47 : sk_ok 47 [97, 116, 32] := ⟨kt_247, kq_47, kf_value_47, kf_coder_47, by decide, by decide⟩
