/-! Enum.ordinal on an enum constant -/
theorem od_link : Cond.fieldLink "java/lang/Enum" 7 "java/lang/Enum" "ordinal" "I" ∈ jw_big := jt_i6 222 rfl rfl
def od_N (C : String) : MethodName := ⟨C, "ordinal", "()I"⟩
theorem od_sameS : Cond.sameMethod "TemplateEngine$Sort" "java/lang/Enum" "ordinal" "()I" ∈ jw_big := jt_i3 163 rfl rfl
theorem od_selS : Cond.selects "TemplateEngine$Sort" (od_N "TemplateEngine$Sort") m_jE_ordinal.1 ∈ jw_big := jt_i3 165 rfl rfl
theorem od_sameH : Cond.sameMethod "TemplateEngine$Helper" "java/lang/Enum" "ordinal" "()I" ∈ jw_big := jt_i4 125 rfl rfl
theorem od_selH : Cond.selects "TemplateEngine$Helper" (od_N "TemplateEngine$Helper") m_jE_ordinal.1 ∈ jw_big := jt_i4 126 rfl rfl
theorem od_sameO : Cond.sameMethod "TemplateEngine$OperandSort" "java/lang/Enum" "ordinal" "()I" ∈ jw_big := jt_i4 103 rfl rfl
theorem od_selO : Cond.selects "TemplateEngine$OperandSort" (od_N "TemplateEngine$OperandSort") m_jE_ordinal.1 ∈ jw_big := jt_i4 104 rfl rfl
theorem od_met (g : jg_G) {h : jh_H} {a : Nat} {x : Int32} (hf : ("java/lang/Enum", "ordinal", "I", (.inl x : jk_X), a) ∈ jk_F) : Met (jg_l g) m_jE_ordinal.1 (jw_ws m_jE_ordinal) { frames := 0, cells := 0, slots := 0, locals := 0 } (jw_Pc g [.inr (.inr (some (jg_c g a)))] h) (va_Qi (fun r (_ : Unit) => r = x) (fun _ t => jh_P g h t.heap) (jg_S g)) 0 0 (jg_S g) := by
  refine Met.ofW (cc := m_jE_ordinal.2.1) (maxL := 1) (ret := some .int) (by decide) rfl ?_
  intro p e s m args below meth c s₁ B hml hv
  obtain ⟨rfl, hP, hwd⟩ := hv
  have hts := atoms_spec (ws := jw_ws m_jE_ordinal) B.pre
  have hok := k_jE_ordinal
  have hown : s.vm.findClass "java/lang/Enum" = some m.cls := findClass_of_methodNamed B.named
  have hl := lv_entry (List.map jv [(.inr (.inr (some (jg_c g a))) : jV)]) (n := 1) (Nat.le_of_ble_eq_true rfl)
  rw [lg_entry_eq]
  generalize (lg_sl (List.map jv [(.inr (.inr (some (jg_c g a))) : jV)]) ++ List.replicate (1 - (lg_sl (List.map jv [(.inr (.inr (some (jg_c g a))) : jV)])).length) Slot.unset).toArray = arr at hl ⊢
  have hl : lv_has arr 1 [(0, .ref (jg_c g a))] := hl
  refine lv_aload_n B.exec B.bytes (hok 0 _ rfl) rfl (lv_at hl 0 rfl) ?_
  have hZ : va_OF "java/lang/Enum" "ordinal" "I" (.int x) (jg_c g a) (jg_S g) s s.heap := (jc_con_K hwd.2.2).2.2.1 _ hf
  have hlink : (Cond.fieldLink "java/lang/Enum" 7 "java/lang/Enum" "ordinal" "I").before (List.map jv [(.inr (.inr (some (jg_c g a))) : jV)]).toArray s = true := hts _ (List.mem_cons_of_mem _ od_link)
  refine vk_getf B.exec B.bytes hZ va_S.rf hown hlink (fun _ z => z) (hok 1 _ rfl) ?_
  exact W.zret B.exec B.bytes B.returns (show narrow .int (.int x) = .int x from rfl) (fun t ht hW => ⟨⟨x, (), rfl, rfl, by show jh_P g h t.heap; rw [ht]; exact hP⟩, by rw [va_F, ht]; exact ⟨Nat.le_refl _, fun _ _ _ => rfl⟩⟩) (fun _ hl9 => absurd hl9 (by simp)) (hok 4 _ rfl) B.notSynchronized
section JOR
variable {g : jg_G} {d : Nat} {M : jw_M} {T : Code → Prop} {pc : Nat} {ls : List (Option jV)} {st : List jV} {h : jh_H} {kc ks : Nat} {Q : jw_O → jh_H → Prop}
theorem jw_ord {idx a : Nat} {x : Int32} {C : String} (hd : M.2.2.2.2 pc = some (.invokevirtual idx, 3)) (hk : Cond.methodLink M.1.cls idx (od_N C) ∈ jw_big) (hsm : Cond.sameMethod C "java/lang/Enum" "ordinal" "()I" ∈ jw_big) (hse : Cond.selects C (od_N C) m_jE_ordinal.1 ∈ jw_big) (ho : (C, a) ∈ jk_O) (hf : ("java/lang/Enum", "ordinal", "I", (.inl x : jk_X), a) ∈ jk_F) (hd1 : 1 ≤ d) (hst0 : (st.map jv_c).sum ≤ 8) (k : jw_J g d M T (pc + 3) ls (.inl x :: st) h kc ks Q) : jw_J g d M T pc ls (.inr (.inr (some (jg_c g a))) :: st) h kc ks Q := by
  have hst0 : ((st.map jv).map fun v => v.category).sum ≤ 8 := by rw [jv_sum]; exact hst0
  intro p e s m args below meth c R Z H locs cells slots arr hA hT hE hP hS hl hc hs
  obtain ⟨hx, hb, hml, hown, hts, hr, hlk, hnm, hwd, hdf, hdl, hst, hok⟩ := id hA
  have hrec : ∃ cell : Cell, H[jg_c g a]? = some cell ∧ cell.vm.isStatics = false ∧ s.vm.findClass C = some cell.cls := by
    obtain ⟨cell, h1, h2, h3, -⟩ := ((jc_con_K hwd.2.2).2.1 _ ho).kept hS.2.1
    exact ⟨cell, h1, h2, h3⟩
  have hgood : GoodIn jw_big (va_wsU M.1.cls idx C "java/lang/Enum" (od_N C) m_jE_ordinal.1 (jw_ws m_jE_ordinal)) := by
    intro w hw
    rcases List.mem_append.mp hw with hw | hw
    · have hw : w = Cond.methodLink M.1.cls idx (od_N C) ∨ w = Cond.sameMethod C "java/lang/Enum" "ordinal" "()I" ∨ w = Cond.selects C (od_N C) m_jE_ordinal.1 ∨ w = Cond.instanceMethod m_jE_ordinal.1 ∨ w = Cond.initialized m_jE_ordinal.1.cls := by simpa [od_N] using hw
      rcases hw with rfl | rfl | rfl | rfl | rfl
      · exact jw_good hk
      · exact jw_good hsm
      · exact jw_good hse
      · exact jw_good i_jE_ordinal
      · exact jw_good l_jE_ordinal.2.1
    · exact jw_goodIn l_jE_ordinal.1 w hw
  have cw := va_cwU (R := R) (s := s) (args := args) (own := M.1.cls) (C := C) (owner := "java/lang/Enum") (index := idx) (maxL := 1) (mc := 0) (ms := 0) (x := od_N C) (y := m_jE_ordinal.1) (bytes := m_jE_ordinal.2.1) (ret := some .int) (ws := jw_ws m_jE_ordinal) (rm := { frames := 0, cells := 0, slots := 0, locals := 0 }) 0 hts hgood rfl rfl rfl rfl ⟨by decide, by decide, by show (parseMethodDescriptor "()I").map _ = _; decide +kernel⟩ ⟨by show 0 + 1 ≤ _; omega, by show 8 + (1 + 11) + 0 ≤ _; omega⟩
  have hpre := jw_pre hA hP hS [.inr (.inr (some (jg_c g a)))]
  have hrun := va_runU (nL := M.2.2.1) (cc := M.2.1) (As := []) (rest := st.map jv) (g := F0 m pc arr (.ref (jg_c g a) :: st.map jv)) (b := jg_c g a) (cells := cells) (slots := slots) (locs := locs) (H := H) (below := below) (e := e) (meth := meth) (p := p) ⟨hx, hb, hml, hown, hts⟩ (od_met g hf) cw ⟨jw_blind, hrec, hpre⟩ rfl rfl hl.1 rfl (lv_room hst0) (hok _ _ hd) ⟨by omega, by omega⟩
  refine va_calli (A0 := jg_S g) (H0 := s.heap) hrun hS (fun _ _ z => z) (fun _ z => z) ?_
  intro r u t H1 locs1 ht1 hal hp hB hsz hkept hS1
  have hp : r = x := hp
  subst hp
  exact k p e s m args below meth c R Z H1 locs1 (cells + 0) (slots + 0) arr hA hT hE (by rw [← ht1]; exact hB) hS1 hl hc hs
end JOR
