/-! the model: a whole expression -/
theorem sp_isExpr_0 {t : Nat → Nat} {p e : Nat} (h : sp_isExpr t p e = true) (h0 : sp_helper t p e = 0) : sp_operandEnd t p e = some e ∧ p < e := by
  rw [sp_isExpr, if_pos h0] at h
  exact of_decide_eq_true h
theorem sp_isExpr_1 {t : Nat → Nat} {p e : Nat} (h : sp_isExpr t p e = true) (h0 : sp_helper t p e ≠ 0) : ∃ k, sp_operandEnd t (p + sp_hs (sp_helper t p e)) e = some k ∧ (sp_helper t p e < 4 → k = e) ∧ (¬ sp_helper t p e < 4 → sp_at t k e = 32 ∧ sp_operandEnd t (k + 1) e = some e) := by
  rw [sp_isExpr, if_neg h0] at h
  cases ho : sp_operandEnd t (p + sp_hs (sp_helper t p e)) e with
  | none => rw [ho] at h; cases h
  | some k =>
    rw [ho] at h
    refine ⟨k, rfl, fun z => ?_, fun z => ?_⟩
    · simp only [if_pos z] at h; exact of_decide_eq_true h
    · simp only [if_neg z] at h; exact of_decide_eq_true h
section EVX
variable {D : sd_D} {C : Nat → sv_T} {cn : Nat} {tn : Option Nat} {a b : ex_O}
theorem ev_ex_0 : ev_ex D C cn tn (0, a, b) = some (ev_op D C cn tn a) := rfl
theorem ev_ex_1 : ev_ex D C cn tn (1, a, b) = (if 400 < (sv_raw D (ev_op D C cn tn a)).length then none else some (some (.inr (.inl ((sv_raw D (ev_op D C cn tn a)).map ev_up))))) := rfl
theorem ev_ex_2 : ev_ex D C cn tn (2, a, b) = some (some (.inl (nI (sv_len D (ev_op D C cn tn a))))) := rfl
theorem ev_ex_3 : ev_ex D C cn tn (3, a, b) = some (some (.inl (sp_b (sv_false D (ev_op D C cn tn a))))) := rfl
theorem ev_ex_4 : ev_ex D C cn tn (4, a, b) = some (match ev_num (ev_op D C cn tn a), ev_num (ev_op D C cn tn b) with | some a, some b => some (.inl (a + b)) | _, _ => none) := rfl
theorem ev_ex_5 : ev_ex D C cn tn (5, a, b) = (if 400 < (sv_raw D (ev_op D C cn tn a)).length ∨ 400 < (sv_raw D (ev_op D C cn tn b)).length then none else some (some (.inl (sp_b (decide (sv_raw D (ev_op D C cn tn a) = sv_raw D (ev_op D C cn tn b))))))) := rfl
theorem ev_ex_6 : ev_ex D C cn tn (6, a, b) = some (ev_el D (ev_op D C cn tn a) (match ev_num (ev_op D C cn tn b) with | some b => b | none => -1)) := rfl
end EVX
set_option maxHeartbeats 4000000 in
set_option maxRecDepth 100000 in
theorem cm_expr {g : jg_G} (hg : (jg_l g).stackTraces = false) {h : jh_H} {mo : Nat} {ar t : Nat → Nat} {n p e cn m : Nat} {D : sd_D} {C : Nat → sv_T} {Fr : Nat → fr_T} {Q : jw_O → jh_H → Prop} (hm : mo_ok h mo ar) (hD : mo_D h ar n D) (hdp : ∀ x, x < n → sd_dp D 60 x) (ht : mo_tx h ar t) (hcx : cx_ok h mo ar n D cn C) (hu : un_ok h mo ar m Fr) (hf0 : jh_i h mo 550 = 0) (hp : p ≤ e) (he : e ≤ 900) (hpe : e ≤ p + 300) (hx : sp_isExpr t p e = true)
    (hq : ∀ h', mo_fx h h' mo ar xp_F sr_G → (match ev_ex D C cn (fr_turn Fr m) (ex_ex t p e) with | none => jh_i h' mo 550 = 4 | some v => jh_i h' mo 550 = 0 ∧ mo_R h' ar n D 2 v) → Q (.inl none) h') : jw_C g 6 0 0 m_M_expr [.inr (.inr (some mo)), .inl (nI p), .inl (nI e)] h Q := by
  refine jw_intro (ls := [some (.inr (.inr (some mo))), some (.inl (nI p)), some (.inl (nI e)), none, none, none]) (by decide) k_M_expr rfl (by simp [lo_fit, jv_c]) hg ?_
  have hk3 : ∀ x, x < n → sd_k D x ≤ 3 := fun x hx => (hD.2 x hx).2.1
  rw [ex_ex] at hq
  refine jw_aload_n rfl rfl ?_
  refine jw_iload_n rfl rfl ?_
  refine jw_iload_n rfl rfl ?_
  refine js_call (As := [.inl (nI p), .inl (nI e)]) rfl l_M_helper c_M_230 i_M_helper s_M_helper jc_o8 rfl hm.1 rfl (cm_helper hg hm ht hp (by omega) ?_) (by decide) (Nat.le_of_ble_eq_true rfl) (by omega) (by omega) rfl
  refine js_istore_n rfl rfl (by decide) rfl ?_
  refine jw_iload_n rfl rfl ?_
  by_cases h0 : sp_helper t p e = 0
  · rw [if_pos h0, ev_ex_0] at hq
    rw [h0]
    obtain ⟨ho, hlt⟩ := sp_isExpr_0 hx h0
    have hge := sp_operandEnd_ge t hp ho
    refine jw_if_ne 19 rfl rfl (fun z => absurd (rfl) z) (fun _ => ?_)
    refine jw_aload_n rfl rfl ?_
    refine js_iconst (x := 2) rfl rfl ?_
    refine jw_iload_n rfl rfl ?_
    refine jw_iload_n rfl rfl ?_
    refine js_call (As := [.inl (nI 2), .inl (nI p), .inl (nI e)]) rfl l_M_operand c_M_336 i_M_operand s_M_operand jc_o8 rfl hm.1 rfl (cm_operand hg hm hD ht hcx hu (by decide) hp he hpe hge.2 (fun h' f' v' => ?_)) (by decide) (Nat.le_of_ble_eq_true rfl) (by omega) (by omega) rfl
    refine jw_return rfl rfl ?_
    exact hq h' (xp_rg (by decide) f') ⟨(mo_fx.rdi f' (fun z => z)).trans hf0, v'⟩
  rw [if_neg h0] at hq
  obtain ⟨k, hk, hk1, hk2⟩ := sp_isExpr_1 hx h0
  obtain ⟨hle, hh6⟩ := sp_helper_le t hp h0
  rw [hk] at hq
  have hke := sp_operandEnd_le t hle hk
  have hkg := sp_operandEnd_ge t hle hk
  generalize hH : sp_helper t p e = H at *
  generalize hS : p + sp_hs H = s at *
  simp only [Option.getD_some] at hq
  refine jw_if_ne 19 rfl rfl (fun _ => ?_) (fun z => absurd z (nI_ne0 (by omega) (by omega)))
  refine jw_iload_n rfl rfl ?_
  refine jw_aload_n rfl rfl ?_
  refine jw_iload_n rfl rfl ?_
  refine js_call (As := [.inl (nI H)]) rfl l_M_nameSize c_M_236 i_M_nameSize s_M_nameSize jc_o8 rfl hm.1 rfl (cm_nameSize hg (by omega) ?_) (by decide) (Nat.le_of_ble_eq_true rfl) (by omega) (by omega) rfl
  refine jw_iaddV rfl ((nI_add _ _).trans (congrArg nI hS)) ?_
  refine js_istore rfl rfl (by decide) rfl ?_
  refine jw_aload_n rfl rfl ?_
  refine jw_iload rfl rfl ?_
  refine jw_iload_n rfl rfl ?_
  refine js_call (As := [.inl (nI s), .inl (nI e)]) rfl l_M_operandEnd c_M_233 i_M_operandEnd s_M_operandEnd jc_o8 rfl hm.1 rfl (cm_operandEnd hg hm ht hle (by omega) ?_) (by decide) (Nat.le_of_ble_eq_true rfl) (by omega) (by omega) rfl
  rw [hk]
  refine js_istore rfl rfl (by decide) rfl ?_
  refine jw_aload_n rfl rfl ?_
  refine js_iconst (x := 0) rfl rfl ?_
  refine jw_iload rfl rfl ?_
  refine jw_iload rfl rfl ?_
  refine js_call (As := [.inl (nI 0), .inl (nI s), .inl (nI k)]) rfl l_M_operand c_M_336 i_M_operand s_M_operand jc_o8 rfl hm.1 rfl (cm_operand hg hm hD ht hcx hu (by decide) (by omega) (by omega) (by omega) hkg.2 (fun h1 f1 v1 => ?_)) (by decide) (Nat.le_of_ble_eq_true rfl) (by omega) (by omega) rfl
  have hm1 := mo_fx.ok f1 hm
  have ht1 := mo_tx.rg hm f1 ht
  have hD1 := mo_D.rg hm f1 hD
  have hcx1 := cx_ok.rg hm f1 (by decide) hcx
  have hu1 := un_ok.rg hm f1 hu
  have F1 := xp_rg (r := 0) (by decide) f1
  have e1 : jh_i h1 mo 550 = 0 := (mo_fx.rdi f1 (fun z => z)).trans hf0
  generalize hV0 : ev_op D C cn (fr_turn Fr m) (ex_op t s k) = V0 at *
  -- with one operand
  have one : H < 4 → jw_J g 6 m_M_expr jw_T0 61 [some (.inr (.inr (some mo))), some (.inl (nI p)), some (.inl (nI e)), some (.inl (nI H)), none, none] [] h1 0 0 Q := by
    intro h4
    rcases (show H = 1 ∨ H = 2 ∨ H = 3 by omega) with rfl | rfl | rfl
    · refine jw_iload_n rfl rfl ?_
      refine js_iconst (x := 1) rfl rfl ?_
      refine jw_icmp_ne 70 rfl rfl (fun z => absurd (rfl) z) (fun _ => ?_)
      refine jw_aload_n rfl rfl ?_
      refine js_call (As := []) rfl l_M_upper c_M_339 i_M_upper s_M_upper jc_o8 rfl hm1.1 rfl (cm_upper hg hm1 hD1 hdp v1 (fun h2 f2 e2 v2 => ?_)) (by decide) (Nat.le_of_ble_eq_true rfl) (by omega) (by omega) rfl
      refine jw_iload_n rfl rfl ?_
      refine js_iconst (x := 2) rfl rfl ?_
      refine jw_icmp_ne 85 rfl rfl (fun _ => ?_) (fun z => absurd z (by decide))
      refine jw_iload_n rfl rfl ?_
      refine js_iconst (x := 3) rfl rfl ?_
      refine jw_icmp_ne 108 rfl rfl (fun _ => ?_) (fun z => absurd z (by decide))
      refine jw_iload_n rfl rfl ?_
      refine js_iconst (x := 5) rfl rfl ?_
      refine jw_icmp_ne 130 rfl rfl (fun _ => ?_) (fun z => absurd z (by decide))
      refine jw_iload_n rfl rfl ?_
      refine js_iconst (x := 4) rfl rfl ?_
      refine jw_icmp_ne 174 rfl rfl (fun _ => ?_) (fun z => absurd z (by decide))
      refine jw_iload_n rfl rfl ?_
      refine js_iconst (x := 4) rfl rfl ?_
      refine jw_icmp_ne 184 rfl rfl (fun _ => ?_) (fun z => absurd z (by decide))
      refine jw_iload_n rfl rfl ?_
      refine js_bipush (x := 6) rfl rfl ?_
      refine jw_icmp_ne 220 rfl rfl (fun _ => ?_) (fun z => absurd z (by decide))
      refine jw_return rfl rfl ?_
      refine hq h2 (mo_fx.tr F1 f2 (fun _ _ z => z) (fun _ z => z)) ?_
      rw [ev_ex_1]
      rw [hV0]
      by_cases z : 400 < (sv_raw D V0).length
      · rw [if_pos z] at e2 ⊢; exact e2
      · rw [if_neg z] at e2 ⊢; exact ⟨e2.trans e1, v2 (by omega)⟩
    · refine jw_iload_n rfl rfl ?_
      refine js_iconst (x := 1) rfl rfl ?_
      refine jw_icmp_ne 70 rfl rfl (fun _ => ?_) (fun z => absurd z (by decide))
      refine jw_iload_n rfl rfl ?_
      refine js_iconst (x := 2) rfl rfl ?_
      refine jw_icmp_ne 85 rfl rfl (fun z => absurd (rfl) z) (fun _ => ?_)
      refine jw_aload_n rfl rfl ?_
      refine js_iconst (x := 2) rfl rfl ?_
      refine jw_aload_n rfl rfl ?_
      refine js_iconst (x := 0) rfl rfl ?_
      refine js_call (As := [.inl (nI 0)]) rfl l_M_lengthOf c_M_307 i_M_lengthOf s_M_lengthOf jc_o8 rfl hm1.1 rfl (cm_lengthOf hg hm1 hD1 hdp (by decide) v1 (fun h2 f2 => ?_)) (by decide) (Nat.le_of_ble_eq_true rfl) (by omega) (by omega) rfl
      have hm2 := mo_fx.ok f2 hm1
      refine js_call (As := [.inl (nI 2), .inl (nI (sv_len D V0))]) rfl l_M_setNumber c_M_320 i_M_setNumber s_M_setNumber jc_o8 rfl hm2.1 rfl (cm_setNumber hg hm2 (by decide) ?_) (by decide) (Nat.le_of_ble_eq_true rfl) (by omega) (by omega) rfl
      refine jw_iload_n rfl rfl ?_
      refine js_iconst (x := 3) rfl rfl ?_
      refine jw_icmp_ne 108 rfl rfl (fun _ => ?_) (fun z => absurd z (by decide))
      refine jw_iload_n rfl rfl ?_
      refine js_iconst (x := 5) rfl rfl ?_
      refine jw_icmp_ne 130 rfl rfl (fun _ => ?_) (fun z => absurd z (by decide))
      refine jw_iload_n rfl rfl ?_
      refine js_iconst (x := 4) rfl rfl ?_
      refine jw_icmp_ne 174 rfl rfl (fun _ => ?_) (fun z => absurd z (by decide))
      refine jw_iload_n rfl rfl ?_
      refine js_iconst (x := 4) rfl rfl ?_
      refine jw_icmp_ne 184 rfl rfl (fun _ => ?_) (fun z => absurd z (by decide))
      refine jw_iload_n rfl rfl ?_
      refine js_bipush (x := 6) rfl rfl ?_
      refine jw_icmp_ne 220 rfl rfl (fun _ => ?_) (fun z => absurd z (by decide))
      refine jw_return rfl rfl ?_
      refine hq _ (mo_fx.tr (mo_fx.tr F1 f2 (fun _ _ z => Or.inl z) (fun _ z => Or.inl z)) (xp_rg (r := 2) (by decide) rg_numf) (fun _ _ z => z) (fun _ z => z)) ?_
      rw [ev_ex_2]
      rw [hV0]
      exact ⟨(mo_fx.rdi f2 (by unfold rd_G; decide)).trans e1, rg_numv hm⟩
    · refine jw_iload_n rfl rfl ?_
      refine js_iconst (x := 1) rfl rfl ?_
      refine jw_icmp_ne 70 rfl rfl (fun _ => ?_) (fun z => absurd z (by decide))
      refine jw_iload_n rfl rfl ?_
      refine js_iconst (x := 2) rfl rfl ?_
      refine jw_icmp_ne 85 rfl rfl (fun _ => ?_) (fun z => absurd z (by decide))
      refine jw_iload_n rfl rfl ?_
      refine js_iconst (x := 3) rfl rfl ?_
      refine jw_icmp_ne 108 rfl rfl (fun z => absurd (rfl) z) (fun _ => ?_)
      refine jw_aload_n rfl rfl ?_
      refine js_iconst (x := 2) rfl rfl ?_
      refine jw_aload_n rfl rfl ?_
      refine js_iconst (x := 0) rfl rfl ?_
      refine js_call (As := [.inl (nI 0)]) rfl l_M_isFalse c_M_342 i_M_isFalse s_M_isFalse jc_o8 rfl hm1.1 rfl (cm_isFalse hg hm1 hD1 hdp (by decide) v1 (fun h2 f2 => ?_)) (by decide) (Nat.le_of_ble_eq_true rfl) (by omega) (by omega) rfl
      have hm2 := mo_fx.ok f2 hm1
      have fin : ∀ w, w = sp_b (sv_false D V0) → jw_J g 6 m_M_expr jw_T0 105 [some (.inr (.inr (some mo))), some (.inl (nI p)), some (.inl (nI e)), some (.inl (nI 3)), none, none] [.inl w, .inl (nI 2), .inr (.inr (some mo))] h2 0 0 Q := by
        intro w hw
        refine js_call (As := [.inl (nI 2), .inl w]) rfl l_M_setNumber c_M_320 i_M_setNumber s_M_setNumber jc_o8 rfl hm2.1 rfl (cm_setNumber hg hm2 (by decide) ?_) (by decide) (Nat.le_of_ble_eq_true rfl) (by omega) (by omega) rfl
        refine jw_iload_n rfl rfl ?_
        refine js_iconst (x := 5) rfl rfl ?_
        refine jw_icmp_ne 130 rfl rfl (fun _ => ?_) (fun z => absurd z (by decide))
        refine jw_iload_n rfl rfl ?_
        refine js_iconst (x := 4) rfl rfl ?_
        refine jw_icmp_ne 174 rfl rfl (fun _ => ?_) (fun z => absurd z (by decide))
        refine jw_iload_n rfl rfl ?_
        refine js_iconst (x := 4) rfl rfl ?_
        refine jw_icmp_ne 184 rfl rfl (fun _ => ?_) (fun z => absurd z (by decide))
        refine jw_iload_n rfl rfl ?_
        refine js_bipush (x := 6) rfl rfl ?_
        refine jw_icmp_ne 220 rfl rfl (fun _ => ?_) (fun z => absurd z (by decide))
        refine jw_return rfl rfl ?_
        refine hq _ (mo_fx.tr (mo_fx.tr F1 f2 (fun _ _ z => Or.inl z) (fun _ z => Or.inl z)) (xp_rg (r := 2) (by decide) rg_numf) (fun _ _ z => z) (fun _ z => z)) ?_
        rw [ev_ex_3]
        rw [hV0, ← hw]
        exact ⟨(mo_fx.rdi f2 (by unfold rd_G; decide)).trans e1, rg_numv hm⟩
      cases hb : sv_false D V0 with
      | true =>
        refine jw_if_eq 104 rfl rfl (fun z => absurd z (by decide)) (fun _ => ?_)
        refine js_iconst (x := 1) rfl rfl ?_
        refine jw_goto 105 rfl rfl ?_
        exact fin _ (by rw [hb]; rfl)
      | false =>
        refine jw_if_eq 104 rfl rfl (fun _ => ?_) (fun z => absurd (rfl) z)
        refine js_iconst (x := 0) rfl rfl ?_
        exact fin _ (by rw [hb]; rfl)
  by_cases h4 : H < 4
  · refine jw_iload_n rfl rfl ?_
    refine js_iconst (x := 3) rfl rfl ?_
    refine jw_icmp_le 61 rfl rfl (fun _ => ?_) (fun z => absurd ((nI_leI (b := 3) (by omega) (by omega)).mpr (by omega)) z)
    exact js_drop 4 rfl (js_drop 5 rfl (one h4))
  obtain ⟨k32, ho2⟩ := hk2 h4
  have hke2 := sp_at_lt2 k32 (by decide)
  have hkg2 := sp_operandEnd_ge t (show k + 1 ≤ e by omega) ho2
  rw [if_pos (by omega)] at hq
  refine jw_iload_n rfl rfl ?_
  refine js_iconst (x := 3) rfl rfl ?_
  refine jw_icmp_le 61 rfl rfl (fun z => absurd z (fun z => absurd ((nI_leI (b := 3) (by omega) (by omega)).mp z) (by omega))) (fun _ => ?_)
  refine jw_aload_n rfl rfl ?_
  refine js_iconst (x := 1) rfl rfl ?_
  refine jw_iload rfl rfl ?_
  refine js_iconst (x := 1) rfl rfl ?_
  refine jw_iaddV rfl (nI_1 k) ?_
  refine jw_iload_n rfl rfl ?_
  refine js_call (As := [.inl (nI 1), .inl (nI (k + 1)), .inl (nI e)]) rfl l_M_operand c_M_336 i_M_operand s_M_operand jc_o8 rfl hm1.1 rfl (cm_operand hg hm1 hD1 ht1 hcx1 hu1 (by decide) (by omega) (by omega) (by omega) hkg2.2 (fun h2 f2 w2 => ?_)) (by decide) (Nat.le_of_ble_eq_true rfl) (by omega) (by omega) rfl
  have hm2 := mo_fx.ok f2 hm1
  have hD2 := mo_D.rg hm1 f2 hD1
  have F2 : mo_fx h h2 mo ar xp_F sr_G := mo_fx.tr F1 (xp_rg (r := 1) (by decide) f2) (fun _ _ z => z) (fun _ z => z)
  have v2 : mo_R h2 ar n D 0 V0 := mo_R.fx hm1 f2 (fun k j z => ⟨rg_F_in z, fun z2 => by rcases z with ⟨_, e⟩ | ⟨_, e⟩ <;> rcases z2 with ⟨_, e2⟩ | ⟨_, e2⟩ <;> omega⟩) (by decide) v1
  have e2 : jh_i h2 mo 550 = 0 := (mo_fx.rdi f2 (fun z => z)).trans e1
  generalize hV1 : ev_op D C cn (fr_turn Fr m) (ex_op t (k + 1) e) = V1 at *
  rcases (show H = 4 ∨ H = 5 ∨ H = 6 by omega) with rfl | rfl | rfl
  · rw [ev_ex_4] at hq
    rw [hV0, hV1] at hq
    have no : (ev_num V0 = none ∨ ev_num V1 = none) → jw_J g 6 m_M_expr jw_T0 174 [some (.inr (.inr (some mo))), some (.inl (nI p)), some (.inl (nI e)), some (.inl (nI 4)), some (.inl (nI s)), some (.inl (nI k))] [] h2 0 0 Q := by
      intro hn
      refine jw_iload_n rfl rfl ?_
      refine js_iconst (x := 4) rfl rfl ?_
      refine jw_icmp_ne 184 rfl rfl (fun z => absurd (rfl) z) (fun _ => ?_)
      refine jw_aload_n rfl rfl ?_
      refine js_iconst (x := 2) rfl rfl ?_
      refine js_call (As := [.inl (nI 2)]) rfl l_M_nothing c_M_310 i_M_nothing s_M_nothing jc_o8 rfl hm2.1 rfl (cm_nothing hg hm2 (by decide) ?_) (by decide) (Nat.le_of_ble_eq_true rfl) (by omega) (by omega) rfl
      refine jw_iload_n rfl rfl ?_
      refine js_bipush (x := 6) rfl rfl ?_
      refine jw_icmp_ne 220 rfl rfl (fun _ => ?_) (fun z => absurd z (by decide))
      refine jw_return rfl rfl ?_
      refine hq _ (mo_fx.tr F2 (xp_rg (r := 2) (by decide) rg_nonef) (fun _ _ z => z) (fun _ z => z)) ⟨e2, ?_⟩
      have e : (match ev_num V0, ev_num V1 with | some a, some b => (some (.inl (a + b)) : sv_T) | _, _ => none) = none := by
        rcases hn with hn | hn
        · rw [hn]
        · rw [hn]; cases ev_num V0 <;> rfl
      rw [e]
      exact rg_nonev
    refine jw_iload_n rfl rfl ?_
    refine js_iconst (x := 1) rfl rfl ?_
    refine jw_icmp_ne 70 rfl rfl (fun _ => ?_) (fun z => absurd z (by decide))
    refine jw_iload_n rfl rfl ?_
    refine js_iconst (x := 2) rfl rfl ?_
    refine jw_icmp_ne 85 rfl rfl (fun _ => ?_) (fun z => absurd z (by decide))
    refine jw_iload_n rfl rfl ?_
    refine js_iconst (x := 3) rfl rfl ?_
    refine jw_icmp_ne 108 rfl rfl (fun _ => ?_) (fun z => absurd z (by decide))
    refine jw_iload_n rfl rfl ?_
    refine js_iconst (x := 5) rfl rfl ?_
    refine jw_icmp_ne 130 rfl rfl (fun _ => ?_) (fun z => absurd z (by decide))
    refine jw_iload_n rfl rfl ?_
    refine js_iconst (x := 4) rfl rfl ?_
    refine jw_icmp_ne 174 rfl rfl (fun z => absurd (rfl) z) (fun _ => ?_)
    rcases mo_R_num hk3 v2 with ⟨x, q1, q2, q3⟩ | ⟨q1, q2⟩
    · rcases mo_R_num hk3 w2 with ⟨y, r1, r2, r3⟩ | ⟨r1, r2⟩
      · refine jw_aload_n rfl rfl ?_
        refine jw_gr rfl g_M_92 hm2.1 (mo_r hm2 19 rfl) ?_
        refine js_iconst (x := 0) rfl rfl ?_
        refine js_ialdV (0) rfl (mo_a hm2 19 rfl) (by decide) (by rfl) rfl (by omega) (by decide) (q2) ?_
        refine jw_if_ne 174 rfl rfl (fun z => absurd (rfl) z) (fun _ => ?_)
        refine jw_aload_n rfl rfl ?_
        refine jw_gr rfl g_M_92 hm2.1 (mo_r hm2 19 rfl) ?_
        refine js_iconst (x := 1) rfl rfl ?_
        refine js_ialdV (1) rfl (mo_a hm2 19 rfl) (by decide) (by rfl) rfl (by omega) (by decide) (r2) ?_
        refine jw_if_ne 174 rfl rfl (fun z => absurd (rfl) z) (fun _ => ?_)
        refine jw_aload_n rfl rfl ?_
        refine js_iconst (x := 2) rfl rfl ?_
        refine jw_aload_n rfl rfl ?_
        refine jw_gr rfl g_M_95 hm2.1 (mo_r hm2 20 rfl) ?_
        refine js_iconst (x := 0) rfl rfl ?_
        refine js_ialdV (0) rfl (mo_a hm2 20 rfl) (by decide) (by rfl) rfl (by omega) (by decide) (q3) ?_
        refine jw_aload_n rfl rfl ?_
        refine jw_gr rfl g_M_95 hm2.1 (mo_r hm2 20 rfl) ?_
        refine js_iconst (x := 1) rfl rfl ?_
        refine js_ialdV (1) rfl (mo_a hm2 20 rfl) (by decide) (by rfl) rfl (by omega) (by decide) (r3) ?_
        refine jw_iadd rfl ?_
        refine js_call (As := [.inl (nI 2), .inl (x + y)]) rfl l_M_setNumber c_M_320 i_M_setNumber s_M_setNumber jc_o8 rfl hm2.1 rfl (cm_setNumber hg hm2 (by decide) ?_) (by decide) (Nat.le_of_ble_eq_true rfl) (by omega) (by omega) rfl
        refine jw_goto 184 rfl rfl ?_
        refine jw_iload_n rfl rfl ?_
        refine js_bipush (x := 6) rfl rfl ?_
        refine jw_icmp_ne 220 rfl rfl (fun _ => ?_) (fun z => absurd z (by decide))
        refine jw_return rfl rfl ?_
        refine hq _ (mo_fx.tr F2 (xp_rg (r := 2) (by decide) rg_numf) (fun _ _ z => z) (fun _ z => z)) ⟨e2, ?_⟩
        rw [q1, r1]
        exact rg_numv hm
      · refine jw_aload_n rfl rfl ?_
        refine jw_gr rfl g_M_92 hm2.1 (mo_r hm2 19 rfl) ?_
        refine js_iconst (x := 0) rfl rfl ?_
        refine js_ialdV (0) rfl (mo_a hm2 19 rfl) (by decide) (by rfl) rfl (by omega) (by decide) (q2) ?_
        refine jw_if_ne 174 rfl rfl (fun z => absurd (rfl) z) (fun _ => ?_)
        refine jw_aload_n rfl rfl ?_
        refine jw_gr rfl g_M_92 hm2.1 (mo_r hm2 19 rfl) ?_
        refine js_iconst (x := 1) rfl rfl ?_
        refine js_iald (1) rfl (mo_a hm2 19 rfl) (by decide) (by rfl) rfl (by omega) (by decide) ?_
        refine jw_if_ne 174 rfl rfl (fun _ => ?_) (fun z => absurd z (r2))
        exact no (Or.inr r1)
    · refine jw_aload_n rfl rfl ?_
      refine jw_gr rfl g_M_92 hm2.1 (mo_r hm2 19 rfl) ?_
      refine js_iconst (x := 0) rfl rfl ?_
      refine js_iald (0) rfl (mo_a hm2 19 rfl) (by decide) (by rfl) rfl (by omega) (by decide) ?_
      refine jw_if_ne 174 rfl rfl (fun _ => ?_) (fun z => absurd z (q2))
      exact no (Or.inl q1)
  · rw [ev_ex_5] at hq
    rw [hV0, hV1] at hq
    refine jw_iload_n rfl rfl ?_
    refine js_iconst (x := 1) rfl rfl ?_
    refine jw_icmp_ne 70 rfl rfl (fun _ => ?_) (fun z => absurd z (by decide))
    refine jw_iload_n rfl rfl ?_
    refine js_iconst (x := 2) rfl rfl ?_
    refine jw_icmp_ne 85 rfl rfl (fun _ => ?_) (fun z => absurd z (by decide))
    refine jw_iload_n rfl rfl ?_
    refine js_iconst (x := 3) rfl rfl ?_
    refine jw_icmp_ne 108 rfl rfl (fun _ => ?_) (fun z => absurd z (by decide))
    refine jw_iload_n rfl rfl ?_
    refine js_iconst (x := 5) rfl rfl ?_
    refine jw_icmp_ne 130 rfl rfl (fun z => absurd (rfl) z) (fun _ => ?_)
    refine jw_aload_n rfl rfl ?_
    refine js_iconst (x := 2) rfl rfl ?_
    refine jw_aload_n rfl rfl ?_
    refine js_call (As := []) rfl l_M_alike c_M_345 i_M_alike s_M_alike jc_o8 rfl hm2.1 rfl (cm_alike hg hm2 hD2 hdp e2 v2 w2 (fun h3 b f3 e3 b3 => ?_)) (by decide) (Nat.le_of_ble_eq_true rfl) (by omega) (by omega) rfl
    have hm3 := mo_fx.ok f3 hm2
    have fin : ∀ w, w = sp_b b → jw_J g 6 m_M_expr jw_T0 127 [some (.inr (.inr (some mo))), some (.inl (nI p)), some (.inl (nI e)), some (.inl (nI 5)), some (.inl (nI s)), some (.inl (nI k))] [.inl w, .inl (nI 2), .inr (.inr (some mo))] h3 0 0 Q := by
      intro w hw
      refine js_call (As := [.inl (nI 2), .inl w]) rfl l_M_setNumber c_M_320 i_M_setNumber s_M_setNumber jc_o8 rfl hm3.1 rfl (cm_setNumber hg hm3 (by decide) ?_) (by decide) (Nat.le_of_ble_eq_true rfl) (by omega) (by omega) rfl
      refine jw_iload_n rfl rfl ?_
      refine js_iconst (x := 4) rfl rfl ?_
      refine jw_icmp_ne 174 rfl rfl (fun _ => ?_) (fun z => absurd z (by decide))
      refine jw_iload_n rfl rfl ?_
      refine js_iconst (x := 4) rfl rfl ?_
      refine jw_icmp_ne 184 rfl rfl (fun _ => ?_) (fun z => absurd z (by decide))
      refine jw_iload_n rfl rfl ?_
      refine js_bipush (x := 6) rfl rfl ?_
      refine jw_icmp_ne 220 rfl rfl (fun _ => ?_) (fun z => absurd z (by decide))
      refine jw_return rfl rfl ?_
      refine hq _ (mo_fx.tr (mo_fx.tr F2 f3 (fun _ _ z => z) (fun _ z => z)) (xp_rg (r := 2) (by decide) rg_numf) (fun _ _ z => z) (fun _ z => z)) ?_
      by_cases z : 400 < (sv_raw D V0).length ∨ 400 < (sv_raw D V1).length
      · rw [if_pos z] at e3 ⊢; exact e3
      · rw [if_neg z] at e3 ⊢
        rw [← b3 z, ← hw]
        exact ⟨e3, rg_numv hm⟩
    cases hb : b with
    | true =>
      refine jw_if_eq 126 rfl rfl (fun z => absurd z (by decide)) (fun _ => ?_)
      refine js_iconst (x := 1) rfl rfl ?_
      refine jw_goto 127 rfl rfl ?_
      exact fin _ (by rw [hb]; rfl)
    | false =>
      refine jw_if_eq 126 rfl rfl (fun _ => ?_) (fun z => absurd (rfl) z)
      refine js_iconst (x := 0) rfl rfl ?_
      exact fin _ (by rw [hb]; rfl)
  · rw [ev_ex_6] at hq
    rw [hV0, hV1] at hq
    refine jw_iload_n rfl rfl ?_
    refine js_iconst (x := 1) rfl rfl ?_
    refine jw_icmp_ne 70 rfl rfl (fun _ => ?_) (fun z => absurd z (by decide))
    refine jw_iload_n rfl rfl ?_
    refine js_iconst (x := 2) rfl rfl ?_
    refine jw_icmp_ne 85 rfl rfl (fun _ => ?_) (fun z => absurd z (by decide))
    refine jw_iload_n rfl rfl ?_
    refine js_iconst (x := 3) rfl rfl ?_
    refine jw_icmp_ne 108 rfl rfl (fun _ => ?_) (fun z => absurd z (by decide))
    refine jw_iload_n rfl rfl ?_
    refine js_iconst (x := 5) rfl rfl ?_
    refine jw_icmp_ne 130 rfl rfl (fun _ => ?_) (fun z => absurd z (by decide))
    refine jw_iload_n rfl rfl ?_
    refine js_iconst (x := 4) rfl rfl ?_
    refine jw_icmp_ne 174 rfl rfl (fun _ => ?_) (fun z => absurd z (by decide))
    refine jw_iload_n rfl rfl ?_
    refine js_iconst (x := 4) rfl rfl ?_
    refine jw_icmp_ne 184 rfl rfl (fun _ => ?_) (fun z => absurd z (by decide))
    refine jw_iload_n rfl rfl ?_
    refine js_bipush (x := 6) rfl rfl ?_
    refine jw_icmp_ne 220 rfl rfl (fun z => absurd (rfl) z) (fun _ => ?_)
    refine jw_aload_n rfl rfl ?_
    refine js_iconst (x := 2) rfl rfl ?_
    refine js_iconst (x := 0) rfl rfl ?_
    refine js_call (As := [.inl (nI 2), .inl (nI 0)]) rfl l_M_copy c_M_323 i_M_copy s_M_copy jc_o8 rfl hm2.1 rfl (cm_copy hg hm2 (by decide) (by decide) (by decide) hk3 v2 (fun h3 f3 v3 => ?_)) (by decide) (Nat.le_of_ble_eq_true rfl) (by omega) (by omega) rfl
    have hm3 := mo_fx.ok f3 hm2
    have hD3 := mo_D.rg hm2 f3 hD2
    have w3 : mo_R h3 ar n D 1 V1 := mo_R.fx hm2 f3 (fun k j z => ⟨rg_F_in z, fun z2 => by rcases z with ⟨_, e⟩ | ⟨_, e⟩ <;> rcases z2 with ⟨_, e2⟩ | ⟨_, e2⟩ <;> omega⟩) (by decide) w2
    have e3 : jh_i h3 mo 550 = 0 := (mo_fx.rdi f3 (fun z => z)).trans e2
    have F3 : mo_fx h h3 mo ar xp_F sr_G := mo_fx.tr F2 (xp_rg (r := 2) (by decide) f3) (fun _ _ z => z) (fun _ z => z)
    have fin : ∀ w, w = (match ev_num V1 with | some b => b | none => -1) → jw_J g 6 m_M_expr jw_T0 217 [some (.inr (.inr (some mo))), some (.inl (nI p)), some (.inl (nI e)), some (.inl (nI 6)), some (.inl (nI s)), some (.inl (nI k))] [.inl w, .inl (nI 2), .inr (.inr (some mo))] h3 0 0 Q := by
      intro w hw
      refine js_call (As := [.inl (nI 2), .inl w]) rfl l_M_element c_M_330 i_M_element s_M_element jc_o8 rfl hm3.1 rfl (cm_element hg hm3 hD3 (by decide) v3 (fun h4 f4 v4 => ?_)) (by decide) (Nat.le_of_ble_eq_true rfl) (by omega) (by omega) rfl
      refine jw_return rfl rfl ?_
      refine hq h4 (mo_fx.tr F3 (xp_rg (r := 2) (by decide) f4) (fun _ _ z => z) (fun _ z => z)) ⟨(mo_fx.rdi f4 (fun z => z)).trans e3, ?_⟩
      rw [← hw]; exact v4
    rcases mo_R_num hk3 w3 with ⟨y, r1, r2, r3⟩ | ⟨r1, r2⟩
    · refine jw_aload_n rfl rfl ?_
      refine js_iconst (x := 2) rfl rfl ?_
      refine jw_aload_n rfl rfl ?_
      refine jw_gr rfl g_M_92 hm3.1 (mo_r hm3 19 rfl) ?_
      refine js_iconst (x := 1) rfl rfl ?_
      refine js_ialdV (1) rfl (mo_a hm3 19 rfl) (by decide) (by rfl) rfl (by omega) (by decide) (r2) ?_
      refine jw_if_ne 216 rfl rfl (fun z => absurd (rfl) z) (fun _ => ?_)
      refine jw_aload_n rfl rfl ?_
      refine jw_gr rfl g_M_95 hm3.1 (mo_r hm3 20 rfl) ?_
      refine js_iconst (x := 1) rfl rfl ?_
      refine js_ialdV (1) rfl (mo_a hm3 20 rfl) (by decide) (by rfl) rfl (by omega) (by decide) (r3) ?_
      refine jw_goto 217 rfl rfl ?_
      exact fin _ (by rw [r1])
    · refine jw_aload_n rfl rfl ?_
      refine js_iconst (x := 2) rfl rfl ?_
      refine jw_aload_n rfl rfl ?_
      refine jw_gr rfl g_M_92 hm3.1 (mo_r hm3 19 rfl) ?_
      refine js_iconst (x := 1) rfl rfl ?_
      refine js_iald (1) rfl (mo_a hm3 19 rfl) (by decide) (by rfl) rfl (by omega) (by decide) ?_
      refine jw_if_ne 216 rfl rfl (fun _ => ?_) (fun z => absurd z (r2))
      refine js_iconst (x := (-1)) rfl rfl ?_
      exact fin _ (by rw [r1])

