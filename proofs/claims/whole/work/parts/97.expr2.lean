/-! READER: an expression, 2 -/
theorem oe_lt {t : Nat → Nat} {c e k : Nat} (hc : c ≤ e) (h : sp_operandEnd t c e = some k) : c < e := by
  rw [sp_operandEnd] at h
  by_cases c1 : sp_at t c e = 34
  · exact sp_at_lt2 c1 (by decide)
  · rw [if_neg c1] at h
    by_cases c2 : sp_dg (sp_at t c e) = true
    · rcases Nat.lt_or_ge c e with z | z
      · exact z
      · rw [sp_at, if_neg (by omega)] at c2; exact absurd c2 (by decide)
    · rw [if_neg c2, sp_pathEnd] at h
      by_cases c3 : sp_st t e c [64, 105, 110, 100, 101, 120] = true ∨ sp_st t e c [64, 102, 105, 114, 115, 116] = true
      · rcases c3 with c3 | c3
        · exact (st_0 c3 (by decide)).2.1
        · exact (st_0 c3 (by decide)).2.1
      · rw [if_neg c3] at h
        exact (pX_c hc (e1 := k) (by rw [pX]; exact h)).1
theorem sp_h6 (t : Nat → Nat) (c e : Nat) : sp_helper t c e ≤ 6 := by
  unfold sp_helper
  repeat' split
  all_goals omega
set_option maxHeartbeats 4000000 in
set_option maxRecDepth 100000 in
theorem cp_readExpr {g : jg_G} (hg : (jg_l g).stackTraces = false) {d mc ms : Nat} {h : jh_H} {r sb sch cap st : Nat} {L : List Nat} {c e : Nat} {P : Nat → Prop} {Q : jw_O → jh_H → Prop} (hr : rd_ok h r sb sch cap st L c e) (hP : ∀ b, b ∉ jh_L h → P b) (hPS : ∀ b, P b → ¬ rd_S r st b) (hd : 9 ≤ d) (hmc : 9 ≤ mc) (hms : 31 + 2 * (e - c) ≤ ms) (q1 : sp_isExpr (tL L) c e = false → ∀ h' c', rd_ok h' r sb sch cap st L c' e → rd_f r st h h' → Q (.inl (some (.inr (.inr none)))) h') (q2 : sp_isExpr (tL L) c e = true → ∀ h' q, rd_ok h' r sb sch cap st L e e → rd_f r st h h' → xp_ok g h' P (ex_ex (tL L) c e) q → Q (.inl (some (.inr (.inr (some q))))) h') : jw_C g d mc ms m_P_readExpression [.inr (.inr (some r))] h Q := by
  refine jw_intro (ls := [some (.inr (.inr (some r))), none, none, none]) (by decide) k_P_readExpression rfl (by simp [lo_fit, jv_c]) hg ?_
  have e6 : (jc_q 6).2.2 = 3 := rfl
  have hce := hr.2.2.2.2.2.2.1
  have hh6 := sp_h6 (tL L) c e
  refine jw_aload_n rfl rfl ?_
  refine js_call (As := []) rfl l_P_readHelper c_P_225 i_P_readHelper s_P_readHelper jc_o4 rfl (hr.1) rfl (cp_readHelper (d := d - 1) (mc := 0) (ms := 0) hg hr (by omega) (fun h1 hle hr1 f1 g1 => ?_)) (by omega) (Nat.le_of_ble_eq_true rfl) (by omega) (by omega) rfl
  refine js_astore_n rfl rfl (by decide) rfl ?_
  generalize hp1 : c + (if sp_helper (tL L) c e = 0 then 0 else sp_hs (sp_helper (tL L) c e)) = p1 at *
  have hcp : c ≤ p1 := by omega
  have eI : sp_isExpr (tL L) c e = match sp_operandEnd (tL L) p1 e with | none => false | some k => if sp_helper (tL L) c e < 4 then decide (k = e) else decide (sp_at (tL L) k e = 32 ∧ sp_operandEnd (tL L) (k + 1) e = some e) := by
    rw [sp_isExpr]
    by_cases c0 : sp_helper (tL L) c e = 0
    · rw [if_pos c0] at hp1 ⊢
      have : c = p1 := by omega
      subst this
      cases eo : sp_operandEnd (tL L) c e with
      | none => exact decide_eq_false (fun z => by cases z.1)
      | some k =>
        have := oe_lt hce eo
        show decide (some k = some e ∧ c < e) = if sp_helper (tL L) c e < 4 then decide (k = e) else _
        rw [if_pos (by omega)]
        by_cases ck : k = e
        · rw [decide_eq_true ck, decide_eq_true ⟨congrArg some ck, this⟩]
        · rw [decide_eq_false ck, decide_eq_false (fun z => ck (Option.some.inj z.1))]
    · rw [if_neg c0] at hp1 ⊢
      rw [hp1]
      cases sp_operandEnd (tL L) p1 e <;> rfl
  have eX : ex_ex (tL L) c e = (sp_helper (tL L) c e, ex_op (tL L) p1 (if sp_helper (tL L) c e = 0 then e else (sp_operandEnd (tL L) p1 e).getD 0), if 3 < sp_helper (tL L) c e then ex_op (tL L) ((sp_operandEnd (tL L) p1 e).getD 0 + 1) e else .inl 0) := by
    rw [ex_ex]
    by_cases c0 : sp_helper (tL L) c e = 0
    · rw [if_pos c0] at hp1 ⊢
      have : c = p1 := by omega
      subst this
      rw [c0, if_pos rfl, if_neg (by decide)]
    · rw [if_neg c0] at hp1 ⊢
      rw [if_neg c0, hp1]
  generalize hhp : sp_helper (tL L) c e = hp at *
  have L1 : ∀ b, b ∉ jh_L h1 → P b := fun b hb => hP b (fun z => hb (f1.1.1 b z).1)
  -- the end, where the first operand is there
  have at48 : ∀ h2 o1 s2 k ks, 3 ≤ ks → rd_ok h2 r sb sch cap st L k e → rd_f r st h h2 → op_ok g h2 P (ex_op (tL L) p1 ((sp_operandEnd (tL L) p1 e).getD 0)) o1 → (hp < 4 → s2 = none ∧ sp_operandEnd (tL L) p1 e = some k) → (3 < hp → ∃ k1 o2, sp_operandEnd (tL L) p1 e = some k1 ∧ sp_at (tL L) k1 e = 32 ∧ sp_operandEnd (tL L) (k1 + 1) e = some k ∧ s2 = some o2 ∧ op_ok g h2 P (ex_op (tL L) (k1 + 1) k) o2) → jw_J g d m_P_readExpression jw_T0 48 [some (.inr (.inr (some r))), some (.inr (.inr (some (jg_c g (113 + hp))))), some (.inr (.inr (some o1))), some (.inr (.inr s2))] [] h2 1 ks Q := by
    intro h2 o1 s2 k ks hks hr2 f2 ho1 hA hB
    have eI2 : sp_isExpr (tL L) c e = decide (k = e) := by
      rw [eI]
      by_cases c4 : hp < 4
      · rw [(hA c4).2]
        show (if hp < 4 then decide (k = e) else _) = _
        rw [if_pos c4]
      · obtain ⟨k1, o2, v1, v2, v3, -⟩ := hB (by omega)
        rw [v1]
        show (if hp < 4 then _ else decide (sp_at (tL L) k1 e = 32 ∧ sp_operandEnd (tL L) (k1 + 1) e = some e)) = _
        rw [if_neg c4, v3]
        by_cases ck : k = e
        · rw [decide_eq_true ck, decide_eq_true ⟨v2, congrArg some ck⟩]
        · rw [decide_eq_false ck, decide_eq_false (fun z => ck (Option.some.inj z.2))]
    have h2L := hr2.2.2.2.1
    have h2e := hr2.2.2.2.2.2.2.2.1
    have h2k := hr2.2.2.2.2.2.2.1
    refine jw_aload_n rfl rfl ?_
    refine jw_ifnull 63 rfl rfl (fun z_ => by cases z_) (fun _ _ => ?_)
    refine jw_aload_n rfl rfl ?_
    refine jw_gi rfl g_P_72 (hr2.1) (hr2.2.2.2.2.1) ?_
    refine jw_aload_n rfl rfl ?_
    refine jw_gi rfl g_P_75 (hr2.1) (hr2.2.2.2.2.2.1) ?_
    by_cases ck : k = e
    · subst ck
      refine jw_icmp_eq 67 rfl rfl (fun _ => ?_) (fun z => absurd (rfl) z)
      refine jw_new rfl jc_o6 n_P_240 a_6 b_6 e_6 (by omega) (by omega) (fun q67 hq67 => ?_)
      refine jw_dup rfl rfl ?_
      refine jw_aload_n rfl rfl ?_
      refine jw_aload_n rfl rfl ?_
      refine jw_aload_n rfl rfl ?_
      refine js_callI (As := [.inr (.inr (some (jg_c g (113 + hp)))), .inr (.inr (some o1)), .inr (.inr s2)]) rfl l_X_init c_P_242 i_X_init rfl rfl rfl (cx_init (d := d - 1) (mc := 0) (ms := 0) hg jh_nw_O (by omega) ?_) (by omega) (Nat.le_of_ble_eq_true rfl) (by omega) (by omega) rfl
      refine jw_areturn rfl rfl (Or.inl ⟨_, rfl⟩) ?_
      obtain ⟨h3, eh3⟩ : ∃ z, z = jh_sr (jh_sr (jh_sr (jh_nw h2 q67 6 (jc_q 6).2.2) q67 384 (some (jg_c g (113 + hp)))) q67 385 (some o1)) q67 386 s2 := ⟨_, rfl⟩
      have f3 : fr (fun _ => False) h2 h3 := by rw [eh3]; exact (fr.sr (S := fun b => b = q67) (fr.sr (fr.sr (fr.nw fr.rf hq67) rfl) rfl) rfl).mono (fun b hb z => hq67 (by rw [← z]; exact hb))
      rw [← eh3]
      refine q2 (by rw [eI2]; exact decide_eq_true rfl) h3 q67 (hr2.nw f3) (f2.nw hr2.1 f3) ?_
      rw [eX]
      refine ⟨hP _ (fun z => hq67 (f2.1.1 _ z).1), by rw [eh3]; exact jh_nw_O, hh6, ?_, ⟨o1, ?_, ?_⟩, ?_⟩
      · rw [eh3]; exact (jh_u_k _ _ _ _ (by decide)).trans ((jh_u_k _ _ _ _ (by decide)).trans (jh_u_s _ _ _ _))
      · rw [eh3]; exact (jh_u_k _ _ _ _ (by decide)).trans (jh_u_s _ _ _ _)
      · have : (if hp = 0 then k else (sp_operandEnd (tL L) p1 k).getD 0) = (sp_operandEnd (tL L) p1 k).getD 0 := by
          by_cases c0 : hp = 0
          · rw [if_pos c0, (hA (by omega)).2]; rfl
          · rw [if_neg c0]
        show op_ok g h3 P (ex_op (tL L) p1 (if hp = 0 then k else (sp_operandEnd (tL L) p1 k).getD 0)) o1
        rw [this]
        exact ho1.fr f3 (fun _ _ z => z)
      · show (if 3 < hp then _ else _)
        by_cases c3 : 3 < hp
        · rw [if_pos c3]
          obtain ⟨k1, o2, v1, v2, v3, v4, v5⟩ := hB c3
          refine ⟨o2, by rw [eh3, v4]; exact jh_u_s _ _ _ _, ?_⟩
          show op_ok g h3 P (if 3 < hp then ex_op (tL L) ((sp_operandEnd (tL L) p1 k).getD 0 + 1) k else .inl 0) o2
          rw [if_pos c3, v1]
          exact v5.fr f3 (fun _ _ z => z)
        · rw [if_neg c3, eh3, (hA (by omega)).1]
          exact jh_u_s _ _ _ _
    · refine jw_icmp_eq 67 rfl rfl (fun z => absurd z (fun z => ck ((nI_eq (by omega) (by omega)).mp z))) (fun _ => ?_)
      refine jw_null rfl ?_
      refine jw_goto 77 rfl rfl ?_
      refine jw_areturn rfl rfl (Or.inl ⟨_, rfl⟩) ?_
      exact q1 (by rw [eI2]; exact decide_eq_false ck) h2 k hr2 f2
  rw [show (9 : Nat) = 9 from rfl] at hmc
  refine jw_aload_n rfl rfl ?_
  refine js_call (As := []) rfl l_P_readOperand c_P_229 i_P_readOperand s_P_readOperand jc_o4 rfl (hr1.1) rfl (cp_operand (d := d - 1) (mc := 4) (ms := 14 + (e - p1)) (P := P) hg hr1 L1 (by omega) (by omega) (by omega) (fun hn h2 c2 hr2 f2 => ?_) (fun k hk h2 o1 hr2 f2 ho1 => ?_)) (by omega) (Nat.le_of_ble_eq_true rfl) (by omega) (by omega) rfl
  · refine js_astore_n rfl rfl (by decide) rfl ?_
    refine jw_null rfl ?_
    refine js_astore_n rfl rfl (by decide) rfl ?_
    refine jw_aload_n rfl rfl ?_
    refine jw_ifnull 48 rfl rfl (fun _ => ?_) (fun x_ z_ => by cases z_)
    refine jw_aload_n rfl rfl ?_
    refine jw_ifnull 63 rfl rfl (fun _ => ?_) (fun x_ z_ => by cases z_)
    refine jw_null rfl ?_
    refine jw_goto 77 rfl rfl ?_
    refine jw_areturn rfl rfl (Or.inl ⟨_, rfl⟩) ?_
    exact q1 (by rw [eI, hn]) h2 c2 hr2 (f1.tr f2)
  · have f2 := f1.tr f2
    have hk2 := hr2.2.2.2.2.2.2.1
    have hkp := (sp_operandEnd_ge (tL L) hle hk).1
    have ho1' : op_ok g h2 P (ex_op (tL L) p1 ((sp_operandEnd (tL L) p1 e).getD 0)) o1 := by rw [hk]; exact ho1
    refine js_astore_n rfl rfl (by decide) rfl ?_
    refine jw_null rfl ?_
    refine js_astore_n rfl rfl (by decide) rfl ?_
    refine jw_aload_n rfl rfl ?_
    refine jw_ifnull 48 rfl rfl (fun z_ => by cases z_) (fun _ _ => ?_)
    refine jw_aload_n rfl rfl ?_
    have small : hp < 4 → jw_J g d m_P_readExpression jw_T0 48 [some (.inr (.inr (some r))), some (.inr (.inr (some (jg_c g (113 + hp))))), some (.inr (.inr (some o1))), some (.inr (.inr none))] [] h2 (mc - 4) (ms - (14 + (e - p1))) Q := fun c4 => jw_room (by omega) (Nat.le_refl _) (at48 h2 o1 none k (ms - (14 + (e - p1))) (by omega) hr2 f2 ho1' (fun _ => ⟨rfl, hk⟩) (fun z => absurd z (by omega)))
    have big : 3 < hp → jw_J g d m_P_readExpression jw_T0 24 [some (.inr (.inr (some r))), some (.inr (.inr (some (jg_c g (113 + hp))))), some (.inr (.inr (some o1))), some (.inr (.inr none))] [] h2 (mc - 4) (ms - (14 + (e - p1))) Q := by
      intro c4
      have L2 : ∀ b, b ∉ jh_L h2 → P b := fun b hb => hP b (fun z => hb (f2.1.1 b z).1)
      refine jw_aload_n rfl rfl ?_
      refine jw_ldcS 29 rfl rfl ?_
      refine js_call (As := [.inr (.inr (some (jg_c g 29)))]) rfl l_P_accept c_P_166 i_P_accept s_P_accept jc_o4 rfl (hr2.1) rfl (cp_accept (d := d - 1) (mc := 0) (ms := 0) hg hr2 sk_29 (by decide) (by decide) (by omega) (fun es hl1 h3 hr3 f3 g3 => ?_) (fun es => ?_)) (by omega) (Nat.le_of_ble_eq_true rfl) (by omega) (by omega) rfl
      · obtain ⟨a1, a2, a3, -⟩ := st_0 es (by decide)
        have hr3 : rd_ok h3 r sb sch cap st L (k + 1) e := hr3
        have f3' := f3
        have f3 := f2.tr f3
        have L3 : ∀ b, b ∉ jh_L h3 → P b := fun b hb => hP b (fun z => hb (f3.1.1 b z).1)
        refine jw_if_eq 40 rfl rfl (fun z => absurd z (by decide)) (fun _ => ?_)
        refine jw_aload_n rfl rfl ?_
        refine js_call (As := []) rfl l_P_readOperand c_P_229 i_P_readOperand s_P_readOperand jc_o4 rfl (hr3.1) rfl (cp_operand (d := d - 1) (mc := 4) (ms := 14 + (e - (k + 1))) (P := P) hg hr3 L3 (by omega) (by omega) (by omega) (fun hn h4 c4 hr4 f4 => ?_) (fun k2 hk2 h4 o2 hr4 f4 ho2 => ?_)) (by omega) (Nat.le_of_ble_eq_true rfl) (by omega) (by omega) rfl
        · refine jw_goto 41 rfl rfl ?_
          refine js_astore_n rfl rfl (by decide) rfl ?_
          refine jw_aload_n rfl rfl ?_
          refine jw_ifnonnull 48 rfl rfl (fun _ => ?_) (fun x_ z_ => by cases z_)
          refine jw_null rfl ?_
          refine jw_areturn rfl rfl (Or.inl ⟨_, rfl⟩) ?_
          refine q1 ?_ h4 c4 hr4 (f3.tr f4)
          rw [eI, hk]
          show (if hp < 4 then _ else decide (sp_at (tL L) k e = 32 ∧ sp_operandEnd (tL L) (k + 1) e = some e)) = false
          rw [if_neg (by omega), hn]
          exact decide_eq_false (fun z => by cases z.2)
        · refine jw_goto 41 rfl rfl ?_
          refine js_astore_n rfl rfl (by decide) rfl ?_
          refine jw_aload_n rfl rfl ?_
          refine jw_ifnonnull 48 rfl rfl (fun z_ => by cases z_) (fun _ _ => ?_)
          exact jw_room (by omega) (Nat.le_refl _) (at48 h4 o1 (some o2) k2 (ms - (14 + (e - p1)) - (14 + (e - (k + 1)))) (by omega) hr4 (f3.tr f4) ((ho1'.fr f3'.1 hPS).fr f4.1 hPS) (fun z => absurd z (by omega)) (fun _ => ⟨k, o2, hk, a1, hk2, rfl, ho2⟩))
      · have n32 : ¬ sp_at (tL L) k e = 32 := by rw [st_1] at es; exact of_decide_eq_false es
        refine jw_if_eq 40 rfl rfl (fun _ => ?_) (fun z => absurd (rfl) z)
        refine jw_null rfl ?_
        refine js_astore_n rfl rfl (by decide) rfl ?_
        refine jw_aload_n rfl rfl ?_
        refine jw_ifnonnull 48 rfl rfl (fun _ => ?_) (fun x_ z_ => by cases z_)
        refine jw_null rfl ?_
        refine jw_areturn rfl rfl (Or.inl ⟨_, rfl⟩) ?_
        refine q1 ?_ h2 k hr2 f2
        rw [eI, hk]
        show (if hp < 4 then _ else decide (sp_at (tL L) k e = 32 ∧ sp_operandEnd (tL L) (k + 1) e = some e)) = false
        rw [if_neg (by omega)]
        exact decide_eq_false (fun z => n32 z.1)
    have h7 : hp = 0 ∨ hp = 1 ∨ hp = 2 ∨ hp = 3 ∨ hp = 4 ∨ hp = 5 ∨ hp = 6 := by omega
    rcases h7 with e0 | e0 | e0 | e0 | e0 | e0 | e0
    · subst e0
      refine jw_gkf rfl kf_operands_113 y_P_233 ?_
      refine js_iconst (x := 2) rfl rfl ?_
      refine jw_icmp_ne 48 rfl rfl (fun _ => ?_) (fun z => absurd z (by decide))
      exact small (by decide)
    · subst e0
      refine jw_gkf rfl kf_operands_114 y_P_233 ?_
      refine js_iconst (x := 2) rfl rfl ?_
      refine jw_icmp_ne 48 rfl rfl (fun _ => ?_) (fun z => absurd z (by decide))
      exact small (by decide)
    · subst e0
      refine jw_gkf rfl kf_operands_115 y_P_233 ?_
      refine js_iconst (x := 2) rfl rfl ?_
      refine jw_icmp_ne 48 rfl rfl (fun _ => ?_) (fun z => absurd z (by decide))
      exact small (by decide)
    · subst e0
      refine jw_gkf rfl kf_operands_116 y_P_233 ?_
      refine js_iconst (x := 2) rfl rfl ?_
      refine jw_icmp_ne 48 rfl rfl (fun _ => ?_) (fun z => absurd z (by decide))
      exact small (by decide)
    · subst e0
      refine jw_gkf rfl kf_operands_117 y_P_233 ?_
      refine js_iconst (x := 2) rfl rfl ?_
      refine jw_icmp_ne 48 rfl rfl (fun z => absurd (rfl) z) (fun _ => ?_)
      exact big (by decide)
    · subst e0
      refine jw_gkf rfl kf_operands_118 y_P_233 ?_
      refine js_iconst (x := 2) rfl rfl ?_
      refine jw_icmp_ne 48 rfl rfl (fun z => absurd (rfl) z) (fun _ => ?_)
      exact big (by decide)
    · subst e0
      refine jw_gkf rfl kf_operands_119 y_P_233 ?_
      refine js_iconst (x := 2) rfl rfl ?_
      refine jw_icmp_ne 48 rfl rfl (fun z => absurd (rfl) z) (fun _ => ?_)
      exact big (by decide)

