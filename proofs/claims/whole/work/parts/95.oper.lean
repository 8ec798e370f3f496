/-! READER: an operand -/
theorem pX_c {t : Nat → Nat} {c e e1 : Nat} (hc : c ≤ e) (h : pX t c e = some e1) : c < e ∧ t c ≠ 64 := by
  rw [pX] at h
  generalize hu : sp_up t e (e - c) c = u at h
  have hue : u ≤ e ∧ c ≤ u := by rw [← hu]; exact sp_up_le2 t e (e - c) c hc
  have hle := sp_letters_le t hue.1
  by_cases c8 : sp_letters t u e < 1 ∨ 8 < sp_letters t u e
  · rw [if_pos c8] at h; cases h
  · refine ⟨by omega, ?_⟩
    by_cases cu : c = u
    · have := ln_all (t := t) (e := e) (e - u) u 0 (by omega) (by show 0 < sp_letters t u e; omega)
      have := of_decide_eq_true this
      rw [cu]
      have e0 : u + 0 = u := rfl
      rw [e0] at this
      omega
    · obtain ⟨m, hm⟩ : ∃ m, e - c = m + 1 := ⟨e - c - 1, by omega⟩
      rw [hm, sp_up] at hu
      by_cases cs : sp_st t e c [46, 46, 47] = true
      · rw [sp_st] at cs
        by_cases c46 : sp_at t c e = 46
        · rw [sp_at, if_pos (by omega)] at c46; omega
        · rw [if_neg c46] at cs; cases cs
      · rw [if_neg cs] at hu; exact absurd hu cu
theorem st_0 {t : Nat → Nat} {e p c : Nat} {W : List Nat} (h : sp_st t e p (c :: W) = true) (h0 : c ≠ 0) : sp_at t p e = c ∧ p < e ∧ t p = c ∧ sp_st t e (p + 1) W = true := by
  rw [sp_st] at h
  by_cases ce : sp_at t p e = c
  · rw [if_pos ce] at h
    have hlt : p < e := sp_at_lt2 ce h0
    refine ⟨ce, hlt, ?_, h⟩
    rw [sp_at, if_pos hlt] at ce
    exact ce
  · rw [if_neg ce] at h; cases h
set_option maxHeartbeats 4000000 in
set_option maxRecDepth 100000 in
theorem cp_operand {g : jg_G} (hg : (jg_l g).stackTraces = false) {d mc ms : Nat} {h : jh_H} {r sb sch cap st : Nat} {L : List Nat} {c e : Nat} {P : Nat → Prop} {Q : jw_O → jh_H → Prop} (hr : rd_ok h r sb sch cap st L c e) (hP : ∀ b, b ∉ jh_L h → P b) (hd : 8 ≤ d) (hmc : 4 ≤ mc) (hms : 14 + (e - c) ≤ ms) (q1 : sp_operandEnd (tL L) c e = none → ∀ h' c', rd_ok h' r sb sch cap st L c' e → rd_f r st h h' → Q (.inl (some (.inr (.inr none)))) h') (q2 : ∀ e1, sp_operandEnd (tL L) c e = some e1 → ∀ h' q, rd_ok h' r sb sch cap st L e1 e → rd_f r st h h' → op_ok g h' P (ex_op (tL L) c e1) q → Q (.inl (some (.inr (.inr (some q))))) h') : jw_C g d mc ms m_P_readOperand [.inr (.inr (some r))] h Q := by
  refine jw_intro (ls := [some (.inr (.inr (some r)))]) (by decide) k_P_readOperand rfl (by simp [lo_fit, jv_c]) hg ?_
  have e7 : (jc_q 7).2.2 = 4 := rfl
  have hce := hr.2.2.2.2.2.2.1
  refine jw_aload_n rfl rfl ?_
  refine js_call (As := []) rfl l_P_isDigitNext c_P_257 i_P_isDigitNext s_P_isDigitNext jc_o4 rfl (hr.1) rfl (cp_isDigit (d := d - 1) (mc := 0) (ms := 0) hg hr ?_) (by omega) (Nat.le_of_ble_eq_true rfl) (by omega) (by omega) rfl
  cases ed : sp_dg (sp_at (tL L) c e) with
  | true =>
    have hlt : c < e := by
      rcases Nat.lt_or_ge c e with z | z
      · exact z
      · rw [sp_at, if_neg (by omega)] at ed; exact absurd ed (by decide)
    have hat : sp_at (tL L) c e = tL L c := if_pos hlt
    rw [hat] at ed
    have ed1 := of_decide_eq_true ed
    have eo : sp_operandEnd (tL L) c e = some (sp_digits (tL L) e 5 c) := by rw [sp_operandEnd, hat, if_neg (by omega), if_pos ed]
    refine jw_if_eq 12 rfl rfl (fun z => absurd z (by decide)) (fun _ => ?_)
    refine jw_aload_n rfl rfl ?_
    refine js_call (As := []) rfl l_P_readNumber c_P_260 i_P_readNumber s_P_readNumber jc_o4 rfl (hr.1) rfl (cp_readNumber (d := d - 1) (mc := 2) (ms := 11) hg hr hP (by omega) (by omega) (by omega) (fun h2 q _ _ hr2 f2 o2 => ?_)) (by omega) (Nat.le_of_ble_eq_true rfl) (by omega) (by omega) rfl
    refine jw_areturn rfl rfl (Or.inl ⟨_, rfl⟩) ?_
    refine q2 _ eo h2 q hr2 f2 ?_
    rw [ex_op, if_neg (by omega), if_pos ed]
    exact o2
  | false =>
    refine jw_if_eq 12 rfl rfl (fun _ => ?_) (fun z => absurd (rfl) z)
    refine jw_aload_n rfl rfl ?_
    refine jw_ldcW 23 rfl rfl ?_
    refine js_call (As := [.inr (.inr (some (jg_c g 23)))]) rfl l_P_accept c_P_166 i_P_accept s_P_accept jc_o4 rfl (hr.1) rfl (cp_accept (d := d - 1) (mc := 0) (ms := 0) hg hr sk_23 (by decide) (by decide) (by omega) (fun es hl1 h3 hr3 f3 g3 => ?_) (fun es => ?_)) (by omega) (Nat.le_of_ble_eq_true rfl) (by omega) (by omega) rfl
    · obtain ⟨a1, a2, a3, -⟩ := st_0 es (by decide)
      have hr3 : rd_ok h3 r sb sch cap st L (c + 1) e := hr3
      have L3 : ∀ b, b ∉ jh_L h3 → P b := fun b hb => hP b (fun z => hb (f3.1.1 b z).1)
      refine jw_if_eq 27 rfl rfl (fun z => absurd z (by decide)) (fun _ => ?_)
      refine jw_aload_n rfl rfl ?_
      refine js_call (As := []) rfl l_P_readQuoted c_P_265 i_P_readQuoted s_P_readQuoted jc_o4 rfl (hr3.1) rfl (cp_readQuoted (d := d - 1) (mc := 4) (ms := 13 + (e - (c + 1))) hg hr3 L3 (by omega) (by omega) (by omega) (fun hn => ?_) (fun h34 h4 q hr4 f4 o4 => ?_)) (by omega) (Nat.le_of_ble_eq_true rfl) (by omega) (by omega) rfl
      · refine jw_areturn rfl rfl (Or.inl ⟨_, rfl⟩) ?_
        exact q1 (by rw [sp_operandEnd, if_pos a1, if_neg hn]) h3 (c + 1) hr3 f3
      · refine jw_areturn rfl rfl (Or.inl ⟨_, rfl⟩) ?_
        refine q2 _ (by rw [sp_operandEnd, if_pos a1, if_pos h34]) h4 q hr4 (f3.tr f4) ?_
        rw [ex_op, if_pos a3]
        rw [show sp_quote (tL L) e (e - (c + 1)) (c + 1) + 1 - c - 2 = sp_quote (tL L) e (e - (c + 1)) (c + 1) - (c + 1) by omega]
        exact o4
    · have n34 : ¬ sp_at (tL L) c e = 34 := by rw [st_1] at es; exact of_decide_eq_false es
      have ndg : ¬ sp_dg (sp_at (tL L) c e) = true := by rw [ed]; decide
      have eo : sp_operandEnd (tL L) c e = sp_pathEnd (tL L) c e := by rw [sp_operandEnd, if_neg n34, if_neg ndg]
      refine jw_if_eq 27 rfl rfl (fun _ => ?_) (fun z => absurd (rfl) z)
      refine jw_aload_n rfl rfl ?_
      refine jw_ldcW 24 rfl rfl ?_
      refine js_call (As := [.inr (.inr (some (jg_c g 24)))]) rfl l_P_accept c_P_166 i_P_accept s_P_accept jc_o4 rfl (hr.1) rfl (cp_accept (d := d - 1) (mc := 0) (ms := 0) hg hr sk_24 (by decide) (by decide) (by omega) (fun es hl1 h3 hr3 f3 g3 => ?_) (fun es1 => ?_)) (by omega) (Nat.le_of_ble_eq_true rfl) (by omega) (by omega) rfl
      · obtain ⟨a1, a2, a3, a4⟩ := st_0 es (by decide)
        obtain ⟨b1, b2, b3, -⟩ := st_0 a4 (by decide)
        refine jw_if_eq 48 rfl rfl (fun z => absurd z (by decide)) (fun _ => ?_)
        refine jw_new rfl jc_o7 n_P_270 a_7 b_7 e_7 (by omega) (by omega) (fun q37 hq37 => ?_)
        refine jw_dup rfl rfl ?_
        refine jw_gst rfl kz_21 y_P_272 ?_
        refine js_callI (As := [.inr (.inr (some (jg_c g 121)))]) rfl l_O_init c_P_278 i_O_init rfl rfl rfl (co_init (d := d - 1) (mc := 0) (ms := 0) hg jh_nw_O (by omega) ?_) (by omega) (Nat.le_of_ble_eq_true rfl) (by omega) (by omega) rfl
        refine jw_areturn rfl rfl (Or.inl ⟨_, rfl⟩) ?_
        have f4 : fr (fun _ => False) h3 (jh_sr (jh_nw h3 q37 7 (jc_q 7).2.2) q37 448 (some (jg_c g 121))) := (fr.sr (S := fun b => b = q37) (fr.nw fr.rf hq37) rfl).mono (fun b hb z => hq37 (by rw [← z]; exact hb))
        refine q2 (c + 6) (by rw [eo, sp_pathEnd, if_pos (Or.inl es)]) _ q37 (hr3.nw f4) (f3.nw hr3.1 f4) ?_
        rw [ex_op, if_neg (by omega), if_neg (by rw [a3]; decide), if_pos a3, b3]
        exact ⟨hP _ (fun z => hq37 (f3.1.1 _ z).1), jh_nw_O, jh_u_s _ _ _ _⟩
      · refine jw_if_eq 48 rfl rfl (fun _ => ?_) (fun z => absurd (rfl) z)
        refine jw_aload_n rfl rfl ?_
        refine jw_ldcW 25 rfl rfl ?_
        refine js_call (As := [.inr (.inr (some (jg_c g 25)))]) rfl l_P_accept c_P_166 i_P_accept s_P_accept jc_o4 rfl (hr.1) rfl (cp_accept (d := d - 1) (mc := 0) (ms := 0) hg hr sk_25 (by decide) (by decide) (by omega) (fun es hl1 h3 hr3 f3 g3 => ?_) (fun es2 => ?_)) (by omega) (Nat.le_of_ble_eq_true rfl) (by omega) (by omega) rfl
        · obtain ⟨a1, a2, a3, a4⟩ := st_0 es (by decide)
          obtain ⟨b1, b2, b3, -⟩ := st_0 a4 (by decide)
          refine jw_if_eq 69 rfl rfl (fun z => absurd z (by decide)) (fun _ => ?_)
          refine jw_new rfl jc_o7 n_P_270 a_7 b_7 e_7 (by omega) (by omega) (fun q58 hq58 => ?_)
          refine jw_dup rfl rfl ?_
          refine jw_gst rfl kz_22 y_P_283 ?_
          refine js_callI (As := [.inr (.inr (some (jg_c g 122)))]) rfl l_O_init c_P_278 i_O_init rfl rfl rfl (co_init (d := d - 1) (mc := 0) (ms := 0) hg jh_nw_O (by omega) ?_) (by omega) (Nat.le_of_ble_eq_true rfl) (by omega) (by omega) rfl
          refine jw_areturn rfl rfl (Or.inl ⟨_, rfl⟩) ?_
          have f4 : fr (fun _ => False) h3 (jh_sr (jh_nw h3 q58 7 (jc_q 7).2.2) q58 448 (some (jg_c g 122))) := (fr.sr (S := fun b => b = q58) (fr.nw fr.rf hq58) rfl).mono (fun b hb z => hq58 (by rw [← z]; exact hb))
          refine q2 (c + 6) (by rw [eo, sp_pathEnd, if_pos (Or.inr es)]) _ q58 (hr3.nw f4) (f3.nw hr3.1 f4) ?_
          rw [ex_op, if_neg (by omega), if_neg (by rw [a3]; decide), if_pos a3, b3]
          exact ⟨hP _ (fun z => hq58 (f3.1.1 _ z).1), jh_nw_O, jh_u_s _ _ _ _⟩
        · have ep : sp_operandEnd (tL L) c e = pX (tL L) c e := by
            rw [eo, sp_pathEnd, if_neg (by rw [es1, es2]; decide), pX]
          refine jw_if_eq 69 rfl rfl (fun _ => ?_) (fun z => absurd (rfl) z)
          refine jw_aload_n rfl rfl ?_
          refine js_call (As := []) rfl l_P_readPath c_P_286 i_P_readPath s_P_readPath jc_o4 rfl (hr.1) rfl (cp_readPath (d := d - 1) (mc := 2) (ms := 5 + (e - c)) hg hr hP (by omega) (by omega) (by omega) (fun hn h3 c3 hr3 f3 => ?_) (fun e1 he1 h3 q hr3 f3 o3 => ?_)) (by omega) (Nat.le_of_ble_eq_true rfl) (by omega) (by omega) rfl
          · refine jw_areturn rfl rfl (Or.inl ⟨_, rfl⟩) ?_
            exact q1 (ep.trans hn) h3 c3 hr3 f3
          · refine jw_areturn rfl rfl (Or.inl ⟨_, rfl⟩) ?_
            obtain ⟨p1, p2⟩ := pX_c hce he1
            have hat : sp_at (tL L) c e = tL L c := if_pos p1
            rw [hat] at n34 ndg
            refine q2 e1 (ep.trans he1) h3 q hr3 f3 ?_
            rw [ex_op, if_neg n34, if_neg ndg, if_neg p2]
            exact o3

