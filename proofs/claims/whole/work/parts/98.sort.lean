/-! READER: the sort of a tag -/
def rs_o (t : Nat → Nat) (c e : Nat) (three : Bool) : Nat × Nat := if three then (2, 0)
  else if sp_st t e c [33] then (4, 1)
  else if sp_st t e c [35, 105, 102, 32] then (6, 4)
  else if sp_st t e c [35, 101, 97, 99, 104, 32] then (7, 6)
  else if sp_st t e c [35, 119, 105, 116, 104, 32] then (8, 6)
  else if sp_st t e c [62, 32] then (5, 2)
  else if e - c = 4 ∧ sp_st t e c [101, 108, 115, 101] = true then (9, 0)
  else if e - c = 3 ∧ sp_st t e c [47, 105, 102] = true then (10, 0)
  else if e - c = 5 ∧ sp_st t e c [47, 101, 97, 99, 104] = true then (11, 0)
  else if e - c = 5 ∧ sp_st t e c [47, 119, 105, 116, 104] = true then (12, 0)
  else (3, 0)
def rr_ok (t : Nat → Nat) (o c e : Nat) : Bool := if o = 4 ∨ 9 ≤ o then true else if o = 5 then decide (e - c = 1 ∧ 97 ≤ t c ∧ t c ≤ 100) else sp_isExpr t c e
def rr_s (o : Nat) : Nat := if o = 2 then 1 else if o = 3 then 0 else if o = 4 then 2 else if o = 5 then 10 else o - 3
theorem st_ne {t : Nat → Nat} {e p c : Nat} {W : List Nat} (h : sp_at t p e ≠ c) : sp_st t e p (c :: W) = false := by rw [sp_st, if_neg h]
theorem ie_62 {t : Nat → Nat} {p e : Nat} (h : sp_at t p e = 62) : sp_isExpr t p e = false := by
  have hne : ∀ {c W}, c ≠ 62 → sp_st t e p (c :: W) = false := fun hc => st_ne (by rw [h]; exact Ne.symm hc)
  have hlt : p < e := sp_at_lt2 h (by decide)
  have h0 : sp_helper t p e = 0 := by
    rw [sp_helper, hne (by decide), hne (by decide), hne (by decide), hne (by decide), hne (by decide), hne (by decide)]
    rfl
  have hu : ∀ n, sp_up t e n p = p := by
    intro n
    cases n with
    | zero => rfl
    | succ n => rw [sp_up, hne (by decide)]; rfl
  have hl : sp_letters t p e = 0 := by
    unfold sp_letters
    obtain ⟨m, hm⟩ : ∃ m, e - p = m + 1 := ⟨e - p - 1, by omega⟩
    have tp : t p = 62 := by rw [sp_at, if_pos hlt] at h; exact h
    rw [hm, sp_ln_1 (by omega), tp]
    rfl
  have ho : sp_operandEnd t p e = none := by
    rw [sp_operandEnd, h, if_neg (by decide), if_neg (by decide), sp_pathEnd, hne (by decide), hne (by decide), if_neg (by decide), hu, hl, if_pos (Or.inl (by decide))]
  rw [sp_isExpr, if_pos h0, ho]
  exact decide_eq_false (fun z => by cases z.1)
theorem ss_eq {t : Nat → Nat} {c e : Nat} {three : Bool} (hc : c ≤ e) : sp_sort t c e three = if rr_ok t (rs_o t c e three).1 (c + (rs_o t c e three).2) e then some (rr_s (rs_o t c e three).1) else none := by
  unfold sp_sort rs_o
  cases three with
  | true => rfl
  | false =>
    rw [if_neg (show ¬ (false = true) by decide), if_neg (show ¬ (false = true) by decide)]
    by_cases c1 : sp_at t c e = 33
    · rw [if_pos c1, if_pos (show sp_st t e c [33] = true by rw [st_1]; exact decide_eq_true c1)]; rfl
    rw [if_neg c1, if_neg (show ¬ sp_st t e c [33] = true by rw [st_1, decide_eq_false c1]; decide)]
    by_cases c2 : sp_st t e c [35, 105, 102, 32] = true
    · rw [if_pos c2, if_pos c2]; rfl
    rw [if_neg c2, if_neg c2]
    by_cases c3 : sp_st t e c [35, 101, 97, 99, 104, 32] = true
    · rw [if_pos c3, if_pos c3]; rfl
    rw [if_neg c3, if_neg c3]
    by_cases c4 : sp_st t e c [35, 119, 105, 116, 104, 32] = true
    · rw [if_pos c4, if_pos c4]; rfl
    rw [if_neg c4, if_neg c4]
    by_cases c62 : sp_at t c e = 62
    · have hne : ∀ {c1 W}, c1 ≠ 62 → sp_st t e c (c1 :: W) = false := fun hc => st_ne (by rw [c62]; exact Ne.symm hc)
      have hlt : c < e := sp_at_lt2 c62 (by decide)
      rw [hne (c1 := 101) (by decide), hne (c1 := 47) (by decide), hne (c1 := 47) (by decide), hne (c1 := 47) (by decide)]
      have nf : ∀ {x : Nat}, ¬ (e - c = x ∧ false = true) := fun z => absurd z.2 (by decide)
      simp only [if_neg (nf (x := 4)), if_neg (nf (x := 3)), if_neg (nf (x := 5)), if_pos c62]
      by_cases c5 : sp_st t e c [62, 32] = true
      · rw [if_pos c5]
        have h2 := st_len (W := [62, 32]) (by decide) (by decide) c5
        have h2 : c + 2 ≤ e := h2
        obtain ⟨a1, a2, a3, a4⟩ := st_0 c5 (by decide)
        obtain ⟨b1, b2, b3, -⟩ := st_0 a4 (by decide)
        have er5 : rr_ok t 5 (c + 2) e = decide (e - (c + 2) = 1 ∧ 97 ≤ t (c + 2) ∧ t (c + 2) ≤ 100) := by rw [rr_ok, if_neg (by decide), if_pos rfl]
        show _ = if rr_ok t 5 (c + 2) e = true then some 10 else none
        rw [er5]
        by_cases c6 : e - (c + 2) = 1 ∧ 97 ≤ t (c + 2) ∧ t (c + 2) ≤ 100
        · rw [if_pos ⟨by omega, b3, c6.2⟩, decide_eq_true c6]; rfl
        · rw [if_neg (fun z => c6 ⟨by omega, z.2.2⟩), decide_eq_false c6]; rfl
      · rw [if_neg c5]
        have er3 : rr_ok t 3 (c + 0) e = false := by rw [rr_ok, if_neg (by decide), if_neg (by decide)]; exact ie_62 c62
        show _ = if rr_ok t 3 (c + 0) e = true then some 0 else none
        rw [er3]
        by_cases c6 : e - c = 3 ∧ t (c + 1) = 32 ∧ 97 ≤ t (c + 2) ∧ t (c + 2) ≤ 100
        · exfalso
          refine c5 ?_
          rw [sp_st, if_pos c62, sp_st, if_pos (by rw [sp_at, if_pos (by omega)]; exact c6.2.1)]
          rfl
        · rw [if_neg c6]; rfl
    · have c5 : ¬ sp_st t e c [62, 32] = true := by rw [st_ne c62]; decide
      rw [if_neg c5]
      by_cases c6 : e - c = 4 ∧ sp_st t e c [101, 108, 115, 101] = true
      · rw [if_pos c6, if_pos c6]; rfl
      rw [if_neg c6, if_neg c6]
      by_cases c7 : e - c = 3 ∧ sp_st t e c [47, 105, 102] = true
      · rw [if_pos c7, if_pos c7]; rfl
      rw [if_neg c7, if_neg c7]
      by_cases c8 : e - c = 5 ∧ sp_st t e c [47, 101, 97, 99, 104] = true
      · rw [if_pos c8, if_pos c8]; rfl
      rw [if_neg c8, if_neg c8]
      by_cases c9 : e - c = 5 ∧ sp_st t e c [47, 119, 105, 116, 104] = true
      · rw [if_pos c9, if_pos c9]; rfl
      rw [if_neg c9, if_neg c9, if_neg c62]
      rfl
set_option maxHeartbeats 4000000 in
set_option maxRecDepth 100000 in
theorem cp_readSort {g : jg_G} (hg : (jg_l g).stackTraces = false) {d mc ms : Nat} {h : jh_H} {r sb sch cap st : Nat} {L : List Nat} {c e : Nat} {three : Bool} {Q : jw_O → jh_H → Prop} (hr : rd_ok h r sb sch cap st L c e) (hd : 6 ≤ d) (hq : ∀ h', rd_ok h' r sb sch cap st L (c + (rs_o (tL L) c e three).2) e → rd_f r st h h' → fr (fun b => b = r) h h' → Q (.inl (some (.inr (.inr (some (jg_c g (100 + (rs_o (tL L) c e three).1))))))) h') : jw_C g d mc ms m_P_readSort [.inr (.inr (some r)), .inl (sp_b three)] h Q := by
  refine jw_intro (ls := [some (.inr (.inr (some r))), some (.inl (sp_b three))]) (by decide) k_P_readSort rfl (by simp [lo_fit, jv_c]) hg ?_
  cases three with
  | true =>
    refine jw_iload_n rfl rfl ?_
    refine jw_if_eq 8 rfl rfl (fun z => absurd z (by decide)) (fun _ => ?_)
    refine jw_gst rfl kz_2 y_P_161 ?_
    refine jw_areturn rfl rfl (Or.inl ⟨_, rfl⟩) ?_
    exact hq h hr rd_f.rf fr.rf
  | false =>
    refine jw_iload_n rfl rfl ?_
    refine jw_if_eq 8 rfl rfl (fun _ => ?_) (fun z => absurd (rfl) z)
    refine jw_aload_n rfl rfl ?_
    refine jw_ldcS 14 rfl rfl ?_
    refine js_call (As := [.inr (.inr (some (jg_c g 14)))]) rfl l_P_accept c_P_166 i_P_accept s_P_accept jc_o4 rfl (hr.1) rfl (cp_accept (d := d - 1) (mc := 0) (ms := 0) hg hr sk_14 (by decide) (by decide) (by omega) (fun es hl1 h3 hr3 f3 g3 => ?_) (fun ea0 => ?_)) (by omega) (Nat.le_of_ble_eq_true rfl) (by omega) (by omega) rfl
    · have eo : rs_o (tL L) c e false = (4, 1) := by rw [rs_o, if_neg (by decide), es]; rfl
      rw [eo] at hq
      refine jw_if_eq 21 rfl rfl (fun z => absurd z (by decide)) (fun _ => ?_)
      refine jw_gst rfl kz_4 y_P_170 ?_
      refine jw_areturn rfl rfl (Or.inl ⟨_, rfl⟩) ?_
      exact hq h3 hr3 f3 g3
    refine jw_if_eq 21 rfl rfl (fun _ => ?_) (fun z => absurd (rfl) z)
    refine jw_aload_n rfl rfl ?_
    refine jw_ldcS 15 rfl rfl ?_
    refine js_call (As := [.inr (.inr (some (jg_c g 15)))]) rfl l_P_accept c_P_166 i_P_accept s_P_accept jc_o4 rfl (hr.1) rfl (cp_accept (d := d - 1) (mc := 0) (ms := 0) hg hr sk_15 (by decide) (by decide) (by omega) (fun es hl1 h3 hr3 f3 g3 => ?_) (fun ea1 => ?_)) (by omega) (Nat.le_of_ble_eq_true rfl) (by omega) (by omega) rfl
    · have eo : rs_o (tL L) c e false = (6, 4) := by rw [rs_o, if_neg (by decide), ea0, if_neg (by decide), es]; rfl
      rw [eo] at hq
      refine jw_if_eq 34 rfl rfl (fun z => absurd z (by decide)) (fun _ => ?_)
      refine jw_gst rfl kz_6 y_P_148 ?_
      refine jw_areturn rfl rfl (Or.inl ⟨_, rfl⟩) ?_
      exact hq h3 hr3 f3 g3
    refine jw_if_eq 34 rfl rfl (fun _ => ?_) (fun z => absurd (rfl) z)
    refine jw_aload_n rfl rfl ?_
    refine jw_ldcS 16 rfl rfl ?_
    refine js_call (As := [.inr (.inr (some (jg_c g 16)))]) rfl l_P_accept c_P_166 i_P_accept s_P_accept jc_o4 rfl (hr.1) rfl (cp_accept (d := d - 1) (mc := 0) (ms := 0) hg hr sk_16 (by decide) (by decide) (by omega) (fun es hl1 h3 hr3 f3 g3 => ?_) (fun ea2 => ?_)) (by omega) (Nat.le_of_ble_eq_true rfl) (by omega) (by omega) rfl
    · have eo : rs_o (tL L) c e false = (7, 6) := by rw [rs_o, if_neg (by decide), ea0, if_neg (by decide), ea1, if_neg (by decide), es]; rfl
      rw [eo] at hq
      refine jw_if_eq 47 rfl rfl (fun z => absurd z (by decide)) (fun _ => ?_)
      refine jw_gst rfl kz_7 y_P_155 ?_
      refine jw_areturn rfl rfl (Or.inl ⟨_, rfl⟩) ?_
      exact hq h3 hr3 f3 g3
    refine jw_if_eq 47 rfl rfl (fun _ => ?_) (fun z => absurd (rfl) z)
    refine jw_aload_n rfl rfl ?_
    refine jw_ldcS 17 rfl rfl ?_
    refine js_call (As := [.inr (.inr (some (jg_c g 17)))]) rfl l_P_accept c_P_166 i_P_accept s_P_accept jc_o4 rfl (hr.1) rfl (cp_accept (d := d - 1) (mc := 0) (ms := 0) hg hr sk_17 (by decide) (by decide) (by omega) (fun es hl1 h3 hr3 f3 g3 => ?_) (fun ea3 => ?_)) (by omega) (Nat.le_of_ble_eq_true rfl) (by omega) (by omega) rfl
    · have eo : rs_o (tL L) c e false = (8, 6) := by rw [rs_o, if_neg (by decide), ea0, if_neg (by decide), ea1, if_neg (by decide), ea2, if_neg (by decide), es]; rfl
      rw [eo] at hq
      refine jw_if_eq 60 rfl rfl (fun z => absurd z (by decide)) (fun _ => ?_)
      refine jw_gst rfl kz_8 y_P_158 ?_
      refine jw_areturn rfl rfl (Or.inl ⟨_, rfl⟩) ?_
      exact hq h3 hr3 f3 g3
    refine jw_if_eq 60 rfl rfl (fun _ => ?_) (fun z => absurd (rfl) z)
    refine jw_aload_n rfl rfl ?_
    refine jw_ldcS 18 rfl rfl ?_
    refine js_call (As := [.inr (.inr (some (jg_c g 18)))]) rfl l_P_accept c_P_166 i_P_accept s_P_accept jc_o4 rfl (hr.1) rfl (cp_accept (d := d - 1) (mc := 0) (ms := 0) hg hr sk_18 (by decide) (by decide) (by omega) (fun es hl1 h3 hr3 f3 g3 => ?_) (fun ea4 => ?_)) (by omega) (Nat.le_of_ble_eq_true rfl) (by omega) (by omega) rfl
    · have eo : rs_o (tL L) c e false = (5, 2) := by rw [rs_o, if_neg (by decide), ea0, if_neg (by decide), ea1, if_neg (by decide), ea2, if_neg (by decide), ea3, if_neg (by decide), es]; rfl
      rw [eo] at hq
      refine jw_if_eq 73 rfl rfl (fun z => absurd z (by decide)) (fun _ => ?_)
      refine jw_gst rfl kz_5 y_P_181 ?_
      refine jw_areturn rfl rfl (Or.inl ⟨_, rfl⟩) ?_
      exact hq h3 hr3 f3 g3
    refine jw_if_eq 73 rfl rfl (fun _ => ?_) (fun z => absurd (rfl) z)
    refine jw_aload_n rfl rfl ?_
    refine jw_ldcS 19 rfl rfl ?_
    refine js_call (As := [.inr (.inr (some (jg_c g 19)))]) rfl l_P_isInside c_P_186 i_P_isInside s_P_isInside jc_o4 rfl (hr.1) rfl (cp_isInside (d := d - 1) (mc := 0) (ms := 0) hg hr sk_19 (by decide) (by decide) (by omega) ?_) (by omega) (Nat.le_of_ble_eq_true rfl) (by omega) (by omega) rfl
    by_cases ei0 : e - c = 4 ∧ sp_st (tL L) e c [101, 108, 115, 101] = true
    · have eo : rs_o (tL L) c e false = (9, 0) := by rw [rs_o, if_neg (by decide), ea0, if_neg (by decide), ea1, if_neg (by decide), ea2, if_neg (by decide), ea3, if_neg (by decide), ea4, if_neg (by decide), if_pos ei0]
      rw [eo] at hq
      rw [show decide (e - c = List.length [101, 108, 115, 101] ∧ sp_st (tL L) e c [101, 108, 115, 101] = true) = true from decide_eq_true ei0]
      refine jw_if_eq 86 rfl rfl (fun z => absurd z (by decide)) (fun _ => ?_)
      refine jw_gst rfl kz_9 y_P_189 ?_
      refine jw_areturn rfl rfl (Or.inl ⟨_, rfl⟩) ?_
      exact hq h hr rd_f.rf fr.rf
    rw [show decide (e - c = List.length [101, 108, 115, 101] ∧ sp_st (tL L) e c [101, 108, 115, 101] = true) = false from decide_eq_false ei0]
    refine jw_if_eq 86 rfl rfl (fun _ => ?_) (fun z => absurd (rfl) z)
    refine jw_aload_n rfl rfl ?_
    refine jw_ldcS 20 rfl rfl ?_
    refine js_call (As := [.inr (.inr (some (jg_c g 20)))]) rfl l_P_isInside c_P_186 i_P_isInside s_P_isInside jc_o4 rfl (hr.1) rfl (cp_isInside (d := d - 1) (mc := 0) (ms := 0) hg hr sk_20 (by decide) (by decide) (by omega) ?_) (by omega) (Nat.le_of_ble_eq_true rfl) (by omega) (by omega) rfl
    by_cases ei1 : e - c = 3 ∧ sp_st (tL L) e c [47, 105, 102] = true
    · have eo : rs_o (tL L) c e false = (10, 0) := by rw [rs_o, if_neg (by decide), ea0, if_neg (by decide), ea1, if_neg (by decide), ea2, if_neg (by decide), ea3, if_neg (by decide), ea4, if_neg (by decide), if_neg ei0, if_pos ei1]
      rw [eo] at hq
      rw [show decide (e - c = List.length [47, 105, 102] ∧ sp_st (tL L) e c [47, 105, 102] = true) = true from decide_eq_true ei1]
      refine jw_if_eq 99 rfl rfl (fun z => absurd z (by decide)) (fun _ => ?_)
      refine jw_gst rfl kz_10 y_P_194 ?_
      refine jw_areturn rfl rfl (Or.inl ⟨_, rfl⟩) ?_
      exact hq h hr rd_f.rf fr.rf
    rw [show decide (e - c = List.length [47, 105, 102] ∧ sp_st (tL L) e c [47, 105, 102] = true) = false from decide_eq_false ei1]
    refine jw_if_eq 99 rfl rfl (fun _ => ?_) (fun z => absurd (rfl) z)
    refine jw_aload_n rfl rfl ?_
    refine jw_ldcS 21 rfl rfl ?_
    refine js_call (As := [.inr (.inr (some (jg_c g 21)))]) rfl l_P_isInside c_P_186 i_P_isInside s_P_isInside jc_o4 rfl (hr.1) rfl (cp_isInside (d := d - 1) (mc := 0) (ms := 0) hg hr sk_21 (by decide) (by decide) (by omega) ?_) (by omega) (Nat.le_of_ble_eq_true rfl) (by omega) (by omega) rfl
    by_cases ei2 : e - c = 5 ∧ sp_st (tL L) e c [47, 101, 97, 99, 104] = true
    · have eo : rs_o (tL L) c e false = (11, 0) := by rw [rs_o, if_neg (by decide), ea0, if_neg (by decide), ea1, if_neg (by decide), ea2, if_neg (by decide), ea3, if_neg (by decide), ea4, if_neg (by decide), if_neg ei0, if_neg ei1, if_pos ei2]
      rw [eo] at hq
      rw [show decide (e - c = List.length [47, 101, 97, 99, 104] ∧ sp_st (tL L) e c [47, 101, 97, 99, 104] = true) = true from decide_eq_true ei2]
      refine jw_if_eq 112 rfl rfl (fun z => absurd z (by decide)) (fun _ => ?_)
      refine jw_gst rfl kz_11 y_P_199 ?_
      refine jw_areturn rfl rfl (Or.inl ⟨_, rfl⟩) ?_
      exact hq h hr rd_f.rf fr.rf
    rw [show decide (e - c = List.length [47, 101, 97, 99, 104] ∧ sp_st (tL L) e c [47, 101, 97, 99, 104] = true) = false from decide_eq_false ei2]
    refine jw_if_eq 112 rfl rfl (fun _ => ?_) (fun z => absurd (rfl) z)
    refine jw_aload_n rfl rfl ?_
    refine jw_ldcS 22 rfl rfl ?_
    refine js_call (As := [.inr (.inr (some (jg_c g 22)))]) rfl l_P_isInside c_P_186 i_P_isInside s_P_isInside jc_o4 rfl (hr.1) rfl (cp_isInside (d := d - 1) (mc := 0) (ms := 0) hg hr sk_22 (by decide) (by decide) (by omega) ?_) (by omega) (Nat.le_of_ble_eq_true rfl) (by omega) (by omega) rfl
    by_cases ei3 : e - c = 5 ∧ sp_st (tL L) e c [47, 119, 105, 116, 104] = true
    · have eo : rs_o (tL L) c e false = (12, 0) := by rw [rs_o, if_neg (by decide), ea0, if_neg (by decide), ea1, if_neg (by decide), ea2, if_neg (by decide), ea3, if_neg (by decide), ea4, if_neg (by decide), if_neg ei0, if_neg ei1, if_neg ei2, if_pos ei3]
      rw [eo] at hq
      rw [show decide (e - c = List.length [47, 119, 105, 116, 104] ∧ sp_st (tL L) e c [47, 119, 105, 116, 104] = true) = true from decide_eq_true ei3]
      refine jw_if_eq 127 rfl rfl (fun z => absurd z (by decide)) (fun _ => ?_)
      refine jw_gst rfl kz_12 y_P_204 ?_
      refine jw_goto 130 rfl rfl ?_
      refine jw_areturn rfl rfl (Or.inl ⟨_, rfl⟩) ?_
      exact hq h hr rd_f.rf fr.rf
    rw [show decide (e - c = List.length [47, 119, 105, 116, 104] ∧ sp_st (tL L) e c [47, 119, 105, 116, 104] = true) = false from decide_eq_false ei3]
    refine jw_if_eq 127 rfl rfl (fun _ => ?_) (fun z => absurd (rfl) z)
    refine jw_gst rfl kz_3 y_P_207 ?_
    refine jw_areturn rfl rfl (Or.inl ⟨_, rfl⟩) ?_
    have eo : rs_o (tL L) c e false = (3, 0) := by rw [rs_o, if_neg (by decide), ea0, if_neg (by decide), ea1, if_neg (by decide), ea2, if_neg (by decide), ea3, if_neg (by decide), ea4, if_neg (by decide), if_neg ei0, if_neg ei1, if_neg ei2, if_neg ei3]
    rw [eo] at hq
    exact hq h hr rd_f.rf fr.rf

