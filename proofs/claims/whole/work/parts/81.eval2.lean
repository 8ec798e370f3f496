/-! RENDERER: what an expression gives -/
def xp_ok (g : jg_G) (h : jh_H) (P0 : Nat → Prop) (X : ex_E) (a : Nat) : Prop := P0 a ∧ jh_O h a 6 ∧ X.1 ≤ 6 ∧ jh_r h a 384 = some (jg_c g (113 + X.1)) ∧ (∃ o, jh_r h a 385 = some o ∧ op_ok g h P0 X.2.1 o) ∧ (if 3 < X.1 then ∃ o, jh_r h a 386 = some o ∧ op_ok g h P0 X.2.2 o else jh_r h a 386 = none)
theorem xp_ok.fr {g : jg_G} {h h' : jh_H} {P0 S : Nat → Prop} {X : ex_E} {a : Nat} (hx : xp_ok g h P0 X a) (f : fr S h h') (hS : ∀ b, P0 b → ¬ S b) : xp_ok g h' P0 X a := by
  obtain ⟨h1, h2, h3, h4, ⟨o, h5, h6⟩, h7⟩ := hx
  have e := f.2 a h2.1 (hS a h1)
  refine ⟨h1, e.O h2, h3, (e.2.2.2.2.1 384).trans h4, ⟨o, (e.2.2.2.2.1 385).trans h5, h6.fr f hS⟩, ?_⟩
  by_cases c : 3 < X.1
  · rw [if_pos c] at h7 ⊢
    obtain ⟨o2, w1, w2⟩ := h7
    exact ⟨o2, (e.2.2.2.2.1 386).trans w1, w2.fr f hS⟩
  · rw [if_neg c] at h7 ⊢
    exact (e.2.2.2.2.1 386).trans h7
theorem rv_t4 {P0 : Nat → Prop} {h0 h h' : jh_H} {R : Nat → Nat} {k : Nat} {Z : List Nat} (hR : rR P0 R) (hk : k < 13) (hst : rv_st h0 h R k) (ht : tx_is h' (R 4) (R 5) 400 Z) (f' : fr (tx_S (R 4) (R 5)) h h') : rv_st h0 h' R k := rv_txt (i := 4) hR hk hst (Or.inl rfl) ht f'
theorem rv_t6 {P0 : Nat → Prop} {h0 h h' : jh_H} {R : Nat → Nat} {k : Nat} {Z : List Nat} (hR : rR P0 R) (hk : k < 13) (hst : rv_st h0 h R k) (ht : tx_is h' (R 6) (R 7) 400 Z) (f' : fr (tx_S (R 6) (R 7)) h h') : rv_st h0 h' R k := rv_txt (i := 6) hR hk hst (Or.inr (Or.inl rfl)) ht f'
theorem rv_ts {P0 : Nat → Prop} {h0 h h' : jh_H} {R : Nat → Nat} {k : Nat} {Z : List Nat} (hR : rR P0 R) (hk : k < 13) (hst : rv_st h0 h R k) (ht : tx_is h' (R (200 + k)) (R (300 + k)) 400 Z) (f' : fr (tx_S (R (200 + k)) (R (300 + k))) h h') : rv_st h0 h' R k := by
  have e : (if 200 + k = 4 then 5 else if 200 + k = 6 then 7 else 300 + k) = 300 + k := by rw [if_neg (by omega), if_neg (by omega)]
  exact rv_txt (i := 200 + k) hR hk hst (Or.inr (Or.inr rfl)) (by rw [e]; exact ht) (by rw [e]; exact f')
theorem rS_num {h : jh_H} {n : Nat} {D : sd_D} {E : cd_E} {P0 : Nat → Prop} {R : Nat → Nat} {k : Nat} {x : Int32} (hv : vl_num h (R (100 + k)) x) : vl_is h n D E (rP P0 R (k + 1)) (some (R (100 + k))) (some (.inl x)) := ⟨_, rfl, Or.inr ⟨k, by omega, Or.inl rfl⟩, hv⟩
set_option maxHeartbeats 4000000 in
set_option maxRecDepth 100000 in
theorem cf_evaluate {g : jg_G} (hg : (jg_l g).stackTraces = false) {d mc ms : Nat} {h : jh_H} {n : Nat} {D : sd_D} {E : cd_E} {P0 : Nat → Prop} {R : Nat → Nat} {k cn a : Nat} {C : Nat → sv_T} {tn : Option Nat} {X : ex_E} {Q : jw_O → jh_H → Prop} (hR : rR P0 R) (hk : k < 13) (hc : cd_ok h n D E P0) (hdp : ∀ x, x < n → sd_dp D 60 x) (hrc : rc_ok h n D E P0 R k cn C tn) (hrv : rv_ok h R) (hsl : sl_ok h R k) (hx : xp_ok g h P0 X a) (hd : 80 ≤ d) (hr : ev_ex D C cn tn X = none → 1 ≤ mc ∧ 6 ≤ ms)
    (hq : match ev_ex D C cn tn X with
      | none => ∀ h', rv_st h h' R k → Q (.inr "java/lang/IllegalStateException") h'
      | some v => ∀ h' p, rv_st h h' R k → vl_is h' n D E (rP P0 R (k + 1)) p v → Q (.inl (some (.inr (.inr p)))) h') : jw_C g d mc ms m_R_evaluate [.inr (.inr (some (R 0))), .inr (.inr (some a)), .inr (.inr (some (R (100 + k))))] h Q := by
  refine jw_intro (ls := [some (.inr (.inr (some (R 0)))), some (.inr (.inr (some a))), some (.inr (.inr (some (R (100 + k))))), none, none]) (by decide) k_R_evaluate rfl (by simp [lo_fit, jv_c]) hg ?_
  obtain ⟨x1, x2, x3, x4, ⟨o1, x5, x6⟩, x7⟩ := id hx
  have hS0 : ∀ b, P0 b → ¬ ev_S R k b := fun b hb => rP.ev hR hk (Or.inl hb)
  have u0 : rU 0 := Or.inl (by decide)
  have u1 : rU 1 := Or.inl (by decide)
  have u3 : rU 3 := Or.inl (by decide)
  have u4 : rU 4 := Or.inl (by decide)
  have u5 : rU 5 := Or.inl (by decide)
  have u6 : rU 6 := Or.inl (by decide)
  have u7 : rU 7 := Or.inl (by decide)
  have uk : rU (100 + k) := Or.inr (Or.inl (by omega))
  have ut : rU (200 + k) := Or.inr (Or.inr (Or.inl (by omega)))
  have uc : rU (300 + k) := Or.inr (Or.inr (Or.inr (by omega)))
  have st0 : rv_st h h R k := ⟨fr.rf, hrv, hsl⟩
  generalize hv1 : ev_op D C cn tn X.2.1 = v1 at *
  -- both operands are there
  have at35 : ∀ h2 p1 p2 v2, rv_st h h2 R k → vl_is h2 n D E (fun b => rP P0 R k b ∨ b = R (100 + k)) p1 v1 → vl_is h2 n D E (fun b => rP P0 R k b ∨ b = R 3) p2 v2 → (3 < X.1 → v2 = ev_op D C cn tn X.2.2) → jw_J g d m_R_evaluate jw_T0 35 [some (.inr (.inr (some (R 0)))), some (.inr (.inr (some a))), some (.inr (.inr (some (R (100 + k))))), some (.inr (.inr p1)), some (.inr (.inr p2))] [] h2 mc ms Q := by
    intro h2 p1 p2 v2 st2 w1 w2 ev2
    have hc2 : cd_ok h2 n D E P0 := hc.fr st2.1 hS0
    have y2 := hx.fr st2.1 hS0
    obtain ⟨f2, rv2, sl2⟩ := id st2
    have ends : ∀ x, rv_st h (jh_si (jh_si h2 (R (100 + k)) 128 0) (R (100 + k)) 129 x) R k ∧ vl_is (jh_si (jh_si h2 (R (100 + k)) 128 0) (R (100 + k)) 129 x) n D E (rP P0 R (k + 1)) (some (R (100 + k))) (some (.inl x)) := fun x => ⟨(rv_num hR hk st2 (Or.inr rfl)).1, rS_num (rv_num hR hk st2 (Or.inr rfl)).2⟩
    -- what the pointers stand for isn't written by Texts
    have P1no : ∀ i, rU i → (i = 4 ∨ i = 5 ∨ i = 6 ∨ i = 7 ∨ i = 200 + k ∨ i = 300 + k) → ¬ (rP P0 R k (R i) ∨ R i = R (100 + k)) := fun i hi h1 z => by
      rcases z with z | z
      · exact rP.no hR hi (by omega) (by omega) z
      · have := hR.1 i (100 + k) hi uk z; omega
    have P2no : ∀ i, rU i → (i = 4 ∨ i = 5 ∨ i = 6 ∨ i = 7 ∨ i = 200 + k ∨ i = 300 + k) → ¬ (rP P0 R k (R i) ∨ R i = R 3) := fun i hi h1 z => by
      rcases z with z | z
      · exact rP.no hR hi (by omega) (by omega) z
      · have := hR.1 i 3 hi u3 z; omega
    have e6 : X.1 = 0 ∨ X.1 = 1 ∨ X.1 = 2 ∨ X.1 = 3 ∨ X.1 = 4 ∨ X.1 = 5 ∨ X.1 = 6 := by omega
    obtain ⟨y3, y4⟩ : jh_O h2 a 6 ∧ jh_r h2 a 384 = some (jg_c g (113 + X.1)) := ⟨y2.2.1, y2.2.2.2.1⟩
    rcases e6 with e | e | e | e | e | e | e
    · rw [e] at y4
      have eev : ev_ex D C cn tn X = some v1 := by rw [ev_ex, if_pos e, hv1]
      rw [eev] at hq
      refine jw_gst rfl kz_25 y_R_194 ?_
      refine jw_aload_n rfl rfl ?_
      refine jw_gr rfl g_R_197 (y3) (y4) ?_
      refine jw_ord (x := 0) rfl mx_R_201 od_sameH od_selH kq_113 kf_ordinal_113 (by omega) (Nat.le_of_ble_eq_true rfl) ?_
      refine jw_kiald (0) rfl kt_301 rfl (by first | omega | decide) (by decide) ?_
      refine jw_tableOut 265 rfl (by decide) rfl ?_
      refine jw_aload_n rfl rfl ?_
      refine jw_areturn rfl rfl (Or.inl ⟨_, rfl⟩) ?_
      exact hq h2 p1 st2 (w1.mono (fun b z => by rcases z with z | z; exact z.mono (by omega); exact Or.inr ⟨k, by omega, Or.inl z⟩))
    · rw [e] at y4
      have eev : ev_ex D C cn tn X = if 400 < (sv_raw D v1).length then none else some (some (.inr (.inl ((sv_raw D v1).map ev_up)))) := by rw [ev_ex, if_neg (by omega), if_pos e, hv1]
      rw [eev] at hq hr
      obtain ⟨Z, tz⟩ := sl2.2.2.1
      refine jw_gst rfl kz_25 y_R_194 ?_
      refine jw_aload_n rfl rfl ?_
      refine jw_gr rfl g_R_197 (y3) (y4) ?_
      refine jw_ord (x := 1) rfl mx_R_201 od_sameH od_selH kq_114 kf_ordinal_114 (by omega) (Nat.le_of_ble_eq_true rfl) ?_
      refine jw_kiald (1) rfl kt_301 rfl (by first | omega | decide) (by decide) ?_
      refine jw_tableIn 84 rfl (by decide) (by decide) rfl rfl ?_
      refine jw_aload_n rfl rfl ?_
      refine jw_gr rfl g_R_204 (sl2.1) (sl2.2.1) ?_
      refine js_call (As := []) rfl l_T_clear c_R_54 i_T_clear s_T_clear jc_o1 rfl (tz.1.1) rfl (ct_clear2 (d := d - 1) (mc := 0) (ms := 0) hg tz (fun h3 t3 f3 => ?_)) (by omega) (Nat.le_of_ble_eq_true rfl) (by omega) (by omega) rfl
      have f3 : fr (tx_S (R (200 + k)) (R (300 + k))) h2 h3 := f3.mono (fun _ _ z => Or.inl z)
      have st3 := rv_ts hR hk st2 t3 f3
      have w3 := w1.fr f3 (fun b hb z => by rcases z with z | z; exact P1no (200 + k) ut (by omega) (by rw [← z]; exact hb); exact P1no (300 + k) uc (by omega) (by rw [← z]; exact hb))
      have hc3 : cd_ok h3 n D E P0 := hc.fr st3.1 hS0
      refine jw_aload_n rfl rfl ?_
      refine jw_aload_n rfl rfl ?_
      refine jw_gr rfl g_R_204 (st3.2.2.1) (st3.2.2.2.1) ?_
      refine js_iconst (x := 0) rfl rfl ?_
      by_cases hl : 400 < (sv_raw D v1).length
      · rw [if_pos hl] at hq hr
        have hr := hr rfl
        refine js_callS (As := [.inr (.inr p1), .inr (.inr (some (R (200 + k)))), .inl (nI 0)]) rfl l_R_showRaw c_R_117 i_R_showRaw rfl (cs_show (d := d - 1) (mc := 1) (ms := 6) (P := P0) (X := []) hg (hR.2 _ ut) (hR.2 _ uc) hc3 hdp t3 w3 (fun _ _ => ⟨P1no (200 + k) ut (by omega), P1no (300 + k) uc (by omega)⟩) (by omega) (fun _ => ⟨by omega, by omega⟩) ⟨fun z => absurd z (by show ¬ 0 + _ ≤ 400; omega), fun _ h4 Z4 t4 f4 => ?_⟩) (by omega) (Nat.le_of_ble_eq_true rfl) (by omega) (by omega) rfl
        exact hq h4 (rv_ts hR hk st3 t4 f4)
      · rw [if_neg hl] at hq
        refine js_callS (As := [.inr (.inr p1), .inr (.inr (some (R (200 + k)))), .inl (nI 0)]) rfl l_R_showRaw c_R_117 i_R_showRaw rfl (cs_show (d := d - 1) (mc := 0) (ms := 0) (P := P0) (X := []) hg (hR.2 _ ut) (hR.2 _ uc) hc3 hdp t3 w3 (fun _ _ => ⟨P1no (200 + k) ut (by omega), P1no (300 + k) uc (by omega)⟩) (by omega) (fun z => absurd z (by show ¬ 400 < 0 + _; omega)) ⟨fun _ h4 t4 f4 => ?_, fun z => absurd z (by show ¬ 400 < 0 + _; omega)⟩) (by omega) (Nat.le_of_ble_eq_true rfl) (by omega) (by omega) rfl
        have st4 := rv_ts hR hk st3 t4 f4
        refine jw_aload_n rfl rfl ?_
        refine jw_gr rfl g_R_204 (st4.2.2.1) (st4.2.2.2.1) ?_
        refine js_call (As := []) rfl l_T_raiseLetters c_R_207 i_T_raiseLetters s_T_raiseLetters jc_o1 rfl (t4.1.1) rfl (ct_raise (d := d - 1) (mc := 0) (ms := 0) hg t4 (fun h5 t5 f5 => ?_)) (by omega) (Nat.le_of_ble_eq_true rfl) (by omega) (by omega) rfl
        obtain ⟨f5', rv5, sl5⟩ := rv_ts hR hk st4 t5 f5
        refine jw_aload_n rfl rfl ?_
        refine js_iconst (x := 1) rfl rfl ?_
        refine jw_pi rfl p_R_evaluate_210 (sl5.1) ?_
        refine jw_aload_n rfl rfl ?_
        refine jw_areturn rfl rfl (Or.inl ⟨_, rfl⟩) ?_
        have n6 : fr (fun b => b = R (100 + k)) h5 (jh_si h5 (R (100 + k)) 128 1) := fr.si fr.rf rfl
        have tx : ∀ {a ch : Nat} {Z : List Nat}, tx_is h5 a ch 400 Z → tx_is (jh_si h5 (R (100 + k)) 128 1) a ch 400 Z := fun z => z.fr n6 (fun e => jO_ne z.1.1 sl5.1 (by decide) e) (fun e => jOA_ne sl5.1 z.1.2.1 (by decide) e.symm)
        have k133 : ∀ b, jh_i (jh_si h5 (R (100 + k)) 128 1) b 133 = jh_i h5 b 133 := fun b => jh_u_k _ _ _ _ (by decide)
        obtain ⟨v1', v2', v3', v4', v5', ⟨Z6, v6'⟩, v7', ⟨Z8, v8'⟩⟩ := rv5
        obtain ⟨s1', s2', ⟨Zs, s3'⟩, s4'⟩ := sl5
        refine hq _ (some (R (100 + k))) ⟨fr.si f5' (Or.inr (Or.inr (Or.inr (Or.inr (Or.inr (Or.inl rfl)))))), ⟨v1', v2', v3', (k133 _).trans v4', v5', ⟨_, tx v6'⟩, v7', ⟨_, tx v8'⟩⟩, s1', s2', ⟨_, tx s3'⟩, (k133 _).trans s4'⟩ ?_
        refine ⟨_, _, _, 400, rfl, Or.inr ⟨k, by omega, Or.inl rfl⟩, Or.inr ⟨k, by omega, Or.inr (Or.inl rfl)⟩, Or.inr ⟨k, by omega, Or.inr (Or.inr rfl)⟩, s1', jh_u_s _ _ _ _, s2', tx t5, (k133 _).trans s4'⟩
    · rw [e] at y4
      have eev : ev_ex D C cn tn X = some (some (.inl (nI (sv_len D v1)))) := by rw [ev_ex, if_neg (by omega), if_neg (by omega), if_pos e, hv1]
      rw [eev] at hq
      obtain ⟨e1, e2⟩ := ends (nI (sv_len D v1))
      refine jw_gst rfl kz_25 y_R_194 ?_
      refine jw_aload_n rfl rfl ?_
      refine jw_gr rfl g_R_197 (y3) (y4) ?_
      refine jw_ord (x := 2) rfl mx_R_201 od_sameH od_selH kq_115 kf_ordinal_115 (by omega) (Nat.le_of_ble_eq_true rfl) ?_
      refine jw_kiald (2) rfl kt_301 rfl (by first | omega | decide) (by decide) ?_
      refine jw_tableIn 114 rfl (by decide) (by decide) rfl rfl ?_
      refine jw_aload_n rfl rfl ?_
      refine jw_aload_n rfl rfl ?_
      cases p1 with
      | none =>
        have hv0 : v1 = none := by
          rcases v1 with _ | v | L | x
          · rfl
          · obtain ⟨b, e, -⟩ := w1; cases e
          · obtain ⟨b, tb, ch, cap, e, -⟩ := w1; cases e
          · cases w1.1
        subst hv0
        refine jw_ifnonnull 123 rfl rfl (fun _ => ?_) (fun x_ z_ => by cases z_)
        refine js_iconst (x := 0) rfl rfl ?_
        refine jw_goto 127 rfl rfl ?_
        refine js_call (As := [.inl (nI (sv_len D none))]) rfl l_V_becomeNumber c_R_216 i_V_becomeNumber s_V_becomeNumber jc_o2 rfl (sl2.1) rfl (cv_become (d := d - 1) (mc := 0) (ms := 0) hg sl2.1 ?_) (by omega) (Nat.le_of_ble_eq_true rfl) (by omega) (by omega) rfl
        refine jw_areturn rfl rfl (Or.inl ⟨_, rfl⟩) ?_
        exact hq _ _ e1 e2
      | some b =>
        refine jw_ifnonnull 123 rfl rfl (fun z_ => by cases z_) (fun _ _ => ?_)
        refine jw_aload_n rfl rfl ?_
        refine js_call (As := []) rfl l_V_measure c_R_213 i_V_measure s_V_measure jc_o2 rfl (vl_is.O hc2 w1) rfl (cv_measure (d := d - 1) (mc := 0) (ms := 0) hg hc2 w1 ?_) (by omega) (Nat.le_of_ble_eq_true rfl) (by omega) (by omega) rfl
        refine js_call (As := [.inl (nI (sv_len D v1))]) rfl l_V_becomeNumber c_R_216 i_V_becomeNumber s_V_becomeNumber jc_o2 rfl (sl2.1) rfl (cv_become (d := d - 1) (mc := 0) (ms := 0) hg sl2.1 ?_) (by omega) (Nat.le_of_ble_eq_true rfl) (by omega) (by omega) rfl
        refine jw_areturn rfl rfl (Or.inl ⟨_, rfl⟩) ?_
        exact hq _ _ e1 e2
    · rw [e] at y4
      have eev : ev_ex D C cn tn X = some (some (.inl (sp_b (sv_false D v1)))) := by rw [ev_ex, if_neg (by omega), if_neg (by omega), if_neg (by omega), if_pos e, hv1]
      rw [eev] at hq
      obtain ⟨e1, e2⟩ := ends (sp_b (sv_false D v1))
      refine jw_gst rfl kz_25 y_R_194 ?_
      refine jw_aload_n rfl rfl ?_
      refine jw_gr rfl g_R_197 (y3) (y4) ?_
      refine jw_ord (x := 3) rfl mx_R_201 od_sameH od_selH kq_116 kf_ordinal_116 (by omega) (Nat.le_of_ble_eq_true rfl) ?_
      refine jw_kiald (3) rfl kt_301 rfl (by first | omega | decide) (by decide) ?_
      refine jw_tableIn 131 rfl (by decide) (by decide) rfl rfl ?_
      refine jw_aload_n rfl rfl ?_
      refine jw_aload_n rfl rfl ?_
      refine js_callS (As := [.inr (.inr p1)]) rfl l_R_isFalse c_R_158 i_R_isFalse rfl (cf_isFalse (d := d - 1) (mc := 0) (ms := 0) hg hc2 w1 (by omega) ?_) (by omega) (Nat.le_of_ble_eq_true rfl) (by omega) (by omega) rfl
      cases hsf : sv_false D v1 with
      | true =>
        rw [hsf] at hq e1 e2
        refine jw_if_eq 143 rfl rfl (fun z => absurd z (by decide)) (fun _ => ?_)
        refine js_iconst (x := 1) rfl rfl ?_
        refine jw_goto 144 rfl rfl ?_
        refine js_call (As := [.inl (sp_b true)]) rfl l_V_becomeNumber c_R_216 i_V_becomeNumber s_V_becomeNumber jc_o2 rfl (sl2.1) rfl (cv_become (d := d - 1) (mc := 0) (ms := 0) hg sl2.1 ?_) (by omega) (Nat.le_of_ble_eq_true rfl) (by omega) (by omega) rfl
        refine jw_areturn rfl rfl (Or.inl ⟨_, rfl⟩) ?_
        exact hq _ _ e1 e2
      | false =>
        rw [hsf] at hq e1 e2
        refine jw_if_eq 143 rfl rfl (fun _ => ?_) (fun z => absurd (rfl) z)
        refine js_iconst (x := 0) rfl rfl ?_
        refine js_call (As := [.inl (sp_b false)]) rfl l_V_becomeNumber c_R_216 i_V_becomeNumber s_V_becomeNumber jc_o2 rfl (sl2.1) rfl (cv_become (d := d - 1) (mc := 0) (ms := 0) hg sl2.1 ?_) (by omega) (Nat.le_of_ble_eq_true rfl) (by omega) (by omega) rfl
        refine jw_areturn rfl rfl (Or.inl ⟨_, rfl⟩) ?_
        exact hq _ _ e1 e2
    · rw [e] at y4
      have ev2 := ev2 (by omega)
      have eev : ev_ex D C cn tn X = some (match ev_num v1, ev_num v2 with | some a, some b => some (.inl (a + b)) | _, _ => none) := by rw [ev_ex, if_neg (by omega), if_neg (by omega), if_neg (by omega), if_neg (by omega), if_pos e, hv1, ev2]; rfl
      rw [eev] at hq
      refine jw_gst rfl kz_25 y_R_194 ?_
      refine jw_aload_n rfl rfl ?_
      refine jw_gr rfl g_R_197 (y3) (y4) ?_
      refine jw_ord (x := 4) rfl mx_R_201 od_sameH od_selH kq_117 kf_ordinal_117 (by omega) (Nat.le_of_ble_eq_true rfl) ?_
      refine jw_kiald (4) rfl kt_301 rfl (by first | omega | decide) (by decide) ?_
      refine jw_tableIn 148 rfl (by decide) (by decide) rfl rfl ?_
      refine jw_aload_n rfl rfl ?_
      refine js_callS (As := [.inr (.inr p1)]) rfl l_R_isNumber c_R_219 i_R_isNumber rfl (cf_isNumber (d := d - 1) (mc := 0) (ms := 0) hg hc2 w1 ?_) (by omega) (Nat.le_of_ble_eq_true rfl) (by omega) (by omega) rfl
      cases en1 : ev_num v1 with
      | none =>
        rw [en1] at hq
        refine jw_if_eq 180 rfl rfl (fun _ => ?_) (fun z => absurd (rfl) z)
        refine jw_null rfl ?_
        refine jw_areturn rfl rfl (Or.inl ⟨_, rfl⟩) ?_
        exact hq h2 none st2 rfl
      | some z1 =>
        rw [en1] at hq
        refine jw_if_eq 180 rfl rfl (fun z => absurd z (show ¬ (1 : Int32) = 0 by decide)) (fun _ => ?_)
        refine jw_aload rfl rfl ?_
        refine js_callS (As := [.inr (.inr p2)]) rfl l_R_isNumber c_R_219 i_R_isNumber rfl (cf_isNumber (d := d - 1) (mc := 0) (ms := 0) hg hc2 w2 ?_) (by omega) (Nat.le_of_ble_eq_true rfl) (by omega) (by omega) rfl
        cases en2 : ev_num v2 with
        | none =>
          rw [en2] at hq
          refine jw_if_eq 180 rfl rfl (fun _ => ?_) (fun z => absurd (rfl) z)
          refine jw_null rfl ?_
          refine jw_areturn rfl rfl (Or.inl ⟨_, rfl⟩) ?_
          exact hq h2 none st2 rfl
        | some z2 =>
          rw [en2] at hq
          obtain ⟨b1, eb1, hn1⟩ : ∃ b, p1 = some b ∧ vl_num h2 b z1 := by
            rcases v1 with _ | v | L | x
            · cases en1
            · cases en1; obtain ⟨b, e, -, z⟩ := w1; exact ⟨b, e, z⟩
            · cases en1
            · cases en1
          obtain ⟨b2, eb2, hn2⟩ : ∃ b, p2 = some b ∧ vl_num h2 b z2 := by
            rcases v2 with _ | v | L | x
            · cases en2
            · cases en2; obtain ⟨b, e, -, z⟩ := w2; exact ⟨b, e, z⟩
            · cases en2
            · cases en2
          subst eb1 eb2
          obtain ⟨e1, e2⟩ := ends (z1 + z2)
          refine jw_if_eq 180 rfl rfl (fun z => absurd z (show ¬ (1 : Int32) = 0 by decide)) (fun _ => ?_)
          refine jw_aload_n rfl rfl ?_
          refine jw_aload_n rfl rfl ?_
          refine jw_gi rfl g_R_222 (hn1.1) (hn1.2.2.1) ?_
          refine jw_aload rfl rfl ?_
          refine jw_gi rfl g_R_222 (hn2.1) (hn2.2.2.1) ?_
          refine jw_iadd rfl ?_
          refine js_call (As := [.inl (z1 + z2)]) rfl l_V_becomeNumber c_R_216 i_V_becomeNumber s_V_becomeNumber jc_o2 rfl (sl2.1) rfl (cv_become (d := d - 1) (mc := 0) (ms := 0) hg sl2.1 ?_) (by omega) (Nat.le_of_ble_eq_true rfl) (by omega) (by omega) rfl
          refine jw_goto 181 rfl rfl ?_
          refine jw_areturn rfl rfl (Or.inl ⟨_, rfl⟩) ?_
          exact hq _ _ e1 e2
    · rw [e] at y4
      have ev2 := ev2 (by omega)
      have eev : ev_ex D C cn tn X = if 400 < (sv_raw D v1).length ∨ 400 < (sv_raw D v2).length then none else some (some (.inl (sp_b (decide (sv_raw D v1 = sv_raw D v2))))) := by rw [ev_ex, if_neg (by omega), if_neg (by omega), if_neg (by omega), if_neg (by omega), if_neg (by omega), if_pos e, hv1, ev2]
      rw [eev] at hq hr
      obtain ⟨Z, tz⟩ := rv2.2.2.2.2.2.1
      refine jw_gst rfl kz_25 y_R_194 ?_
      refine jw_aload_n rfl rfl ?_
      refine jw_gr rfl g_R_197 (y3) (y4) ?_
      refine jw_ord (x := 5) rfl mx_R_201 od_sameH od_selH kq_118 kf_ordinal_118 (by omega) (Nat.le_of_ble_eq_true rfl) ?_
      refine jw_kiald (5) rfl kt_301 rfl (by first | omega | decide) (by decide) ?_
      refine jw_tableIn 182 rfl (by decide) (by decide) rfl rfl ?_
      refine jw_aload_n rfl rfl ?_
      refine jw_gr rfl g_R_33 (rv2.1) (rv2.2.2.2.2.1) ?_
      refine js_call (As := []) rfl l_T_clear c_R_54 i_T_clear s_T_clear jc_o1 rfl (tz.1.1) rfl (ct_clear2 (d := d - 1) (mc := 0) (ms := 0) hg tz (fun h3 t3 f3 => ?_)) (by omega) (Nat.le_of_ble_eq_true rfl) (by omega) (by omega) rfl
      have f3 : fr (tx_S (R 4) (R 5)) h2 h3 := f3.mono (fun _ _ z => Or.inl z)
      have st3 := rv_t4 hR hk st2 t3 f3
      have n1 : ∀ b, (rP P0 R k b ∨ b = R (100 + k)) → ¬ tx_S (R 4) (R 5) b := fun b hb z => by
        rcases z with z | z
        · exact P1no 4 u4 (by omega) (by rw [← z]; exact hb)
        · exact P1no 5 u5 (by omega) (by rw [← z]; exact hb)
      have n2 : ∀ b, (rP P0 R k b ∨ b = R 3) → ¬ tx_S (R 4) (R 5) b := fun b hb z => by
        rcases z with z | z
        · exact P2no 4 u4 (by omega) (by rw [← z]; exact hb)
        · exact P2no 5 u5 (by omega) (by rw [← z]; exact hb)
      have m2 : ∀ b, (rP P0 R k b ∨ b = R 3) → ¬ tx_S (R 6) (R 7) b := fun b hb z => by
        rcases z with z | z
        · exact P2no 6 u6 (by omega) (by rw [← z]; exact hb)
        · exact P2no 7 u7 (by omega) (by rw [← z]; exact hb)
      have hc3 : cd_ok h3 n D E P0 := hc.fr st3.1 hS0
      refine jw_aload_n rfl rfl ?_
      refine jw_aload_n rfl rfl ?_
      refine jw_gr rfl g_R_33 (st3.2.1.1) (st3.2.1.2.2.2.2.1) ?_
      refine js_iconst (x := 0) rfl rfl ?_
      by_cases hl : 400 < (sv_raw D v1).length
      · rw [if_pos (Or.inl hl)] at hq hr
        have hr := hr rfl
        refine js_callS (As := [.inr (.inr p1), .inr (.inr (some (R 4))), .inl (nI 0)]) rfl l_R_showRaw c_R_117 i_R_showRaw rfl (cs_show (d := d - 1) (mc := 1) (ms := 6) (P := P0) (X := []) hg (hR.2 _ u4) (hR.2 _ u5) hc3 hdp t3 (w1.fr f3 n1) (fun _ _ => ⟨P1no 4 u4 (by omega), P1no 5 u5 (by omega)⟩) (by omega) (fun _ => ⟨by omega, by omega⟩) ⟨fun z => absurd z (by show ¬ 0 + _ ≤ 400; omega), fun _ h4 Z4 t4 f4 => ?_⟩) (by omega) (Nat.le_of_ble_eq_true rfl) (by omega) (by omega) rfl
        exact hq h4 (rv_t4 hR hk st3 t4 f4)
      refine js_callS (As := [.inr (.inr p1), .inr (.inr (some (R 4))), .inl (nI 0)]) rfl l_R_showRaw c_R_117 i_R_showRaw rfl (cs_show (d := d - 1) (mc := 0) (ms := 0) (P := P0) (X := []) hg (hR.2 _ u4) (hR.2 _ u5) hc3 hdp t3 (w1.fr f3 n1) (fun _ _ => ⟨P1no 4 u4 (by omega), P1no 5 u5 (by omega)⟩) (by omega) (fun z => absurd z (by show ¬ 400 < 0 + _; omega)) ⟨fun _ h4 t4 f4 => ?_, fun z => absurd z (by show ¬ 400 < 0 + _; omega)⟩) (by omega) (Nat.le_of_ble_eq_true rfl) (by omega) (by omega) rfl
      have t4 : tx_is h4 (R 4) (R 5) 400 (sv_raw D v1) := t4
      have st4 := rv_t4 hR hk st3 t4 f4
      have w4 := (w2.fr f3 n2).fr f4 n2
      obtain ⟨Y, ty⟩ := st4.2.1.2.2.2.2.2.2.2
      refine jw_aload_n rfl rfl ?_
      refine jw_gr rfl g_R_37 (st4.2.1.1) (st4.2.1.2.2.2.2.2.2.1) ?_
      refine js_call (As := []) rfl l_T_clear c_R_54 i_T_clear s_T_clear jc_o1 rfl (ty.1.1) rfl (ct_clear2 (d := d - 1) (mc := 0) (ms := 0) hg ty (fun h5 t5 f5 => ?_)) (by omega) (Nat.le_of_ble_eq_true rfl) (by omega) (by omega) rfl
      have f5 : fr (tx_S (R 6) (R 7)) h4 h5 := f5.mono (fun _ _ z => Or.inl z)
      have st5 := rv_t6 hR hk st4 t5 f5
      have hc5 : cd_ok h5 n D E P0 := hc.fr st5.1 hS0
      have l5 := t4.fr f5 (fun z => by rcases z with z | z; exact hR.ne u4 u6 (by decide) z; exact hR.ne u4 u7 (by decide) z) (fun z => by rcases z with z | z; exact hR.ne u5 u6 (by decide) z; exact hR.ne u5 u7 (by decide) z)
      refine jw_aload rfl rfl ?_
      refine jw_aload_n rfl rfl ?_
      refine jw_gr rfl g_R_37 (st5.2.1.1) (st5.2.1.2.2.2.2.2.2.1) ?_
      refine js_iconst (x := 0) rfl rfl ?_
      by_cases hl2 : 400 < (sv_raw D v2).length
      · rw [if_pos (Or.inr hl2)] at hq hr
        have hr := hr rfl
        refine js_callS (As := [.inr (.inr p2), .inr (.inr (some (R 6))), .inl (nI 0)]) rfl l_R_showRaw c_R_117 i_R_showRaw rfl (cs_show (d := d - 1) (mc := 1) (ms := 6) (P := P0) (X := []) hg (hR.2 _ u6) (hR.2 _ u7) hc5 hdp t5 (w4.fr f5 m2) (fun _ _ => ⟨P2no 6 u6 (by omega), P2no 7 u7 (by omega)⟩) (by omega) (fun _ => ⟨by omega, by omega⟩) ⟨fun z => absurd z (by show ¬ 0 + _ ≤ 400; omega), fun _ h6 Z6 t6 f6 => ?_⟩) (by omega) (Nat.le_of_ble_eq_true rfl) (by omega) (by omega) rfl
        exact hq h6 (rv_t6 hR hk st5 t6 f6)
      rw [if_neg (fun z => by rcases z with z | z; exact hl z; exact hl2 z)] at hq
      refine js_callS (As := [.inr (.inr p2), .inr (.inr (some (R 6))), .inl (nI 0)]) rfl l_R_showRaw c_R_117 i_R_showRaw rfl (cs_show (d := d - 1) (mc := 0) (ms := 0) (P := P0) (X := []) hg (hR.2 _ u6) (hR.2 _ u7) hc5 hdp t5 (w4.fr f5 m2) (fun _ _ => ⟨P2no 6 u6 (by omega), P2no 7 u7 (by omega)⟩) (by omega) (fun z => absurd z (by show ¬ 400 < 0 + _; omega)) ⟨fun _ h6 t6 f6 => ?_, fun z => absurd z (by show ¬ 400 < 0 + _; omega)⟩) (by omega) (Nat.le_of_ble_eq_true rfl) (by omega) (by omega) rfl
      have t6 : tx_is h6 (R 6) (R 7) 400 (sv_raw D v2) := t6
      have st6 := rv_t6 hR hk st5 t6 f6
      have l6 := l5.fr f6 (fun z => by rcases z with z | z; exact hR.ne u4 u6 (by decide) z; exact hR.ne u4 u7 (by decide) z) (fun z => by rcases z with z | z; exact hR.ne u5 u6 (by decide) z; exact hR.ne u5 u7 (by decide) z)
      have e1 := fun x => rv_num (x := x) hR hk st6 (Or.inr rfl)
      refine jw_aload_n rfl rfl ?_
      refine jw_aload_n rfl rfl ?_
      refine jw_gr rfl g_R_33 (st6.2.1.1) (st6.2.1.2.2.2.2.1) ?_
      refine jw_aload_n rfl rfl ?_
      refine jw_gr rfl g_R_37 (st6.2.1.1) (st6.2.1.2.2.2.2.2.2.1) ?_
      refine js_call (As := [.inr (.inr (some (R 6)))]) rfl l_T_isLike c_R_225 i_T_isLike s_T_isLike jc_o1 rfl (l6.1.1) rfl (ct_isLike (d := d - 1) (mc := 0) (ms := 0) hg l6 t6 ?_) (by omega) (Nat.le_of_ble_eq_true rfl) (by omega) (by omega) rfl
      by_cases eq : sv_raw D v1 = sv_raw D v2
      · rw [decide_eq_true eq] at hq ⊢
        refine jw_if_eq 234 rfl rfl (fun z => absurd z (by decide)) (fun _ => ?_)
        refine js_iconst (x := 1) rfl rfl ?_
        refine jw_goto 235 rfl rfl ?_
        refine js_call (As := [.inl (sp_b true)]) rfl l_V_becomeNumber c_R_216 i_V_becomeNumber s_V_becomeNumber jc_o2 rfl (st6.2.2.1) rfl (cv_become (d := d - 1) (mc := 0) (ms := 0) hg st6.2.2.1 ?_) (by omega) (Nat.le_of_ble_eq_true rfl) (by omega) (by omega) rfl
        refine jw_areturn rfl rfl (Or.inl ⟨_, rfl⟩) ?_
        exact hq _ _ (e1 _).1 (rS_num (e1 _).2)
      · rw [decide_eq_false eq] at hq ⊢
        refine jw_if_eq 234 rfl rfl (fun _ => ?_) (fun z => absurd (rfl) z)
        refine js_iconst (x := 0) rfl rfl ?_
        refine js_call (As := [.inl (sp_b false)]) rfl l_V_becomeNumber c_R_216 i_V_becomeNumber s_V_becomeNumber jc_o2 rfl (st6.2.2.1) rfl (cv_become (d := d - 1) (mc := 0) (ms := 0) hg st6.2.2.1 ?_) (by omega) (Nat.le_of_ble_eq_true rfl) (by omega) (by omega) rfl
        refine jw_areturn rfl rfl (Or.inl ⟨_, rfl⟩) ?_
        exact hq _ _ (e1 _).1 (rS_num (e1 _).2)
    · rw [e] at y4
      have ev2 := ev2 (by omega)
      have eev : ev_ex D C cn tn X = some (ev_el D v1 (match ev_num v2 with | some b => b | none => -1)) := by rw [ev_ex, if_neg (by omega), if_neg (by omega), if_neg (by omega), if_neg (by omega), if_neg (by omega), if_neg (by omega), hv1, ev2]; rfl
      rw [eev] at hq
      refine jw_gst rfl kz_25 y_R_194 ?_
      refine jw_aload_n rfl rfl ?_
      refine jw_gr rfl g_R_197 (y3) (y4) ?_
      refine jw_ord (x := 6) rfl mx_R_201 od_sameH od_selH kq_119 kf_ordinal_119 (by omega) (Nat.le_of_ble_eq_true rfl) ?_
      refine jw_kiald (6) rfl kt_301 rfl (by first | omega | decide) (by decide) ?_
      refine jw_tableIn 239 rfl (by decide) (by decide) rfl rfl ?_
      refine jw_aload_n rfl rfl ?_
      cases p1 with
      | none =>
        have hv0 : v1 = none := by
          rcases v1 with _ | v | L | x
          · rfl
          · obtain ⟨b, e, -⟩ := w1; cases e
          · obtain ⟨b, tb, ch, cap, e, -⟩ := w1; cases e
          · cases w1.1
        subst hv0
        refine jw_ifnull 263 rfl rfl (fun _ => ?_) (fun x_ z_ => by cases z_)
        refine jw_null rfl ?_
        refine jw_areturn rfl rfl (Or.inl ⟨_, rfl⟩) ?_
        exact hq h2 none st2 rfl
      | some b =>
        refine jw_ifnull 263 rfl rfl (fun z_ => by cases z_) (fun _ _ => ?_)
        refine jw_aload rfl rfl ?_
        refine js_callS (As := [.inr (.inr p2)]) rfl l_R_isNumber c_R_219 i_R_isNumber rfl (cf_isNumber (d := d - 1) (mc := 0) (ms := 0) hg hc2 w2 ?_) (by omega) (Nat.le_of_ble_eq_true rfl) (by omega) (by omega) rfl
        cases en2 : ev_num v2 with
        | none =>
          rw [en2] at hq
          have hnone : ev_el D v1 (-1) = none := by
            rcases v1 with _ | v | L | x
            · rfl
            · rfl
            · rfl
            · show (if _ then _ else _) = _; rw [if_neg (fun z => absurd z.2.1 (by decide))]
          refine jw_if_eq 263 rfl rfl (fun _ => ?_) (fun z => absurd (rfl) z)
          refine jw_null rfl ?_
          refine jw_areturn rfl rfl (Or.inl ⟨_, rfl⟩) ?_
          exact hq h2 none st2 (by show vl_is _ _ _ _ _ none (ev_el D v1 (-1)); rw [hnone]; rfl)
        | some z2 =>
          rw [en2] at hq
          obtain ⟨b2, eb2, hn2⟩ : ∃ b, p2 = some b ∧ vl_num h2 b z2 := by
            rcases v2 with _ | v | L | x
            · cases en2
            · cases en2; obtain ⟨b, e, -, z⟩ := w2; exact ⟨b, e, z⟩
            · cases en2
            · cases en2
          subst eb2
          refine jw_if_eq 263 rfl rfl (fun z => absurd z (show ¬ (1 : Int32) = 0 by decide)) (fun _ => ?_)
          refine jw_aload_n rfl rfl ?_
          refine jw_aload rfl rfl ?_
          refine jw_gi rfl g_R_222 (hn2.1) (hn2.2.2.1) ?_
          refine js_call (As := [.inl z2]) rfl l_V_elementAt c_R_229 i_V_elementAt s_V_elementAt jc_o2 rfl (vl_is.O hc2 w1) rfl (cv_element (d := d - 1) (mc := 0) (ms := 0) hg hc2 w1 (fun q hq2 => ?_)) (by omega) (Nat.le_of_ble_eq_true rfl) (by omega) (by omega) rfl
          refine jw_goto 264 rfl rfl ?_
          refine jw_areturn rfl rfl (Or.inl ⟨_, rfl⟩) ?_
          exact hq h2 q st2 (hq2.mono (fun _ z => Or.inl z))
  -- the operands
  have at10 : ∀ h1 p1, rv_st h h1 R k → vl_is h1 n D E (fun b => rP P0 R k b ∨ b = R (100 + k)) p1 v1 → rc_ok h1 n D E P0 R k cn C tn → jw_J g d m_R_evaluate jw_T0 10 [some (.inr (.inr (some (R 0)))), some (.inr (.inr (some a))), some (.inr (.inr (some (R (100 + k))))), some (.inr (.inr p1)), none] [] h1 mc ms Q := by
    intro h1 p1 st1 w1 rc1
    have y1 := hx.fr st1.1 hS0
    have hc1 : cd_ok h1 n D E P0 := hc.fr st1.1 hS0
    obtain ⟨z1, z2, z3, z4, -, z7⟩ := y1
    by_cases h3 : 3 < X.1
    · rw [if_pos h3] at z7
      obtain ⟨o2, q1, q2⟩ := z7
      refine jw_aload_n rfl rfl ?_
      refine jw_gr rfl g_R_191 (z2) (q1) ?_
      refine jw_ifnonnull 21 rfl rfl (fun z_ => by cases z_) (fun _ _ => ?_)
      refine jw_aload_n rfl rfl ?_
      refine jw_aload_n rfl rfl ?_
      refine jw_gr rfl g_R_191 (z2) (q1) ?_
      refine jw_aload_n rfl rfl ?_
      refine jw_gr rfl g_R_24 (st1.2.1.1) (st1.2.1.2.1) ?_
      refine js_call (As := [.inr (.inr (some o2)), .inr (.inr (some (R 3)))]) rfl l_R_valueOf c_R_187 i_R_valueOf s_R_valueOf jc_o3 rfl (st1.2.1.1) rfl (cf_valueOf (d := d - 1) (mc := 0) (ms := 0) hg hc1 rc1 q2 st1.2.1.2.2.1 st1.2.1.2.2.2.1 (by omega) (fun h2 p2 _ w2 => ?_)) (by omega) (Nat.le_of_ble_eq_true rfl) (by omega) (by omega) rfl
      refine js_astore rfl rfl (by decide) rfl ?_
      rcases w2 with ⟨w2, rfl⟩ | ⟨x, w2, rfl, rfl⟩
      · exact at35 h2 p1 p2 _ st1 w1 (w2.mono (fun _ z => Or.inl z)) (fun _ => rfl)
      · obtain ⟨s2, n2⟩ := rv_num (x := x) hR hk st1 (Or.inl rfl)
        refine at35 _ p1 _ (ev_op D C cn tn X.2.2) s2 ?_ ?_ (fun _ => rfl)
        · refine w1.fr (bn_is st1.2.1.2.2.1 st1.2.1.2.2.2.1).2 (fun b hb z => ?_)
          subst z
          rcases hb with hb | hb
          · exact rP.no hR u3 (by omega) (Or.inl (by decide)) hb
          · exact hR.ne u3 uk (by omega) hb
        · rw [w2]; exact ⟨_, rfl, Or.inr rfl, n2⟩
    · rw [if_neg h3] at z7
      refine jw_aload_n rfl rfl ?_
      refine jw_gr rfl g_R_191 (z2) (z7) ?_
      refine jw_ifnonnull 21 rfl rfl (fun _ => ?_) (fun x_ z_ => by cases z_)
      refine jw_null rfl ?_
      refine jw_goto 33 rfl rfl ?_
      refine js_astore rfl rfl (by decide) rfl ?_
      exact at35 h1 p1 none none st1 w1 rfl (fun z => absurd z h3)
  refine jw_aload_n rfl rfl ?_
  refine jw_aload_n rfl rfl ?_
  refine jw_gr rfl g_R_181 (x2) (x5) ?_
  refine jw_aload_n rfl rfl ?_
  refine js_call (As := [.inr (.inr (some o1)), .inr (.inr (some (R (100 + k))))]) rfl l_R_valueOf c_R_187 i_R_valueOf s_R_valueOf jc_o3 rfl (hrc.1) rfl (cf_valueOf (d := d - 1) (mc := 0) (ms := 0) hg hc hrc x6 hsl.1 hsl.2.2.2 (by omega) (fun h1 p1 _ w1 => ?_)) (by omega) (Nat.le_of_ble_eq_true rfl) (by omega) (by omega) rfl
  refine js_astore_n rfl rfl (by decide) rfl ?_
  rcases w1 with ⟨w1, rfl⟩ | ⟨x, w1, rfl, rfl⟩
  · exact at10 h1 p1 st0 (by rw [← hv1]; exact w1.mono (fun _ z => Or.inl z)) hrc
  · obtain ⟨s1, n1⟩ := rv_num (x := x) hR hk st0 (Or.inr rfl)
    refine at10 _ _ s1 (by rw [← hv1, w1]; exact ⟨_, rfl, Or.inr rfl, n1⟩) ?_
    obtain ⟨r0, r1, r2, r3, r4, r5, r6, r7⟩ := hrc
    have f1 := (bn_is (x := x) hsl.1 hsl.2.2.2).2
    have e0 := f1.2 (R 0) r0.1 (hR.ne u0 uk (by omega))
    have e1 := f1.2 (R 1) r2.1 (hR.ne u1 uk (by omega))
    refine ⟨e0.O r0, (e0.2.2.2.2.1 192).trans r1, e1.A r2, (e0.2.2.1 193).trans r3, r4, fun i hi => ?_, (e0.2.2.1 202).trans r6, r7⟩
    rw [e1.2.2.2.2.2.2.2 i]
    exact (r5 i hi).fr f1 (fun b hb z => by subst z; exact rP.no hR uk (by omega) (by omega) hb)

