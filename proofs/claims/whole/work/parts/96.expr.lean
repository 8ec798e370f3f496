/-! READER: an expression -/
set_option maxHeartbeats 4000000 in
set_option maxRecDepth 100000 in
theorem cx_init {g : jg_G} (hg : (jg_l g).stackTraces = false) {d mc ms : Nat} {h : jh_H} {q a b : Nat} {s : Option Nat} {Q : jw_O → jh_H → Prop} (ho : jh_O h q 6) (hd : 1 ≤ d) (hq : Q (.inl none) (jh_sr (jh_sr (jh_sr h q 384 (some a)) q 385 (some b)) q 386 s)) : jw_C g d mc ms m_X_init [.inr (.inr (some q)), .inr (.inr (some a)), .inr (.inr (some b)), .inr (.inr s)] h Q := by
  refine jw_intro (ls := [some (.inr (.inr (some q))), some (.inr (.inr (some a))), some (.inr (.inr (some b))), some (.inr (.inr s))]) (by decide) k_X_init rfl (by simp [lo_fit, jv_c]) hg ?_
  refine jw_aload_n rfl rfl ?_
  refine jw_obj rfl oi_X_1 (by omega) (Nat.le_of_ble_eq_true rfl) ?_
  refine jw_aload_n rfl rfl ?_
  refine jw_aload_n rfl rfl ?_
  refine jw_pr rfl p_X_init_7 (ho) ?_
  refine jw_aload_n rfl rfl ?_
  refine jw_aload_n rfl rfl ?_
  refine jw_pr rfl p_X_init_13 (ho) ?_
  refine jw_aload_n rfl rfl ?_
  refine jw_aload_n rfl rfl ?_
  refine jw_pr rfl p_X_init_17 (ho) ?_
  refine jw_return rfl rfl ?_
  exact hq
set_option maxHeartbeats 4000000 in
set_option maxRecDepth 100000 in
theorem cp_readHelper {g : jg_G} (hg : (jg_l g).stackTraces = false) {d mc ms : Nat} {h : jh_H} {r sb sch cap st : Nat} {L : List Nat} {c e : Nat} {Q : jw_O → jh_H → Prop} (hr : rd_ok h r sb sch cap st L c e) (hd : 6 ≤ d) (hq : ∀ h', c + (if sp_helper (tL L) c e = 0 then 0 else sp_hs (sp_helper (tL L) c e)) ≤ e → rd_ok h' r sb sch cap st L (c + (if sp_helper (tL L) c e = 0 then 0 else sp_hs (sp_helper (tL L) c e))) e → rd_f r st h h' → fr (fun b => b = r) h h' → Q (.inl (some (.inr (.inr (some (jg_c g (113 + sp_helper (tL L) c e))))))) h') : jw_C g d mc ms m_P_readHelper [.inr (.inr (some r))] h Q := by
  refine jw_intro (ls := [some (.inr (.inr (some r))), none]) (by decide) k_P_readHelper rfl (by simp [lo_fit, jv_c]) hg ?_
  refine jw_kinj (fun inj => ?_)
  have hce := hr.2.2.2.2.2.2.1
  refine js_iconst (x := 0) rfl rfl ?_
  refine js_istore_n rfl rfl (by decide) rfl ?_
  refine jw_iload_n rfl rfl ?_
  refine jw_gst rfl kz_27 y_P_245 ?_
  refine jw_klen rfl kt_303 ?_
  refine jw_icmp_ge 48 rfl rfl (fun z => absurd z (by decide)) (fun _ => ?_)
  refine jw_gst rfl kz_27 y_P_245 ?_
  refine jw_iload_n rfl rfl ?_
  refine jw_kaald (0) rfl kt_303 rfl (by first | omega | decide) (by decide) ?_
  refine jw_gst rfl kz_13 y_P_249 ?_
  refine jw_acmp_eq 42 rfl rfl (fun _ => ?_) (fun z => absurd (rfl) z)
  refine js_iinc rfl rfl (nI_1 0) rfl (by decide) rfl ?_
  refine jw_goto 2 rfl rfl ?_
  have ne1 : ¬ (some (jg_c g 114) : Option Nat) = some (jg_c g 113) := fun z => absurd (inj 14 13 (by decide) (by decide) (Option.some.inj z)) (by decide)
  refine jw_iload_n rfl rfl ?_
  refine jw_gst rfl kz_27 y_P_245 ?_
  refine jw_klen rfl kt_303 ?_
  refine jw_icmp_ge 48 rfl rfl (fun z => absurd z (by decide)) (fun _ => ?_)
  refine jw_gst rfl kz_27 y_P_245 ?_
  refine jw_iload_n rfl rfl ?_
  refine jw_kaald (1) rfl kt_303 rfl (by first | omega | decide) (by decide) ?_
  refine jw_gst rfl kz_13 y_P_249 ?_
  refine jw_acmp_eq 42 rfl rfl (fun z => absurd z (ne1)) (fun _ => ?_)
  refine jw_aload_n rfl rfl ?_
  refine jw_gst rfl kz_27 y_P_245 ?_
  refine jw_iload_n rfl rfl ?_
  refine jw_kaald (1) rfl kt_303 rfl (by first | omega | decide) (by decide) ?_
  refine jw_gkf rfl kf_opening_114 y_P_253 ?_
  refine js_call (As := [.inr (.inr (some (jg_c g 42)))]) rfl l_P_accept c_P_166 i_P_accept s_P_accept jc_o4 rfl (hr.1) rfl (cp_accept (d := d - 1) (mc := 0) (ms := 0) hg hr sk_42 (by decide) (by decide) (by omega) (fun es hl1 h3 hr3 f3 g3 => ?_) (fun es1 => ?_)) (by omega) (Nat.le_of_ble_eq_true rfl) (by omega) (by omega) rfl
  · have eh : sp_helper (tL L) c e = 1 := by rw [sp_helper, es, if_pos rfl]
    have hq := hq h3
    rw [eh] at hq
    refine jw_if_eq 42 rfl rfl (fun z => absurd z (by decide)) (fun _ => ?_)
    refine jw_gst rfl kz_27 y_P_245 ?_
    refine jw_iload_n rfl rfl ?_
    refine jw_kaald (1) rfl kt_303 rfl (by first | omega | decide) (by decide) ?_
    refine jw_areturn rfl rfl (Or.inl ⟨_, rfl⟩) ?_
    exact hq hl1 hr3 f3 g3
  refine jw_if_eq 42 rfl rfl (fun _ => ?_) (fun z => absurd (rfl) z)
  refine js_iinc rfl rfl (nI_1 1) rfl (by decide) rfl ?_
  refine jw_goto 2 rfl rfl ?_
  have ne2 : ¬ (some (jg_c g 115) : Option Nat) = some (jg_c g 113) := fun z => absurd (inj 15 13 (by decide) (by decide) (Option.some.inj z)) (by decide)
  refine jw_iload_n rfl rfl ?_
  refine jw_gst rfl kz_27 y_P_245 ?_
  refine jw_klen rfl kt_303 ?_
  refine jw_icmp_ge 48 rfl rfl (fun z => absurd z (by decide)) (fun _ => ?_)
  refine jw_gst rfl kz_27 y_P_245 ?_
  refine jw_iload_n rfl rfl ?_
  refine jw_kaald (2) rfl kt_303 rfl (by first | omega | decide) (by decide) ?_
  refine jw_gst rfl kz_13 y_P_249 ?_
  refine jw_acmp_eq 42 rfl rfl (fun z => absurd z (ne2)) (fun _ => ?_)
  refine jw_aload_n rfl rfl ?_
  refine jw_gst rfl kz_27 y_P_245 ?_
  refine jw_iload_n rfl rfl ?_
  refine jw_kaald (2) rfl kt_303 rfl (by first | omega | decide) (by decide) ?_
  refine jw_gkf rfl kf_opening_115 y_P_253 ?_
  refine js_call (As := [.inr (.inr (some (jg_c g 43)))]) rfl l_P_accept c_P_166 i_P_accept s_P_accept jc_o4 rfl (hr.1) rfl (cp_accept (d := d - 1) (mc := 0) (ms := 0) hg hr sk_43 (by decide) (by decide) (by omega) (fun es hl1 h3 hr3 f3 g3 => ?_) (fun es2 => ?_)) (by omega) (Nat.le_of_ble_eq_true rfl) (by omega) (by omega) rfl
  · have eh : sp_helper (tL L) c e = 2 := by rw [sp_helper, es1, if_neg (by decide), es, if_pos rfl]
    have hq := hq h3
    rw [eh] at hq
    refine jw_if_eq 42 rfl rfl (fun z => absurd z (by decide)) (fun _ => ?_)
    refine jw_gst rfl kz_27 y_P_245 ?_
    refine jw_iload_n rfl rfl ?_
    refine jw_kaald (2) rfl kt_303 rfl (by first | omega | decide) (by decide) ?_
    refine jw_areturn rfl rfl (Or.inl ⟨_, rfl⟩) ?_
    exact hq hl1 hr3 f3 g3
  refine jw_if_eq 42 rfl rfl (fun _ => ?_) (fun z => absurd (rfl) z)
  refine js_iinc rfl rfl (nI_1 2) rfl (by decide) rfl ?_
  refine jw_goto 2 rfl rfl ?_
  have ne3 : ¬ (some (jg_c g 116) : Option Nat) = some (jg_c g 113) := fun z => absurd (inj 16 13 (by decide) (by decide) (Option.some.inj z)) (by decide)
  refine jw_iload_n rfl rfl ?_
  refine jw_gst rfl kz_27 y_P_245 ?_
  refine jw_klen rfl kt_303 ?_
  refine jw_icmp_ge 48 rfl rfl (fun z => absurd z (by decide)) (fun _ => ?_)
  refine jw_gst rfl kz_27 y_P_245 ?_
  refine jw_iload_n rfl rfl ?_
  refine jw_kaald (3) rfl kt_303 rfl (by first | omega | decide) (by decide) ?_
  refine jw_gst rfl kz_13 y_P_249 ?_
  refine jw_acmp_eq 42 rfl rfl (fun z => absurd z (ne3)) (fun _ => ?_)
  refine jw_aload_n rfl rfl ?_
  refine jw_gst rfl kz_27 y_P_245 ?_
  refine jw_iload_n rfl rfl ?_
  refine jw_kaald (3) rfl kt_303 rfl (by first | omega | decide) (by decide) ?_
  refine jw_gkf rfl kf_opening_116 y_P_253 ?_
  refine js_call (As := [.inr (.inr (some (jg_c g 44)))]) rfl l_P_accept c_P_166 i_P_accept s_P_accept jc_o4 rfl (hr.1) rfl (cp_accept (d := d - 1) (mc := 0) (ms := 0) hg hr sk_44 (by decide) (by decide) (by omega) (fun es hl1 h3 hr3 f3 g3 => ?_) (fun es3 => ?_)) (by omega) (Nat.le_of_ble_eq_true rfl) (by omega) (by omega) rfl
  · have eh : sp_helper (tL L) c e = 3 := by rw [sp_helper, es1, if_neg (by decide), es2, if_neg (by decide), es, if_pos rfl]
    have hq := hq h3
    rw [eh] at hq
    refine jw_if_eq 42 rfl rfl (fun z => absurd z (by decide)) (fun _ => ?_)
    refine jw_gst rfl kz_27 y_P_245 ?_
    refine jw_iload_n rfl rfl ?_
    refine jw_kaald (3) rfl kt_303 rfl (by first | omega | decide) (by decide) ?_
    refine jw_areturn rfl rfl (Or.inl ⟨_, rfl⟩) ?_
    exact hq hl1 hr3 f3 g3
  refine jw_if_eq 42 rfl rfl (fun _ => ?_) (fun z => absurd (rfl) z)
  refine js_iinc rfl rfl (nI_1 3) rfl (by decide) rfl ?_
  refine jw_goto 2 rfl rfl ?_
  have ne4 : ¬ (some (jg_c g 117) : Option Nat) = some (jg_c g 113) := fun z => absurd (inj 17 13 (by decide) (by decide) (Option.some.inj z)) (by decide)
  refine jw_iload_n rfl rfl ?_
  refine jw_gst rfl kz_27 y_P_245 ?_
  refine jw_klen rfl kt_303 ?_
  refine jw_icmp_ge 48 rfl rfl (fun z => absurd z (by decide)) (fun _ => ?_)
  refine jw_gst rfl kz_27 y_P_245 ?_
  refine jw_iload_n rfl rfl ?_
  refine jw_kaald (4) rfl kt_303 rfl (by first | omega | decide) (by decide) ?_
  refine jw_gst rfl kz_13 y_P_249 ?_
  refine jw_acmp_eq 42 rfl rfl (fun z => absurd z (ne4)) (fun _ => ?_)
  refine jw_aload_n rfl rfl ?_
  refine jw_gst rfl kz_27 y_P_245 ?_
  refine jw_iload_n rfl rfl ?_
  refine jw_kaald (4) rfl kt_303 rfl (by first | omega | decide) (by decide) ?_
  refine jw_gkf rfl kf_opening_117 y_P_253 ?_
  refine js_call (As := [.inr (.inr (some (jg_c g 45)))]) rfl l_P_accept c_P_166 i_P_accept s_P_accept jc_o4 rfl (hr.1) rfl (cp_accept (d := d - 1) (mc := 0) (ms := 0) hg hr sk_45 (by decide) (by decide) (by omega) (fun es hl1 h3 hr3 f3 g3 => ?_) (fun es4 => ?_)) (by omega) (Nat.le_of_ble_eq_true rfl) (by omega) (by omega) rfl
  · have eh : sp_helper (tL L) c e = 4 := by rw [sp_helper, es1, if_neg (by decide), es2, if_neg (by decide), es3, if_neg (by decide), es, if_pos rfl]
    have hq := hq h3
    rw [eh] at hq
    refine jw_if_eq 42 rfl rfl (fun z => absurd z (by decide)) (fun _ => ?_)
    refine jw_gst rfl kz_27 y_P_245 ?_
    refine jw_iload_n rfl rfl ?_
    refine jw_kaald (4) rfl kt_303 rfl (by first | omega | decide) (by decide) ?_
    refine jw_areturn rfl rfl (Or.inl ⟨_, rfl⟩) ?_
    exact hq hl1 hr3 f3 g3
  refine jw_if_eq 42 rfl rfl (fun _ => ?_) (fun z => absurd (rfl) z)
  refine js_iinc rfl rfl (nI_1 4) rfl (by decide) rfl ?_
  refine jw_goto 2 rfl rfl ?_
  have ne5 : ¬ (some (jg_c g 118) : Option Nat) = some (jg_c g 113) := fun z => absurd (inj 18 13 (by decide) (by decide) (Option.some.inj z)) (by decide)
  refine jw_iload_n rfl rfl ?_
  refine jw_gst rfl kz_27 y_P_245 ?_
  refine jw_klen rfl kt_303 ?_
  refine jw_icmp_ge 48 rfl rfl (fun z => absurd z (by decide)) (fun _ => ?_)
  refine jw_gst rfl kz_27 y_P_245 ?_
  refine jw_iload_n rfl rfl ?_
  refine jw_kaald (5) rfl kt_303 rfl (by first | omega | decide) (by decide) ?_
  refine jw_gst rfl kz_13 y_P_249 ?_
  refine jw_acmp_eq 42 rfl rfl (fun z => absurd z (ne5)) (fun _ => ?_)
  refine jw_aload_n rfl rfl ?_
  refine jw_gst rfl kz_27 y_P_245 ?_
  refine jw_iload_n rfl rfl ?_
  refine jw_kaald (5) rfl kt_303 rfl (by first | omega | decide) (by decide) ?_
  refine jw_gkf rfl kf_opening_118 y_P_253 ?_
  refine js_call (As := [.inr (.inr (some (jg_c g 46)))]) rfl l_P_accept c_P_166 i_P_accept s_P_accept jc_o4 rfl (hr.1) rfl (cp_accept (d := d - 1) (mc := 0) (ms := 0) hg hr sk_46 (by decide) (by decide) (by omega) (fun es hl1 h3 hr3 f3 g3 => ?_) (fun es5 => ?_)) (by omega) (Nat.le_of_ble_eq_true rfl) (by omega) (by omega) rfl
  · have eh : sp_helper (tL L) c e = 5 := by rw [sp_helper, es1, if_neg (by decide), es2, if_neg (by decide), es3, if_neg (by decide), es4, if_neg (by decide), es, if_pos rfl]
    have hq := hq h3
    rw [eh] at hq
    refine jw_if_eq 42 rfl rfl (fun z => absurd z (by decide)) (fun _ => ?_)
    refine jw_gst rfl kz_27 y_P_245 ?_
    refine jw_iload_n rfl rfl ?_
    refine jw_kaald (5) rfl kt_303 rfl (by first | omega | decide) (by decide) ?_
    refine jw_areturn rfl rfl (Or.inl ⟨_, rfl⟩) ?_
    exact hq hl1 hr3 f3 g3
  refine jw_if_eq 42 rfl rfl (fun _ => ?_) (fun z => absurd (rfl) z)
  refine js_iinc rfl rfl (nI_1 5) rfl (by decide) rfl ?_
  refine jw_goto 2 rfl rfl ?_
  have ne6 : ¬ (some (jg_c g 119) : Option Nat) = some (jg_c g 113) := fun z => absurd (inj 19 13 (by decide) (by decide) (Option.some.inj z)) (by decide)
  refine jw_iload_n rfl rfl ?_
  refine jw_gst rfl kz_27 y_P_245 ?_
  refine jw_klen rfl kt_303 ?_
  refine jw_icmp_ge 48 rfl rfl (fun z => absurd z (by decide)) (fun _ => ?_)
  refine jw_gst rfl kz_27 y_P_245 ?_
  refine jw_iload_n rfl rfl ?_
  refine jw_kaald (6) rfl kt_303 rfl (by first | omega | decide) (by decide) ?_
  refine jw_gst rfl kz_13 y_P_249 ?_
  refine jw_acmp_eq 42 rfl rfl (fun z => absurd z (ne6)) (fun _ => ?_)
  refine jw_aload_n rfl rfl ?_
  refine jw_gst rfl kz_27 y_P_245 ?_
  refine jw_iload_n rfl rfl ?_
  refine jw_kaald (6) rfl kt_303 rfl (by first | omega | decide) (by decide) ?_
  refine jw_gkf rfl kf_opening_119 y_P_253 ?_
  refine js_call (As := [.inr (.inr (some (jg_c g 47)))]) rfl l_P_accept c_P_166 i_P_accept s_P_accept jc_o4 rfl (hr.1) rfl (cp_accept (d := d - 1) (mc := 0) (ms := 0) hg hr sk_47 (by decide) (by decide) (by omega) (fun es hl1 h3 hr3 f3 g3 => ?_) (fun es6 => ?_)) (by omega) (Nat.le_of_ble_eq_true rfl) (by omega) (by omega) rfl
  · have eh : sp_helper (tL L) c e = 6 := by rw [sp_helper, es1, if_neg (by decide), es2, if_neg (by decide), es3, if_neg (by decide), es4, if_neg (by decide), es5, if_neg (by decide), es, if_pos rfl]
    have hq := hq h3
    rw [eh] at hq
    refine jw_if_eq 42 rfl rfl (fun z => absurd z (by decide)) (fun _ => ?_)
    refine jw_gst rfl kz_27 y_P_245 ?_
    refine jw_iload_n rfl rfl ?_
    refine jw_kaald (6) rfl kt_303 rfl (by first | omega | decide) (by decide) ?_
    refine jw_areturn rfl rfl (Or.inl ⟨_, rfl⟩) ?_
    exact hq hl1 hr3 f3 g3
  refine jw_if_eq 42 rfl rfl (fun _ => ?_) (fun z => absurd (rfl) z)
  refine js_iinc rfl rfl (nI_1 6) rfl (by decide) rfl ?_
  refine jw_goto 2 rfl rfl ?_
  refine jw_iload_n rfl rfl ?_
  refine jw_gst rfl kz_27 y_P_245 ?_
  refine jw_klen rfl kt_303 ?_
  refine jw_icmp_ge 48 rfl rfl (fun _ => ?_) (fun z => absurd (by decide) z)
  refine jw_gst rfl kz_13 y_P_249 ?_
  refine jw_areturn rfl rfl (Or.inl ⟨_, rfl⟩) ?_
  have eh : sp_helper (tL L) c e = 0 := by rw [sp_helper, es1, if_neg (by decide), es2, if_neg (by decide), es3, if_neg (by decide), es4, if_neg (by decide), es5, if_neg (by decide), es6, if_neg (by decide)]
  have hq := hq h
  rw [eh] at hq
  exact hq hce hr rd_f.rf fr.rf

