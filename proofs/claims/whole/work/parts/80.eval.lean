/-! RENDERER: operands and expressions -/
set_option maxHeartbeats 4000000 in
set_option maxRecDepth 100000 in
theorem cf_valueOf {g : jg_G} (hg : (jg_l g).stackTraces = false) {d mc ms : Nat} {h : jh_H} {n : Nat} {D : sd_D} {E : cd_E} {P0 : Nat → Prop} {R : Nat → Nat} {k cn a s : Nat} {C : Nat → sv_T} {tn : Option Nat} {o : ex_O} {Q : jw_O → jh_H → Prop} (hc : cd_ok h n D E P0) (hR : rc_ok h n D E P0 R k cn C tn) (ho : op_ok g h P0 o a) (hs : jh_O h s 2) (hs0 : jh_i h s 133 = 0) (hd : 2 ≤ d)
    (hq : ∀ h' p, (h' = h ∨ ∃ x, h' = jh_si (jh_si h s 128 0) s 129 x) → (vl_is h n D E (rP P0 R k) p (ev_op D C cn tn o) ∧ h' = h ∨ ∃ x, ev_op D C cn tn o = some (.inl x) ∧ p = some s ∧ h' = jh_si (jh_si h s 128 0) s 129 x) → Q (.inl (some (.inr (.inr p)))) h') : jw_C g d mc ms m_R_valueOf [.inr (.inr (some (R 0))), .inr (.inr (some a)), .inr (.inr (some s))] h Q := by
  refine jw_intro (ls := [some (.inr (.inr (some (R 0)))), some (.inr (.inr (some a))), some (.inr (.inr (some s)))]) (by decide) k_R_valueOf rfl (by simp [lo_fit, jv_c]) hg ?_
  obtain ⟨r0, r1, r2, r3, r4, r5, r6, r7⟩ := id hR
  rcases o with v | L | b | ⟨back, S⟩
  · obtain ⟨o1, o2, o3, b, o4, o5, o6⟩ := ho
    refine jw_gst rfl kz_26 y_R_232 ?_
    refine jw_aload_n rfl rfl ?_
    refine jw_gr rfl g_R_235 (o2) (o3) ?_
    refine jw_ord (x := 3) rfl mx_R_240 od_sameO od_selO kq_123 kf_ordinal_123 (by omega) (Nat.le_of_ble_eq_true rfl) ?_
    refine jw_kiald (3) rfl kt_302 rfl (by first | omega | decide) (by decide) ?_
    refine jw_tableIn 36 rfl (by decide) (by decide) rfl rfl ?_
    refine jw_aload_n rfl rfl ?_
    refine jw_gr rfl g_R_243 (o2) (o4) ?_
    refine jw_areturn rfl rfl (Or.inl ⟨_, rfl⟩) ?_
    exact hq h _ (Or.inl rfl) (Or.inl ⟨⟨b, rfl, Or.inl o5, o6⟩, rfl⟩)
  · obtain ⟨o1, o2, o3, b, tb, ch, cap, o4, o5, o6, o7, o8⟩ := ho
    refine jw_gst rfl kz_26 y_R_232 ?_
    refine jw_aload_n rfl rfl ?_
    refine jw_gr rfl g_R_235 (o2) (o3) ?_
    refine jw_ord (x := 3) rfl mx_R_240 od_sameO od_selO kq_123 kf_ordinal_123 (by omega) (Nat.le_of_ble_eq_true rfl) ?_
    refine jw_kiald (3) rfl kt_302 rfl (by first | omega | decide) (by decide) ?_
    refine jw_tableIn 36 rfl (by decide) (by decide) rfl rfl ?_
    refine jw_aload_n rfl rfl ?_
    refine jw_gr rfl g_R_243 (o2) (o4) ?_
    refine jw_areturn rfl rfl (Or.inl ⟨_, rfl⟩) ?_
    exact hq h _ (Or.inl rfl) (Or.inl ⟨⟨b, tb, ch, cap, rfl, Or.inl o5, Or.inl o6, Or.inl o7, o8⟩, rfl⟩)
  · obtain ⟨o1, o2, o3⟩ := ho
    cases b with
    | true =>
      have o3 : jh_r h a 448 = some (jg_c g 121) := o3
      refine jw_gst rfl kz_26 y_R_232 ?_
      refine jw_aload_n rfl rfl ?_
      refine jw_gr rfl g_R_235 (o2) (o3) ?_
      refine jw_ord (x := 1) rfl mx_R_240 od_sameO od_selO kq_121 kf_ordinal_121 (by omega) (Nat.le_of_ble_eq_true rfl) ?_
      refine jw_kiald (1) rfl kt_302 rfl (by first | omega | decide) (by decide) ?_
      refine jw_tableIn 41 rfl (by decide) (by decide) rfl rfl ?_
      refine jw_aload_n rfl rfl ?_
      refine jw_gi rfl g_R_64 (r0) (r6) ?_
      refine js_iconst (x := (-1)) rfl rfl ?_
      cases tn with
      | none =>
        refine jw_icmp_ne 53 rfl rfl (fun z => absurd (rfl) z) (fun _ => ?_)
        refine jw_null rfl ?_
        refine jw_goto 61 rfl rfl ?_
        refine jw_areturn rfl rfl (Or.inl ⟨_, rfl⟩) ?_
        exact hq h none (Or.inl rfl) (Or.inl ⟨rfl, rfl⟩)
      | some t =>
        have t100 := r7 t rfl
        have hne : ∀ t, t < 100 → ¬ nI t = -1 := by decide
        refine jw_icmp_ne 53 rfl rfl (fun _ => ?_) (fun z => absurd z (hne t t100))
        refine jw_aload_n rfl rfl ?_
        refine jw_aload_n rfl rfl ?_
        refine jw_gi rfl g_R_64 (r0) (r6) ?_
        refine js_call (As := [.inl (nI t)]) rfl l_V_becomeNumber c_R_216 i_V_becomeNumber s_V_becomeNumber jc_o2 rfl (hs) rfl (cv_become (d := d - 1) (mc := 0) (ms := 0) hg hs ?_) (by omega) (Nat.le_of_ble_eq_true rfl) (by omega) (by omega) rfl
        refine jw_areturn rfl rfl (Or.inl ⟨_, rfl⟩) ?_
        exact hq _ _ (Or.inr ⟨_, rfl⟩) (Or.inr ⟨nI t, rfl, rfl, rfl⟩)
    | false =>
      have o3 : jh_r h a 448 = some (jg_c g 122) := o3
      refine jw_gst rfl kz_26 y_R_232 ?_
      refine jw_aload_n rfl rfl ?_
      refine jw_gr rfl g_R_235 (o2) (o3) ?_
      refine jw_ord (x := 2) rfl mx_R_240 od_sameO od_selO kq_122 kf_ordinal_122 (by omega) (Nat.le_of_ble_eq_true rfl) ?_
      refine jw_kiald (2) rfl kt_302 rfl (by first | omega | decide) (by decide) ?_
      refine jw_tableIn 62 rfl (by decide) (by decide) rfl rfl ?_
      refine jw_aload_n rfl rfl ?_
      refine jw_gi rfl g_R_64 (r0) (r6) ?_
      refine js_iconst (x := (-1)) rfl rfl ?_
      cases tn with
      | none =>
        refine jw_icmp_ne 74 rfl rfl (fun z => absurd (rfl) z) (fun _ => ?_)
        refine jw_null rfl ?_
        refine jw_goto 90 rfl rfl ?_
        refine jw_areturn rfl rfl (Or.inl ⟨_, rfl⟩) ?_
        exact hq h none (Or.inl rfl) (Or.inl ⟨rfl, rfl⟩)
      | some t =>
        have t100 := r7 t rfl
        have hne : ∀ t, t < 100 → ¬ nI t = -1 := by decide
        refine jw_icmp_ne 74 rfl rfl (fun _ => ?_) (fun z => absurd z (hne t t100))
        refine jw_aload_n rfl rfl ?_
        refine jw_aload_n rfl rfl ?_
        refine jw_gi rfl g_R_64 (r0) (r6) ?_
        by_cases t0 : t = 0
        · subst t0
          refine jw_if_ne 86 rfl rfl (fun z => absurd (rfl) z) (fun _ => ?_)
          refine js_iconst (x := 1) rfl rfl ?_
          refine jw_goto 87 rfl rfl ?_
          refine js_call (As := [.inl 1]) rfl l_V_becomeNumber c_R_216 i_V_becomeNumber s_V_becomeNumber jc_o2 rfl (hs) rfl (cv_become (d := d - 1) (mc := 0) (ms := 0) hg hs ?_) (by omega) (Nat.le_of_ble_eq_true rfl) (by omega) (by omega) rfl
          refine jw_areturn rfl rfl (Or.inl ⟨_, rfl⟩) ?_
          exact hq _ _ (Or.inr ⟨_, rfl⟩) (Or.inr ⟨1, rfl, rfl, rfl⟩)
        · refine jw_if_ne 86 rfl rfl (fun _ => ?_) (fun z => absurd z (nI_ne0 (by omega) (by omega)))
          refine js_iconst (x := 0) rfl rfl ?_
          refine js_call (As := [.inl 0]) rfl l_V_becomeNumber c_R_216 i_V_becomeNumber s_V_becomeNumber jc_o2 rfl (hs) rfl (cv_become (d := d - 1) (mc := 0) (ms := 0) hg hs ?_) (by omega) (Nat.le_of_ble_eq_true rfl) (by omega) (by omega) rfl
          refine jw_areturn rfl rfl (Or.inl ⟨_, rfl⟩) ?_
          refine hq _ _ (Or.inr ⟨_, rfl⟩) (Or.inr ⟨0, ?_, rfl, rfl⟩)
          show some (Sum.inl (if false = true then nI t else if t = 0 then (1 : Int32) else 0)) = _
          rw [if_neg (by decide), if_neg t0]
  · have o3 := ho.2.2.1
    refine jw_gst rfl kz_26 y_R_232 ?_
    refine jw_aload_n rfl rfl ?_
    refine jw_gr rfl g_R_235 (ho.2.1) (o3) ?_
    refine jw_ord (x := 0) rfl mx_R_240 od_sameO od_selO kq_120 kf_ordinal_120 (by omega) (Nat.le_of_ble_eq_true rfl) ?_
    refine jw_kiald (0) rfl kt_302 rfl (by first | omega | decide) (by decide) ?_
    refine jw_tableOut 91 rfl (by decide) rfl ?_
    refine jw_aload_n rfl rfl ?_
    refine jw_aload_n rfl rfl ?_
    refine js_call (As := [.inr (.inr (some a))]) rfl l_R_follow c_R_246 i_R_follow s_R_follow jc_o3 rfl (r0) rfl (cf_follow (d := d - 1) (mc := 0) (ms := 0) hg hc hR ho (by omega) (fun p hp => ?_)) (by omega) (Nat.le_of_ble_eq_true rfl) (by omega) (by omega) rfl
    refine jw_areturn rfl rfl (Or.inl ⟨_, rfl⟩) ?_
    exact hq h p (Or.inl rfl) (Or.inl ⟨hp, rfl⟩)
set_option maxHeartbeats 4000000 in
set_option maxRecDepth 100000 in
theorem cf_isFalse {g : jg_G} (hg : (jg_l g).stackTraces = false) {d mc ms : Nat} {h : jh_H} {n : Nat} {D : sd_D} {E : cd_E} {P P' : Nat → Prop} {p : Option Nat} {v : sv_T} {Q : jw_O → jh_H → Prop} (hc : cd_ok h n D E P) (hv : vl_is h n D E P' p v) (hd : 1 ≤ d) (hq : Q (.inl (some (.inl (sp_b (sv_false D v))))) h) : jw_C g d mc ms m_R_isFalse [.inr (.inr p)] h Q := by
  refine jw_intro (ls := [some (.inr (.inr p))]) (by decide) k_R_isFalse rfl (by simp [lo_fit, jv_c]) hg ?_
  cases p with
  | none =>
    have hv0 : v = none := by
      rcases v with _ | v | L | x
      · rfl
      · obtain ⟨b, e, -⟩ := hv; cases e
      · obtain ⟨b, tb, ch, cap, e, -⟩ := hv; cases e
      · cases hv.1
    subst hv0
    refine jw_aload_n rfl rfl ?_
    refine jw_ifnull 11 rfl rfl (fun _ => ?_) (fun x_ z_ => by cases z_)
    refine js_iconst (x := 1) rfl rfl ?_
    refine jw_goto 16 rfl rfl ?_
    refine jw_ireturn rfl rfl rfl ?_
    exact hq
  | some a =>
    refine jw_aload_n rfl rfl ?_
    refine jw_ifnull 11 rfl rfl (fun z_ => by cases z_) (fun _ _ => ?_)
    refine jw_aload_n rfl rfl ?_
    refine js_call (As := []) rfl l_V_isFalse c_R_278 i_V_isFalse s_V_isFalse jc_o2 rfl (vl_is.O hc hv) rfl (cv_isFalse (d := d - 1) (mc := 0) (ms := 0) hg hc hv ?_) (by omega) (Nat.le_of_ble_eq_true rfl) (by omega) (by omega) rfl
    cases hf : sv_false D v with
    | true =>
      rw [hf] at hq
      refine jw_if_eq 15 rfl rfl (fun z => absurd z (by decide)) (fun _ => ?_)
      refine js_iconst (x := 1) rfl rfl ?_
      refine jw_goto 16 rfl rfl ?_
      refine jw_ireturn rfl rfl rfl ?_
      exact hq
    | false =>
      rw [hf] at hq
      refine jw_if_eq 15 rfl rfl (fun _ => ?_) (fun z => absurd (rfl) z)
      refine js_iconst (x := 0) rfl rfl ?_
      refine jw_ireturn rfl rfl rfl ?_
      exact hq
set_option maxHeartbeats 4000000 in
set_option maxRecDepth 100000 in
theorem cf_isNumber {g : jg_G} (hg : (jg_l g).stackTraces = false) {d mc ms : Nat} {h : jh_H} {n : Nat} {D : sd_D} {E : cd_E} {P P' : Nat → Prop} {p : Option Nat} {v : sv_T} {Q : jw_O → jh_H → Prop} (hc : cd_ok h n D E P) (hv : vl_is h n D E P' p v) (hq : Q (.inl (some (.inl (sp_b (ev_num v).isSome)))) h) : jw_C g d mc ms m_R_isNumber [.inr (.inr p)] h Q := by
  refine jw_intro (ls := [some (.inr (.inr p))]) (by decide) k_R_isNumber rfl (by simp [lo_fit, jv_c]) hg ?_
  rcases v with _ | v | L | x
  · have e : p = none := hv
    subst e
    refine jw_aload_n rfl rfl ?_
    refine jw_ifnull 15 rfl rfl (fun _ => ?_) (fun x_ z_ => by cases z_)
    refine js_iconst (x := 0) rfl rfl ?_
    refine jw_ireturn rfl rfl rfl ?_
    exact hq
  · obtain ⟨b, e, -, z⟩ := hv
    subst e
    refine jw_aload_n rfl rfl ?_
    refine jw_ifnull 15 rfl rfl (fun z_ => by cases z_) (fun _ _ => ?_)
    refine jw_aload_n rfl rfl ?_
    refine jw_gi rfl g_R_210 (z.1) (z.2.1) ?_
    refine jw_if_ne 15 rfl rfl (fun z => absurd (rfl) z) (fun _ => ?_)
    refine js_iconst (x := 1) rfl rfl ?_
    refine jw_goto 16 rfl rfl ?_
    refine jw_ireturn rfl rfl rfl ?_
    exact hq
  · obtain ⟨b, _, _, _, e, -, -, -, z⟩ := hv
    subst e
    refine jw_aload_n rfl rfl ?_
    refine jw_ifnull 15 rfl rfl (fun z_ => by cases z_) (fun _ _ => ?_)
    refine jw_aload_n rfl rfl ?_
    refine jw_gi rfl g_R_210 (z.1) (z.2.1) ?_
    refine jw_if_ne 15 rfl rfl (fun _ => ?_) (fun z => absurd z (by decide))
    refine js_iconst (x := 0) rfl rfl ?_
    refine jw_ireturn rfl rfl rfl ?_
    exact hq
  · obtain ⟨e, hx, hk⟩ := hv
    subst e
    obtain ⟨w1, w2, w3, w4, -⟩ := (hc.2 x hx).2.2.2.2 hk
    have k3 := (hc.2 x hx).2.1
    refine jw_aload_n rfl rfl ?_
    refine jw_ifnull 15 rfl rfl (fun z_ => by cases z_) (fun _ _ => ?_)
    refine jw_aload_n rfl rfl ?_
    refine jw_gi rfl g_R_210 (w3) (w4) ?_
    refine jw_if_ne 15 rfl rfl (fun _ => ?_) (fun z => absurd z (nI_ne0 (by omega) (by omega)))
    refine js_iconst (x := 0) rfl rfl ?_
    refine jw_ireturn rfl rfl rfl ?_
    exact hq
def sl_ok (h : jh_H) (R : Nat → Nat) (k : Nat) : Prop := jh_O h (R (100 + k)) 2 ∧ jh_r h (R (100 + k)) 130 = some (R (200 + k)) ∧ (∃ Z, tx_is h (R (200 + k)) (R (300 + k)) 400 Z) ∧ jh_i h (R (100 + k)) 133 = 0
/-- what an evaluation at depth k may write -/
def ev_S (R : Nat → Nat) (k b : Nat) : Prop := b = R 3 ∨ b = R 4 ∨ b = R 5 ∨ b = R 6 ∨ b = R 7 ∨ b = R (100 + k) ∨ b = R (200 + k) ∨ b = R (300 + k)
def rv_ok (h : jh_H) (R : Nat → Nat) : Prop := jh_O h (R 0) 3 ∧ jh_r h (R 0) 195 = some (R 3) ∧ jh_O h (R 3) 2 ∧ jh_i h (R 3) 133 = 0 ∧ jh_r h (R 0) 196 = some (R 4) ∧ (∃ Z, tx_is h (R 4) (R 5) 400 Z) ∧ jh_r h (R 0) 197 = some (R 6) ∧ (∃ Z, tx_is h (R 6) (R 7) 400 Z)
theorem ev_S.no {P0 : Nat → Prop} {R : Nat → Nat} {k i : Nat} (hR : rR P0 R) (hk : k < 13) (hi : rU i) (hn : i = 0 ∨ i = 1 ∨ i = 2 ∨ (8 ≤ i ∧ i ≤ 11) ∨ (100 ≤ i ∧ i ≠ 100 + k ∧ i ≠ 200 + k ∧ i ≠ 300 + k)) : ¬ ev_S R k (R i) := by
  intro z
  have u : ∀ j, rU j → R i = R j → i = j := fun j hj e => hR.1 i j hi hj e
  rcases z with z | z | z | z | z | z | z | z
  · have := u 3 (Or.inl (by decide)) z; omega
  · have := u 4 (Or.inl (by decide)) z; omega
  · have := u 5 (Or.inl (by decide)) z; omega
  · have := u 6 (Or.inl (by decide)) z; omega
  · have := u 7 (Or.inl (by decide)) z; omega
  · have := u (100 + k) (Or.inr (Or.inl (by omega))) z; omega
  · have := u (200 + k) (Or.inr (Or.inr (Or.inl (by omega)))) z; omega
  · have := u (300 + k) (Or.inr (Or.inr (Or.inr (by omega)))) z; omega
theorem rP.ev {P0 : Nat → Prop} {R : Nat → Nat} {k b : Nat} (hR : rR P0 R) (hk : k < 13) (h : rP P0 R k b) : ¬ ev_S R k b := by
  intro z
  have n : ∀ i, rU i → (i ≤ 11 ∨ (100 + k ≤ i ∧ i < 200) ∨ (200 + k ≤ i ∧ i < 300) ∨ 300 + k ≤ i) → b ≠ R i := fun i h1 h2 e => rP.no hR h1 (by omega) h2 (by rw [← e]; exact h)
  rcases z with z | z | z | z | z | z | z | z
  · exact n 3 (Or.inl (by decide)) (Or.inl (by decide)) z
  · exact n 4 (Or.inl (by decide)) (Or.inl (by decide)) z
  · exact n 5 (Or.inl (by decide)) (Or.inl (by decide)) z
  · exact n 6 (Or.inl (by decide)) (Or.inl (by decide)) z
  · exact n 7 (Or.inl (by decide)) (Or.inl (by decide)) z
  · exact n (100 + k) (Or.inr (Or.inl (by omega))) (by omega) z
  · exact n (200 + k) (Or.inr (Or.inr (Or.inl (by omega)))) (by omega) z
  · exact n (300 + k) (Or.inr (Or.inr (Or.inr (by omega)))) (by omega) z
theorem rR.ne {P0 : Nat → Prop} {R : Nat → Nat} (hR : rR P0 R) {i j : Nat} (hi : rU i) (hj : rU j) (h : i ≠ j) : R i ≠ R j := fun e => h (hR.1 i j hi hj e)
/-- frames that leave the renderer's own cells for evaluating alone but for Texts' contents and slots' numbers -/
def rv_st (h h' : jh_H) (R : Nat → Nat) (k : Nat) : Prop := fr (ev_S R k) h h' ∧ rv_ok h' R ∧ sl_ok h' R k
theorem rv_num {P0 : Nat → Prop} {h0 h : jh_H} {R : Nat → Nat} {k i : Nat} {x : Int32} (hR : rR P0 R) (hk : k < 13) (hst : rv_st h0 h R k) (hi : i = 3 ∨ i = 100 + k) : rv_st h0 (jh_si (jh_si h (R i) 128 0) (R i) 129 x) R k ∧ vl_num (jh_si (jh_si h (R i) 128 0) (R i) 129 x) (R i) x := by
  obtain ⟨f, ⟨v1, v2, v3, v4, v5, v6, v7, v8⟩, s1, s2, s3, s4⟩ := hst
  have hU : rU i := by rcases hi with rfl | rfl; exact Or.inl (by decide); exact Or.inr (Or.inl (by omega))
  have hS : ev_S R k (R i) := by rcases hi with rfl | rfl; exact Or.inl rfl; exact Or.inr (Or.inr (Or.inr (Or.inr (Or.inr (Or.inl rfl)))))
  have hO : jh_O h (R i) 2 ∧ jh_i h (R i) 133 = 0 := by rcases hi with rfl | rfl; exact ⟨v3, v4⟩; exact ⟨s1, s4⟩
  obtain ⟨n1, n2⟩ := bn_is (x := x) hO.1 hO.2
  have tx : ∀ {a ch : Nat}, (∃ Z, tx_is h a ch 400 Z) → ∃ Z, tx_is (jh_si (jh_si h (R i) 128 0) (R i) 129 x) a ch 400 Z := fun ⟨Z, z⟩ => ⟨Z, z.fr n2 (fun e => jO_ne z.1.1 hO.1 (by decide) e) (fun e => jOA_ne hO.1 z.1.2.1 (by decide) e.symm)⟩
  have k133 : ∀ b, jh_i (jh_si (jh_si h (R i) 128 0) (R i) 129 x) b 133 = jh_i h b 133 := fun b => (jh_u_k _ _ _ _ (by decide)).trans (jh_u_k _ _ _ _ (by decide))
  exact ⟨⟨fr.si (fr.si f hS) hS, ⟨v1, v2, v3, (k133 _).trans v4, v5, tx v6, v7, tx v8⟩, s1, s2, tx s3, (k133 _).trans s4⟩, n1⟩
theorem rv_txt {P0 : Nat → Prop} {h0 h h' : jh_H} {R : Nat → Nat} {k i : Nat} {Z : List Nat} (hR : rR P0 R) (hk : k < 13) (hst : rv_st h0 h R k) (hi : i = 4 ∨ i = 6 ∨ i = 200 + k) (ht : tx_is h' (R i) (R (if i = 4 then 5 else if i = 6 then 7 else 300 + k)) 400 Z) (f' : fr (tx_S (R i) (R (if i = 4 then 5 else if i = 6 then 7 else 300 + k))) h h') : rv_st h0 h' R k := by
  obtain ⟨f, ⟨v1, v2, v3, v4, v5, v6, v7, v8⟩, s1, s2, s3, s4⟩ := hst
  generalize hj : (if i = 4 then 5 else if i = 6 then 7 else 300 + k) = j at *
  have hj2 : (i = 4 ∧ j = 5) ∨ (i = 6 ∧ j = 7) ∨ (i = 200 + k ∧ j = 300 + k) := by
    rcases hi with rfl | rfl | rfl
    · exact Or.inl ⟨rfl, by rw [← hj, if_pos rfl]⟩
    · exact Or.inr (Or.inl ⟨rfl, by rw [← hj, if_neg (by decide), if_pos rfl]⟩)
    · exact Or.inr (Or.inr ⟨rfl, by rw [← hj, if_neg (by omega), if_neg (by omega)]⟩)
  have hUi : rU i := by unfold rU; omega
  have hUj : rU j := by unfold rU; omega
  have hS : ∀ b, tx_S (R i) (R j) b → ev_S R k b := by
    intro b hb
    rcases hj2 with ⟨rfl, rfl⟩ | ⟨rfl, rfl⟩ | ⟨rfl, rfl⟩ <;> rcases hb with rfl | rfl
    · exact Or.inr (Or.inl rfl)
    · exact Or.inr (Or.inr (Or.inl rfl))
    · exact Or.inr (Or.inr (Or.inr (Or.inl rfl)))
    · exact Or.inr (Or.inr (Or.inr (Or.inr (Or.inl rfl))))
    · exact Or.inr (Or.inr (Or.inr (Or.inr (Or.inr (Or.inr (Or.inl rfl))))))
    · exact Or.inr (Or.inr (Or.inr (Or.inr (Or.inr (Or.inr (Or.inr rfl))))))
  have no : ∀ m, rU m → m ≠ i → m ≠ j → ¬ tx_S (R i) (R j) (R m) := fun m hm h1 h2 z => by
    rcases z with z | z
    · exact h1 (hR.1 m i hm hUi z)
    · exact h2 (hR.1 m j hm hUj z)
  have e0 := f'.2 (R 0) v1.1 (no 0 (Or.inl (by decide)) (by omega) (by omega))
  have e3 := f'.2 (R 3) v3.1 (no 3 (Or.inl (by decide)) (by omega) (by omega))
  have ek := f'.2 (R (100 + k)) s1.1 (no (100 + k) (Or.inr (Or.inl (by omega))) (by omega) (by omega))
  have tx : ∀ m m', (m = 4 ∧ m' = 5) ∨ (m = 6 ∧ m' = 7) ∨ (m = 200 + k ∧ m' = 300 + k) → (∃ Z, tx_is h (R m) (R m') 400 Z) → ∃ Z, tx_is h' (R m) (R m') 400 Z := by
    intro m m' hm ⟨Z1, z⟩
    by_cases e : m = i
    · have e2 : m' = j := by omega
      subst e e2
      exact ⟨Z, ht⟩
    · exact ⟨Z1, z.fr f' (no m (by unfold rU; omega) e (by omega)) (no m' (by unfold rU; omega) (by omega) (by omega))⟩
  exact ⟨f.tr f' (fun b _ z => hS b z), ⟨e0.O v1, (e0.2.2.2.2.1 195).trans v2, e3.O v3, (e3.2.2.1 133).trans v4, (e0.2.2.2.2.1 196).trans v5, tx 4 5 (Or.inl ⟨rfl, rfl⟩) v6, (e0.2.2.2.2.1 197).trans v7, tx 6 7 (Or.inr (Or.inl ⟨rfl, rfl⟩)) v8⟩, ek.O s1, (ek.2.2.2.2.1 130).trans s2, tx (200 + k) (300 + k) (Or.inr (Or.inr ⟨rfl, rfl⟩)) s3, (ek.2.2.1 133).trans s4⟩

