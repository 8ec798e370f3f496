/-! RENDERER: a block -/
theorem vl_is.nn {h : jh_H} {n : Nat} {D : sd_D} {E : cd_E} {P : Nat → Prop} {v : sv_T} (hv : vl_is h n D E P none v) : v = none := by
  rcases v with _ | v | L | x
  · rfl
  · obtain ⟨b, e, -⟩ := hv; cases e
  · obtain ⟨b, tb, ch, cap, e, -⟩ := hv; cases e
  · cases hv.1
theorem vl_is.sm {h : jh_H} {n : Nat} {D : sd_D} {E : cd_E} {P : Nat → Prop} {v : sv_T} {a : Nat} (hv : vl_is h n D E P (some a) v) : v.isSome = true := by
  rcases v with _ | v
  · cases hv
  · rfl
set_option maxHeartbeats 4000000 in
set_option maxRecDepth 100000 in
theorem cf_eva {g : jg_G} (hg : (jg_l g).stackTraces = false) {d mc ms : Nat} {h : jh_H} {n : Nat} {D : sd_D} {E : cd_E} {P0 : Nat → Prop} {R : Nat → Nat} {k cn a : Nat} {C : Nat → sv_T} {tn : Option Nat} {X : ex_E} {r : Option sv_T} {Q : jw_O → jh_H → Prop} (hR : rR P0 R) (hk : k < 13) (hc : cd_ok h n D E P0) (hdp : ∀ x, x < n → sd_dp D 60 x) (hrc : rc_ok h n D E P0 R k cn C tn) (hrv : rv_ok h R) (hsl : sl_ok h R k) (hx : xp_ok g h P0 X a) (hd : 80 ≤ d) (er : ev_ex D C cn tn X = r) (hr : r = none → 1 ≤ mc ∧ 6 ≤ ms) (q1 : r = none → ∀ h', rv_st h h' R k → Q (.inr "java/lang/IllegalStateException") h') (q2 : ∀ v, r = some v → ∀ h' p, rv_st h h' R k → vl_is h' n D E (rP P0 R (k + 1)) p v → Q (.inl (some (.inr (.inr p)))) h') : jw_C g d mc ms m_R_evaluate [.inr (.inr (some (R 0))), .inr (.inr (some a)), .inr (.inr (some (R (100 + k))))] h Q := by
  refine cf_evaluate hg hR hk hc hdp hrc hrv hsl hx hd (fun z => hr (er.symm.trans z)) ?_
  rw [er]
  rcases r with _ | v
  · exact q1 rfl
  · exact q2 v rfl
theorem rs_S.up {P0 : Nat → Prop} {h0 he h : jh_H} {n : Nat} {D : sd_D} {E : cd_E} {R : Nat → Nat} {k cn uw sn tp : Nat} {C : Nat → sv_T} {tn : Option Nat} {O : List Nat} (hR : rR P0 R) (hk : k + 1 ≤ 13) (hs : rs_S h0 he h n D E P0 R k cn C tn uw O sn tp) : rs_S h0 h h n D E P0 R (k + 1) cn C tn uw O sn tp :=
  hs.st hR fr.rf (rq_S.rf hs.1.1) (by omega) hk hs.2.1.2.2.2.2.1 (fun i hi => Or.inl ⟨hi, rfl, rfl⟩) hs.2.1.2.2.2.1 hs.2.1.2.2.2.2.2.2.1 hs.2.1.2.2.2.2.2.2.2 hs.2.2.2.2.2.1 hs.2.2.2.1 hs.2.2.2.2.1 hs.2.2.2.2.2.2
theorem rs_S.dn {P0 : Nat → Prop} {h0 he h h2 : jh_H} {n : Nat} {D : sd_D} {E : cd_E} {R : Nat → Nat} {k cn uw sn tp sn' : Nat} {C : Nat → sv_T} {tn : Option Nat} {O O' : List Nat} (hR : rR P0 R) (hk : k + 1 ≤ 13) (hs : rs_S h0 he h n D E P0 R k cn C tn uw O sn tp) (hs2 : rs_S h0 h h2 n D E P0 R (k + 1) cn C tn uw O' sn' tp) : rs_S h0 he h2 n D E P0 R k cn C tn uw O' sn' tp :=
  hs.back hR hk fr.rf (fun _ _ => rfl) hs2 (by omega) (Nat.le_refl _) fr.rf hs2.1.1 hs2.2.1.2.2.2.1 (hs2.2.1.2.2.2.2.2.2.1.trans hs.2.1.2.2.2.2.2.2.1.symm) hs2.2.2.2.2.2.1 hs2.2.2.2.1 hs2.2.2.2.2.2.2
def rn_bl (D : sd_D) (TP : Nat → Option tp_X) (f : Nat) (X : tp_X) (i : Nat) (C : Nat → sv_T) (cn : Nat) (tn : Option Nat) (uw : Nat) (O : List Nat) (sn : Nat) : rn_R := match ev_ex D C cn tn (rn_ex X i) with
  | none => .inl 4
  | some v => rn_block D (rn D TP f) X i C cn tn uw O sn v
set_option maxHeartbeats 4000000 in
set_option maxRecDepth 100000 in
theorem cr_block {g : jg_G} (hg : (jg_l g).stackTraces = false) {h0 : jh_H} {n : Nat} {D : sd_D} {E : cd_E} {P0 : Nat → Prop} {R : Nat → Nat} {TP : Nat → Option tp_X} {tp f : Nat} (rp : RP g h0 n D E P0 R TP tp f) {d mc ms : Nat} {he h : jh_H} {X : tp_X} {A T : Nat → Nat} {rt i dl k cn : Nat} {C : Nat → sv_T} {tn : Option Nat} {uw : Nat} {O : List Nat} {sn : Nat} {lv : Nat → Nat} {r : rn_R} {Q : jw_O → jh_H → Prop} (hR : rR P0 R) (hc0 : cd_ok h0 n D E P0) (hdp : ∀ x, x < n → sd_dp D 60 x) (hp : pt_ok g h0 P0 X A T rt) (hi : ¬ pt_end X i) (hb : 3 ≤ rn_s X i ∧ rn_s X i ≤ 5) (hI : rp_I (f + 1) X i dl k uw cn lv) (hs : rs_S h0 he h n D E P0 R k cn C tn uw O sn tp) (hd : 99 + 4 * (12 - k) + 4 * (3 - uw) ≤ d) (er : rn_bl D TP f X i C cn tn uw O sn = r) (hr : (∃ c, r = .inl c) → 1 ≤ mc ∧ 6 ≤ ms) (hq : rn_post h0 he n D E P0 R k cn C tn uw tp r Q) : jw_C g d mc ms m_R_renderBlock [.inr (.inr (some (R 0))), .inr (.inr (some (T i))), .inl (nI k)] h Q := by
  refine jw_intro (ls := [some (.inr (.inr (some (R 0)))), some (.inr (.inr (some (T i)))), some (.inl (nI k)), none]) (by decide) k_R_renderBlock rfl (by simp [lo_fit, jv_c]) hg ?_
  have hS : ∀ b, P0 b → ¬ rS R (rI 0) b := fun b hb => rS.noP hR b hb
  obtain ⟨hk12, hI1, hIo⟩ := rp_I.bl hI hi hb
  obtain ⟨-, -, -, -, hl4, hu1, hu3, hk8, hcn1, hcnk, hf⟩ := id hI
  have ho := hs.2.1.1
  obtain ⟨t1, t2, t3, t4, t5, t6, t7⟩ := (hp.2.2.2.2 i hi).fr hs.1.1.1 hS
  obtain ⟨xe, x1, x2⟩ := t6 (by omega) (by omega)
  obtain ⟨b1, b2, b3, b4, b5, b6, b7, b8, b9, b10⟩ := hs.1.1.2.1
  have hc := hc0.fr hs.1.1.1 hS
  refine jw_iload_n rfl rfl ?_
  refine js_bipush (x := 12) rfl rfl ?_
  refine jw_icmp_lt 7 rfl rfl (fun _ => ?_) (fun z => absurd ((nI_ltI (b := 12) (by omega) (by decide)).mpr hk12) z)
  refine jw_aload_n rfl rfl ?_
  refine jw_aload_n rfl rfl ?_
  refine jw_gr rfl g_R_109 (t2) (x1) ?_
  refine jw_aload_n rfl rfl ?_
  refine jw_gr rfl g_R_17 (b1) (b4) ?_
  refine jw_iload_n rfl rfl ?_
  refine js_aald (k) rfl (b5) (by decide) (by rfl) rfl (by omega) (by omega) ((b6 k (by omega)).1) ?_
  rw [rn_bl] at er
  rcases ev : ev_ex D C cn tn (rn_ex X i) with _ | v
  · rw [ev] at er
    have er : (.inl 4 : rn_R) = r := er
    subst er
    have hr := hr ⟨_, rfl⟩
    refine js_call (As := [.inr (.inr (some xe)), .inr (.inr (some (R (100 + k))))]) rfl l_R_evaluate c_R_113 i_R_evaluate s_R_evaluate jc_o3 rfl (b1) rfl (cf_eva (d := d - 1) (mc := 1) (ms := 6) hg hR (by omega) hc hdp hs.2.1 b7 (b6 k (by omega)).2 x2 (by omega) ev (fun _ => ⟨by omega, by omega⟩) (fun _ h2 st2 => ?_) (fun v z => by cases z)) (by omega) (Nat.le_of_ble_eq_true rfl) (by omega) (by omega) rfl
    exact hq h2 (hs.ev hR (by omega) st2).1.1
  · rw [ev] at er
    have er : rn_block D (rn D TP f) X i C cn tn uw O sn v = r := er
    -- behind the evaluation
    have at21 : ∀ h2 p, rs_S h0 he h2 n D E P0 R k cn C tn uw O sn tp → vl_is h2 n D E (rP P0 R (k + 1)) p v → jw_J g d m_R_renderBlock jw_T0 21 [some (.inr (.inr (some (R 0)))), some (.inr (.inr (some (T i)))), some (.inl (nI k)), none] [.inr (.inr p)] h2 mc ms Q := by
      intro h2 p s2 w2
      refine jw_kinj (fun inj => ?_)
      have hc2 := hc0.fr s2.1.1.1 hS
      obtain ⟨u1, u2, u3, u4, u5, u6, u7⟩ := (hp.2.2.2.2 i hi).fr s2.1.1.1 hS
      obtain ⟨tB, tO⟩ := u7 hb.1 hb.2
      obtain ⟨a1, a2, a3, a4, a5, a6, a7, a8, a9, a10⟩ := s2.1.1.2.1
      have els : rn_first D (rn_s X i) v = false → jw_J g d m_R_renderBlock jw_T0 149 [some (.inr (.inr (some (R 0)))), some (.inr (.inr (some (T i)))), some (.inl (nI k)), some (.inr (.inr p))] [] h2 mc ms Q := by
        intro hf0
        rw [rn_block, hf0, if_neg (by decide)] at er
        rcases eo : X.2.2.2.1 i with _ | o
        · rw [eo] at er tO
          have er : (.inr (O, sn) : rn_R) = r := er
          subst er
          refine jw_aload_n rfl rfl ?_
          refine jw_aload_n rfl rfl ?_
          refine jw_gr rfl g_R_162 (u2) (tO) ?_
          refine jw_iload_n rfl rfl ?_
          refine js_iconst (x := 1) rfl rfl ?_
          refine jw_iaddV rfl (nI_1 k) ?_
          refine js_call (As := [.inr (.inr none), .inl (nI (k + 1))]) rfl l_R_renderParts c_R_76 i_R_renderParts s_R_renderParts jc_o3 rfl (s2.2.1.1) rfl (cr_null (d := d - 1) (mc := 0) (ms := 0) hg ?_) (by omega) (Nat.le_of_ble_eq_true rfl) (by omega) (by omega) rfl
          refine jw_return rfl rfl ?_
          exact hq _ s2
        · rw [eo] at er tO
          have er : rn D TP f X (o + 1) C cn tn uw O sn = r := er
          refine jw_aload_n rfl rfl ?_
          refine jw_aload_n rfl rfl ?_
          refine jw_gr rfl g_R_162 (u2) (tO) ?_
          refine jw_iload_n rfl rfl ?_
          refine js_iconst (x := 1) rfl rfl ?_
          refine jw_iaddV rfl (nI_1 k) ?_
          rcases r with c | ⟨O', sn'⟩
          · have hr := hr ⟨_, rfl⟩
            refine js_call (As := [.inr (.inr (pt_hd X A T (o + 1))), .inl (nI (k + 1))]) rfl l_R_renderParts c_R_76 i_R_renderParts s_R_renderParts jc_o3 rfl (s2.2.1.1) rfl (cr_parts (d := d - 1) (mc := 1) (ms := 6) hg rp hp (hIo o eo) (s2.up hR (by omega)) (by omega) er (fun _ => ⟨by omega, by omega⟩) (fun h3 x3 => ?_)) (by omega) (Nat.le_of_ble_eq_true rfl) (by omega) (by omega) rfl
            exact hq h3 x3
          · refine js_call (As := [.inr (.inr (pt_hd X A T (o + 1))), .inl (nI (k + 1))]) rfl l_R_renderParts c_R_76 i_R_renderParts s_R_renderParts jc_o3 rfl (s2.2.1.1) rfl (cr_parts (d := d - 1) (mc := 0) (ms := 0) hg rp hp (hIo o eo) (s2.up hR (by omega)) (by omega) er (fun ⟨_, z⟩ => by cases z) (fun h3 s3 => ?_)) (by omega) (Nat.le_of_ble_eq_true rfl) (by omega) (by omega) rfl
            refine jw_return rfl rfl ?_
            exact hq _ (s2.dn hR (by omega) s3)
      have e345 : rn_s X i = 3 ∨ rn_s X i = 4 ∨ rn_s X i = 5 := by omega
      rcases e345 with es | es | es
      · have u3 : jh_r h2 (T i) 320 = some (jg_c g 106) := by rw [u3, es]; rfl
        have ef : rn_first D (rn_s X i) v = !sv_false D v := by rw [rn_first, if_pos es]
        rw [rn_block, ef, if_pos es] at er
        clear els
        have go37 : jw_J g d m_R_renderBlock jw_T0 37 [some (.inr (.inr (some (R 0)))), some (.inr (.inr (some (T i)))), some (.inl (nI k)), some (.inr (.inr p))] [.inl (sp_b (sv_false D v)), .inr (.inr (some (R 0)))] h2 mc ms Q := by
          cases evf : sv_false D v with
          | true =>
            rw [evf] at er
            have er : (match X.2.2.2.1 i with | none => .inr (O, sn) | some o => rn D TP f X (o + 1) C cn tn uw O sn : rn_R) = r := er
            refine jw_if_eq 47 rfl rfl (fun z => absurd z (by decide)) (fun _ => ?_)
            rcases eo : X.2.2.2.1 i with _ | o
            · rw [eo] at er tO
              have er : (.inr (O, sn) : rn_R) = r := er
              subst er
              refine jw_aload_n rfl rfl ?_
              refine jw_gr rfl g_R_162 (u2) (tO) ?_
              refine jw_goto 51 rfl rfl ?_
              refine jw_iload_n rfl rfl ?_
              refine js_iconst (x := 1) rfl rfl ?_
              refine jw_iaddV rfl (nI_1 k) ?_
              refine js_call (As := [.inr (.inr none), .inl (nI (k + 1))]) rfl l_R_renderParts c_R_76 i_R_renderParts s_R_renderParts jc_o3 rfl (s2.2.1.1) rfl (cr_null (d := d - 1) (mc := 0) (ms := 0) hg ?_) (by omega) (Nat.le_of_ble_eq_true rfl) (by omega) (by omega) rfl
              refine jw_goto 160 rfl rfl ?_
              refine jw_return rfl rfl ?_
              exact hq _ s2
            · rw [eo] at er tO
              have er : rn D TP f X (o + 1) C cn tn uw O sn = r := er
              refine jw_aload_n rfl rfl ?_
              refine jw_gr rfl g_R_162 (u2) (tO) ?_
              refine jw_goto 51 rfl rfl ?_
              refine jw_iload_n rfl rfl ?_
              refine js_iconst (x := 1) rfl rfl ?_
              refine jw_iaddV rfl (nI_1 k) ?_
              rcases r with c | ⟨O', sn'⟩
              · have hr := hr ⟨_, rfl⟩
                refine js_call (As := [.inr (.inr (pt_hd X A T (o + 1))), .inl (nI (k + 1))]) rfl l_R_renderParts c_R_76 i_R_renderParts s_R_renderParts jc_o3 rfl (s2.2.1.1) rfl (cr_parts (d := d - 1) (mc := 1) (ms := 6) hg rp hp (hIo o eo) (s2.up hR (by omega)) (by omega) er (fun _ => ⟨by omega, by omega⟩) (fun h3 x3 => ?_)) (by omega) (Nat.le_of_ble_eq_true rfl) (by omega) (by omega) rfl
                exact hq h3 x3
              · refine js_call (As := [.inr (.inr (pt_hd X A T (o + 1))), .inl (nI (k + 1))]) rfl l_R_renderParts c_R_76 i_R_renderParts s_R_renderParts jc_o3 rfl (s2.2.1.1) rfl (cr_parts (d := d - 1) (mc := 0) (ms := 0) hg rp hp (hIo o eo) (s2.up hR (by omega)) (by omega) er (fun ⟨_, z⟩ => by cases z) (fun h3 s3 => ?_)) (by omega) (Nat.le_of_ble_eq_true rfl) (by omega) (by omega) rfl
                refine jw_goto 160 rfl rfl ?_
                refine jw_return rfl rfl ?_
                exact hq _ (s2.dn hR (by omega) s3)
          | false =>
            rw [evf] at er
            have er : rn D TP f X (i + 1) C cn tn uw O sn = r := er
            refine jw_if_eq 47 rfl rfl (fun _ => ?_) (fun z => absurd (rfl) z)
            refine jw_aload_n rfl rfl ?_
            refine jw_gr rfl g_R_70 (u2) (tB) ?_
            refine jw_iload_n rfl rfl ?_
            refine js_iconst (x := 1) rfl rfl ?_
            refine jw_iaddV rfl (nI_1 k) ?_
            rcases r with c | ⟨O', sn'⟩
            · have hr := hr ⟨_, rfl⟩
              refine js_call (As := [.inr (.inr (pt_hd X A T (i + 1))), .inl (nI (k + 1))]) rfl l_R_renderParts c_R_76 i_R_renderParts s_R_renderParts jc_o3 rfl (s2.2.1.1) rfl (cr_parts (d := d - 1) (mc := 1) (ms := 6) hg rp hp (hI1 cn hcn1 (by omega)) (s2.up hR (by omega)) (by omega) er (fun _ => ⟨by omega, by omega⟩) (fun h3 x3 => ?_)) (by omega) (Nat.le_of_ble_eq_true rfl) (by omega) (by omega) rfl
              exact hq h3 x3
            · refine js_call (As := [.inr (.inr (pt_hd X A T (i + 1))), .inl (nI (k + 1))]) rfl l_R_renderParts c_R_76 i_R_renderParts s_R_renderParts jc_o3 rfl (s2.2.1.1) rfl (cr_parts (d := d - 1) (mc := 0) (ms := 0) hg rp hp (hI1 cn hcn1 (by omega)) (s2.up hR (by omega)) (by omega) er (fun ⟨_, z⟩ => by cases z) (fun h3 s3 => ?_)) (by omega) (Nat.le_of_ble_eq_true rfl) (by omega) (by omega) rfl
              refine jw_goto 160 rfl rfl ?_
              refine jw_return rfl rfl ?_
              exact hq _ (s2.dn hR (by omega) s3)
        cases p with
        | none =>
          refine js_astore_n rfl rfl (by decide) rfl ?_
          refine jw_aload_n rfl rfl ?_
          refine jw_gr rfl g_R_89 (u2) (u3) ?_
          refine jw_gst rfl kz_6 y_R_155 ?_
          refine jw_acmp_ne 60 rfl rfl (fun z => absurd (rfl) z) (fun _ => ?_)
          refine jw_aload_n rfl rfl ?_
          refine jw_aload_n rfl rfl ?_
          refine js_callS (As := [.inr (.inr none)]) rfl l_R_isFalse c_R_158 i_R_isFalse rfl (cf_isFalse (d := d - 1) (mc := 0) (ms := 0) hg hc2 w2 (by omega) ?_) (by omega) (Nat.le_of_ble_eq_true rfl) (by omega) (by omega) rfl
          exact go37
        | some a =>
          refine js_astore_n rfl rfl (by decide) rfl ?_
          refine jw_aload_n rfl rfl ?_
          refine jw_gr rfl g_R_89 (u2) (u3) ?_
          refine jw_gst rfl kz_6 y_R_155 ?_
          refine jw_acmp_ne 60 rfl rfl (fun z => absurd (rfl) z) (fun _ => ?_)
          refine jw_aload_n rfl rfl ?_
          refine jw_aload_n rfl rfl ?_
          refine js_callS (As := [.inr (.inr (some a))]) rfl l_R_isFalse c_R_158 i_R_isFalse rfl (cf_isFalse (d := d - 1) (mc := 0) (ms := 0) hg hc2 w2 (by omega) ?_) (by omega) (Nat.le_of_ble_eq_true rfl) (by omega) (by omega) rfl
          exact go37
      · have u3 : jh_r h2 (T i) 320 = some (jg_c g 107) := by rw [u3, es]; rfl
        have ef : rn_first D (rn_s X i) v = decide (0 < rn_many D v) := by rw [rn_first, if_neg (by omega), if_neg (by omega)]
        have n1 : ¬ (some (jg_c g 107) : Option Nat) = some (jg_c g 106) := fun z => absurd (inj 7 6 (by decide) (by decide) (Option.some.inj z)) (by decide)
        have n2 : ¬ (some (jg_c g 107) : Option Nat) = some (jg_c g 108) := fun z => absurd (inj 7 8 (by decide) (by decide) (Option.some.inj z)) (by decide)
        rcases p with _ | a
        · have hv0 := w2.nn
          subst hv0
          refine js_astore_n rfl rfl (by decide) rfl ?_
          refine jw_aload_n rfl rfl ?_
          refine jw_gr rfl g_R_89 (u2) (u3) ?_
          refine jw_gst rfl kz_6 y_R_155 ?_
          refine jw_acmp_ne 60 rfl rfl (fun _ => ?_) (fun z => absurd z (n1))
          refine jw_aload_n rfl rfl ?_
          refine jw_gr rfl g_R_89 (u2) (u3) ?_
          refine jw_gst rfl kz_8 y_R_165 ?_
          refine jw_acmp_ne 118 rfl rfl (fun _ => ?_) (fun z => absurd z (n2))
          refine jw_aload_n rfl rfl ?_
          refine jw_gr rfl g_R_89 (u2) (u3) ?_
          refine jw_gst rfl kz_7 y_R_168 ?_
          refine jw_acmp_ne 149 rfl rfl (fun z => absurd (rfl) z) (fun _ => ?_)
          refine jw_aload_n rfl rfl ?_
          refine jw_ifnull 149 rfl rfl (fun _ => ?_) (fun x_ z_ => by cases z_)
          exact els (by rw [ef]; rfl)
        · have hw2 := w2
          refine js_astore_n rfl rfl (by decide) rfl ?_
          refine jw_aload_n rfl rfl ?_
          refine jw_gr rfl g_R_89 (u2) (u3) ?_
          refine jw_gst rfl kz_6 y_R_155 ?_
          refine jw_acmp_ne 60 rfl rfl (fun _ => ?_) (fun z => absurd z (n1))
          refine jw_aload_n rfl rfl ?_
          refine jw_gr rfl g_R_89 (u2) (u3) ?_
          refine jw_gst rfl kz_8 y_R_165 ?_
          refine jw_acmp_ne 118 rfl rfl (fun _ => ?_) (fun z => absurd z (n2))
          refine jw_aload_n rfl rfl ?_
          refine jw_gr rfl g_R_89 (u2) (u3) ?_
          refine jw_gst rfl kz_7 y_R_168 ?_
          refine jw_acmp_ne 149 rfl rfl (fun z => absurd (rfl) z) (fun _ => ?_)
          refine jw_aload_n rfl rfl ?_
          refine jw_ifnull 149 rfl rfl (fun z_ => by cases z_) (fun _ _ => ?_)
          rcases v with _ | v | L | x
          · cases w2
          · obtain ⟨a', e, -, hn⟩ := w2
            cases e
            refine jw_aload_n rfl rfl ?_
            refine jw_gi rfl g_R_171 (hn.1) (hn.2.2.2) ?_
            refine jw_if_le 149 rfl rfl (fun _ => ?_) (fun z => absurd (by decide) z)
            exact els (by rw [ef]; rfl)
          · obtain ⟨a', tb, ch, cap, e, -, -, -, hn⟩ := w2
            cases e
            refine jw_aload_n rfl rfl ?_
            refine jw_gi rfl g_R_171 (hn.1) (hn.2.2.2.2) ?_
            refine jw_if_le 149 rfl rfl (fun _ => ?_) (fun z => absurd (by decide) z)
            exact els (by rw [ef]; rfl)
          · obtain ⟨e, hx, hx2⟩ := w2
            cases e
            obtain ⟨y1, y2, y3, y4, y5, y6, y7, y8, y9, y10, y11⟩ := (hc2.2 x hx).2.2.2.2 hx2
            have em : rn_many D (some (.inr (.inr x))) = sd_c D x := rfl
            rw [em] at ef
            by_cases cz : sd_c D x = 0
            · refine jw_aload_n rfl rfl ?_
              refine jw_gi rfl g_R_171 (y3) (y9) ?_
              refine jw_if_le 149 rfl rfl (fun _ => ?_) (fun z => absurd (by rw [cz]; decide) z)
              exact els (by rw [ef, cz]; rfl)
            · clear els
              have ef1 : rn_first D (rn_s X i) (some (.inr (.inr x))) = true := by rw [ef]; exact decide_eq_true (by omega)
              rw [rn_block, ef1, if_pos rfl, if_neg (by omega), if_neg (by omega)] at er
              have er : rn_each (rn_ea D TP f X i C cn uw x) (sd_c D x) 0 O sn = r := er
              refine jw_aload_n rfl rfl ?_
              refine jw_gi rfl g_R_171 (y3) (y9) ?_
              refine jw_if_le 149 rfl rfl (fun z => absurd z (fun z => absurd ((nI_leI (b := 0) (by omega) (by decide)).mp z) (by omega))) (fun _ => ?_)
              refine jw_aload_n rfl rfl ?_
              refine jw_aload_n rfl rfl ?_
              refine jw_aload_n rfl rfl ?_
              refine jw_iload_n rfl rfl ?_
              rcases r with c | ⟨O', sn'⟩
              · have hr := hr ⟨_, rfl⟩
                refine js_call (As := [.inr (.inr (some (T i))), .inr (.inr (some (E.1 x))), .inl (nI k)]) rfl l_R_renderEach c_R_174 i_R_renderEach s_R_renderEach jc_o3 rfl (s2.2.1.1) rfl (cr_each (d := d - 1) (mc := 1) (ms := 6) hg rp hR hc0 hp hi hb hI hx hx2 s2 (by omega) er (fun _ => ⟨by omega, by omega⟩) (fun h3 x3 => ?_)) (by omega) (Nat.le_of_ble_eq_true rfl) (by omega) (by omega) rfl
                exact hq h3 x3
              · refine js_call (As := [.inr (.inr (some (T i))), .inr (.inr (some (E.1 x))), .inl (nI k)]) rfl l_R_renderEach c_R_174 i_R_renderEach s_R_renderEach jc_o3 rfl (s2.2.1.1) rfl (cr_each (d := d - 1) (mc := 0) (ms := 0) hg rp hR hc0 hp hi hb hI hx hx2 s2 (by omega) er (fun ⟨_, z⟩ => by cases z) (fun h3 s3 => ?_)) (by omega) (Nat.le_of_ble_eq_true rfl) (by omega) (by omega) rfl
                refine jw_goto 160 rfl rfl ?_
                refine jw_return rfl rfl ?_
                exact hq _ s3
      · have u3 : jh_r h2 (T i) 320 = some (jg_c g 108) := by rw [u3, es]; rfl
        have ef : rn_first D (rn_s X i) v = v.isSome := by rw [rn_first, if_neg (by omega), if_pos es]
        have n1 : ¬ (some (jg_c g 108) : Option Nat) = some (jg_c g 106) := fun z => absurd (inj 8 6 (by decide) (by decide) (Option.some.inj z)) (by decide)
        have n2 : ¬ (some (jg_c g 108) : Option Nat) = some (jg_c g 107) := fun z => absurd (inj 8 7 (by decide) (by decide) (Option.some.inj z)) (by decide)
        rcases p with _ | a
        · have hv0 := w2.nn
          subst hv0
          refine js_astore_n rfl rfl (by decide) rfl ?_
          refine jw_aload_n rfl rfl ?_
          refine jw_gr rfl g_R_89 (u2) (u3) ?_
          refine jw_gst rfl kz_6 y_R_155 ?_
          refine jw_acmp_ne 60 rfl rfl (fun _ => ?_) (fun z => absurd z (n1))
          refine jw_aload_n rfl rfl ?_
          refine jw_gr rfl g_R_89 (u2) (u3) ?_
          refine jw_gst rfl kz_8 y_R_165 ?_
          refine jw_acmp_ne 118 rfl rfl (fun z => absurd (rfl) z) (fun _ => ?_)
          refine jw_aload_n rfl rfl ?_
          refine jw_ifnull 118 rfl rfl (fun _ => ?_) (fun x_ z_ => by cases z_)
          refine jw_aload_n rfl rfl ?_
          refine jw_gr rfl g_R_89 (u2) (u3) ?_
          refine jw_gst rfl kz_7 y_R_168 ?_
          refine jw_acmp_ne 149 rfl rfl (fun _ => ?_) (fun z => absurd z (n2))
          exact els (by rw [ef]; rfl)
        · clear els
          have ef1 : rn_first D (rn_s X i) v = true := by rw [ef]; exact w2.sm
          rw [rn_block, ef1, if_pos rfl, if_neg (by omega), if_pos es] at er
          refine js_astore_n rfl rfl (by decide) rfl ?_
          refine jw_aload_n rfl rfl ?_
          refine jw_gr rfl g_R_89 (u2) (u3) ?_
          refine jw_gst rfl kz_6 y_R_155 ?_
          refine jw_acmp_ne 60 rfl rfl (fun _ => ?_) (fun z => absurd z (n1))
          refine jw_aload_n rfl rfl ?_
          refine jw_gr rfl g_R_89 (u2) (u3) ?_
          refine jw_gst rfl kz_8 y_R_165 ?_
          refine jw_acmp_ne 118 rfl rfl (fun z => absurd (rfl) z) (fun _ => ?_)
          refine jw_aload_n rfl rfl ?_
          refine jw_ifnull 118 rfl rfl (fun z_ => by cases z_) (fun _ _ => ?_)
          refine jw_aload_n rfl rfl ?_
          refine jw_gr rfl g_R_11 (a1) (a2) ?_
          refine jw_aload_n rfl rfl ?_
          refine jw_gi rfl g_R_57 (a1) (s2.2.1.2.2.2.1) ?_
          refine jw_aload_n rfl rfl ?_
          refine js_aast (cn) rfl (a3) (vl_is.O hc2 w2) (by decide) jc_o2 (by rfl) rfl (by omega) (by omega) ?_
          refine jw_aload_n rfl rfl ?_
          refine jw_dup rfl rfl ?_
          refine jw_gi rfl g_R_57 (a1) (s2.2.1.2.2.2.1) ?_
          refine js_iconst (x := 1) rfl rfl ?_
          refine jw_iaddV rfl (nI_1 cn) ?_
          refine jw_pi rfl p_R_renderBlock_57 (a1) ?_
          refine jw_aload_n rfl rfl ?_
          refine jw_aload_n rfl rfl ?_
          refine jw_gr rfl g_R_70 (u2) (tB) ?_
          refine jw_iload_n rfl rfl ?_
          refine js_iconst (x := 1) rfl rfl ?_
          refine jw_iaddV rfl (nI_1 k) ?_
          obtain ⟨h1, eh1⟩ : ∃ z, z = jh_si (jh_sR h2 (R 1) cn (some a)) (R 0) 193 (nI (cn + 1)) := ⟨_, rfl⟩
          have f1 : fr (rS R (fun i => i ≤ 1)) h2 h1 := by rw [eh1]; exact fr.si (fr.sR fr.rf ⟨1, rU_n (by decide), by decide, rfl⟩) ⟨0, rU_n (by decide), by decide, rfl⟩
          have c1 : ∀ i, i < cn → jh_R h1 (R 1) i = jh_R h2 (R 1) i := fun i hi => by rw [eh1]; exact jh_u_k _ _ _ _ (by omega)
          have x1 : rx_S h0 h1 R := by rw [eh1]; exact (((rq_S.rf (k := 0) (cn := 0) s2.1.1).sR hR (Nat.zero_le _)).si hR (by decide)).1
          have a1' : ∀ q, q ≠ 193 → jh_i h1 (R 0) q = jh_i h2 (R 0) q := fun q z1 => by rw [eh1]; exact jh_u_k _ _ _ _ z1
          have s1 : rs_S h0 h1 h1 n D E P0 R (k + 1) (cn + 1) (va_up C cn v) tn uw O sn tp := by
            refine s2.st hR f1 (rq_S.rf x1) (by omega) (by omega) (by omega) (fun i hi => ?_) (by rw [eh1]; exact jh_u_s _ _ _ _) ((a1' _ (by decide)).trans s2.2.1.2.2.2.2.2.2.1) s2.2.1.2.2.2.2.2.2.2 ((a1' _ (by decide)).trans s2.2.2.2.2.2.1) ((a1' _ (by decide)).trans s2.2.2.2.1) s2.2.2.2.2.1 (by rw [eh1]; exact s2.2.2.2.2.2.2)
            by_cases c : i = cn
            · subst c
              refine Or.inr ?_
              rw [va_up_self, show jh_R h1 (R 1) i = some a by rw [eh1]; exact jh_u_s _ _ _ _]
              exact w2
            · exact Or.inl ⟨by omega, va_up_ne _ _ c, c1 i (by omega)⟩
          rw [← eh1]
          have ho1 : jh_O h1 (R 0) 3 := s1.2.1.1
          rcases r with c | ⟨O', sn'⟩
          · have hr := hr ⟨_, rfl⟩
            refine js_call (As := [.inr (.inr (pt_hd X A T (i + 1))), .inl (nI (k + 1))]) rfl l_R_renderParts c_R_76 i_R_renderParts s_R_renderParts jc_o3 rfl (ho1) rfl (cr_parts (d := d - 1) (mc := 1) (ms := 6) hg rp hp (hI1 (cn + 1) (by omega) (by omega)) s1 (by omega) er (fun _ => ⟨by omega, by omega⟩) (fun h3 x3 => ?_)) (by omega) (Nat.le_of_ble_eq_true rfl) (by omega) (by omega) rfl
            exact hq h3 x3
          · refine js_call (As := [.inr (.inr (pt_hd X A T (i + 1))), .inl (nI (k + 1))]) rfl l_R_renderParts c_R_76 i_R_renderParts s_R_renderParts jc_o3 rfl (ho1) rfl (cr_parts (d := d - 1) (mc := 0) (ms := 0) hg rp hp (hI1 (cn + 1) (by omega) (by omega)) s1 (by omega) er (fun ⟨_, z⟩ => by cases z) (fun h3 s3 => ?_)) (by omega) (Nat.le_of_ble_eq_true rfl) (by omega) (by omega) rfl
            refine jw_aload_n rfl rfl ?_
            refine jw_dup rfl rfl ?_
            refine jw_gi rfl g_R_57 (s3.2.1.1) (s3.2.1.2.2.2.1) ?_
            refine js_iconst (x := 1) rfl rfl ?_
            refine jw_isubV rfl (nI_pred cn) ?_
            refine jw_pi rfl p_R_renderBlock_57 (s3.2.1.1) ?_
            refine jw_goto 160 rfl rfl ?_
            refine jw_return rfl rfl ?_
            refine hq _ (s2.back hR (by omega) f1 c1 s3 (by omega) (by omega) (fr.si fr.rf ⟨0, rU_n (by decide), rfl, rfl⟩) (s3.1.si hR (by decide)).1 (jh_u_s _ _ _ _) ?_ ?_ ?_ s3.2.2.2.2.2.2)
            · exact (jh_u_k _ _ _ _ (by decide)).trans (s3.2.1.2.2.2.2.2.2.1.trans s2.2.1.2.2.2.2.2.2.1.symm)
            · exact (jh_u_k _ _ _ _ (by decide)).trans s3.2.2.2.2.2.1
            · exact (jh_u_k _ _ _ _ (by decide)).trans s3.2.2.2.1
    refine js_call (As := [.inr (.inr (some xe)), .inr (.inr (some (R (100 + k))))]) rfl l_R_evaluate c_R_113 i_R_evaluate s_R_evaluate jc_o3 rfl (b1) rfl (cf_eva (d := d - 1) (mc := 0) (ms := 0) hg hR (by omega) hc hdp hs.2.1 b7 (b6 k (by omega)).2 x2 (by omega) ev (fun z => by cases z) (fun z => by cases z) (fun w ew h2 p st2 w2 => ?_)) (by omega) (Nat.le_of_ble_eq_true rfl) (by omega) (by omega) rfl
    cases ew
    exact at21 h2 p (hs.ev hR (by omega) st2) w2

