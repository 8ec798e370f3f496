/-! RENDERER: parts -/
theorem pt_s {X : tp_X} {i : Nat} (hX : tp_ok X) (hi : ¬ pt_end X i) : rn_s X i = 0 ∨ rn_s X i = 1 ∨ rn_s X i = 2 ∨ (3 ≤ rn_s X i ∧ rn_s X i ≤ 5) ∨ rn_s X i = 10 := by
  have hlt : i < X.2.1 := by unfold pt_end at hi; omega
  have q := (tp_tg hX hlt).2.2.2.2.2.1
  have q : rn_s X i ≤ 10 := q
  unfold pt_end at hi
  omega
theorem pt_p4 {X : tp_X} {i : Nat} (hX : tp_ok X) (hi : ¬ pt_end X i) (h10 : rn_s X i = 10) : rn_pt X i < 4 := by
  have hlt : i < X.2.1 := by unfold pt_end at hi; omega
  have q := (tp_tg hX hlt).2.2.2.2.2.2.2.2.2 h10
  unfold rn_pt
  omega
set_option maxHeartbeats 4000000 in
set_option maxRecDepth 100000 in
theorem cr_RP {g : jg_G} (hg : (jg_l g).stackTraces = false) {h0 : jh_H} {n : Nat} {D : sd_D} {E : cd_E} {P0 : Nat → Prop} {R : Nat → Nat} {TP : Nat → Option tp_X} {tp : Nat} (hR : rR P0 R) (hc0 : cd_ok h0 n D E P0) (hdp : ∀ x, x < n → sd_dp D 60 x) (hT : pt_all g h0 P0 TP tp) : ∀ f, RP g h0 n D E P0 R TP tp f := by
  intro f
  induction f with
  | zero =>
    intro d mc ms he h X A T rt i dl k cn C tn uw O sn lv l1 Q hp hI
    obtain ⟨-, -, -, -, -, -, -, -, -, -, hf⟩ := hI
    exact absurd hf (by omega)
  | succ f ih =>
    intro d mc ms he h X A T rt i dl k cn C tn uw O sn lv l1 Q hp hI hs hd hr hq
    have hS : ∀ b, P0 b → ¬ rS R (rI 0) b := fun b hb => rS.noP hR b hb
    obtain ⟨hX, -, hiX, -, hl4, hu1, hu3, hk8, hcn1, hcnk, hf⟩ := id hI
    have hk12 : k ≤ 12 := by omega
    rw [rn_1] at hr hq
    -- what stands behind the plain text
    have tl : ∀ h1, ¬ 400 < O.length + (rn_text X i).length → rs_S h0 he h1 n D E P0 R k cn C tn uw (O ++ rn_text X i) sn tp → jw_J g d m_R_renderParts jw_T0 2 [some (.inr (.inr (some (R 0)))), l1, some (.inl (nI k)), some (.inr (.inr (pt_tl X T i)))] [] h1 mc ms Q := by
      intro h1 hov s1
      rw [if_neg hov] at hr hq
      generalize hO1 : O ++ rn_text X i = O1 at *
      by_cases pe : pt_end X i
      · rw [if_pos pe] at hr hq
        rw [pt_tl, if_pos pe]
        refine jw_aload_n rfl rfl ?_
        refine jw_ifnull 189 rfl rfl (fun _ => ?_) (fun x_ z_ => by cases z_)
        refine jw_return rfl rfl ?_
        exact hq _ s1
      · rw [if_neg pe] at hr hq
        rw [pt_tl, if_neg pe]
        obtain ⟨t1, t2, t3, t4, t5, t6, t7⟩ := (hp.2.2.2.2 i pe).fr s1.1.1.1 hS
        obtain ⟨hIn, -⟩ := rp_I.nx hI pe
        -- on to the next part
        have at181 : ∀ h2 O2 sn2 r, rs_S h0 he h2 n D E P0 R k cn C tn uw O2 sn2 tp → rn D TP f X (rn_after X i) C cn tn uw O2 sn2 = r → ((∃ c, r = .inl c) → 1 ≤ mc ∧ 6 ≤ ms) → rn_post h0 he n D E P0 R k cn C tn uw tp r Q → jw_J g d m_R_renderParts jw_T0 181 [some (.inr (.inr (some (R 0)))), l1, some (.inl (nI k)), some (.inr (.inr (some (T i))))] [] h2 mc ms Q := by
          intro h2 O2 sn2 r s2 er hr2 hq2
          subst er
          obtain ⟨t1, t2, t3, t4, t5, t6, t7⟩ := (hp.2.2.2.2 i pe).fr s2.1.1.1 hS
          refine jw_aload_n rfl rfl ?_
          refine jw_gr rfl g_R_135 (t2) (t4) ?_
          refine js_astore_n rfl rfl (by decide) rfl ?_
          refine jw_goto 2 rfl rfl ?_
          exact ih d mc ms he h2 X A T rt (rn_after X i) dl k cn C tn uw O2 sn2 lv l1 Q hp hIn s2 hd hr2 hq2
        by_cases c6 : sn = 600
        · rw [if_pos c6] at hr hq
          have hr := hr ⟨_, rfl⟩
          rcases pt_s hX pe with es | es | es | es | es
          · have t3 : jh_r h1 (T i) 320 = some (jg_c g 103) := by rw [t3, es]; rfl
            refine jw_aload_n rfl rfl ?_
            refine jw_ifnull 189 rfl rfl (fun z_ => by cases z_) (fun _ _ => ?_)
            refine jw_gst rfl kz_24 y_R_83 ?_
            refine jw_aload_n rfl rfl ?_
            refine jw_gr rfl g_R_89 (t2) (t3) ?_
            refine jw_ord (x := 3) rfl mx_R_93 od_sameS od_selS kq_103 kf_ordinal_103 (by omega) (Nat.le_of_ble_eq_true rfl) ?_
            refine jw_kiald (3) rfl kt_300 rfl (by first | omega | decide) (by decide) ?_
            refine jw_tableIn 123 rfl (by decide) (by decide) rfl rfl ?_
            refine jw_aload_n rfl rfl ?_
            refine js_call (As := []) rfl l_R_meetTag c_R_106 i_R_meetTag s_R_meetTag jc_o3 rfl (s1.2.1.1) rfl (cr_meet (d := d - 1) (mc := 1) (ms := 6) hg hR (by omega) s1 (fun _ => ⟨by omega, by omega, by omega⟩) (fun z => absurd z (by omega)) (fun _ => ?_)) (by omega) (Nat.le_of_ble_eq_true rfl) (by omega) (by omega) rfl
            exact hq h1 s1.1.1
          · have t3 : jh_r h1 (T i) 320 = some (jg_c g 102) := by rw [t3, es]; rfl
            refine jw_aload_n rfl rfl ?_
            refine jw_ifnull 189 rfl rfl (fun z_ => by cases z_) (fun _ _ => ?_)
            refine jw_gst rfl kz_24 y_R_83 ?_
            refine jw_aload_n rfl rfl ?_
            refine jw_gr rfl g_R_89 (t2) (t3) ?_
            refine jw_ord (x := 2) rfl mx_R_93 od_sameS od_selS kq_102 kf_ordinal_102 (by omega) (Nat.le_of_ble_eq_true rfl) ?_
            refine jw_kiald (2) rfl kt_300 rfl (by first | omega | decide) (by decide) ?_
            refine jw_tableIn 94 rfl (by decide) (by decide) rfl rfl ?_
            refine jw_aload_n rfl rfl ?_
            refine js_call (As := []) rfl l_R_meetTag c_R_106 i_R_meetTag s_R_meetTag jc_o3 rfl (s1.2.1.1) rfl (cr_meet (d := d - 1) (mc := 1) (ms := 6) hg hR (by omega) s1 (fun _ => ⟨by omega, by omega, by omega⟩) (fun z => absurd z (by omega)) (fun _ => ?_)) (by omega) (Nat.le_of_ble_eq_true rfl) (by omega) (by omega) rfl
            exact hq h1 s1.1.1
          · have t3 : jh_r h1 (T i) 320 = some (jg_c g 104) := by rw [t3, es]; rfl
            refine jw_aload_n rfl rfl ?_
            refine jw_ifnull 189 rfl rfl (fun z_ => by cases z_) (fun _ _ => ?_)
            refine jw_gst rfl kz_24 y_R_83 ?_
            refine jw_aload_n rfl rfl ?_
            refine jw_gr rfl g_R_89 (t2) (t3) ?_
            refine jw_ord (x := 4) rfl mx_R_93 od_sameS od_selS kq_104 kf_ordinal_104 (by omega) (Nat.le_of_ble_eq_true rfl) ?_
            refine jw_kiald (4) rfl kt_300 rfl (by first | omega | decide) (by decide) ?_
            refine jw_tableIn 177 rfl (by decide) (by decide) rfl rfl ?_
            refine jw_aload_n rfl rfl ?_
            refine js_call (As := []) rfl l_R_meetTag c_R_106 i_R_meetTag s_R_meetTag jc_o3 rfl (s1.2.1.1) rfl (cr_meet (d := d - 1) (mc := 1) (ms := 6) hg hR (by omega) s1 (fun _ => ⟨by omega, by omega, by omega⟩) (fun z => absurd z (by omega)) (fun _ => ?_)) (by omega) (Nat.le_of_ble_eq_true rfl) (by omega) (by omega) rfl
            exact hq h1 s1.1.1
          · have e345 : rn_s X i = 3 ∨ rn_s X i = 4 ∨ rn_s X i = 5 := by omega
            rcases e345 with es | es | es
            · have t3 : jh_r h1 (T i) 320 = some (jg_c g 106) := by rw [t3, es]; rfl
              refine jw_aload_n rfl rfl ?_
              refine jw_ifnull 189 rfl rfl (fun z_ => by cases z_) (fun _ _ => ?_)
              refine jw_gst rfl kz_24 y_R_83 ?_
              refine jw_aload_n rfl rfl ?_
              refine jw_gr rfl g_R_89 (t2) (t3) ?_
              refine jw_ord (x := 6) rfl mx_R_93 od_sameS od_selS kq_106 kf_ordinal_106 (by omega) (Nat.le_of_ble_eq_true rfl) ?_
              refine jw_kiald (6) rfl kt_300 rfl (by first | omega | decide) (by decide) ?_
              refine jw_tableIn 164 rfl (by decide) (by decide) rfl rfl ?_
              refine jw_aload_n rfl rfl ?_
              refine js_call (As := []) rfl l_R_meetTag c_R_106 i_R_meetTag s_R_meetTag jc_o3 rfl (s1.2.1.1) rfl (cr_meet (d := d - 1) (mc := 1) (ms := 6) hg hR (by omega) s1 (fun _ => ⟨by omega, by omega, by omega⟩) (fun z => absurd z (by omega)) (fun _ => ?_)) (by omega) (Nat.le_of_ble_eq_true rfl) (by omega) (by omega) rfl
              exact hq h1 s1.1.1
            · have t3 : jh_r h1 (T i) 320 = some (jg_c g 107) := by rw [t3, es]; rfl
              refine jw_aload_n rfl rfl ?_
              refine jw_ifnull 189 rfl rfl (fun z_ => by cases z_) (fun _ _ => ?_)
              refine jw_gst rfl kz_24 y_R_83 ?_
              refine jw_aload_n rfl rfl ?_
              refine jw_gr rfl g_R_89 (t2) (t3) ?_
              refine jw_ord (x := 7) rfl mx_R_93 od_sameS od_selS kq_107 kf_ordinal_107 (by omega) (Nat.le_of_ble_eq_true rfl) ?_
              refine jw_kiald (7) rfl kt_300 rfl (by first | omega | decide) (by decide) ?_
              refine jw_tableIn 164 rfl (by decide) (by decide) rfl rfl ?_
              refine jw_aload_n rfl rfl ?_
              refine js_call (As := []) rfl l_R_meetTag c_R_106 i_R_meetTag s_R_meetTag jc_o3 rfl (s1.2.1.1) rfl (cr_meet (d := d - 1) (mc := 1) (ms := 6) hg hR (by omega) s1 (fun _ => ⟨by omega, by omega, by omega⟩) (fun z => absurd z (by omega)) (fun _ => ?_)) (by omega) (Nat.le_of_ble_eq_true rfl) (by omega) (by omega) rfl
              exact hq h1 s1.1.1
            · have t3 : jh_r h1 (T i) 320 = some (jg_c g 108) := by rw [t3, es]; rfl
              refine jw_aload_n rfl rfl ?_
              refine jw_ifnull 189 rfl rfl (fun z_ => by cases z_) (fun _ _ => ?_)
              refine jw_gst rfl kz_24 y_R_83 ?_
              refine jw_aload_n rfl rfl ?_
              refine jw_gr rfl g_R_89 (t2) (t3) ?_
              refine jw_ord (x := 8) rfl mx_R_93 od_sameS od_selS kq_108 kf_ordinal_108 (by omega) (Nat.le_of_ble_eq_true rfl) ?_
              refine jw_kiald (8) rfl kt_300 rfl (by first | omega | decide) (by decide) ?_
              refine jw_tableIn 164 rfl (by decide) (by decide) rfl rfl ?_
              refine jw_aload_n rfl rfl ?_
              refine js_call (As := []) rfl l_R_meetTag c_R_106 i_R_meetTag s_R_meetTag jc_o3 rfl (s1.2.1.1) rfl (cr_meet (d := d - 1) (mc := 1) (ms := 6) hg hR (by omega) s1 (fun _ => ⟨by omega, by omega, by omega⟩) (fun z => absurd z (by omega)) (fun _ => ?_)) (by omega) (Nat.le_of_ble_eq_true rfl) (by omega) (by omega) rfl
              exact hq h1 s1.1.1
          · have t3 : jh_r h1 (T i) 320 = some (jg_c g 105) := by rw [t3, es]; rfl
            refine jw_aload_n rfl rfl ?_
            refine jw_ifnull 189 rfl rfl (fun z_ => by cases z_) (fun _ _ => ?_)
            refine jw_gst rfl kz_24 y_R_83 ?_
            refine jw_aload_n rfl rfl ?_
            refine jw_gr rfl g_R_89 (t2) (t3) ?_
            refine jw_ord (x := 5) rfl mx_R_93 od_sameS od_selS kq_105 kf_ordinal_105 (by omega) (Nat.le_of_ble_eq_true rfl) ?_
            refine jw_kiald (5) rfl kt_300 rfl (by first | omega | decide) (by decide) ?_
            refine jw_tableIn 148 rfl (by decide) (by decide) rfl rfl ?_
            refine jw_aload_n rfl rfl ?_
            refine js_call (As := []) rfl l_R_meetTag c_R_106 i_R_meetTag s_R_meetTag jc_o3 rfl (s1.2.1.1) rfl (cr_meet (d := d - 1) (mc := 1) (ms := 6) hg hR (by omega) s1 (fun _ => ⟨by omega, by omega, by omega⟩) (fun z => absurd z (by omega)) (fun _ => ?_)) (by omega) (Nat.le_of_ble_eq_true rfl) (by omega) (by omega) rfl
            exact hq h1 s1.1.1
        · rw [if_neg c6] at hr hq
          rcases pt_s hX pe with es | es | es | es | es
          · have t3 : jh_r h1 (T i) 320 = some (jg_c g 103) := by rw [t3, es]; rfl
            refine jw_aload_n rfl rfl ?_
            refine jw_ifnull 189 rfl rfl (fun z_ => by cases z_) (fun _ _ => ?_)
            refine jw_gst rfl kz_24 y_R_83 ?_
            refine jw_aload_n rfl rfl ?_
            refine jw_gr rfl g_R_89 (t2) (t3) ?_
            refine jw_ord (x := 3) rfl mx_R_93 od_sameS od_selS kq_103 kf_ordinal_103 (by omega) (Nat.le_of_ble_eq_true rfl) ?_
            refine jw_kiald (3) rfl kt_300 rfl (by first | omega | decide) (by decide) ?_
            refine jw_tableIn 123 rfl (by decide) (by decide) rfl rfl ?_
            refine jw_aload_n rfl rfl ?_
            refine js_call (As := []) rfl l_R_meetTag c_R_106 i_R_meetTag s_R_meetTag jc_o3 rfl (s1.2.1.1) rfl (cr_meet (d := d - 1) (mc := 0) (ms := 0) hg hR (by omega) s1 (fun z => absurd z c6) (fun _ h2 s2 => ?_) (fun z => absurd z c6)) (by omega) (Nat.le_of_ble_eq_true rfl) (by omega) (by omega) rfl
            obtain ⟨t1, t2, t3, t4, t5, t6, t7⟩ := (hp.2.2.2.2 i pe).fr s2.1.1.1 hS
            obtain ⟨xe, x1, x2⟩ := t6 (by omega) (by omega)
            obtain ⟨b1, b2, b3, b4, b5, b6, b7, b8, b9, b10⟩ := s2.1.1.2.1
            have hc2 := hc0.fr s2.1.1.1 hS
            refine jw_aload_n rfl rfl ?_
            refine jw_aload_n rfl rfl ?_
            refine jw_aload_n rfl rfl ?_
            refine jw_gr rfl g_R_109 (t2) (x1) ?_
            refine jw_aload_n rfl rfl ?_
            refine jw_gr rfl g_R_17 (b1) (b4) ?_
            refine jw_iload_n rfl rfl ?_
            refine js_aald (k) rfl (b5) (by decide) (by rfl) rfl (by omega) (by omega) ((b6 k (by omega)).1) ?_
            rcases ev : ev_ex D C cn tn (rn_ex X i) with _ | v
            · have ed : rn_do D TP (rn D TP f) X i C cn tn uw O1 (sn + 1) = .inl 4 := by rw [rn_do, if_neg (by omega), if_neg (by omega), ev]
              rw [rn_then_l ed] at hr hq
              have hr := hr ⟨_, rfl⟩
              refine js_call (As := [.inr (.inr (some xe)), .inr (.inr (some (R (100 + k))))]) rfl l_R_evaluate c_R_113 i_R_evaluate s_R_evaluate jc_o3 rfl (b1) rfl (cf_eva (d := d - 1) (mc := 1) (ms := 6) hg hR (by omega) hc2 hdp s2.2.1 b7 (b6 k (by omega)).2 x2 (by omega) ev (fun _ => ⟨by omega, by omega⟩) (fun _ h3 st3 => ?_) (fun v z => by cases z)) (by omega) (Nat.le_of_ble_eq_true rfl) (by omega) (by omega) rfl
              exact hq h3 (s2.ev hR (by omega) st3).1.1
            · have ed : rn_do D TP (rn D TP f) X i C cn tn uw O1 (sn + 1) = rn_show D false v O1 (sn + 1) := by rw [rn_do, if_neg (by omega), if_neg (by omega), ev]; show (if rn_s X i ≤ 1 then _ else _) = _; rw [if_pos (by omega), es]; rfl
              rw [ed] at hr hq
              refine js_call (As := [.inr (.inr (some xe)), .inr (.inr (some (R (100 + k))))]) rfl l_R_evaluate c_R_113 i_R_evaluate s_R_evaluate jc_o3 rfl (b1) rfl (cf_eva (d := d - 1) (mc := 0) (ms := 0) hg hR (by omega) hc2 hdp s2.2.1 b7 (b6 k (by omega)).2 x2 (by omega) ev (fun z => by cases z) (fun z => by cases z) (fun w ew h3 p st3 w3 => ?_)) (by omega) (Nat.le_of_ble_eq_true rfl) (by omega) (by omega) rfl
              cases ew
              have s3 := s2.ev hR (by omega) st3
              rcases esh : rn_show D false v O1 (sn + 1) with c | ⟨O2, sn2⟩
              · rw [rn_then_l esh] at hr hq
                have ec : c = 4 := by
                  unfold rn_show at esh
                  split at esh
                  · cases esh
                  · cases esh; rfl
                have hr := hr ⟨_, rfl⟩
                refine js_call (As := [.inr (.inr p)]) rfl l_R_showEscaped c_R_121 i_R_showEscaped s_R_showEscaped jc_o3 rfl (s3.2.1.1) rfl (cr_showEsc (d := d - 1) (mc := 1) (ms := 6) hg hR (by omega) hc0 hdp s3 w3 (by omega) esh (fun _ => ⟨by omega, by omega⟩) (fun h4 x4 => ?_)) (by omega) (Nat.le_of_ble_eq_true rfl) (by omega) (by omega) rfl
                exact hq h4 x4
              · rw [rn_then_r esh] at hr hq
                refine js_call (As := [.inr (.inr p)]) rfl l_R_showEscaped c_R_121 i_R_showEscaped s_R_showEscaped jc_o3 rfl (s3.2.1.1) rfl (cr_showEsc (d := d - 1) (mc := 0) (ms := 0) hg hR (by omega) hc0 hdp s3 w3 (by omega) esh (fun ⟨_, z⟩ => by cases z) (fun h4 s4 => ?_)) (by omega) (Nat.le_of_ble_eq_true rfl) (by omega) (by omega) rfl
                refine jw_goto 181 rfl rfl ?_
                exact at181 h4 O2 sn2 _ s4 rfl hr hq
          · have t3 : jh_r h1 (T i) 320 = some (jg_c g 102) := by rw [t3, es]; rfl
            refine jw_aload_n rfl rfl ?_
            refine jw_ifnull 189 rfl rfl (fun z_ => by cases z_) (fun _ _ => ?_)
            refine jw_gst rfl kz_24 y_R_83 ?_
            refine jw_aload_n rfl rfl ?_
            refine jw_gr rfl g_R_89 (t2) (t3) ?_
            refine jw_ord (x := 2) rfl mx_R_93 od_sameS od_selS kq_102 kf_ordinal_102 (by omega) (Nat.le_of_ble_eq_true rfl) ?_
            refine jw_kiald (2) rfl kt_300 rfl (by first | omega | decide) (by decide) ?_
            refine jw_tableIn 94 rfl (by decide) (by decide) rfl rfl ?_
            refine jw_aload_n rfl rfl ?_
            refine js_call (As := []) rfl l_R_meetTag c_R_106 i_R_meetTag s_R_meetTag jc_o3 rfl (s1.2.1.1) rfl (cr_meet (d := d - 1) (mc := 0) (ms := 0) hg hR (by omega) s1 (fun z => absurd z c6) (fun _ h2 s2 => ?_) (fun z => absurd z c6)) (by omega) (Nat.le_of_ble_eq_true rfl) (by omega) (by omega) rfl
            obtain ⟨t1, t2, t3, t4, t5, t6, t7⟩ := (hp.2.2.2.2 i pe).fr s2.1.1.1 hS
            obtain ⟨xe, x1, x2⟩ := t6 (by omega) (by omega)
            obtain ⟨b1, b2, b3, b4, b5, b6, b7, b8, b9, b10⟩ := s2.1.1.2.1
            have hc2 := hc0.fr s2.1.1.1 hS
            refine jw_aload_n rfl rfl ?_
            refine jw_aload_n rfl rfl ?_
            refine jw_gr rfl g_R_109 (t2) (x1) ?_
            refine jw_aload_n rfl rfl ?_
            refine jw_gr rfl g_R_17 (b1) (b4) ?_
            refine jw_iload_n rfl rfl ?_
            refine js_aald (k) rfl (b5) (by decide) (by rfl) rfl (by omega) (by omega) ((b6 k (by omega)).1) ?_
            rcases ev : ev_ex D C cn tn (rn_ex X i) with _ | v
            · have ed : rn_do D TP (rn D TP f) X i C cn tn uw O1 (sn + 1) = .inl 4 := by rw [rn_do, if_neg (by omega), if_neg (by omega), ev]
              rw [rn_then_l ed] at hr hq
              have hr := hr ⟨_, rfl⟩
              refine js_call (As := [.inr (.inr (some xe)), .inr (.inr (some (R (100 + k))))]) rfl l_R_evaluate c_R_113 i_R_evaluate s_R_evaluate jc_o3 rfl (b1) rfl (cf_eva (d := d - 1) (mc := 1) (ms := 6) hg hR (by omega) hc2 hdp s2.2.1 b7 (b6 k (by omega)).2 x2 (by omega) ev (fun _ => ⟨by omega, by omega⟩) (fun _ h3 st3 => ?_) (fun v z => by cases z)) (by omega) (Nat.le_of_ble_eq_true rfl) (by omega) (by omega) rfl
              exact hq h3 (s2.ev hR (by omega) st3).1.1
            · have ed : rn_do D TP (rn D TP f) X i C cn tn uw O1 (sn + 1) = rn_show D true v O1 (sn + 1) := by rw [rn_do, if_neg (by omega), if_neg (by omega), ev]; show (if rn_s X i ≤ 1 then _ else _) = _; rw [if_pos (by omega), es]; rfl
              rw [ed] at hr hq
              refine js_call (As := [.inr (.inr (some xe)), .inr (.inr (some (R (100 + k))))]) rfl l_R_evaluate c_R_113 i_R_evaluate s_R_evaluate jc_o3 rfl (b1) rfl (cf_eva (d := d - 1) (mc := 0) (ms := 0) hg hR (by omega) hc2 hdp s2.2.1 b7 (b6 k (by omega)).2 x2 (by omega) ev (fun z => by cases z) (fun z => by cases z) (fun w ew h3 p st3 w3 => ?_)) (by omega) (Nat.le_of_ble_eq_true rfl) (by omega) (by omega) rfl
              cases ew
              have s3 := s2.ev hR (by omega) st3
              have hPK : ∀ i, i ≤ 11 → ¬ rP P0 R (k + 1) (R i) := fun i hi => rP.no hR (rU_n hi) (by omega) (Or.inl hi)
              have hc3 := hc0.fr s3.1.1.1 hS
              refine jw_aload_n rfl rfl ?_
              refine jw_gr rfl g_R_40 (s3.2.1.1) (s3.1.1.2.1.2.2.2.2.2.2.2.1) ?_
              refine js_iconst (x := 0) rfl rfl ?_
              have eraw : es_L true (sv_raw D v) = sv_raw D v := rfl
              by_cases cl : O1.length + (sv_raw D v).length ≤ 400
              · have esh : rn_show D true v O1 (sn + 1) = .inr (O1 ++ sv_raw D v, sn + 1) := by rw [rn_show, if_pos ⟨by omega, by rw [eraw]; omega⟩, eraw]
                rw [rn_then_r esh] at hr hq
                refine js_callS (As := [.inr (.inr p), .inr (.inr (some (R 8))), .inl (nI 0)]) rfl l_R_showRaw c_R_117 i_R_showRaw rfl (cs_show (d := d - 1) (mc := 0) (ms := 0) (P := P0) hg (hR.2 _ (rU_n (by decide))) (hR.2 _ (rU_n (by decide))) hc3 hdp s3.2.2.1 w3 (fun _ _ => ⟨hPK 8 (by decide), hPK 9 (by decide)⟩) (by omega) (fun z => absurd z (by omega)) ⟨fun _ h4 t4 f4 => ?_, fun z => absurd z (by omega)⟩) (by omega) (Nat.le_of_ble_eq_true rfl) (by omega) (by omega) rfl
                refine jw_goto 181 rfl rfl ?_
                exact at181 h4 _ _ _ (s3.tx hR (by omega) t4 f4) rfl hr hq
              · have esh : rn_show D true v O1 (sn + 1) = .inl 4 := by rw [rn_show, if_neg (by rw [eraw]; omega)]
                rw [rn_then_l esh] at hr hq
                have hr := hr ⟨_, rfl⟩
                refine js_callS (As := [.inr (.inr p), .inr (.inr (some (R 8))), .inl (nI 0)]) rfl l_R_showRaw c_R_117 i_R_showRaw rfl (cs_show (d := d - 1) (mc := 1) (ms := 6) (P := P0) hg (hR.2 _ (rU_n (by decide))) (hR.2 _ (rU_n (by decide))) hc3 hdp s3.2.2.1 w3 (fun _ _ => ⟨hPK 8 (by decide), hPK 9 (by decide)⟩) (by omega) (fun _ => ⟨by omega, by omega⟩) ⟨fun z => absurd z (by omega), fun _ h4 Z4 t4 f4 => ?_⟩) (by omega) (Nat.le_of_ble_eq_true rfl) (by omega) (by omega) rfl
                exact hq h4 (s3.tx hR (by omega) t4 f4).1.1
          · have t3 : jh_r h1 (T i) 320 = some (jg_c g 104) := by rw [t3, es]; rfl
            have ed : rn_do D TP (rn D TP f) X i C cn tn uw O1 (sn + 1) = .inr (O1, sn + 1) := by rw [rn_do, if_pos es]
            rw [rn_then_r ed] at hr hq
            refine jw_aload_n rfl rfl ?_
            refine jw_ifnull 189 rfl rfl (fun z_ => by cases z_) (fun _ _ => ?_)
            refine jw_gst rfl kz_24 y_R_83 ?_
            refine jw_aload_n rfl rfl ?_
            refine jw_gr rfl g_R_89 (t2) (t3) ?_
            refine jw_ord (x := 4) rfl mx_R_93 od_sameS od_selS kq_104 kf_ordinal_104 (by omega) (Nat.le_of_ble_eq_true rfl) ?_
            refine jw_kiald (4) rfl kt_300 rfl (by first | omega | decide) (by decide) ?_
            refine jw_tableIn 177 rfl (by decide) (by decide) rfl rfl ?_
            refine jw_aload_n rfl rfl ?_
            refine js_call (As := []) rfl l_R_meetTag c_R_106 i_R_meetTag s_R_meetTag jc_o3 rfl (s1.2.1.1) rfl (cr_meet (d := d - 1) (mc := 0) (ms := 0) hg hR (by omega) s1 (fun z => absurd z c6) (fun _ h2 s2 => ?_) (fun z => absurd z c6)) (by omega) (Nat.le_of_ble_eq_true rfl) (by omega) (by omega) rfl
            exact at181 h2 O1 (sn + 1) _ s2 rfl hr hq
          · have ed : rn_do D TP (rn D TP f) X i C cn tn uw O1 (sn + 1) = rn_bl D TP f X i C cn tn uw O1 (sn + 1) := by
              rw [rn_do, if_neg (by omega), if_neg (by omega), rn_bl]
              cases ev_ex D C cn tn (rn_ex X i) with
              | none => rfl
              | some v => exact if_neg (by omega)
            have at168 : ∀ h2, rs_S h0 he h2 n D E P0 R k cn C tn uw O1 (sn + 1) tp → jw_J g d m_R_renderParts jw_T0 168 [some (.inr (.inr (some (R 0)))), l1, some (.inl (nI k)), some (.inr (.inr (some (T i))))] [] h2 mc ms Q := by
              intro h2 s2
              refine jw_aload_n rfl rfl ?_
              refine jw_aload_n rfl rfl ?_
              refine jw_iload_n rfl rfl ?_
              rcases ebl : rn_bl D TP f X i C cn tn uw O1 (sn + 1) with c | ⟨O2, sn2⟩
              · rw [ed, rn_then_l ebl] at hr hq
                have hr := hr ⟨_, rfl⟩
                refine js_call (As := [.inr (.inr (some (T i))), .inl (nI k)]) rfl l_R_renderBlock c_R_132 i_R_renderBlock s_R_renderBlock jc_o3 rfl (s2.2.1.1) rfl (cr_block (d := d - 1) (mc := 1) (ms := 6) hg ih hR hc0 hdp hp pe es hI s2 (by omega) ebl (fun _ => ⟨by omega, by omega⟩) (fun h3 x3 => ?_)) (by omega) (Nat.le_of_ble_eq_true rfl) (by omega) (by omega) rfl
                exact hq h3 x3
              · rw [ed, rn_then_r ebl] at hr hq
                refine js_call (As := [.inr (.inr (some (T i))), .inl (nI k)]) rfl l_R_renderBlock c_R_132 i_R_renderBlock s_R_renderBlock jc_o3 rfl (s2.2.1.1) rfl (cr_block (d := d - 1) (mc := 0) (ms := 0) hg ih hR hc0 hdp hp pe es hI s2 (by omega) ebl (fun ⟨_, z⟩ => by cases z) (fun h3 s3 => ?_)) (by omega) (Nat.le_of_ble_eq_true rfl) (by omega) (by omega) rfl
                refine jw_goto 181 rfl rfl ?_
                exact at181 h3 O2 sn2 _ s3 rfl hr hq
            have e345 : rn_s X i = 3 ∨ rn_s X i = 4 ∨ rn_s X i = 5 := by omega
            rcases e345 with es | es | es
            · have t3 : jh_r h1 (T i) 320 = some (jg_c g 106) := by rw [t3, es]; rfl
              refine jw_aload_n rfl rfl ?_
              refine jw_ifnull 189 rfl rfl (fun z_ => by cases z_) (fun _ _ => ?_)
              refine jw_gst rfl kz_24 y_R_83 ?_
              refine jw_aload_n rfl rfl ?_
              refine jw_gr rfl g_R_89 (t2) (t3) ?_
              refine jw_ord (x := 6) rfl mx_R_93 od_sameS od_selS kq_106 kf_ordinal_106 (by omega) (Nat.le_of_ble_eq_true rfl) ?_
              refine jw_kiald (6) rfl kt_300 rfl (by first | omega | decide) (by decide) ?_
              refine jw_tableIn 164 rfl (by decide) (by decide) rfl rfl ?_
              refine jw_aload_n rfl rfl ?_
              refine js_call (As := []) rfl l_R_meetTag c_R_106 i_R_meetTag s_R_meetTag jc_o3 rfl (s1.2.1.1) rfl (cr_meet (d := d - 1) (mc := 0) (ms := 0) hg hR (by omega) s1 (fun z => absurd z c6) (fun _ h2 s2 => ?_) (fun z => absurd z c6)) (by omega) (Nat.le_of_ble_eq_true rfl) (by omega) (by omega) rfl
              exact at168 h2 s2
            · have t3 : jh_r h1 (T i) 320 = some (jg_c g 107) := by rw [t3, es]; rfl
              refine jw_aload_n rfl rfl ?_
              refine jw_ifnull 189 rfl rfl (fun z_ => by cases z_) (fun _ _ => ?_)
              refine jw_gst rfl kz_24 y_R_83 ?_
              refine jw_aload_n rfl rfl ?_
              refine jw_gr rfl g_R_89 (t2) (t3) ?_
              refine jw_ord (x := 7) rfl mx_R_93 od_sameS od_selS kq_107 kf_ordinal_107 (by omega) (Nat.le_of_ble_eq_true rfl) ?_
              refine jw_kiald (7) rfl kt_300 rfl (by first | omega | decide) (by decide) ?_
              refine jw_tableIn 164 rfl (by decide) (by decide) rfl rfl ?_
              refine jw_aload_n rfl rfl ?_
              refine js_call (As := []) rfl l_R_meetTag c_R_106 i_R_meetTag s_R_meetTag jc_o3 rfl (s1.2.1.1) rfl (cr_meet (d := d - 1) (mc := 0) (ms := 0) hg hR (by omega) s1 (fun z => absurd z c6) (fun _ h2 s2 => ?_) (fun z => absurd z c6)) (by omega) (Nat.le_of_ble_eq_true rfl) (by omega) (by omega) rfl
              exact at168 h2 s2
            · have t3 : jh_r h1 (T i) 320 = some (jg_c g 108) := by rw [t3, es]; rfl
              refine jw_aload_n rfl rfl ?_
              refine jw_ifnull 189 rfl rfl (fun z_ => by cases z_) (fun _ _ => ?_)
              refine jw_gst rfl kz_24 y_R_83 ?_
              refine jw_aload_n rfl rfl ?_
              refine jw_gr rfl g_R_89 (t2) (t3) ?_
              refine jw_ord (x := 8) rfl mx_R_93 od_sameS od_selS kq_108 kf_ordinal_108 (by omega) (Nat.le_of_ble_eq_true rfl) ?_
              refine jw_kiald (8) rfl kt_300 rfl (by first | omega | decide) (by decide) ?_
              refine jw_tableIn 164 rfl (by decide) (by decide) rfl rfl ?_
              refine jw_aload_n rfl rfl ?_
              refine js_call (As := []) rfl l_R_meetTag c_R_106 i_R_meetTag s_R_meetTag jc_o3 rfl (s1.2.1.1) rfl (cr_meet (d := d - 1) (mc := 0) (ms := 0) hg hR (by omega) s1 (fun z => absurd z c6) (fun _ h2 s2 => ?_) (fun z => absurd z c6)) (by omega) (Nat.le_of_ble_eq_true rfl) (by omega) (by omega) rfl
              exact at168 h2 s2
          · have t3 : jh_r h1 (T i) 320 = some (jg_c g 105) := by rw [t3, es]; rfl
            have ed : rn_do D TP (rn D TP f) X i C cn tn uw O1 (sn + 1) = rn_par D TP f (rn_pt X i) C cn uw O1 (sn + 1) := by rw [rn_do, if_neg (by omega), if_pos es]; rfl
            refine jw_aload_n rfl rfl ?_
            refine jw_ifnull 189 rfl rfl (fun z_ => by cases z_) (fun _ _ => ?_)
            refine jw_gst rfl kz_24 y_R_83 ?_
            refine jw_aload_n rfl rfl ?_
            refine jw_gr rfl g_R_89 (t2) (t3) ?_
            refine jw_ord (x := 5) rfl mx_R_93 od_sameS od_selS kq_105 kf_ordinal_105 (by omega) (Nat.le_of_ble_eq_true rfl) ?_
            refine jw_kiald (5) rfl kt_300 rfl (by first | omega | decide) (by decide) ?_
            refine jw_tableIn 148 rfl (by decide) (by decide) rfl rfl ?_
            refine jw_aload_n rfl rfl ?_
            refine js_call (As := []) rfl l_R_meetTag c_R_106 i_R_meetTag s_R_meetTag jc_o3 rfl (s1.2.1.1) rfl (cr_meet (d := d - 1) (mc := 0) (ms := 0) hg hR (by omega) s1 (fun z => absurd z c6) (fun _ h2 s2 => ?_) (fun z => absurd z c6)) (by omega) (Nat.le_of_ble_eq_true rfl) (by omega) (by omega) rfl
            obtain ⟨t1, t2, t3, t4, t5, t6, t7⟩ := (hp.2.2.2.2 i pe).fr s2.1.1.1 hS
            refine jw_aload_n rfl rfl ?_
            refine jw_aload_n rfl rfl ?_
            refine jw_gi rfl g_R_125 (t2) (t5 es) ?_
            refine jw_iload_n rfl rfl ?_
            rcases ebl : rn_par D TP f (rn_pt X i) C cn uw O1 (sn + 1) with c | ⟨O2, sn2⟩
            · rw [ed, rn_then_l ebl] at hr hq
              have hr := hr ⟨_, rfl⟩
              refine js_call (As := [.inl (nI (rn_pt X i)), .inl (nI k)]) rfl l_R_renderPartial c_R_128 i_R_renderPartial s_R_renderPartial jc_o3 rfl (s2.2.1.1) rfl (cr_partial (d := d - 1) (mc := 1) (ms := 6) hg ih hR hT hI (pt_p4 hX pe es) s2 (by omega) ebl (fun _ => ⟨by omega, by omega⟩) (fun h3 x3 => ?_)) (by omega) (Nat.le_of_ble_eq_true rfl) (by omega) (by omega) rfl
              exact hq h3 x3
            · rw [ed, rn_then_r ebl] at hr hq
              refine js_call (As := [.inl (nI (rn_pt X i)), .inl (nI k)]) rfl l_R_renderPartial c_R_128 i_R_renderPartial s_R_renderPartial jc_o3 rfl (s2.2.1.1) rfl (cr_partial (d := d - 1) (mc := 0) (ms := 0) hg ih hR hT hI (pt_p4 hX pe es) s2 (by omega) ebl (fun ⟨_, z⟩ => by cases z) (fun h3 s3 => ?_)) (by omega) (Nat.le_of_ble_eq_true rfl) (by omega) (by omega) rfl
              refine jw_goto 181 rfl rfl ?_
              exact at181 h3 O2 sn2 _ s3 rfl hr hq
    -- the plain text
    by_cases ct : rn_text X i = []
    · rw [pt_hd, if_pos ct]
      have e0 : ¬ 400 < O.length + (rn_text X i).length := by
        rw [ct]
        have := hs.2.2.1.1.2.2.2.2.1
        show ¬ 400 < O.length + 0
        omega
      exact tl h e0 (by rw [ct, List.append_nil]; exact hs)
    · rw [pt_hd, if_neg ct]
      obtain ⟨p1, p2, p3, ⟨tb, ch, cap, p4, p5, p6, p7⟩, p8⟩ := (hp.2.2.2.1 i hiX ct).fr hs.1.1.1 hS
      have n8 : R 8 ≠ tb := fun e => hR.2 8 (rU_n (by decide)) (by rw [e]; exact p5)
      have n9 : R 9 ≠ ch := fun e => hR.2 9 (rU_n (by decide)) (by rw [e]; exact p6)
      refine jw_aload_n rfl rfl ?_
      refine jw_ifnull 189 rfl rfl (fun z_ => by cases z_) (fun _ _ => ?_)
      refine jw_gst rfl kz_24 y_R_83 ?_
      refine jw_aload_n rfl rfl ?_
      refine jw_gr rfl g_R_89 (p2) (p3) ?_
      refine jw_ord (x := 1) rfl mx_R_93 od_sameS od_selS kq_101 kf_ordinal_101 (by omega) (Nat.le_of_ble_eq_true rfl) ?_
      refine jw_kiald (1) rfl kt_300 rfl (by first | omega | decide) (by decide) ?_
      refine jw_tableIn 80 rfl (by decide) (by decide) rfl rfl ?_
      refine jw_aload_n rfl rfl ?_
      refine jw_gr rfl g_R_40 (hs.2.1.1) (hs.1.1.2.1.2.2.2.2.2.2.2.1) ?_
      refine jw_aload_n rfl rfl ?_
      refine jw_gr rfl g_R_99 (p2) (p4) ?_
      by_cases cl : 400 < O.length + (rn_text X i).length
      · rw [if_pos cl] at hr hq
        have hr := hr ⟨_, rfl⟩
        refine js_call (As := [.inr (.inr (some tb))]) rfl l_T_appendText c_R_102 i_T_appendText s_T_appendText jc_o1 rfl (hs.2.2.1.1.1) rfl (ct_appendText (d := d - 1) (mc := 1) (ms := 6) hg hs.2.2.1 p7 n8 n9 (by omega) (fun _ => ⟨by omega, by omega, by omega⟩) (fun z => absurd z (by omega)) (fun _ h1 Z1 x1 f1 => ?_)) (by omega) (Nat.le_of_ble_eq_true rfl) (by omega) (by omega) rfl
        exact hq h1 (hs.tx hR (by omega) x1 f1).1.1
      · refine js_call (As := [.inr (.inr (some tb))]) rfl l_T_appendText c_R_102 i_T_appendText s_T_appendText jc_o1 rfl (hs.2.2.1.1.1) rfl (ct_appendText (d := d - 1) (mc := 0) (ms := 0) hg hs.2.2.1 p7 n8 n9 (by omega) (fun z => absurd z (by omega)) (fun _ h1 x1 f1 => ?_) (fun z => absurd z (by omega))) (by omega) (Nat.le_of_ble_eq_true rfl) (by omega) (by omega) rfl
        have s1 := hs.tx hR (by omega) x1 f1
        obtain ⟨q1, q2, q3, q4, q5⟩ := (hp.2.2.2.1 i hiX ct).fr s1.1.1.1 hS
        refine jw_goto 181 rfl rfl ?_
        refine jw_aload_n rfl rfl ?_
        refine jw_gr rfl g_R_135 (q2) (q5) ?_
        refine js_astore_n rfl rfl (by decide) rfl ?_
        refine jw_goto 2 rfl rfl ?_
        exact tl h1 cl s1

