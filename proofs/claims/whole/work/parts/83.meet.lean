/-! RENDERER: a tag is met; shown escaped; another template -/
theorem rs_S.st {P0 : Nat → Prop} {h0 he he1 h h1 : jh_H} {n : Nat} {D : sd_D} {E : cd_E} {R : Nat → Nat} {k cn uw sn tp k' cn' uw' sn' : Nat} {C C' : Nat → sv_T} {tn tn' : Option Nat} {O : List Nat} (hR : rR P0 R) (hs : rs_S h0 he h n D E P0 R k cn C tn uw O sn tp) (f1 : fr (rS R (fun i => i ≤ 1)) h h1) (q1 : rq_S h0 he1 h1 R k' cn') (hkk : k ≤ k') (hk : k' ≤ 13) (hcc : cn' ≤ 13) (cx : ∀ i, i < cn' → (i < cn ∧ C' i = C i ∧ jh_R h1 (R 1) i = jh_R h (R 1) i) ∨ vl_is h n D E (rP P0 R k') (jh_R h1 (R 1) i) (C' i)) (e1 : jh_i h1 (R 0) 193 = nI cn') (e2 : jh_i h1 (R 0) 202 = (match tn' with | none => -1 | some t => nI t)) (ht : ∀ t, tn' = some t → t < 100) (e3 : jh_i h1 (R 0) 201 = nI uw') (e4 : jh_i h1 (R 0) 203 = nI sn') (hsn : sn' ≤ 600) (e5 : jh_r h1 (R 0) 200 = some tp) : rs_S h0 he1 h1 n D E P0 R k' cn' C' tn' uw' O sn' tp := by
  obtain ⟨q, ⟨r1, r2, r3, r4, r5, r6, r7, r8⟩, t, s1, s2, s3, s4⟩ := hs
  have no : ∀ b, rP P0 R k' b → ¬ rS R (fun i => i ≤ 1) b := fun b hb => rS.noK hR hk hb (fun i _ hz => by unfold rI; omega)
  refine ⟨q1, ⟨q1.1.2.1.1, q1.1.2.1.2.1, q1.1.2.1.2.2.1, e1, hcc, fun i hi => ?_, e2, ht⟩, t.fr f1 (rS.no hR (rU_n (by decide)) (by decide)) (rS.no hR (rU_n (by decide)) (by decide)), e4, hsn, e3, e5⟩
  rcases cx i hi with ⟨h2, h3, h4⟩ | h2
  · rw [h3, h4]
    exact ((r6 i h2).mono (fun b z => z.mono hkk)).fr f1 no
  · exact h2.fr f1 no
theorem rq_S.rf {h0 h : jh_H} {R : Nat → Nat} {k cn : Nat} (hx : rx_S h0 h R) : rq_S h0 h h R k cn := ⟨hx, fr.rf, fun _ _ => rfl⟩
theorem rs_S.met {P0 : Nat → Prop} {h0 he h : jh_H} {n : Nat} {D : sd_D} {E : cd_E} {R : Nat → Nat} {k cn uw sn tp : Nat} {C : Nat → sv_T} {tn : Option Nat} {O : List Nat} (hR : rR P0 R) (hk : k ≤ 13) (hs : rs_S h0 he h n D E P0 R k cn C tn uw O sn tp) (hsn : sn < 600) : rs_S h0 he (jh_si h (R 0) 203 (nI (sn + 1))) n D E P0 R k cn C tn uw O (sn + 1) tp :=
  hs.st hR (fr.si fr.rf ⟨0, rU_n (by decide), by decide, rfl⟩) (hs.1.si hR (by decide)) (Nat.le_refl _) hk hs.2.1.2.2.2.2.1 (fun _ hi => Or.inl ⟨hi, rfl, rfl⟩) ((jh_u_k _ _ _ _ (by decide)).trans hs.2.1.2.2.2.1) ((jh_u_k _ _ _ _ (by decide)).trans hs.2.1.2.2.2.2.2.2.1) hs.2.1.2.2.2.2.2.2.2 ((jh_u_k _ _ _ _ (by decide)).trans hs.2.2.2.2.2.1) (jh_u_s _ _ _ _) (by omega) hs.2.2.2.2.2.2
set_option maxHeartbeats 4000000 in
set_option maxRecDepth 100000 in
theorem cr_meet {g : jg_G} (hg : (jg_l g).stackTraces = false) {d mc ms : Nat} {P0 : Nat → Prop} {h0 he h : jh_H} {n : Nat} {D : sd_D} {E : cd_E} {R : Nat → Nat} {k cn uw sn tp : Nat} {C : Nat → sv_T} {tn : Option Nat} {O : List Nat} {Q : jw_O → jh_H → Prop} (hR : rR P0 R) (hk : k ≤ 13) (hs : rs_S h0 he h n D E P0 R k cn C tn uw O sn tp) (hr : sn = 600 → 10 ≤ d ∧ 1 ≤ mc ∧ 6 ≤ ms) (q1 : sn < 600 → ∀ h', rs_S h0 he h' n D E P0 R k cn C tn uw O (sn + 1) tp → Q (.inl none) h') (q2 : sn = 600 → Q (.inr "java/lang/IllegalStateException") h) : jw_C g d mc ms m_R_meetTag [.inr (.inr (some (R 0)))] h Q := by
  refine jw_intro (ls := [some (.inr (.inr (some (R 0))))]) (by decide) k_R_meetTag rfl (by simp [lo_fit, jv_c]) hg ?_
  have ho := hs.2.1.1
  have e3 := hs.2.2.2.1
  have hsn := hs.2.2.2.2.1
  refine jw_aload_n rfl rfl ?_
  refine jw_gi rfl g_R_67 (ho) (e3) ?_
  refine js_sipush (x := 600) rfl rfl ?_
  refine jw_icmp_lt 20 rfl rfl (fun c1 => ?_) (fun c1 => ?_)
  · have hlt : sn < 600 := (nI_ltI (b := 600) (by omega) (by decide)).mp c1
    refine jw_aload_n rfl rfl ?_
    refine jw_dup rfl rfl ?_
    refine jw_gi rfl g_R_67 (ho) (e3) ?_
    refine js_iconst (x := 1) rfl rfl ?_
    refine jw_iaddV rfl (nI_1 _) ?_
    refine jw_pi rfl p_R_meetTag_67 (ho) ?_
    refine jw_return rfl rfl ?_
    exact q1 hlt _ (hs.met hR hk hlt)
  · have hge : sn = 600 := by
      have : ¬ sn < 600 := fun q => c1 ((nI_ltI (b := 600) (by omega) (by decide)).mpr q)
      omega
    exact jw_throw (E := "java/lang/IllegalStateException") ts_R_meetTag_10 (hr hge).1 (by decide) (hr hge).2.1 (hr hge).2.2 (fun c hc => jw_nc hc _) (q2 hge)
set_option maxHeartbeats 4000000 in
set_option maxRecDepth 100000 in
theorem cr_showEsc {g : jg_G} (hg : (jg_l g).stackTraces = false) {d mc ms : Nat} {P0 : Nat → Prop} {h0 he h : jh_H} {n : Nat} {D : sd_D} {E : cd_E} {R : Nat → Nat} {k cn uw sn tp : Nat} {C : Nat → sv_T} {tn : Option Nat} {O : List Nat} {p : Option Nat} {v : sv_T} {r : rn_R} {Q : jw_O → jh_H → Prop} (hR : rR P0 R) (hk : k < 13) (hc0 : cd_ok h0 n D E P0) (hdp : ∀ x, x < n → sd_dp D 60 x) (hs : rs_S h0 he h n D E P0 R k cn C tn uw O sn tp) (hv : vl_is h n D E (rP P0 R (k + 1)) p v) (hd : 80 ≤ d) (ers : rn_show D false v O sn = r) (hr : (∃ c, r = .inl c) → 1 ≤ mc ∧ 6 ≤ ms) (hq : rn_post h0 he n D E P0 R k cn C tn uw tp r Q) : jw_C g d mc ms m_R_showEscaped [.inr (.inr (some (R 0))), .inr (.inr p)] h Q := by
  subst ers
  refine jw_intro (ls := [some (.inr (.inr (some (R 0)))), some (.inr (.inr p))]) (by decide) k_R_showEscaped rfl (by simp [lo_fit, jv_c]) hg ?_
  have hb := hs.1.1.2.1
  obtain ⟨v1, v2, v3, v4, v5, ⟨Z, v6⟩, v7, v8⟩ := hb.2.2.2.2.2.2.1
  have PK : ∀ i, i ≤ 11 → ¬ rP P0 R (k + 1) (R i) := fun i hi => rP.no hR (rU_n hi) (by omega) (Or.inl hi)
  refine jw_aload_n rfl rfl ?_
  refine jw_gr rfl g_R_33 (v1) (v5) ?_
  refine js_call (As := []) rfl l_T_clear c_R_54 i_T_clear s_T_clear jc_o1 rfl (v6.1.1) rfl (ct_clear2 (d := d - 1) (mc := 0) (ms := 0) hg v6 (fun h1 t1 f1 => ?_)) (by omega) (Nat.le_of_ble_eq_true rfl) (by omega) (by omega) rfl
  have f1 : fr (tx_S (R 4) (R 5)) h h1 := f1.mono (fun _ _ z => Or.inl z)
  have s1 := hs.lf hR (by omega) t1 f1
  have w1 := hv.fr f1 (fun b hb z => by rcases z with z | z; exact PK 4 (by decide) (by rw [← z]; exact hb); exact PK 5 (by decide) (by rw [← z]; exact hb))
  have hc1 : cd_ok h1 n D E P0 := hc0.fr s1.1.1.1 (fun b hb => rS.noP hR b hb)
  obtain ⟨u1, u2, u3, u4, u5, u6, u7, u8⟩ := s1.1.1.2.1.2.2.2.2.2.2.1
  refine jw_aload_n rfl rfl ?_
  refine jw_aload_n rfl rfl ?_
  refine jw_gr rfl g_R_33 (u1) (u5) ?_
  refine js_iconst (x := 0) rfl rfl ?_
  by_cases hl : 400 < (sv_raw D v).length
  · have er : rn_show D false v O sn = .inl 4 := by rw [rn_show, if_neg (by omega)]
    rw [er] at hq hr
    have hr := hr ⟨_, rfl⟩
    refine js_callS (As := [.inr (.inr p), .inr (.inr (some (R 4))), .inl (nI 0)]) rfl l_R_showRaw c_R_117 i_R_showRaw rfl (cs_show (d := d - 1) (mc := 1) (ms := 6) (P := P0) (X := []) hg (hR.2 _ (rU_n (by decide))) (hR.2 _ (rU_n (by decide))) hc1 hdp t1 w1 (fun _ _ => ⟨PK 4 (by decide), PK 5 (by decide)⟩) (by omega) (fun _ => ⟨by omega, by omega⟩) ⟨fun z => absurd z (by show ¬ 0 + _ ≤ 400; omega), fun _ h4 Z4 t4 f4 => ?_⟩) (by omega) (Nat.le_of_ble_eq_true rfl) (by omega) (by omega) rfl
    exact hq h4 (s1.lf hR (by omega) t4 f4).1.1
  · refine js_callS (As := [.inr (.inr p), .inr (.inr (some (R 4))), .inl (nI 0)]) rfl l_R_showRaw c_R_117 i_R_showRaw rfl (cs_show (d := d - 1) (mc := 0) (ms := 0) (P := P0) (X := []) hg (hR.2 _ (rU_n (by decide))) (hR.2 _ (rU_n (by decide))) hc1 hdp t1 w1 (fun _ _ => ⟨PK 4 (by decide), PK 5 (by decide)⟩) (by omega) (fun z => absurd z (by show ¬ 400 < 0 + _; omega)) ⟨fun _ h4 t4 f4 => ?_, fun z => absurd z (by show ¬ 400 < 0 + _; omega)⟩) (by omega) (Nat.le_of_ble_eq_true rfl) (by omega) (by omega) rfl
    rw [List.nil_append] at t4
    have s4 := s1.lf hR (by omega) t4 f4
    obtain ⟨b1, b2, b3, b4, b5, b6, ⟨y1, y2, y3, y4, y5, y6, y7, y8⟩, b8, b9, b10⟩ := s4.1.1.2.1
    refine jw_aload_n rfl rfl ?_
    refine jw_gr rfl g_R_40 (b1) (b8) ?_
    refine jw_aload_n rfl rfl ?_
    refine jw_gr rfl g_R_33 (b1) (y5) ?_
    have n84 : R 8 ≠ R 4 := hR.ne (rU_n (by decide)) (rU_n (by decide)) (by decide)
    have n95 : R 9 ≠ R 5 := hR.ne (rU_n (by decide)) (rU_n (by decide)) (by decide)
    by_cases hm : 400 < O.length + (es_L false (sv_raw D v)).length
    · have er : rn_show D false v O sn = .inl 4 := by rw [rn_show, if_neg (by omega)]
      rw [er] at hq hr
      have hr := hr ⟨_, rfl⟩
      refine js_call (As := [.inr (.inr (some (R 4)))]) rfl l_T_appendEscaped c_R_263 i_T_appendEscaped s_T_appendEscaped jc_o1 rfl (s4.2.2.1.1.1) rfl (ct_appendEscaped (d := d - 1) (mc := 1) (ms := 6) hg s4.2.2.1 t4 n84 n95 (by omega) (fun _ => ⟨by omega, by omega, by omega⟩) (fun z => absurd z (by omega)) (fun _ h5 Z5 t5 f5 => ?_)) (by omega) (Nat.le_of_ble_eq_true rfl) (by omega) (by omega) rfl
      exact hq h5 (s4.tx hR (by omega) t5 f5).1.1
    · have er : rn_show D false v O sn = .inr (O ++ es_L false (sv_raw D v), sn) := by rw [rn_show, if_pos ⟨by omega, by omega⟩]
      rw [er] at hq
      refine js_call (As := [.inr (.inr (some (R 4)))]) rfl l_T_appendEscaped c_R_263 i_T_appendEscaped s_T_appendEscaped jc_o1 rfl (s4.2.2.1.1.1) rfl (ct_appendEscaped (d := d - 1) (mc := 0) (ms := 0) hg s4.2.2.1 t4 n84 n95 (by omega) (fun z => absurd z (by omega)) (fun _ h5 t5 f5 => ?_) (fun z => absurd z (by omega))) (by omega) (Nat.le_of_ble_eq_true rfl) (by omega) (by omega) rfl
      refine jw_return rfl rfl ?_
      exact hq h5 (s4.tx hR (by omega) t5 f5)
/-- where a rendering stands: in template X, before tag i, blocks open in it, depth, templates under way, contexts -/
def rp_I (f : Nat) (X : tp_X) (i dl k uw cn : Nat) (lv : Nat → Nat) : Prop := tp_ok X ∧ lv_ok (tx X) X.1.length X.2.1 X.2.2.1 X.2.2.2.1 X.2.2.2.2 lv ∧ i ≤ X.2.1 ∧ lv i = dl ∧ dl ≤ 4 ∧ 1 ≤ uw ∧ uw ≤ 3 ∧ k ≤ 4 * (uw - 1) + dl ∧ 1 ≤ cn ∧ cn ≤ 1 + k ∧ (3 - uw) * 51 + (X.2.1 - i) + 1 ≤ f
/-- what is to be shown of renderParts, at its loop's head -/
def RP (g : jg_G) (h0 : jh_H) (n : Nat) (D : sd_D) (E : cd_E) (P0 : Nat → Prop) (R : Nat → Nat) (TP : Nat → Option tp_X) (tp f : Nat) : Prop := ∀ (d mc ms : Nat) (he h : jh_H) (X : tp_X) (A T : Nat → Nat) (rt i dl k cn : Nat) (C : Nat → sv_T) (tn : Option Nat) (uw : Nat) (O : List Nat) (sn : Nat) (lv : Nat → Nat) (l1 : Option jV) (Q : jw_O → jh_H → Prop), pt_ok g h0 P0 X A T rt → rp_I f X i dl k uw cn lv → rs_S h0 he h n D E P0 R k cn C tn uw O sn tp → 100 + 4 * (12 - k) + 4 * (3 - uw) ≤ d → ((∃ c, rn D TP f X i C cn tn uw O sn = .inl c) → 1 ≤ mc ∧ 6 ≤ ms) → rn_post h0 he n D E P0 R k cn C tn uw tp (rn D TP f X i C cn tn uw O sn) Q → jw_J g d m_R_renderParts jw_T0 2 [some (.inr (.inr (some (R 0)))), l1, some (.inl (nI k)), some (.inr (.inr (pt_hd X A T i)))] [] h mc ms Q
set_option maxHeartbeats 4000000 in
set_option maxRecDepth 100000 in
theorem cr_parts {g : jg_G} (hg : (jg_l g).stackTraces = false) {h0 : jh_H} {n : Nat} {D : sd_D} {E : cd_E} {P0 : Nat → Prop} {R : Nat → Nat} {TP : Nat → Option tp_X} {tp f : Nat} (rp : RP g h0 n D E P0 R TP tp f) {d mc ms : Nat} {h : jh_H} {X : tp_X} {A T : Nat → Nat} {rt i dl k cn : Nat} {C : Nat → sv_T} {tn : Option Nat} {uw : Nat} {O : List Nat} {sn : Nat} {lv : Nat → Nat} {r : rn_R} {Q : jw_O → jh_H → Prop} (hp : pt_ok g h0 P0 X A T rt) (hI : rp_I f X i dl k uw cn lv) (hs : rs_S h0 h h n D E P0 R k cn C tn uw O sn tp) (hd : 100 + 4 * (12 - k) + 4 * (3 - uw) ≤ d) (er : rn D TP f X i C cn tn uw O sn = r) (hr : (∃ c, r = .inl c) → 1 ≤ mc ∧ 6 ≤ ms) (hq : rn_post h0 h n D E P0 R k cn C tn uw tp r Q) : jw_C g d mc ms m_R_renderParts [.inr (.inr (some (R 0))), .inr (.inr (pt_hd X A T i)), .inl (nI k)] h Q := by
  subst er
  refine jw_intro (ls := [some (.inr (.inr (some (R 0)))), some (.inr (.inr (pt_hd X A T i))), some (.inl (nI k)), none]) (by decide) k_R_renderParts rfl (by simp [lo_fit, jv_c]) hg ?_
  refine jw_aload_n rfl rfl ?_
  refine js_astore_n rfl rfl (by decide) rfl ?_
  exact rp d mc ms h h X A T rt i dl k cn C tn uw O sn lv _ Q hp hI hs hd hr hq
set_option maxHeartbeats 4000000 in
set_option maxRecDepth 100000 in
theorem cr_null {g : jg_G} (hg : (jg_l g).stackTraces = false) {d mc ms a k : Nat} {h : jh_H} {Q : jw_O → jh_H → Prop} (hq : Q (.inl none) h) : jw_C g d mc ms m_R_renderParts [.inr (.inr (some a)), .inr (.inr none), .inl (nI k)] h Q := by
  refine jw_intro (ls := [some (.inr (.inr (some a))), some (.inr (.inr none)), some (.inl (nI k)), none]) (by decide) k_R_renderParts rfl (by simp [lo_fit, jv_c]) hg ?_
  refine jw_aload_n rfl rfl ?_
  refine js_astore_n rfl rfl (by decide) rfl ?_
  refine jw_aload_n rfl rfl ?_
  refine jw_ifnull 189 rfl rfl (fun _ => ?_) (fun x_ z_ => by cases z_)
  refine jw_return rfl rfl ?_
  exact hq
theorem rp_I.nx {f : Nat} {X : tp_X} {i dl k uw cn : Nat} {lv : Nat → Nat} (h : rp_I (f + 1) X i dl k uw cn lv) (hi : ¬ pt_end X i) : rp_I f X (rn_after X i) dl k uw cn lv ∧ i < rn_after X i := by
  obtain ⟨h1, h2, h3, h4, h5, h6, h7, h8, h9, h10, h11⟩ := h
  have hlt : i < X.2.1 := by unfold pt_end at hi; omega
  obtain ⟨q0, q1, q2, q3, q4⟩ := h2.2.2 i hlt
  have qs : rn_s X i ≤ 10 := q0.2.2.2.2.2.1
  by_cases c : 3 ≤ rn_s X i ∧ rn_s X i ≤ 5
  · obtain ⟨l1, l2, l, l3, l4, l5, l6, l7, l8, l9⟩ := q1 c
    have e : rn_after X i = l + 1 := by rw [rn_after, if_pos c, l3]; rfl
    rw [e]
    exact ⟨⟨h1, h2, by omega, by omega, h5, h6, h7, h8, h9, h10, by omega⟩, by omega⟩
  · have e : rn_after X i = i + 1 := by rw [rn_after, if_neg c]
    have hh : rn_s X i ≤ 2 ∨ rn_s X i = 10 := by unfold pt_end at hi; omega
    have := q4 hh
    rw [e]
    exact ⟨⟨h1, h2, by omega, by omega, h5, h6, h7, h8, h9, h10, by omega⟩, by omega⟩
theorem rp_I.bl {f : Nat} {X : tp_X} {i dl k uw cn : Nat} {lv : Nat → Nat} (h : rp_I (f + 1) X i dl k uw cn lv) (hi : ¬ pt_end X i) (c : 3 ≤ rn_s X i ∧ rn_s X i ≤ 5) : k < 12 ∧ (∀ cn', 1 ≤ cn' → cn' ≤ cn + 1 → rp_I f X (i + 1) (dl + 1) (k + 1) uw cn' lv) ∧ ∀ o, X.2.2.2.1 i = some o → rp_I f X (o + 1) (dl + 1) (k + 1) uw cn lv := by
  obtain ⟨h1, h2, h3, h4, h5, h6, h7, h8, h9, h10, h11⟩ := h
  have hlt : i < X.2.1 := by unfold pt_end at hi; omega
  obtain ⟨q0, q1, q2, q3, q4⟩ := h2.2.2 i hlt
  obtain ⟨l1, l2, l, l3, l4, l5, l6, l7, l8, l9⟩ := q1 c
  refine ⟨by omega, fun cn' z1 z2 => ⟨h1, h2, by omega, by omega, by omega, h6, h7, by omega, z1, by omega, by omega⟩, fun o ho => ?_⟩
  obtain ⟨o1, o2, o3, o4, o5⟩ := l9 o ho
  exact ⟨h1, h2, by omega, by omega, by omega, h6, h7, by omega, h9, by omega, by omega⟩
theorem rp_I.pa {f : Nat} {X Y : tp_X} {i dl k uw cn : Nat} {lv : Nat → Nat} (h : rp_I (f + 1) X i dl k uw cn lv) (hY : tp_ok Y) (hu : uw < 3) : ∃ lv', rp_I f Y 0 0 k (uw + 1) cn lv' := by
  obtain ⟨h1, h2, h3, h4, h5, h6, h7, h8, h9, h10, h11⟩ := h
  obtain ⟨lv', hl⟩ := tp_lv hY
  have := hY.2.2
  exact ⟨lv', hY, hl, by omega, hl.1, by omega, by omega, by omega, by omega, h9, h10, by omega⟩

