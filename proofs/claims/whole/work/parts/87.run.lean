/-! RENDERER: a run -/
theorem rb_ok.r {P0 : Nat → Prop} {h : jh_H} {R : Nat → Nat} {v : Option Nat} (hR : rR P0 R) (hb : rb_ok h R) : rb_ok (jh_sr h (R 0) 200 v) R := by
  obtain ⟨b1, b2, b3, b4, b5, b6, b7, b8, ⟨Z, b9⟩, b10⟩ := hb
  have f : fr (rS R (fun i => i = 0)) h (jh_sr h (R 0) 200 v) := fr.sr fr.rf ⟨0, rU_n (by decide), rfl, rfl⟩
  have nI : ∀ {j}, j ≤ 11 → j ≠ 0 → ¬ rS R (fun i => i = 0) (R j) := fun h1 h2 => rS.no hR (rU_n h1) h2
  have rd : ∀ q, q ≠ 200 → jh_r (jh_sr h (R 0) 200 v) (R 0) q = jh_r h (R 0) q := fun q hq => jh_u_k _ _ _ _ hq
  refine ⟨b1, (rd _ (by decide)).trans b2, b3, (rd _ (by decide)).trans b4, b5, fun j hj => ⟨(b6 j hj).1, ?_⟩, ?_, (rd _ (by decide)).trans b8, ⟨Z, b9.fr f (nI (by decide) (by decide)) (nI (by decide) (by decide))⟩, (rd _ (by decide)).trans b10⟩
  · obtain ⟨u1, u2, u3⟩ := rU_1 hj
    exact (b6 j hj).2.mv f (rS.no hR u1 (by omega)) (rS.no hR u2 (by omega)) (rS.no hR u3 (by omega))
  · obtain ⟨v1, v2, v3, v4, v5, ⟨Z, v6⟩, v7, ⟨Z', v8⟩⟩ := b7
    exact ⟨v1, (rd _ (by decide)).trans v2, v3, v4, (rd _ (by decide)).trans v5, ⟨Z, v6.fr f (nI (by decide) (by decide)) (nI (by decide) (by decide))⟩, (rd _ (by decide)).trans v7, ⟨Z', v8.fr f (nI (by decide) (by decide)) (nI (by decide) (by decide))⟩⟩
/-- result and rendered change places -/
def rw_x (i : Nat) : Nat := if i = 8 then 10 else if i = 9 then 11 else if i = 10 then 8 else if i = 11 then 9 else i
def rw_s (R : Nat → Nat) (i : Nat) : Nat := R (rw_x i)
theorem rw_U {i : Nat} (h : rU i) : rU (rw_x i) := by
  unfold rU at *
  unfold rw_x
  repeat' split
  all_goals omega
theorem rw_I {i j : Nat} (h : rw_x i = rw_x j) : i = j := by
  unfold rw_x at h
  repeat' split at h
  all_goals omega
theorem rw_R {P0 : Nat → Prop} {R : Nat → Nat} (hR : rR P0 R) : rR P0 (rw_s R) := ⟨fun i j hi hj e => rw_I (hR.1 _ _ (rw_U hi) (rw_U hj) e), fun i hi => hR.2 _ (rw_U hi)⟩
theorem rw_n {R : Nat → Nat} {i : Nat} (h : i < 8 ∨ 11 < i) : rw_s R i = R i := by
  unfold rw_s rw_x
  rw [if_neg (by omega), if_neg (by omega), if_neg (by omega), if_neg (by omega)]
theorem rw_sl {R : Nat → Nat} {h : jh_H} {j : Nat} (hs : sl_ok h R j) : sl_ok h (rw_s R) j := by
  unfold sl_ok at *
  rw [rw_n (by omega), rw_n (by omega), rw_n (by omega)]
  exact hs
theorem rw_rv {R : Nat → Nat} {h : jh_H} (hs : rv_ok h R) : rv_ok h (rw_s R) := hs
/-- how a run ends -/
def ru_post (h : jh_H) (R : Nat → Nat) (r : rn_R) (Q : jw_O → jh_H → Prop) : Prop := match r with
  | .inl c => ∀ h', rx_S h h' R → Q (.inr (rn_E c)) h'
  | .inr (O, sn) => ∀ h', fr (rS R (rI 0)) h h' → rb_ok h' (rw_s R) → tx_is h' (R 8) (R 9) 400 O → jh_i h' (R 0) 204 = nI sn → Q (.inl none) h'
set_option maxHeartbeats 4000000 in
set_option maxRecDepth 100000 in
theorem cr_run {g : jg_G} (hg : (jg_l g).stackTraces = false) {h : jh_H} {n : Nat} {D : sd_D} {E : cd_E} {P0 : Nat → Prop} {R : Nat → Nat} {TP : Nat → Option tp_X} {tp d mc ms j x rt : Nat} {X : tp_X} {Zr : List Nat} {r : rn_R} {Q : jw_O → jh_H → Prop} (hR : rR P0 R) (hb : rb_ok h R) (hZ : tx_is h (R 10) (R 11) 400 Zr) (hc : cd_ok h n D E P0) (hdp : ∀ x, x < n → sd_dp D 60 x) (hT : pt_all g h P0 TP tp) (hj : j < 4) (hX : TP j = some X) (hrt : jh_R h tp j = some rt) (hx : x < n) (hd : 160 ≤ d) (er : rn D TP 153 X 0 (fun _ => sv_of D x) 1 none 1 [] 0 = r) (hr : (∃ c, r = .inl c) → 1 ≤ mc ∧ 6 ≤ ms) (hq : ru_post h R r Q) : jw_C g d mc ms m_R_run [.inr (.inr (some (R 0))), .inr (.inr (some tp)), .inr (.inr (some rt)), .inr (.inr (some (E.1 x)))] h Q := by
  refine jw_intro (ls := [some (.inr (.inr (some (R 0)))), some (.inr (.inr (some tp))), some (.inr (.inr (some rt))), some (.inr (.inr (some (E.1 x)))), none]) (by decide) k_R_run rfl (by simp [lo_fit, jv_c]) hg ?_
  have u0 : rU 0 := rU_n (by decide)
  obtain ⟨b1, b2, b3, b4, b5, b6, b7, b8, ⟨Z, b9⟩, b10⟩ := id hb
  obtain ⟨hXok, A, T, rt', hrt', hp⟩ : tp_ok X ∧ ∃ A T rt, jh_R h tp j = some rt ∧ pt_ok g h P0 X A T rt := by
    have := hT.2.2 j hj
    rw [hX] at this
    exact this
  cases Option.some.inj (hrt'.symm.trans hrt)
  obtain ⟨lv, hlv⟩ := tp_lv hXok
  obtain ⟨ha, eha⟩ : ∃ z, z = jh_sr h (R 0) 200 (some tp) := ⟨_, rfl⟩
  have fa : fr (rS R (rI 0)) h ha := by rw [eha]; exact fr.sr fr.rf ⟨0, u0, by unfold rI; omega, rfl⟩
  have ba : rb_ok ha R := by rw [eha]; exact hb.r hR
  obtain ⟨Za, ta⟩ := ba.2.2.2.2.2.2.2.2.1
  refine jw_aload_n rfl rfl ?_
  refine jw_aload_n rfl rfl ?_
  refine jw_pr rfl p_R_run_50 (b1) ?_
  rw [← eha]
  refine jw_aload_n rfl rfl ?_
  refine jw_gr rfl g_R_40 (ba.1) (ba.2.2.2.2.2.2.2.1) ?_
  refine js_call (As := []) rfl l_T_clear c_R_54 i_T_clear s_T_clear jc_o1 rfl (ta.1.1) rfl (ct_clear2 (d := d - 1) (mc := 0) (ms := 0) hg ta (fun hb1 tb fb => ?_)) (by omega) (Nat.le_of_ble_eq_true rfl) (by omega) (by omega) rfl
  have fb : fr (rS R (fun i => i = 8 ∨ i = 9)) ha hb1 := fb.mono (fun _ _ z => ⟨8, rU_n (by decide), Or.inl rfl, z⟩)
  have bb : rb_ok hb1 R := ba.mv hR fb (by decide) (by decide) (fun j _ z => by omega) (fun z => by omega) (fun _ => ⟨_, tb⟩)
  have fhb : fr (rS R (rI 0)) h hb1 := fa.tr fb (fun _ _ z => z.mono (fun i _ hz => by unfold rI; omega))
  have hS : ∀ b, P0 b → ¬ rS R (rI 0) b := fun b hb => rS.noP hR b hb
  have cb := hc.fr fhb hS
  have vb := vl_of cb hx
  have pb := hp.fr fhb hS
  have e200 : jh_r hb1 (R 0) 200 = some tp := ((fb.2 _ ba.1.1 (rS.no hR u0 (by decide))).2.2.2.2.1 200).trans (by rw [eha]; exact jh_u_s _ _ _ _)
  have e204 : jh_i hb1 (R 0) 204 = jh_i h (R 0) 204 := ((fb.2 _ ba.1.1 (rS.no hR u0 (by decide))).2.2.1 204).trans (by rw [eha]; rfl)
  refine jw_aload_n rfl rfl ?_
  refine jw_gr rfl g_R_11 (bb.1) (bb.2.1) ?_
  refine js_iconst (x := 0) rfl rfl ?_
  refine jw_aload_n rfl rfl ?_
  refine js_aast (0) rfl (bb.2.2.1) (vl_is.O cb vb) (by decide) jc_o2 (by rfl) rfl (by omega) (by omega) ?_
  refine jw_aload_n rfl rfl ?_
  refine js_iconst (x := 1) rfl rfl ?_
  refine jw_pi rfl p_R_run_57 (bb.1) ?_
  refine jw_aload_n rfl rfl ?_
  refine js_iconst (x := 1) rfl rfl ?_
  refine jw_pi rfl p_R_run_61 (bb.1) ?_
  refine jw_aload_n rfl rfl ?_
  refine js_iconst (x := (-1)) rfl rfl ?_
  refine jw_pi rfl p_R_run_64 (bb.1) ?_
  refine jw_aload_n rfl rfl ?_
  refine js_iconst (x := 0) rfl rfl ?_
  refine jw_pi rfl p_R_run_67 (bb.1) ?_
  refine jw_aload_n rfl rfl ?_
  refine jw_aload_n rfl rfl ?_
  refine jw_gr rfl g_R_70 (pb.2.1) (pb.2.2.1) ?_
  refine js_iconst (x := 0) rfl rfl ?_
  obtain ⟨h1, eh1⟩ : ∃ z, z = jh_si (jh_si (jh_si (jh_si (jh_sR hb1 (R 1) 0 (some (E.1 x))) (R 0) 193 1) (R 0) 201 1) (R 0) 202 (-1)) (R 0) 203 0 := ⟨_, rfl⟩
  have xb : rx_S hb1 hb1 R := ⟨fr.rf, bb, rfl⟩
  have q1 : rq_S hb1 hb1 h1 R 0 0 := by rw [eh1]; exact (((((rq_S.rf xb).sR hR (Nat.zero_le _)).si hR (by decide)).si hR (by decide)).si hR (by decide)).si hR (by decide)
  have f1 : fr (rS R (fun i => i ≤ 1)) hb1 h1 := by rw [eh1]; exact fr.si (fr.si (fr.si (fr.si (fr.sR fr.rf ⟨1, rU_n (by decide), by decide, rfl⟩) ⟨0, u0, by decide, rfl⟩) ⟨0, u0, by decide, rfl⟩) ⟨0, u0, by decide, rfl⟩) ⟨0, u0, by decide, rfl⟩
  have fh1 : fr (rS R (rI 0)) h h1 := fhb.tr f1 (fun _ _ z => z.mono (fun i _ hz => by unfold rI; omega))
  have c1 := hc.fr fh1 hS
  have t1 := hT.fr fh1 hS
  have p1 := hp.fr fh1 hS
  have s1 : rs_S h1 h1 h1 n D E P0 R 0 1 (fun _ => sv_of D x) none 1 [] 0 tp := by
    refine ⟨rq_S.rf ⟨fr.rf, q1.1.2.1, rfl⟩, ⟨q1.1.2.1.1, q1.1.2.1.2.1, q1.1.2.1.2.2.1, ?_, by decide, fun i hi => ?_, ?_, fun t z => by cases z⟩, tb.fr f1 (rS.no hR (rU_n (by decide)) (by decide)) (rS.no hR (rU_n (by decide)) (by decide)), ?_, by decide, ?_, ?_⟩
    · rw [eh1]; exact (jh_u_k _ _ _ _ (by decide)).trans ((jh_u_k _ _ _ _ (by decide)).trans ((jh_u_k _ _ _ _ (by decide)).trans (jh_u_s _ _ _ _)))
    · have : i = 0 := by omega
      subst this
      rw [show jh_R h1 (R 1) 0 = some (E.1 x) by rw [eh1]; exact jh_u_s _ _ _ _]
      exact (vl_of c1 hx).mono (fun b z => Or.inl z)
    · rw [eh1]; exact (jh_u_k _ _ _ _ (by decide)).trans (jh_u_s _ _ _ _)
    · rw [eh1]; exact jh_u_s _ _ _ _
    · rw [eh1]; exact (jh_u_k _ _ _ _ (by decide)).trans ((jh_u_k _ _ _ _ (by decide)).trans (jh_u_s _ _ _ _))
    · rw [eh1]; exact e200
  have rp := cr_RP hg hR c1 hdp t1 153
  have hI : rp_I 153 X 0 0 0 1 1 lv := ⟨hXok, hlv, by omega, hlv.1, by omega, by omega, by omega, by omega, by omega, by omega, by have := hXok.2.2; omega⟩
  have ho1 : jh_O h1 (R 0) 3 := s1.2.1.1
  have e204' : jh_i h1 (R 0) 204 = jh_i h (R 0) 204 := q1.1.2.2.trans e204
  rw [← eh1]
  rcases r with c | ⟨O', sn'⟩
  · have hr := hr ⟨_, rfl⟩
    refine js_call (As := [.inr (.inr (pt_hd X A T 0)), .inl (nI 0)]) rfl l_R_renderParts c_R_76 i_R_renderParts s_R_renderParts jc_o3 rfl (ho1) rfl (cr_parts (d := d - 1) (mc := 1) (ms := 6) hg rp p1 hI s1 (by omega) er (fun _ => ⟨by omega, by omega⟩) (fun h2 x2 => ?_)) (by omega) (Nat.le_of_ble_eq_true rfl) (by omega) (by omega) rfl
    exact hq h2 ⟨fh1.tr x2.1 (fun _ _ z => z), x2.2.1, x2.2.2.trans e204'⟩
  · refine js_call (As := [.inr (.inr (pt_hd X A T 0)), .inl (nI 0)]) rfl l_R_renderParts c_R_76 i_R_renderParts s_R_renderParts jc_o3 rfl (ho1) rfl (cr_parts (d := d - 1) (mc := 0) (ms := 0) hg rp p1 hI s1 (by omega) er (fun ⟨_, z⟩ => by cases z) (fun h2 s2 => ?_)) (by omega) (Nat.le_of_ble_eq_true rfl) (by omega) (by omega) rfl
    obtain ⟨d1, d2, d3, d4, d5, d6, d7, d8, ⟨Zd, d9⟩, d10⟩ := s2.1.1.2.1
    refine jw_aload_n rfl rfl ?_
    refine jw_gr rfl g_R_43 (d1) (d10) ?_
    refine js_astore rfl rfl (by decide) rfl ?_
    refine jw_aload_n rfl rfl ?_
    refine jw_aload_n rfl rfl ?_
    refine jw_gr rfl g_R_40 (d1) (d8) ?_
    refine jw_pr rfl p_R_run_43 (d1) ?_
    refine jw_aload_n rfl rfl ?_
    refine jw_aload rfl rfl ?_
    refine jw_pr rfl p_R_run_40 (d1) ?_
    refine jw_aload_n rfl rfl ?_
    refine jw_aload_n rfl rfl ?_
    refine jw_gi rfl g_R_67 (d1) (s2.2.2.2.1) ?_
    refine jw_pi rfl p_R_run_80 (d1) ?_
    refine jw_return rfl rfl ?_
    obtain ⟨h3, eh3⟩ : ∃ z, z = jh_si (jh_sr (jh_sr h2 (R 0) 199 (some (R 8))) (R 0) 198 (some (R 10))) (R 0) 204 (nI sn') := ⟨_, rfl⟩
    rw [← eh3]
    have f3 : fr (rS R (fun i => i = 0)) h2 h3 := by rw [eh3]; exact fr.si (fr.sr (fr.sr fr.rf ⟨0, u0, rfl, rfl⟩) ⟨0, u0, rfl, rfl⟩) ⟨0, u0, rfl, rfl⟩
    have fh3 : fr (rS R (rI 0)) h h3 := (fh1.tr s2.1.1.1 (fun _ _ z => z)).tr f3 (fun _ _ z => z.mono (fun i _ hz => by unfold rI; omega))
    have no : ∀ {i}, i ≤ 11 → i ≠ 0 → ¬ rS R (fun i => i = 0) (R i) := fun h1 h2 => rS.no hR (rU_n h1) h2
    have rd : ∀ q, q ≠ 198 → q ≠ 199 → jh_r h3 (R 0) q = jh_r h2 (R 0) q := fun q z1 z2 => by rw [eh3]; exact (jh_u_k _ _ _ _ z1).trans (jh_u_k _ _ _ _ z2)
    have tr3 : tx_is h3 (R 10) (R 11) 400 Zr := hZ.fr fh3 (rS.no hR (rU_n (by decide)) (by unfold rI; omega)) (rS.no hR (rU_n (by decide)) (by unfold rI; omega))
    refine hq h3 fh3 ?_ (s2.2.2.1.fr f3 (no (by decide) (by decide)) (no (by decide) (by decide))) (by rw [eh3]; exact jh_u_s _ _ _ _)
    refine ⟨f3.O d1, (rd _ (by decide) (by decide)).trans d2, f3.A d3, (rd _ (by decide) (by decide)).trans d4, f3.A d5, fun i hi => ⟨?_, ?_⟩, ?_, ?_, ⟨Zr, tr3⟩, ?_⟩
    · show jh_R h3 (R 2) i = some (rw_s R (100 + i))
      rw [rw_n (by omega), (f3.2 _ d5.1 (no (by decide) (by decide))).2.2.2.2.2.2.2 i]
      exact (d6 i hi).1
    · obtain ⟨u1, u2, u3⟩ := rU_1 hi
      exact rw_sl ((d6 i hi).2.mv f3 (rS.no hR u1 (by omega)) (rS.no hR u2 (by omega)) (rS.no hR u3 (by omega)))
    · obtain ⟨v1, v2, v3, v4, v5, ⟨Z, v6⟩, v7, ⟨Z', v8⟩⟩ := d7
      have e3 := f3.2 _ v3.1 (no (i := 3) (by decide) (by decide))
      exact ⟨f3.O v1, (rd _ (by decide) (by decide)).trans v2, f3.O v3, (e3.2.2.1 133).trans v4, (rd _ (by decide) (by decide)).trans v5, ⟨Z, v6.fr f3 (no (i := 4) (by decide) (by decide)) (no (i := 5) (by decide) (by decide))⟩, (rd _ (by decide) (by decide)).trans v7, ⟨Z', v8.fr f3 (no (i := 6) (by decide) (by decide)) (no (i := 7) (by decide) (by decide))⟩⟩
    · show jh_r h3 (R 0) 198 = some (R 10)
      rw [eh3]; exact jh_u_s _ _ _ _
    · show jh_r h3 (R 0) 199 = some (R 8)
      rw [eh3]; exact (jh_u_k _ _ _ _ (by decide)).trans (jh_u_s _ _ _ _)

