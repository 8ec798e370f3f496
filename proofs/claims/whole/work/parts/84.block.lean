/-! RENDERER: another template; a block's turns; a block -/
def rn_par (D : sd_D) (TP : Nat → Option tp_X) (f j : Nat) (C : Nat → sv_T) (cn uw : Nat) (O : List Nat) (sn : Nat) : rn_R := match TP j with
  | none => .inl 2
  | some Y => if uw = 3 then .inl 3 else rn D TP f Y 0 C cn none (uw + 1) O sn
set_option maxHeartbeats 4000000 in
set_option maxRecDepth 100000 in
theorem cr_partial {g : jg_G} (hg : (jg_l g).stackTraces = false) {h0 : jh_H} {n : Nat} {D : sd_D} {E : cd_E} {P0 : Nat → Prop} {R : Nat → Nat} {TP : Nat → Option tp_X} {tp f : Nat} (rp : RP g h0 n D E P0 R TP tp f) {d mc ms : Nat} {he h : jh_H} {X : tp_X} {i j dl k cn : Nat} {C : Nat → sv_T} {tn : Option Nat} {uw : Nat} {O : List Nat} {sn : Nat} {lv : Nat → Nat} {r : rn_R} {Q : jw_O → jh_H → Prop} (hR : rR P0 R) (hT : pt_all g h0 P0 TP tp) (hI : rp_I (f + 1) X i dl k uw cn lv) (hj : j < 4) (hs : rs_S h0 he h n D E P0 R k cn C tn uw O sn tp) (hd : 99 + 4 * (12 - k) + 4 * (3 - uw) ≤ d) (er : rn_par D TP f j C cn uw O sn = r) (hr : (∃ c, r = .inl c) → 1 ≤ mc ∧ 6 ≤ ms) (hq : rn_post h0 he n D E P0 R k cn C tn uw tp r Q) : jw_C g d mc ms m_R_renderPartial [.inr (.inr (some (R 0))), .inl (nI j), .inl (nI k)] h Q := by
  refine jw_intro (ls := [some (.inr (.inr (some (R 0)))), some (.inl (nI j)), some (.inl (nI k)), none, none]) (by decide) k_R_renderPartial rfl (by simp [lo_fit, jv_c]) hg ?_
  have hS : ∀ b, P0 b → ¬ rS R (rI 0) b := fun b hb => rS.noP hR b hb
  obtain ⟨p1, p2, p3⟩ := hT.fr hs.1.1.1 hS
  have hp := p3 j hj
  have ho := hs.2.1.1
  have e200 := hs.2.2.2.2.2.2
  have e201 := hs.2.2.2.2.2.1
  obtain ⟨-, -, -, -, hl4, hu1, hu3, hk8, hcn1, hcnk, hf⟩ := id hI
  unfold rn_par at er
  cases hTj : TP j with
  | none =>
    rw [hTj] at hp er
    subst er
    have hr := hr ⟨_, rfl⟩
    refine jw_aload_n rfl rfl ?_
    refine jw_gr rfl g_R_50 (ho) (e200) ?_
    refine jw_iload_n rfl rfl ?_
    refine js_aald (j) rfl (p2) (by decide) (by rfl) rfl (by omega) (by omega) (hp) ?_
    refine js_astore_n rfl rfl (by decide) rfl ?_
    refine jw_aload_n rfl rfl ?_
    refine jw_ifnonnull 21 rfl rfl (fun _ => ?_) (fun x_ z_ => by cases z_)
    exact jw_throw (E := "java/util/NoSuchElementException") ts_R_renderPartial_11 (by omega) (by decide) hr.1 hr.2 (fun c hc => jw_nc hc _) (hq h hs.1.1)
  | some Y =>
    rw [hTj] at hp er
    obtain ⟨hY, A, T, rt, hrt, hpt⟩ := hp
    refine jw_aload_n rfl rfl ?_
    refine jw_gr rfl g_R_50 (by assumption) (by assumption) ?_
    refine jw_iload_n rfl rfl ?_
    refine js_aald (j) rfl (p2) (by decide) (by rfl) rfl (by omega) (by omega) (hrt) ?_
    refine js_astore_n rfl rfl (by decide) rfl ?_
    refine jw_aload_n rfl rfl ?_
    refine jw_ifnonnull 21 rfl rfl (fun z_ => by cases z_) (fun _ _ => ?_)
    refine jw_aload_n rfl rfl ?_
    refine jw_gi rfl g_R_61 (ho) (e201) ?_
    refine js_iconst (x := 3) rfl rfl ?_
    by_cases c3 : uw = 3
    · have er : (.inl 3 : rn_R) = r := by rw [← er]; exact (if_pos c3).symm
      subst er
      have hr := hr ⟨_, rfl⟩
      refine jw_icmp_lt 39 rfl rfl (fun z => absurd z (by rw [c3]; decide)) (fun _ => ?_)
      exact jw_throw (E := "java/lang/ArithmeticException") ts_R_renderPartial_29 (by omega) (by decide) hr.1 hr.2 (fun c hc => jw_nc hc _) (hq h hs.1.1)
    · have er : rn D TP f Y 0 C cn none (uw + 1) O sn = r := by rw [← er]; exact (if_neg c3).symm
      have hpt0 := (p3 j hj)
      generalize htc : jh_i h (R 0) 202 = tc
      refine jw_icmp_lt 39 rfl rfl (fun _ => ?_) (fun z => absurd ((nI_ltI (b := 3) (by omega) (by decide)).mpr (by omega)) z)
      refine jw_aload_n rfl rfl ?_
      refine jw_gi rfl g_R_64 (ho) (htc) ?_
      refine js_istore rfl rfl (by decide) rfl ?_
      refine jw_aload_n rfl rfl ?_
      refine js_iconst (x := (-1)) rfl rfl ?_
      refine jw_pi rfl p_R_renderPartial_64 (ho) ?_
      refine jw_aload_n rfl rfl ?_
      refine jw_dup rfl rfl ?_
      refine jw_gi rfl g_R_61 (ho) ((jh_u_k _ _ _ _ (by decide)).trans e201) ?_
      refine js_iconst (x := 1) rfl rfl ?_
      refine jw_iaddV rfl (nI_1 _) ?_
      refine jw_pi rfl p_R_renderPartial_61 (ho) ?_
      refine jw_aload_n rfl rfl ?_
      refine jw_aload_n rfl rfl ?_
      refine jw_gr rfl g_R_70 (hpt.2.1) (hpt.2.2.1) ?_
      refine jw_iload_n rfl rfl ?_
      obtain ⟨h1, eh1⟩ : ∃ z, z = jh_si (jh_si h (R 0) 202 (-1)) (R 0) 201 (nI (uw + 1)) := ⟨_, rfl⟩
      have f1 : fr (rS R (fun i => i ≤ 1)) h h1 := by rw [eh1]; exact fr.si (fr.si fr.rf ⟨0, rU_n (by decide), by decide, rfl⟩) ⟨0, rU_n (by decide), by decide, rfl⟩
      have x1 : rx_S h0 h1 R := by rw [eh1]; exact ((hs.1.si hR (by decide)).si hR (by decide)).1
      have a1 : ∀ q, q ≠ 201 → q ≠ 202 → jh_i h1 (R 0) q = jh_i h (R 0) q := fun q z1 z2 => by rw [eh1]; exact (jh_u_k _ _ _ _ z1).trans (jh_u_k _ _ _ _ z2)
      have s1 : rs_S h0 h1 h1 n D E P0 R k cn C none (uw + 1) O sn tp := hs.st hR f1 (rq_S.rf x1) (Nat.le_refl _) (by omega) hs.2.1.2.2.2.2.1 (fun i hi => Or.inl ⟨hi, rfl, by rw [eh1]; rfl⟩) ((a1 _ (by decide) (by decide)).trans hs.2.1.2.2.2.1) (by rw [eh1]; exact (jh_u_k _ _ _ _ (by decide)).trans (jh_u_s _ _ _ _)) (fun t z => by cases z) (by rw [eh1]; exact jh_u_s _ _ _ _) ((a1 _ (by decide) (by decide)).trans hs.2.2.2.1) hs.2.2.2.2.1 (by rw [eh1]; exact e200)
      obtain ⟨lv', hI'⟩ := rp_I.pa hI hY (by omega)
      have ho1 : jh_O h1 (R 0) 3 := s1.2.1.1
      obtain ⟨A0, T0, rt0, hrt0, hpt0⟩ : ∃ A T rt, jh_R h0 tp j = some rt ∧ pt_ok g h0 P0 Y A T rt := by
        have := hT.2.2 j hj
        rw [hTj] at this
        exact this.2
      have ert : rt0 = rt := by
        have := (hs.1.1.1.2 _ hT.2.1.1 (hS _ hT.1)).2.2.2.2.2.2.2 j
        rw [hrt0] at this
        exact Option.some.inj (this.symm.trans hrt)
      subst ert
      have ebody : pt_hd Y A T 0 = pt_hd Y A0 T0 0 := hpt.2.2.1.symm.trans ((hs.1.1.1.2 _ hpt0.2.1.1 (hS _ hpt0.1)).2.2.2.2.1 326 |>.trans hpt0.2.2.1)
      rw [ebody, ← eh1]
      rcases r with c | ⟨O', sn'⟩
      · have hr := hr ⟨_, rfl⟩
        refine js_call (As := [.inr (.inr (pt_hd Y A0 T0 0)), .inl (nI k)]) rfl l_R_renderParts c_R_76 i_R_renderParts s_R_renderParts jc_o3 rfl (ho1) rfl (cr_parts (d := d - 1) (mc := 1) (ms := 6) hg rp hpt0 hI' s1 (by omega) er (fun _ => ⟨by omega, by omega⟩) (fun h2 x2 => ?_)) (by omega) (Nat.le_of_ble_eq_true rfl) (by omega) (by omega) rfl
        exact hq h2 x2
      · refine js_call (As := [.inr (.inr (pt_hd Y A0 T0 0)), .inl (nI k)]) rfl l_R_renderParts c_R_76 i_R_renderParts s_R_renderParts jc_o3 rfl (ho1) rfl (cr_parts (d := d - 1) (mc := 0) (ms := 0) hg rp hpt0 hI' s1 (by omega) er (fun ⟨_, z⟩ => by cases z) (fun h2 s2 => ?_)) (by omega) (Nat.le_of_ble_eq_true rfl) (by omega) (by omega) rfl
        refine jw_aload_n rfl rfl ?_
        refine jw_dup rfl rfl ?_
        refine jw_gi rfl g_R_61 (s2.2.1.1) (s2.2.2.2.2.2.1) ?_
        refine js_iconst (x := 1) rfl rfl ?_
        refine jw_isubV rfl (nI_pred uw) ?_
        refine jw_pi rfl p_R_renderPartial_61 (s2.2.1.1) ?_
        refine jw_aload_n rfl rfl ?_
        refine jw_iload rfl rfl ?_
        refine jw_pi rfl p_R_renderPartial_64 (s2.2.1.1) ?_
        refine jw_return rfl rfl ?_
        refine hq _ (hs.back hR (by omega) f1 (fun i _ => by rw [eh1]; rfl) s2 (Nat.le_refl _) (Nat.le_refl _) (fr.si (fr.si fr.rf ⟨0, rU_n (by decide), rfl, rfl⟩) ⟨0, rU_n (by decide), rfl, rfl⟩) ((s2.1.si hR (by decide)).si hR (by decide)).1 ?_ ?_ ?_ ?_ s2.2.2.2.2.2.2)
        · exact (jh_u_k _ _ _ _ (by decide)).trans ((jh_u_k _ _ _ _ (by decide)).trans s2.2.1.2.2.2.1)
        · exact (jh_u_s _ _ _ _).trans htc.symm
        · exact (jh_u_k _ _ _ _ (by decide)).trans (jh_u_s _ _ _ _)
        · exact (jh_u_k _ _ _ _ (by decide)).trans ((jh_u_k _ _ _ _ (by decide)).trans s2.2.2.2.1)
theorem fr.sw {S : Nat → Prop} {h a b : jh_H} (fa : fr S h a) (fb : fr S h b) (hL : jh_L a = jh_L h) : fr S a b := by
  refine ⟨fun x hx => ?_, fun x hx hn => ?_⟩
  · rw [hL] at hx
    exact ⟨(fb.1 x hx).1, ((fb.1 x hx).2).trans ((fa.1 x hx).2).symm⟩
  · rw [hL] at hx
    obtain ⟨a1, a2, a3, a4, a5, a6, a7, a8⟩ := fa.2 x hx hn
    obtain ⟨b1, b2, b3, b4, b5, b6, b7, b8⟩ := fb.2 x hx hn
    exact ⟨fun _ => b1 hx, b2.trans a2.symm, fun k => (b3 k).trans (a3 k).symm, fun k => (b4 k).trans (a4 k).symm, fun k => (b5 k).trans (a5 k).symm, fun k => (b6 k).trans (a6 k).symm, fun k => (b7 k).trans (a7 k).symm, fun k => (b8 k).trans (a8 k).symm⟩
def rn_ea (D : sd_D) (TP : Nat → Option tp_X) (f : Nat) (X : tp_X) (i : Nat) (C : Nat → sv_T) (cn uw x : Nat) : Nat → List Nat → Nat → rn_R := fun j => rn D TP f X (i + 1) (va_up C cn (sv_of D (sd_p D x j))) (cn + 1) (some j) uw
set_option maxHeartbeats 4000000 in
set_option maxRecDepth 100000 in
theorem cr_each {g : jg_G} (hg : (jg_l g).stackTraces = false) {h0 : jh_H} {n : Nat} {D : sd_D} {E : cd_E} {P0 : Nat → Prop} {R : Nat → Nat} {TP : Nat → Option tp_X} {tp f : Nat} (rp : RP g h0 n D E P0 R TP tp f) {d mc ms : Nat} {he h : jh_H} {X : tp_X} {A T : Nat → Nat} {rt i dl k cn x : Nat} {C : Nat → sv_T} {tn : Option Nat} {uw : Nat} {O : List Nat} {sn : Nat} {lv : Nat → Nat} {r : rn_R} {Q : jw_O → jh_H → Prop} (hR : rR P0 R) (hc0 : cd_ok h0 n D E P0) (hp : pt_ok g h0 P0 X A T rt) (hi : ¬ pt_end X i) (hb : 3 ≤ rn_s X i ∧ rn_s X i ≤ 5) (hI : rp_I (f + 1) X i dl k uw cn lv) (hx : x < n) (hx2 : 2 ≤ sd_k D x) (hs : rs_S h0 he h n D E P0 R k cn C tn uw O sn tp) (hd : 98 + 4 * (12 - k) + 4 * (3 - uw) ≤ d) (er : rn_each (rn_ea D TP f X i C cn uw x) (sd_c D x) 0 O sn = r) (hr : (∃ c, r = .inl c) → 1 ≤ mc ∧ 6 ≤ ms) (hq : rn_post h0 he n D E P0 R k cn C tn uw tp r Q) : jw_C g d mc ms m_R_renderEach [.inr (.inr (some (R 0))), .inr (.inr (some (T i))), .inr (.inr (some (E.1 x))), .inl (nI k)] h Q := by
  refine jw_intro (ls := [some (.inr (.inr (some (R 0)))), some (.inr (.inr (some (T i)))), some (.inr (.inr (some (E.1 x)))), some (.inl (nI k)), none, none]) (by decide) k_R_renderEach rfl (by simp [lo_fit, jv_c]) hg ?_
  have hS : ∀ b, P0 b → ¬ rS R (rI 0) b := fun b hb => rS.noP hR b hb
  obtain ⟨hk12, hI1, -⟩ := rp_I.bl hI hi hb
  obtain ⟨-, -, -, -, hl4, hu1, hu3, hk8, hcn1, hcnk, hf⟩ := id hI
  have ho := hs.2.1.1
  generalize htc : jh_i h (R 0) 202 = tc
  have loop : ∀ m j hj O sn, j + m = sd_c D x → rx_S h0 hj R → jh_i hj (R 0) 193 = nI (cn + 1) → rs_S h0 he (jh_si (jh_si hj (R 0) 193 (nI cn)) (R 0) 202 tc) n D E P0 R k cn C tn uw O sn tp → rn_each (rn_ea D TP f X i C cn uw x) m j O sn = r → jw_J g d m_R_renderEach jw_T0 19 [some (.inr (.inr (some (R 0)))), some (.inr (.inr (some (T i)))), some (.inr (.inr (some (E.1 x)))), some (.inl (nI k)), some (.inl tc), some (.inl (nI j))] [] hj mc ms Q := by
    intro m
    induction m with
    | zero =>
      intro j hj O sn hm xj cj sj er
      have hc := hc0.fr xj.1 hS
      obtain ⟨w1, w2, w3, w4, w5, w6, w7, w8, w9, w10, w11⟩ := (hc.2 x hx).2.2.2.2 hx2
      have ej : j = sd_c D x := by omega
      subst ej
      have er : (.inr (O, sn) : rn_R) = r := er
      subst er
      have hoj := xj.2.1.1
      refine jw_iload rfl rfl ?_
      refine jw_aload_n rfl rfl ?_
      refine jw_gi rfl g_R_171 (w3) (w9) ?_
      refine jw_icmp_ge 69 rfl rfl (fun _ => ?_) (fun z => absurd (Int32.le_refl _) z)
      refine jw_aload_n rfl rfl ?_
      refine jw_dup rfl rfl ?_
      refine jw_gi rfl g_R_57 (hoj) (cj) ?_
      refine js_iconst (x := 1) rfl rfl ?_
      refine jw_isubV rfl (nI_pred cn) ?_
      refine jw_pi rfl p_R_renderEach_57 (hoj) ?_
      refine jw_aload_n rfl rfl ?_
      refine jw_iload rfl rfl ?_
      refine jw_pi rfl p_R_renderEach_64 (hoj) ?_
      refine jw_return rfl rfl ?_
      exact hq _ sj
    | succ m ih =>
      intro j hj O sn hm xj cj sj er
      have hc := hc0.fr xj.1 hS
      obtain ⟨w1, w2, w3, w4, w5, w6, w7, w8, w9, w10, w11⟩ := (hc.2 x hx).2.2.2.2 hx2
      obtain ⟨y1, y2, y3⟩ := w11 j (by omega)
      obtain ⟨t1, t2, t3, t4, t5, t6, t7⟩ := (hp.2.2.2.2 i hi).fr xj.1 hS
      have hoj := xj.2.1.1
      have vj := vl_of hc y2
      refine jw_iload rfl rfl ?_
      refine jw_aload_n rfl rfl ?_
      refine jw_gi rfl g_R_171 (w3) (w9) ?_
      refine jw_icmp_ge 69 rfl rfl (fun z => absurd z (fun z => absurd ((nI_leI (by omega) (by omega)).mp z) (by omega))) (fun _ => ?_)
      refine jw_aload_n rfl rfl ?_
      refine jw_gr rfl g_R_11 (hoj) (xj.2.1.2.1) ?_
      refine jw_aload_n rfl rfl ?_
      refine jw_gi rfl g_R_57 (hoj) (cj) ?_
      refine js_iconst (x := 1) rfl rfl ?_
      refine jw_isubV rfl (nI_pred cn) ?_
      refine jw_aload_n rfl rfl ?_
      refine jw_gr rfl g_R_178 (w3) (w5) ?_
      refine jw_iload rfl rfl ?_
      refine js_aald (j) rfl (w7) (by decide) (by rfl) rfl (by omega) (by omega) (y1) ?_
      refine js_aast (cn) rfl (xj.2.1.2.2.1) (vl_is.O hc vj) (by decide) jc_o2 (by rfl) rfl (by omega) (by omega) ?_
      refine jw_aload_n rfl rfl ?_
      refine jw_iload rfl rfl ?_
      refine jw_pi rfl p_R_renderEach_64 (hoj) ?_
      refine jw_aload_n rfl rfl ?_
      refine jw_aload_n rfl rfl ?_
      refine jw_gr rfl g_R_70 (t2) ((t7 hb.1 hb.2).1) ?_
      refine jw_iload_n rfl rfl ?_
      refine js_iconst (x := 1) rfl rfl ?_
      refine jw_iaddV rfl (nI_1 k) ?_
      obtain ⟨h1, eh1⟩ : ∃ z, z = jh_si (jh_sR hj (R 1) cn (some (E.1 (sd_p D x j)))) (R 0) 202 (nI j) := ⟨_, rfl⟩
      obtain ⟨hv, ehv⟩ : ∃ z, z = jh_si (jh_si hj (R 0) 193 (nI cn)) (R 0) 202 tc := ⟨_, rfl⟩
      rw [← ehv] at sj
      have fj1 : fr (rS R (fun i => i ≤ 1)) hj h1 := by rw [eh1]; exact fr.si (fr.sR fr.rf ⟨1, rU_n (by decide), by decide, rfl⟩) ⟨0, rU_n (by decide), by decide, rfl⟩
      have fjv : fr (rS R (fun i => i ≤ 1)) hj hv := by rw [ehv]; exact fr.si (fr.si fr.rf ⟨0, rU_n (by decide), by decide, rfl⟩) ⟨0, rU_n (by decide), by decide, rfl⟩
      have f1 : fr (rS R (fun i => i ≤ 1)) hv h1 := fr.sw fjv fj1 (by rw [ehv]; rfl)
      have c1 : ∀ i, i < cn → jh_R h1 (R 1) i = jh_R hv (R 1) i := fun i hi => by rw [eh1, ehv]; exact jh_u_k _ _ _ _ (by omega)
      have x1 : rx_S h0 h1 R := by rw [eh1]; exact (((rq_S.rf (k := 0) (cn := 0) xj).sR hR (Nat.zero_le _)).si hR (by decide)).1
      have vv : vl_is hv n D E (rP P0 R (k + 1)) (some (E.1 (sd_p D x j))) (sv_of D (sd_p D x j)) := (vl_of (hc0.fr sj.1.1.1 hS) y2).mono (fun b z => Or.inl z)
      have a1 : ∀ q, q ≠ 202 → jh_i h1 (R 0) q = jh_i hj (R 0) q := fun q z1 => by rw [eh1]; exact jh_u_k _ _ _ _ z1
      have av : ∀ q, q ≠ 202 → q ≠ 193 → jh_i hv (R 0) q = jh_i hj (R 0) q := fun q z1 z2 => by rw [ehv]; exact (jh_u_k _ _ _ _ z1).trans (jh_u_k _ _ _ _ z2)
      have s1 : rs_S h0 h1 h1 n D E P0 R (k + 1) (cn + 1) (va_up C cn (sv_of D (sd_p D x j))) (some j) uw O sn tp := by
        refine sj.st hR f1 (rq_S.rf x1) (by omega) (by omega) (by omega) (fun i hi => ?_) ((a1 _ (by decide)).trans cj) (by rw [eh1]; exact jh_u_s _ _ _ _) (fun t z => by cases z; omega) ((a1 _ (by decide)).trans ((av _ (by decide) (by decide)).symm.trans sj.2.2.2.2.2.1)) ((a1 _ (by decide)).trans ((av _ (by decide) (by decide)).symm.trans sj.2.2.2.1)) sj.2.2.2.2.1 ?_
        · by_cases c : i = cn
          · subst c
            refine Or.inr ?_
            rw [va_up_self, show jh_R h1 (R 1) i = some (E.1 (sd_p D x j)) by rw [eh1]; exact jh_u_s _ _ _ _]
            exact vv
          · exact Or.inl ⟨by omega, va_up_ne _ _ c, c1 i (by omega)⟩
        · have := sj.2.2.2.2.2.2
          rw [ehv] at this
          rw [eh1]
          exact this
      rw [← eh1]
      have ho1 : jh_O h1 (R 0) 3 := s1.2.1.1
      have hI1 := hI1 (cn + 1) (by omega) (by omega)
      rw [rn_each] at er
      rcases e1 : rn_ea D TP f X i C cn uw x j O sn with c | ⟨O', sn'⟩
      · rw [rn_then_l e1] at er
        subst er
        have hr := hr ⟨_, rfl⟩
        refine js_call (As := [.inr (.inr (pt_hd X A T (i + 1))), .inl (nI (k + 1))]) rfl l_R_renderParts c_R_76 i_R_renderParts s_R_renderParts jc_o3 rfl (ho1) rfl (cr_parts (d := d - 1) (mc := 1) (ms := 6) hg rp hp hI1 s1 (by omega) e1 (fun _ => ⟨by omega, by omega⟩) (fun h2 x2 => ?_)) (by omega) (Nat.le_of_ble_eq_true rfl) (by omega) (by omega) rfl
        exact hq h2 x2
      · rw [rn_then_r e1] at er
        refine js_call (As := [.inr (.inr (pt_hd X A T (i + 1))), .inl (nI (k + 1))]) rfl l_R_renderParts c_R_76 i_R_renderParts s_R_renderParts jc_o3 rfl (ho1) rfl (cr_parts (d := d - 1) (mc := 0) (ms := 0) hg rp hp hI1 s1 (by omega) e1 (fun ⟨_, z⟩ => by cases z) (fun h2 s2 => ?_)) (by omega) (Nat.le_of_ble_eq_true rfl) (by omega) (by omega) rfl
        refine js_iinc rfl rfl (nI_1 j) rfl (by decide) rfl ?_
        refine jw_goto 19 rfl rfl ?_
        refine ih (j + 1) h2 O' sn' (by omega) s2.1.1 s2.2.1.2.2.2.1 ?_ er
        refine sj.back hR (by omega) f1 c1 s2 (by omega) (by omega) (fr.si (fr.si fr.rf ⟨0, rU_n (by decide), rfl, rfl⟩) ⟨0, rU_n (by decide), rfl, rfl⟩) ((s2.1.si hR (by decide)).si hR (by decide)).1 ?_ ?_ ?_ ?_ s2.2.2.2.2.2.2
        · exact (jh_u_k _ _ _ _ (by decide)).trans (jh_u_s _ _ _ _)
        · rw [ehv]; exact (jh_u_s _ _ _ _).trans (jh_u_s _ _ _ _).symm
        · exact (jh_u_k _ _ _ _ (by decide)).trans ((jh_u_k _ _ _ _ (by decide)).trans s2.2.2.2.2.2.1)
        · exact (jh_u_k _ _ _ _ (by decide)).trans ((jh_u_k _ _ _ _ (by decide)).trans s2.2.2.2.1)
  refine jw_aload_n rfl rfl ?_
  refine jw_gi rfl g_R_64 (ho) (htc) ?_
  refine js_istore rfl rfl (by decide) rfl ?_
  refine jw_aload_n rfl rfl ?_
  refine jw_dup rfl rfl ?_
  refine jw_gi rfl g_R_57 (ho) (hs.2.1.2.2.2.1) ?_
  refine js_iconst (x := 1) rfl rfl ?_
  refine jw_iaddV rfl (nI_1 cn) ?_
  refine jw_pi rfl p_R_renderEach_57 (ho) ?_
  refine js_iconst (x := 0) rfl rfl ?_
  refine js_istore rfl rfl (by decide) rfl ?_
  refine loop (sd_c D x) 0 _ O sn (by omega) (hs.1.si hR (by decide)).1 (jh_u_s _ _ _ _) ?_ er
  have e : fr (rS R (fun i => i ≤ 1)) h (jh_si (jh_si (jh_si h (R 0) 193 (nI (cn + 1))) (R 0) 193 (nI cn)) (R 0) 202 tc) := fr.si (fr.si (fr.si fr.rf ⟨0, rU_n (by decide), by decide, rfl⟩) ⟨0, rU_n (by decide), by decide, rfl⟩) ⟨0, rU_n (by decide), by decide, rfl⟩
  refine hs.st hR e (((hs.1.si hR (by decide)).si hR (by decide)).si hR (by decide)) (Nat.le_refl _) (by omega) hs.2.1.2.2.2.2.1 (fun i hi => Or.inl ⟨hi, rfl, rfl⟩) ((jh_u_k _ _ _ _ (by decide)).trans (jh_u_s _ _ _ _)) ((jh_u_s _ _ _ _).trans (htc.symm.trans hs.2.1.2.2.2.2.2.2.1)) hs.2.1.2.2.2.2.2.2.2 ?_ ?_ hs.2.2.2.2.1 hs.2.2.2.2.2.2
  · exact (jh_u_k _ _ _ _ (by decide)).trans ((jh_u_k _ _ _ _ (by decide)).trans ((jh_u_k _ _ _ _ (by decide)).trans hs.2.2.2.2.2.1))
  · exact (jh_u_k _ _ _ _ (by decide)).trans ((jh_u_k _ _ _ _ (by decide)).trans ((jh_u_k _ _ _ _ (by decide)).trans hs.2.2.2.1))

