/-! ENGINE: compile -/
theorem pp_50 {t : Nat → Nat} {e n : Nat} {T : pp_T} {ot la : pp_O} (h : pp_all t 0 e = .inr (n, T, ot, la)) (he : e ≤ 200) : n ≤ 50 := by
  obtain ⟨lv, -, -, hl⟩ := lv_all h
  have go : ∀ i, i ≤ n → 4 * i ≤ tp_at T i ∧ tp_at T i ≤ e := by
    intro i
    induction i with
    | zero => intro _; exact ⟨Nat.le_refl _, Nat.zero_le _⟩
    | succ i ih =>
      intro hi
      have := (ih (by omega)).1
      obtain ⟨w1, w2, w3, w4, w5, -⟩ := (hl i (by omega)).1
      show 4 * (i + 1) ≤ tg_e (T i) ∧ tg_e (T i) ≤ e
      omega
  have := go n (Nat.le_refl _)
  omega
theorem pt_ok.mono2 {g : jg_G} {h : jh_H} {P P' : Nat → Prop} {X : tp_X} {A T : Nat → Nat} {rt : Nat} (hp : pt_ok g h P X A T rt) (hP : ∀ b, b ∈ jh_L h → P b → P' b) : pt_ok g h P' X A T rt := by
  obtain ⟨p1, p2, p3, p4, p5⟩ := hp
  refine ⟨hP _ p2.1 p1, p2, p3, fun i hi ht => ?_, fun i hi => ?_⟩
  · obtain ⟨a1, a2, a3, ⟨tb, ch, cap, a4, a5, a6, a7⟩, a8⟩ := p4 i hi ht
    exact ⟨hP _ a2.1 a1, a2, a3, ⟨tb, ch, cap, a4, hP _ a7.1.1.1 a5, hP _ a7.1.2.1.1 a6, a7⟩, a8⟩
  · obtain ⟨a1, a2, a3, a4, a5, a6, a7⟩ := p5 i hi
    refine ⟨hP _ a2.1 a1, a2, a3, a4, a5, fun z1 z2 => ?_, a7⟩
    obtain ⟨e, e1, e2⟩ := a6 z1 z2
    exact ⟨e, e1, e2.mono (fun b p q _ _ => hP b q p)⟩
theorem ce.er {g : jg_G} {h : jh_H} {col ad R : Nat → Nat} {E : cd_E} {se n tw sn : Nat} {ln O : List Nat} {D : sd_D} {TP : Nat → Option tp_X} {er er' : Int32} (hc : ce g h col ad R E se (ln, n, D, TP, er, O, sn, tw)) : ce g (jh_si h (ad 0) 5 er') col ad R E se (ln, n, D, TP, er', O, sn, tw) ∧ fr (cF col) h (jh_si h (ad 0) 5 er') := by
  obtain ⟨c1, c2, c3, c4, c5, c6⟩ := hc.out
  have f : fr (fun b => b = ad 0) h (jh_si h (ad 0) 5 er') := fr.si fr.rf rfl
  obtain ⟨k1, k2, k3, k4, k5, k6, k7, k8⟩ := id c6
  have nc : ∀ {b}, col b ≠ 4 → b ≠ ad 0 := fun hb e => hb (by rw [e]; exact k3)
  refine ⟨ce.mk ⟨?_, c2.fr f (nc (by rw [k4]; decide)) (nc (by rw [k5]; decide)), c3.mv f (nc (by rw [k6]; decide)) (fun b hb _ => nc (by rw [hb]; decide)) k7, c4.mv f (fun b hb => nc (by rw [hb]; decide)) (nc (by rw [k8]; decide)), c5.mv f (fun i hi => nc (by rw [k2 i hi]; decide)), c6.sm f⟩, f.mono (fun b _ e => ?_)⟩
  · obtain ⟨a1, a2, a3, a4, a5, a6, a7, a8, a9⟩ := c1
    exact ⟨a1, a2, a3, a4, a5, (jh_u_k _ _ _ _ (by decide)).trans a6, (jh_u_k _ _ _ _ (by decide)).trans a7, jh_u_s _ _ _ _, (jh_u_k _ _ _ _ (by decide)).trans a9⟩
  · rw [e]
    exact ⟨by rw [k3]; decide, by rw [k3]; decide⟩
-- the templates' row is written
theorem ce.tp {g : jg_G} {h : jh_H} {col ad R : Nat → Nat} {E : cd_E} {se n tw sn k rt : Nat} {ln O : List Nat} {D : sd_D} {TP : Nat → Option tp_X} {er : Int32} {X : tp_X} {A B : Nat → Nat} (hc : ce g h col ad R E se (ln, n, D, TP, er, O, sn, tw)) (hX : tp_ok X) (hp : pt_ok g h (fun b => col b = 2) X A B rt) : ce g (jh_sR h (ad 4) k (some rt)) col ad R E se (ln, n, D, va_up TP k (some X), er, O, sn, tw) ∧ fr (cF col) h (jh_sR h (ad 4) k (some rt)) := by
  obtain ⟨c1, c2, c3, c4, c5, c6⟩ := hc.out
  have f : fr (fun b => b = ad 4) h (jh_sR h (ad 4) k (some rt)) := fr.sR fr.rf rfl
  obtain ⟨k1, k2, k3, k4, k5, k6, k7, k8⟩ := id c6
  have nc : ∀ {b}, col b ≠ 8 → b ≠ ad 4 := fun hb e => hb (by rw [e]; exact k8)
  refine ⟨ce.mk ⟨c1.mv f (nc (by rw [k3]; decide)), c2.fr f (nc (by rw [k4]; decide)) (nc (by rw [k5]; decide)), c3.mv f (nc (by rw [k6]; decide)) (fun b hb _ => nc (by rw [hb]; decide)) k7, ⟨f.A c4.1, fun j hj => ?_⟩, c5.mv f (fun i hi => nc (by rw [k2 i hi]; decide)), c6.sm f⟩, f.mono (fun b _ e => ?_)⟩
  · have := c4.2 j hj
    by_cases cj : j = k
    · subst cj
      rw [va_up_self]
      exact ⟨hX, A, B, rt, jh_u_s _ _ _ _, hp.fr f (fun b hb => nc (by rw [hb]; decide))⟩
    · rw [va_up_ne _ _ cj]
      have eR : jh_R (jh_sR h (ad 4) k (some rt)) (ad 4) j = jh_R h (ad 4) j := jh_u_k _ _ _ _ cj
      cases hT : TP j with
      | none => rw [hT] at this; exact eR.trans this
      | some X =>
        rw [hT] at this
        obtain ⟨x0, A, T, rt, x1, x2⟩ := this
        exact ⟨x0, A, T, rt, eR.trans x1, x2.fr f (fun b hb => nc (by rw [hb]; decide))⟩
  · rw [e]
    exact ⟨by rw [k8]; decide, by rw [k8]; decide⟩
-- new cells of the templates
theorem ce.co {g : jg_G} {h0 h : jh_H} {col ad R : Nat → Nat} {E : cd_E} {se : Nat} {S : SS} (hc : ce g h col ad R E se S) (hcl : ∀ b, col b ≠ 0 → b ∈ jh_L h0) (hs : ∀ b, b ∈ jh_L h0 → b ∈ jh_L h) : ce g h (cnew h0 h col 2) ad R E se S := by
  obtain ⟨c1, c2, c3, c4, c5, k1, k2, k3, k4, k5, k6, k7, k8⟩ := hc
  exact ⟨c1, c2, c3.cl (fun b hb => cnew_is hcl (by decide) hb), c4.mono (fun b hb => cnew_is hcl (by decide) hb), c5, k1, fun i hi => cnew_is hcl (by decide) (k2 i hi), cnew_is hcl (by decide) k3, cnew_is hcl (by decide) k4, cnew_is hcl (by decide) k5, cnew_is hcl (by decide) k6, fun b hb => cnew_in hs hb, cnew_is hcl (by decide) k8⟩
theorem cE_compile {g : jg_G} (hg : (jg_l g).stackTraces = false) {d mc ms : Nat} {h : jh_H} {col ad R : Nat → Nat} {E : cd_E} {se n sn tw : Nat} {ln O : List Nat} {D : sd_D} {TP : Nat → Option tp_X} {er kk : Int32} {Q : jw_O → jh_H → Prop} (hc : ce g h col ad R E se (ln, n, D, TP, er, O, sn, tw)) (hd : 20 ≤ d) (hmc : 610 ≤ mc) (hms : 3000 ≤ ms)
    (q1 : (kk < 0 ∨ 3 < kk) → ∀ h', cpost g h col ad se h' (ln, n, D, TP, er, O, sn, tw + 1) → Q (.inr "java/lang/IndexOutOfBoundsException") h')
    (q2 : ∀ k x, k < 4 → kk = nI k → pp_all (tL ln) 0 ln.length = .inl x → ∀ h', cpost g h col ad se h' ([], n, D, TP, nI x, O, sn, tw + 1) → Q (.inr "java/lang/IllegalArgumentException") h')
    (q3 : ∀ k m T ot la, k < 4 → kk = nI k → pp_all (tL ln) 0 ln.length = .inr (m, T, ot, la) → ∀ h', cpost g h col ad se h' ([], n, D, va_up TP k (some (ln, m, T, ot, la)), -1, O, sn, tw) → Q (.inl (some (.inl (nI m)))) h') : jw_C g d mc ms m_E_compile [.inr (.inr (some (ad 0))), .inl kk] h Q := by
  refine jw_intro (ls := [some (.inr (.inr (some (ad 0)))), some (.inl kk), none]) (by decide) k_E_compile rfl (by simp [lo_fit, jv_c]) hg ?_
  obtain ⟨⟨a1, a2, a3, a4, a5, a6, a7, a8, a9⟩, -⟩ := hc.out
  obtain ⟨hc1, f1⟩ := hc.tw (tw' := tw + 1)
  have e4 : (jc_q 4).2.2 = 10 := rfl
  refine jw_aload_n rfl rfl ?_
  refine jw_dup rfl rfl ?_
  refine jw_gi rfl g_E_41 (a1) (a9) ?_
  refine js_iconst (x := 1) rfl rfl ?_
  refine jw_iaddV rfl (nI_1 tw) ?_
  refine jw_pi rfl p_E_compile_41 (a1) ?_
  refine jw_iload_n rfl rfl ?_
  obtain ⟨h1, eh1⟩ : ∃ z, z = jh_si h (ad 0) 7 (nI (tw + 1)) := ⟨_, rfl⟩
  rw [← eh1] at hc1 f1
  rw [← eh1]
  obtain ⟨⟨b1, b2, b3, b4, b5, b6, b7, b8, b9⟩, bl, bd, bt, bn, bc⟩ := hc1.out
  obtain ⟨k1, k2, k3, k4, k5, k6, k7, k8⟩ := id bc
  have hl2 : ln.length ≤ 200 := bl.1.2.2.2.2.1
  have at19 : (kk < 0 ∨ 3 < kk) → jw_J g d m_E_compile jw_T0 19 [some (.inr (.inr (some (ad 0)))), some (.inl kk), none] [] h1 mc ms Q := fun z => jw_throw (E := "java/lang/IndexOutOfBoundsException") ts_E_compile_19 (by omega) (by decide) (by omega) (by omega) (fun c hc => jw_nc hc _) (q1 z h1 (hc1.po f1))
  refine jw_if_lt 19 rfl rfl (fun z => at19 (Or.inl z)) (fun z1 => ?_)
  refine jw_iload_n rfl rfl ?_
  refine js_iconst (x := 4) rfl rfl ?_
  refine jw_icmp_lt 29 rfl rfl (fun z2 => ?_) (fun z2 => at19 (Or.inr (Int32.lt_of_lt_of_le (b := 4) (by decide) (Int32.not_lt.mp z2))))
  rcases pk_ix kk (n := 4) (by omega) with z | z | ⟨k, hk, rfl⟩
  · exact absurd z z1
  · exact absurd z2 (Int32.not_lt.mpr z)
  refine jw_new rfl jc_o4 n_E_134 a_4 b_4 e_4 (by omega) (by omega) (fun q29 hq29 => ?_)
  refine jw_dup rfl rfl ?_
  obtain ⟨h2, eh2⟩ : ∃ z, z = jh_nw h1 q29 4 (jc_q 4).2.2 := ⟨_, rfl⟩
  have f2 : fr (fun _ => False) h1 h2 := by rw [eh2]; exact fr.nw fr.rf hq29
  have o2 : jh_O h2 q29 4 := by rw [eh2]; exact jh_nw_O
  have z2i : ∀ k, jh_i h2 q29 k = 0 := fun k => by rw [eh2]; exact jh_z_s _ _ _ _
  have z2r : ∀ k, jh_r h2 q29 k = none := fun k => by rw [eh2]; exact jh_z_s _ _ _ _
  rw [← eh2]
  have y2 := f2.2 _ b1.1 id
  have l2 := tx_fresh bl f2
  refine jw_aload_n rfl rfl ?_
  refine jw_gr rfl g_E_14 (y2.O b1) ((y2.2.2.2.2.1 0).trans b2) ?_
  refine js_iconst (x := 0) rfl rfl ?_
  refine jw_aload_n rfl rfl ?_
  refine jw_gr rfl g_E_14 (y2.O b1) ((y2.2.2.2.2.1 0).trans b2) ?_
  refine jw_gi rfl g_E_51 (l2.1.1) (l2.1.2.2.2.1) ?_
  refine js_call (As := [.inl (nI 0), .inl (nI ln.length)]) rfl l_T_copyOf c_E_76 i_T_copyOf s_T_copyOf jc_o1 rfl (l2.1.1) rfl (ct_copyOf (d := d - 1) (mc := 2) (ms := 202) hg l2 (Nat.zero_le _) (Nat.le_refl _) (by omega) (by omega) (by omega) (fun h3 tb qc htb hqc t3 f3 => ?_)) (by omega) (Nat.le_of_ble_eq_true rfl) (by omega) (by omega) rfl
  have y3 := f3.2 _ o2.1 id
  refine js_callI (As := [.inr (.inr (some tb))]) rfl l_P_init c_E_136 i_P_init rfl rfl rfl (cp_init (d := d - 1) (mc := 3) (ms := 214) (sb := tb) hg (y3.O o2) (fun k => (y3.2.2.1 k).trans (z2i k)) ((y3.2.2.2.2.1 260).trans (z2r 260)) (by omega) (by omega) (by omega) (fun h4 op rt st nop nrt nst hz hop hrt r326 r328 r256 r257 r265 A265 i261 i262 f4 => ?_)) (by omega) (Nat.le_of_ble_eq_true rfl) (by omega) (by omega) rfl
  refine js_astore_n rfl rfl (by decide) rfl ?_
  have n29 : ∀ {b}, b ∈ jh_L h1 → b ≠ q29 := fun hb e => hq29 (by rw [← e]; exact hb)
  have f14 : fr (fun _ => False) h1 h4 := ((f2.tr f3 (fun _ _ z => z)).mono (fun _ _ z => z)).tr f4 (fun b hb e => n29 hb e)
  have y4 := f14.2 _ b1.1 id
  have l4 := tx_fresh bl f14
  refine jw_aload_n rfl rfl ?_
  refine jw_gr rfl g_E_14 (y4.O b1) ((y4.2.2.2.2.1 0).trans b2) ?_
  refine js_call (As := []) rfl l_T_clear c_E_84 i_T_clear s_T_clear jc_o1 rfl (l4.1.1) rfl (ct_clear2 (d := d - 1) (mc := 0) (ms := 0) hg l4 (fun h5 l5 f5 => ?_)) (by omega) (Nat.le_of_ble_eq_true rfl) (by omega) (by omega) rfl
  -- the line is no cell of the reader's
  have a1in : ad 1 ∈ jh_L h1 := bl.1.1.1
  have nn : ∀ {b}, b ∉ jh_L h1 → b ≠ ad 1 := fun hb e => hb (by rw [e]; exact a1in)
  have s13 : ∀ {b}, b ∈ jh_L h1 → b ∈ jh_L h3 := fun hb => (f3.1 _ (f2.1 _ hb).1).1
  have nop1 : op ∉ jh_L h1 := fun z => nop (s13 z)
  have nrt1 : rt ∉ jh_L h1 := fun z => nrt (s13 z)
  have nst1 : st ∉ jh_L h1 := fun z => nst (s13 z)
  have ntb1 : tb ∉ jh_L h1 := fun z => htb (f2.1 _ z).1
  have nqc1 : qc ∉ jh_L h1 := fun z => hqc (f2.1 _ z).1
  have t4 : tx_is h4 tb qc (ln.length - 0) ln := by
    rw [sub_all] at t3
    exact t3.fr f4 (fun e => jO_ne t3.1.1 (y3.O o2) (by decide) e) (fun e => jOA_ne (y3.O o2) t3.1.2.1 (by decide) e.symm)
  have t5 := t4.fr f5 (nn ntb1) (nn nqc1)
  have yr := f5.2 _ hz.1.1 (nn hq29)
  have yo := f5.2 _ hz.2.2.1.1 (nn nop1)
  have yt := f5.2 _ hrt.1 (nn nrt1)
  have hz5 : rz h5 q29 op 0 none := ⟨yr.O hz.1, (yr.2.2.2.2.1 258).trans hz.2.1, yo.A hz.2.2.1, (yr.2.2.1 259).trans hz.2.2.2.1, hz.2.2.2.2.1, (yr.2.2.2.2.1 260).trans hz.2.2.2.2.2.1, fun x z => by cases z⟩
  have hc5 : rcc h5 q29 tb qc (ln.length - 0) st ln 0 := ⟨(yr.2.2.2.2.1 256).trans r256, t5, (yr.2.2.2.2.1 265).trans r265, f5.A A265, (yr.2.2.1 261).trans i261, (yr.2.2.1 262).trans i262⟩
  -- what holds behind the taking apart
  have f15 : fr (fun b => b = ad 1) h1 h5 := (f14.mono (fun _ _ z => absurd z id)).tr f5 (fun _ _ z => z)
  have back : ∀ h6, FF h5 q29 op rt st h6 → ce g h6 col ad R E se ([], n, D, TP, er, O, sn, tw + 1) ∧ fr (cF col) h1 h6 := by
    intro h6 hF
    have nS : ∀ b, b ∈ jh_L h1 → ¬ fS h5 q29 op rt st b := fun b hb z => by
      rcases z with z | z | z | z | z
      · exact hq29 (by rw [← z]; exact hb)
      · exact nop1 (by rw [← z]; exact hb)
      · exact nrt1 (by rw [← z]; exact hb)
      · exact nst1 (by rw [← z]; exact hb)
      · exact z (f15.1 _ hb).1
    exact hc1.ln (f15.tr hF.1 (fun b hb z => absurd z (nS b hb))) (l5.fr hF.1 (nS _ a1in) (nS _ (k7 _ (by rw [k5]; decide))))
  refine jw_aload_n rfl rfl ?_
  refine js_call (As := []) rfl l_P_takeApart c_E_139 i_P_takeApart s_P_takeApart jc_o4 rfl (hz5.1) rfl (cp_takeApart (d := d - 1) (mc := 600) (ms := 2400) hg hz5 ((yo.2.2.2.2.2.2.2 0).trans hop) (yt.O hrt) ((yt.2.2.2.2.1 326).trans r326) ((yt.2.2.1 328).trans r328) hc5 hl2 (by omega) (by omega) (by omega) (fun x ex hx h6 i6 hF => ?_) (fun m T ot la ex h6 A B i6 i61 hp hF => ?_)) (by omega) (Nat.le_of_ble_eq_true rfl) (by omega) (by omega) rfl
  · obtain ⟨hc6, f6⟩ := back h6 hF
    obtain ⟨⟨d1, -⟩, -⟩ := hc6.out
    have or6 : jh_O h6 q29 4 := hF.1.O hz5.1
    obtain ⟨hc7, f7⟩ := hc6.er (er' := nI x)
    refine jw_aload_n rfl rfl ?_
    refine jw_aload_n rfl rfl ?_
    refine jw_gi rfl g_E_142 (or6) (i6) ?_
    refine jw_pi rfl p_E_compile_30 (d1) ?_
    refine jw_aload_n rfl rfl ?_
    refine jw_gi rfl g_E_30 (d1) (jh_u_s _ _ _ _) ?_
    refine js_iconst (x := (-1)) rfl rfl ?_
    refine jw_icmp_eq 89 rfl rfl (fun z => absurd z (fun e => by have := congrArg Int32.toInt e; rw [nI_toInt (by omega), show Int32.toInt (-1) = -1 from rfl] at this; omega)) (fun _ => ?_)
    exact jw_throw (E := "java/lang/IllegalArgumentException") ts_E_compile_79 (by omega) (by decide) (by omega) (by omega) (fun c hc => jw_nc hc _) (q2 k x hk rfl ex _ (hc7.po ((f1.tr f6 (fun _ _ z => z)).tr f7 (fun _ _ z => z))))
  · obtain ⟨hc6, f6⟩ := back h6 hF
    obtain ⟨⟨d1, -⟩, -⟩ := hc6.out
    have or6 : jh_O h6 q29 4 := hF.1.O hz5.1
    obtain ⟨hc7, f7⟩ := hc6.er (er' := -1)
    have r257' : jh_r h6 q29 257 = some rt := hF.2.trans ((yr.2.2.2.2.1 257).trans r257)
    have hX : tp_ok (ln, m, T, ot, la) := ⟨hl2, ex, pp_50 ex hl2⟩
    have s16 : ∀ b, b ∈ jh_L h1 → b ∈ jh_L h6 := fun b hb => (f6.1 b hb).1
    have hp2 : pt_ok g h6 (fun b => cnew h1 h6 col 2 b = 2) (ln, m, T, ot, la) A B rt := hp.mono2 (fun b hb z => cnew_new (fun y => by rcases z with z | z; exact nrt1 (by rw [← z]; exact y); exact z (f15.1 _ y).1) hb)
    have F7 : fr (fun b => b = ad 0) h6 (jh_si h6 (ad 0) 5 (-1)) := fr.si fr.rf rfl
    have c0 : cnew h1 h6 col 2 (ad 0) = 4 := cnew_is k7 (by decide) k3
    have hp7 : pt_ok g (jh_si h6 (ad 0) 5 (-1)) (fun b => cnew h1 h6 col 2 b = 2) (ln, m, T, ot, la) A B rt := hp2.fr F7 (fun b hb e => by have hb : cnew h1 h6 col 2 b = 2 := hb; rw [e, c0] at hb; cases hb)
    have hc7' : ce g (jh_si h6 (ad 0) 5 (-1)) (cnew h1 h6 col 2) ad R E se ([], n, D, TP, -1, O, sn, tw + 1) := hc7.co k7 s16
    obtain ⟨hc8, f8⟩ := hc7'.tp (k := k) hX hp7
    obtain ⟨hc9, f9⟩ := hc8.tw (tw' := tw)
    obtain ⟨⟨d1', d2', d3', d4', -⟩, -, -, dt, -⟩ := hc7.out
    obtain ⟨⟨u1, u2, u3, u4, u5, u6, u7, u8, u9⟩, -⟩ := hc8.out
    refine jw_aload_n rfl rfl ?_
    refine jw_aload_n rfl rfl ?_
    refine jw_gi rfl g_E_142 (or6) (i6) ?_
    refine jw_pi rfl p_E_compile_30 (d1) ?_
    refine jw_aload_n rfl rfl ?_
    refine jw_gi rfl g_E_30 (d1) (jh_u_s _ _ _ _) ?_
    refine js_iconst (x := (-1)) rfl rfl ?_
    refine jw_icmp_eq 89 rfl rfl (fun _ => ?_) (fun z => absurd (rfl) z)
    refine jw_aload_n rfl rfl ?_
    refine jw_gr rfl g_E_26 (d1') (d4') ?_
    refine jw_iload_n rfl rfl ?_
    refine jw_aload_n rfl rfl ?_
    refine jw_gr rfl g_E_145 (or6) (r257') ?_
    refine js_aast (k) rfl (dt.1) (hp7.2.1) (by decide) jc_o5 (by rfl) rfl (by omega) (by omega) ?_
    refine jw_aload_n rfl rfl ?_
    refine jw_dup rfl rfl ?_
    refine jw_gi rfl g_E_41 (u1) (u9) ?_
    refine js_iconst (x := 1) rfl rfl ?_
    refine jw_isubV rfl (nI_pred tw) ?_
    refine jw_pi rfl p_E_compile_41 (u1) ?_
    refine jw_aload_n rfl rfl ?_
    refine jw_gi rfl g_E_149 (or6) ((jh_u_k _ _ _ _ (by decide)).trans ((jh_u_k _ _ _ _ (by decide)).trans i61)) ?_
    refine jw_ireturn rfl rfl rfl ?_
    have cv : ∀ b, b ∈ jh_L h → cF (cnew h1 h6 col 2) b → cF col b := fun b hb z => by
      have e : cnew h1 h6 col 2 b = col b := cnew_old (f1.1 b hb).1
      unfold cF at z ⊢
      rw [e] at z
      exact z
    exact q3 k m T ot la hk rfl ex _ ⟨cnew h1 h6 col 2, R, E, se, hc9, fun b hb => cnew_old (f1.1 b hb).1, (((f1.tr f6 (fun _ _ z => z)).tr f7 (fun _ _ z => z)).tr f8 cv).tr f9 cv, by omega⟩

