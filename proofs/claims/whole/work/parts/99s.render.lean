/-! ENGINE: render -/
theorem cE_render {g : jg_G} (hg : (jg_l g).stackTraces = false) {d mc ms : Nat} {h : jh_H} {col ad R : Nat → Nat} {E : cd_E} {se n sn tw : Nat} {ln O : List Nat} {D : sd_D} {TP : Nat → Option tp_X} {er kk xx : Int32} {Q : jw_O → jh_H → Prop} (hc : ce g h col ad R E se (ln, n, D, TP, er, O, sn, tw)) (hd : 170 ≤ d) (hmc : 1 ≤ mc) (hms : 6 ≤ ms)
    (q1 : (kk < 0 ∨ 3 < kk) → ∀ h', cpost g h col ad se h' (ln, n, D, TP, er, O, sn, tw + 1) → Q (.inr "java/lang/IndexOutOfBoundsException") h')
    (q2 : ∀ k, k < 4 → kk = nI k → (TP k = none ∨ xx < 0 ∨ nI n ≤ xx) → ∀ h', cpost g h col ad se h' (ln, n, D, TP, er, O, sn, tw + 1) → Q (.inr "java/util/NoSuchElementException") h')
    (q3 : ∀ k X x c, k < 4 → kk = nI k → TP k = some X → x < n → xx = nI x → rn D TP 153 X 0 (fun _ => sv_of D x) 1 none 1 [] 0 = .inl c → ∀ h', cpost g h col ad se h' (ln, n, D, TP, er, O, sn, tw + 1) → Q (.inr (rn_E c)) h')
    (q4 : ∀ k X x O' s', k < 4 → kk = nI k → TP k = some X → x < n → xx = nI x → rn D TP 153 X 0 (fun _ => sv_of D x) 1 none 1 [] 0 = .inr (O', s') → ∀ h', cpost g h col ad se h' (ln, n, D, TP, er, O', s', tw) → Q (.inl (some (.inl (nI O'.length)))) h') : jw_C g d mc ms m_E_render [.inr (.inr (some (ad 0))), .inl kk, .inl xx] h Q := by
  refine jw_intro (ls := [some (.inr (.inr (some (ad 0)))), some (.inl kk), some (.inl xx)]) (by decide) k_E_render rfl (by simp [lo_fit, jv_c]) hg ?_
  obtain ⟨⟨a1, a2, a3, a4, a5, a6, a7, a8, a9⟩, -⟩ := hc.out
  obtain ⟨hc1, f1⟩ := hc.tw (tw' := tw + 1)
  refine jw_aload_n rfl rfl ?_
  refine jw_dup rfl rfl ?_
  refine jw_gi rfl g_E_41 (a1) (a9) ?_
  refine js_iconst (x := 1) rfl rfl ?_
  refine jw_iaddV rfl (nI_1 tw) ?_
  refine jw_pi rfl p_E_render_41 (a1) ?_
  refine jw_iload_n rfl rfl ?_
  obtain ⟨h1, eh1⟩ : ∃ z, z = jh_si h (ad 0) 7 (nI (tw + 1)) := ⟨_, rfl⟩
  rw [← eh1] at hc1 f1
  rw [← eh1]
  obtain ⟨⟨b1, b2, b3, b4, b5, b6, b7, b8, b9⟩, bl, bd, bt, bn, bc⟩ := hc1.out
  obtain ⟨k1, k2, k3, k4, k5, k6, k7, k8⟩ := id bc
  have hn60 := bd.2.2.1.1
  have at19 : (kk < 0 ∨ 3 < kk) → jw_J g d m_E_render jw_T0 19 [some (.inr (.inr (some (ad 0)))), some (.inl kk), some (.inl xx)] [] h1 mc ms Q := fun z => jw_throw (E := "java/lang/IndexOutOfBoundsException") ts_E_render_19 (by omega) (by decide) (by omega) (by omega) (fun c hc => jw_nc hc _) (q1 z h1 (hc1.po f1))
  refine jw_if_lt 19 rfl rfl (fun z => at19 (Or.inl z)) (fun z1 => ?_)
  refine jw_iload_n rfl rfl ?_
  refine js_iconst (x := 4) rfl rfl ?_
  refine jw_icmp_lt 29 rfl rfl (fun z2 => ?_) (fun z2 => at19 (Or.inr (Int32.lt_of_lt_of_le (b := 4) (by decide) (Int32.not_lt.mp z2))))
  rcases pk_ix kk (n := 4) (by omega) with z | z | ⟨k, hk, rfl⟩
  · exact absurd z z1
  · exact absurd z2 (Int32.not_lt.mpr z)
  have at46 : (TP k = none ∨ xx < 0 ∨ nI n ≤ xx) → ∀ kc ks, 1 ≤ kc → 6 ≤ ks → jw_J g d m_E_render jw_T0 46 [some (.inr (.inr (some (ad 0)))), some (.inl (nI k)), some (.inl xx)] [] h1 kc ks Q := fun z kc ks u1 u2 => jw_throw (E := "java/util/NoSuchElementException") ts_E_render_46 (by omega) (by decide) u1 u2 (fun c hc => jw_nc hc _) (q2 k hk rfl z h1 (hc1.po f1))
  refine jw_aload_n rfl rfl ?_
  refine jw_gr rfl g_E_26 (b1) (b4) ?_
  refine jw_iload_n rfl rfl ?_
  have hp := bt.2 k hk
  cases hX : TP k with
  | none =>
    rw [hX] at hp
    refine js_aald (k) rfl (bt.1) (by decide) (by rfl) rfl (by omega) (by omega) (hp) ?_
    refine jw_ifnull 46 rfl rfl (fun _ => ?_) (fun x_ z_ => by cases z_)
    exact at46 (Or.inl hX) _ _ (by omega) (by omega)
  | some X =>
    rw [hX] at hp
    obtain ⟨hXo, A, T, rt, hr, hpt⟩ := hp
    refine js_aald (k) rfl (bt.1) (by decide) (by rfl) rfl (by omega) (by omega) (hr) ?_
    refine jw_ifnull 46 rfl rfl (fun z_ => by cases z_) (fun _ _ => ?_)
    refine jw_aload_n rfl rfl ?_
    refine jw_iload_n rfl rfl ?_
    refine js_call (As := [.inl xx]) rfl l_E_isData c_E_90 i_E_isData s_E_isData jc_o0 rfl (b1) rfl (cE_isData (d := d - 1) (mc := 0) (ms := 0) hg b1 b6 hn60 (fun z => ?_) (fun x hx ex => ?_)) (by omega) (Nat.le_of_ble_eq_true rfl) (by omega) (by omega) rfl
    · refine jw_if_ne 56 rfl rfl (fun z => absurd (rfl) z) (fun _ => ?_)
      exact at46 (Or.inr z) _ _ (by omega) (by omega)
    · subst ex
      refine jw_if_ne 56 rfl rfl (fun _ => ?_) (fun z => absurd z (by decide))
      refine jw_aload_n rfl rfl ?_
      refine jw_gr rfl g_E_37 (b1) (b5) ?_
      refine jw_aload_n rfl rfl ?_
      refine jw_gr rfl g_E_26 (b1) (b4) ?_
      refine jw_aload_n rfl rfl ?_
      refine jw_gr rfl g_E_26 (b1) (b4) ?_
      refine jw_iload_n rfl rfl ?_
      refine js_aald (k) rfl (bt.1) (by decide) (by rfl) rfl (by omega) (by omega) (hr) ?_
      refine jw_aload_n rfl rfl ?_
      refine jw_gr rfl g_E_20 (b1) (b3) ?_
      refine jw_iload_n rfl rfl ?_
      refine js_aald (x) rfl (bd.1) (by decide) (by rfl) rfl (by omega) (by omega) (bd.2.1 x hx) ?_
      have hRR : rR (fun b => col b = 1 ∨ col b = 2 ∨ b = ad 4) R := ⟨k1, fun i hi z => by
        have c3 := k2 i hi
        rcases z with z | z | z
        · rw [z] at c3; cases c3
        · rw [z] at c3; cases c3
        · rw [z, k8] at c3; cases c3⟩
      have hRc : ∀ {b}, col b ≠ 3 → ∀ {I}, ¬ rS R I b := fun hb I z => by
        obtain ⟨i, i1, -, i3⟩ := z
        exact hb (by rw [i3]; exact k2 i i1)
      have back : ∀ h2 R2 O2 s2, fr (rS R (rI 0)) h1 h2 → en h2 R2 O2 s2 → R2 0 = R 0 → (∀ i j, rU i → rU j → R2 i = R2 j → i = j) → (∀ i, rU i → col (R2 i) = 3) → ce g h2 col ad R2 E se (ln, n, D, TP, er, O2, s2, tw + 1) ∧ fr (cF col) h1 h2 := by
        intro h2 R2 O2 s2 f2 en2 r0 ri rc2
        refine ⟨ce.mk ⟨by rw [r0]; exact hc1.out.1.mv f2 (hRc (by rw [k3]; decide)), bl.fr f2 (hRc (by rw [k4]; decide)) (hRc (by rw [k5]; decide)), bd.mv f2 (hRc (by rw [k6]; decide)) (fun b hb _ => hRc (by rw [hb]; decide)) k7, bt.mv f2 (fun b hb => hRc (by rw [hb]; decide)) (hRc (by rw [k8]; decide)), en2, ri, rc2, k3, k4, k5, k6, fun b hb => (f2.1 b (k7 b hb)).1, k8⟩, f2.mono (fun b _ z => ?_)⟩
        obtain ⟨i, i1, -, i3⟩ := z
        exact ⟨by rw [i3, k2 i i1]; decide, by rw [i3, k2 i i1]; decide⟩
      have hall : pt_all g h1 (fun b => col b = 1 ∨ col b = 2 ∨ b = ad 4) TP (ad 4) := bt.all (fun b hb => Or.inr (Or.inl hb)) (Or.inr (Or.inr rfl))
      obtain ⟨rr, err⟩ : ∃ z, z = rn D TP 153 X 0 (fun _ => sv_of D x) 1 none 1 [] 0 := ⟨_, rfl⟩
      have hru : ∀ Q' : jw_O → jh_H → Prop, (∀ c, rr = .inl c → ∀ h', rx_S h1 h' R → Q' (.inr (rn_E c)) h') → (∀ O' s', rr = .inr (O', s') → ∀ h', fr (rS R (rI 0)) h1 h' → rb_ok h' (rw_s R) → tx_is h' (R 8) (R 9) 400 O' → jh_i h' (R 0) 204 = nI s' → Q' (.inl none) h') → ru_post h1 R rr Q' := by
        intro Q' u1 u2
        rcases hrr : rr with c | ⟨O', s'⟩
        · exact fun h' hx => u1 c hrr h' hx
        · exact fun h' x1 x2 x3 x4 => u2 O' s' hrr h' x1 x2 x3 x4
      refine js_call (As := [.inr (.inr (some (ad 4))), .inr (.inr (some rt)), .inr (.inr (some (E.1 x)))]) rfl l_R_run c_E_154 i_R_run s_R_run jc_o3 rfl (bn.1.1) rfl (cr_run (d := d - 1) (mc := 1) (ms := 6) hg hRR bn.1 bn.2.1 (bd.2.2.1.mono (fun b hb => Or.inl hb)) (rk_dp hn60 bd.2.2.2.2.2.2) hall hk hX hr hx (by omega) err.symm (fun _ => ⟨by omega, by omega⟩) (hru _ (fun c ec h2 hx2 => ?_) (fun O' s' eo h2 f2 x2 x3 x4 => ?_))) (by omega) (Nat.le_of_ble_eq_true rfl) (by omega) (by omega) rfl
      · obtain ⟨f2, x2, x3⟩ := hx2
        have tr := bn.2.1.fr f2 (rS.no hRR (rU_n (by decide)) (by unfold rI; omega)) (rS.no hRR (rU_n (by decide)) (by unfold rI; omega))
        obtain ⟨hc2, F2⟩ := back h2 R O sn f2 ⟨x2, tr, x3.trans bn.2.2⟩ rfl k1 k2
        exact q3 k X x c hk rfl hX hx rfl (err.symm.trans ec) h2 (hc2.po (f1.tr F2 (fun _ _ z => z)))
      · have e0 : rw_s R 0 = R 0 := rw_n (by decide)
        have e10 : rw_s R 10 = R 8 := rfl
        have e11 : rw_s R 11 = R 9 := rfl
        have en2 : en h2 (rw_s R) O' s' := ⟨x2, by rw [e10, e11]; exact x3, by rw [e0]; exact x4⟩
        obtain ⟨hc2, F2⟩ := back h2 (rw_s R) O' s' f2 en2 e0 (rw_R hRR).1 (fun i hi => k2 _ (rw_U hi))
        obtain ⟨⟨d1, d2, d3, d4, d5, d6, d7, d8, d9⟩, -⟩ := hc2.out
        obtain ⟨hc3, f3⟩ := hc2.tw (tw' := tw)
        obtain ⟨⟨u1, u2, u3, u4, u5, -⟩, -, -, -, ⟨⟨v1, v2, v3, v4, v5, v6, v7, v8, v9, v10⟩, vt, -⟩, -⟩ := hc3.out
        refine jw_aload_n rfl rfl ?_
        refine jw_dup rfl rfl ?_
        refine jw_gi rfl g_E_41 (d1) (d9) ?_
        refine js_iconst (x := 1) rfl rfl ?_
        refine jw_isubV rfl (nI_pred tw) ?_
        refine jw_pi rfl p_E_render_41 (d1) ?_
        refine jw_aload_n rfl rfl ?_
        refine jw_gr rfl g_E_37 (u1) (u5) ?_
        refine jw_gr rfl g_E_158 (v1) (v10) ?_
        refine jw_gi rfl g_E_51 (vt.1.1) (vt.1.2.2.2.1) ?_
        refine jw_ireturn rfl rfl rfl ?_
        exact q4 k X x O' s' hk rfl hX hx rfl (err.symm.trans eo) _ ⟨col, rw_s R, E, se, hc3, fun _ _ => rfl, (f1.tr F2 (fun _ _ z => z)).tr f3 (fun _ _ z => z), by omega⟩

