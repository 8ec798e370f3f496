/-! MODEL: the steps, 4 -/
set_option maxHeartbeats 4000000 in
set_option maxRecDepth 100000 in
theorem cm_render2 {g : jg_G} (hg : (jg_l g).stackTraces = false) {h : jh_H} {mo : Nat} {ar t : Nat → Nat} {n : Nat} {kk xx : Int32} {D : sd_D} {TP : Nat → Option tp_X} {Q : jw_O → jh_H → Prop} (hD : go_D h mo ar n D TP t) (hn : jh_i h mo 516 = nI n)
    (q1 : (kk < 0 ∨ 3 < kk) → Q (.inl (some (.inl 0))) (mo_rf h mo 1))
    (q2 : ∀ k, k < 4 → kk = nI k → (TP k = none ∨ xx < 0 ∨ nI n ≤ xx) → Q (.inl (some (.inl 0))) (mo_rf h mo 2))
    (q3 : ∀ k X x, k < 4 → kk = nI k → TP k = some X → x < n → xx = nI x → match rn D TP 153 X 0 (fun _ => sv_of D x) 1 none 1 [] 0 with
      | .inl c => ∀ h', mo_fx h h' mo ar go_F go_G → (c = 2 ∨ c = 3 ∨ c = 4) → Q (.inl (some (.inl 0))) (mo_rf h' mo (nI c))
      | .inr (O, s) => ∀ h', mo_fx h h' mo ar re_F re_G → rs_is h' mo ar O → jh_i h' mo 518 = nI s → Q (.inl (some (.inl (nI O.length)))) (jh_si h' mo 512 0)) : jw_C g 10 0 0 m_M_render [.inr (.inr (some mo)), .inl kk, .inl xx] h Q := by
  refine jw_intro (ls := [some (.inr (.inr (some mo))), some (.inl kk), some (.inl xx), none]) (by decide) k_M_render rfl (by simp [lo_fit, jv_c]) hg ?_
  obtain ⟨hm, hDd, hdp, htx, hTP⟩ := id hD
  have hn60 := hDd.1
  have at9 : (kk < 0 ∨ 3 < kk) → jw_J g 10 m_M_render jw_T0 9 [some (.inr (.inr (some mo))), some (.inl kk), some (.inl xx), none] [] h 0 0 Q := by
    intro hx
    refine jw_aload_n rfl rfl ?_
    refine js_iconst (x := 1) rfl rfl ?_
    refine js_call (As := [.inl 1]) rfl l_M_refuse c_M_158 i_M_refuse s_M_refuse jc_o8 rfl hm.1 rfl (cm_refuse hg hm.1 ?_) (by decide) (Nat.le_of_ble_eq_true rfl) (by omega) (by omega) rfl
    refine jw_ireturn rfl rfl rfl ?_
    exact q1 hx
  refine jw_iload_n rfl rfl ?_
  refine jw_if_lt 9 rfl rfl (fun z => at9 (Or.inl z)) (fun z1 => ?_)
  refine jw_iload_n rfl rfl ?_
  refine js_iconst (x := 3) rfl rfl ?_
  refine jw_icmp_le 15 rfl rfl (fun z2 => ?_) (fun z2 => at9 (Or.inr (Int32.not_le.mp z2)))
  obtain ⟨k, hk, rfl⟩ := nI_of2 (M := 3) (n := 3) (by decide) z1 z2
  have hk : k < 4 := by omega
  have q2 := q2 k hk rfl
  have at32 : (TP k = none ∨ xx < 0 ∨ nI n ≤ xx) → jw_J g 10 m_M_render jw_T0 32 [some (.inr (.inr (some mo))), some (.inl (nI k)), some (.inl xx), none] [] h 0 0 Q := by
    intro hx
    refine jw_aload_n rfl rfl ?_
    refine js_iconst (x := 2) rfl rfl ?_
    refine js_call (As := [.inl 2]) rfl l_M_refuse c_M_158 i_M_refuse s_M_refuse jc_o8 rfl hm.1 rfl (cm_refuse hg hm.1 ?_) (by decide) (Nat.le_of_ble_eq_true rfl) (by omega) (by omega) rfl
    refine jw_ireturn rfl rfl rfl ?_
    exact q2 hx
  have hT := hTP k hk
  cases hX : TP k with
  | none =>
    rw [hX] at hT
    have hT : jh_I h (ar 529) k = 0 := hT
    refine jw_aload_n rfl rfl ?_
    refine jw_gr rfl g_M_65 hm.1 (mo_r hm 10 rfl) ?_
    refine jw_iload_n rfl rfl ?_
    refine js_zaldV (k) rfl (mo_a hm 10 rfl) (by decide) (by rfl) rfl (by omega) (by decide) (hT) ?_
    refine jw_if_eq 32 rfl rfl (fun _ => ?_) (fun z => absurd (rfl) z)
    exact at32 (Or.inl hX)
  | some X =>
    rw [hX] at hT
    refine jw_aload_n rfl rfl ?_
    refine jw_gr rfl g_M_65 hm.1 (mo_r hm 10 rfl) ?_
    refine jw_iload_n rfl rfl ?_
    refine js_zaldV (k) rfl (mo_a hm 10 rfl) (by decide) (by rfl) rfl (by omega) (by decide) (hT.1) ?_
    refine jw_if_eq 32 rfl rfl (fun z => absurd z (by decide)) (fun _ => ?_)
    refine jw_aload_n rfl rfl ?_
    refine jw_iload_n rfl rfl ?_
    refine js_call (As := [.inl xx]) rfl l_M_no c_M_169 i_M_no s_M_no jc_o8 rfl hm.1 rfl (cm_no hg hm.1 hn hn60 (fun z => ?_) (fun x hx e => ?_)) (by decide) (Nat.le_of_ble_eq_true rfl) (by omega) (by omega) rfl
    · refine jw_if_eq 38 rfl rfl (fun z => absurd z (by decide)) (fun _ => ?_)
      exact at32 (Or.inr z)
    · subst e
      have q3 := q3 k X x hk rfl hX hx rfl
      have F : ∀ kk, go_G kk → go_G kk := fun _ z => z
      have f1 : mo_fx h (jh_si (jh_si (jh_si (jh_si (jh_si h mo 517 0) mo 549 0) mo 548 1) mo 546 0) mo 550 0) mo ar go_F go_G := mo_fx.si (mo_fx.si (mo_fx.si (mo_fx.si (mo_fx.si mo_fx.rf (F 517 (by unfold go_G; decide))) (F 549 (by unfold go_G; decide))) (F 548 (by unfold go_G; decide))) (F 546 (by unfold go_G; decide))) (F 550 (by unfold go_G; decide))
      have e1 : ∀ b kk, jh_i (jh_si (jh_si (jh_si (jh_si (jh_si h mo 517 0) mo 549 0) mo 548 1) mo 546 0) mo 550 0) b kk = jh_u (jh_u (jh_u (jh_u (jh_u (jh_i h) mo 517 0) mo 549 0) mo 548 1) mo 546 0) mo 550 0 b kk := fun _ _ => rfl
      have a517 := (e1 mo 517).trans ((jh_u_k _ _ _ _ (by decide)).trans ((jh_u_k _ _ _ _ (by decide)).trans ((jh_u_k _ _ _ _ (by decide)).trans ((jh_u_k _ _ _ _ (by decide)).trans (jh_u_s _ _ _ _)))))
      have a549 := (e1 mo 549).trans ((jh_u_k _ _ _ _ (by decide)).trans ((jh_u_k _ _ _ _ (by decide)).trans ((jh_u_k _ _ _ _ (by decide)).trans (jh_u_s _ _ _ _))))
      have a548 := (e1 mo 548).trans ((jh_u_k _ _ _ _ (by decide)).trans ((jh_u_k _ _ _ _ (by decide)).trans (jh_u_s _ _ _ _)))
      have a546 := (e1 mo 546).trans ((jh_u_k _ _ _ _ (by decide)).trans (jh_u_s _ _ _ _))
      have a550 := (e1 mo 550).trans (jh_u_s _ _ _ _)
      refine jw_if_eq 38 rfl rfl (fun _ => ?_) (fun z => absurd (rfl) z)
      refine jw_aload_n rfl rfl ?_
      refine js_iconst (x := 0) rfl rfl ?_
      refine jw_pi rfl p_M_render_25 hm.1 ?_
      refine jw_aload_n rfl rfl ?_
      refine js_iconst (x := 0) rfl rfl ?_
      refine jw_pi rfl p_M_render_125 (mo_si hm).1 ?_
      refine jw_aload_n rfl rfl ?_
      refine js_iconst (x := 1) rfl rfl ?_
      refine jw_pi rfl p_M_render_122 (mo_si (mo_si hm)).1 ?_
      refine jw_aload_n rfl rfl ?_
      refine js_iconst (x := 0) rfl rfl ?_
      refine jw_pi rfl p_M_render_116 (mo_si (mo_si (mo_si hm))).1 ?_
      refine jw_aload_n rfl rfl ?_
      refine js_iconst (x := 0) rfl rfl ?_
      refine jw_pi rfl p_M_render_128 (mo_si (mo_si (mo_si (mo_si hm)))).1 ?_
      generalize jh_si (jh_si (jh_si (jh_si (jh_si h mo 517 0) mo 549 0) mo 548 1) mo 546 0) mo 550 0 = h1 at *
      have hD1 := go_D.fx hD f1 (fun _ _ z => z)
      refine jw_aload_n rfl rfl ?_
      refine js_iconst (x := 3) rfl rfl ?_
      refine jw_iload_n rfl rfl ?_
      refine js_call (As := [.inl (nI 3), .inl (nI x)]) rfl l_M_load c_M_313 i_M_load s_M_load jc_o8 rfl hD1.1.1 rfl (cm_load hg hD1.1 hD1.2.1 (by decide) hx (fun h2 f2 v2 => ?_)) (by decide) (Nat.le_of_ble_eq_true rfl) (by omega) (by omega) rfl
      have F2 : mo_fx h1 h2 mo ar go_F go_G := mo_fx.mono f2 (fun _ _ z => go_F.rg z) (fun _ z => absurd z id)
      have hD2 := go_D.fx hD1 F2 (fun _ _ z => z)
      have r2 : ∀ kk, jh_i h2 mo kk = jh_i h1 mo kk := fun kk => mo_fx.rdi f2 (fun z => z)
      refine jw_aload_n rfl rfl ?_
      refine jw_iload_n rfl rfl ?_
      refine js_call (As := [.inl (nI k)]) rfl l_M_go c_M_399 i_M_go s_M_go jc_o8 rfl hD2.1.1 rfl (cm_go hg hD2 hk hX ((r2 549).trans a549) ((r2 548).trans a548) ((r2 546).trans a546) ((r2 517).trans a517) ((r2 550).trans a550) v2 (fun h3 f3 => ?_)) (by decide) (Nat.le_of_ble_eq_true rfl) (by omega) (by omega) rfl
      have F3 : mo_fx h h3 mo ar go_F go_G := go_tr f1 (go_tr F2 f3)
      have hD3 := go_D.fx hD F3 (fun _ _ z => z)
      cases hrn : rn D TP 153 X 0 (fun _ => sv_of D x) 1 none 1 [] 0 with
      | inl c =>
        rw [hrn] at q3
        intro e3 hc
        have hc0 : 0 < c ∧ c < 100 := by omega
        refine jw_aload_n rfl rfl ?_
        refine jw_gi rfl g_M_128 hD3.1.1 (e3) ?_
        refine jw_if_eq 90 rfl rfl (fun z => absurd z (nI_ne0 hc0.1 (by omega))) (fun _ => ?_)
        refine jw_aload_n rfl rfl ?_
        refine jw_aload_n rfl rfl ?_
        refine jw_gi rfl g_M_128 hD3.1.1 (e3) ?_
        refine js_call (As := [.inl (nI c)]) rfl l_M_refuse c_M_158 i_M_refuse s_M_refuse jc_o8 rfl hD3.1.1 rfl (cm_refuse hg hD3.1.1 ?_) (by decide) (Nat.le_of_ble_eq_true rfl) (by omega) (by omega) rfl
        refine jw_ireturn rfl rfl rfl ?_
        exact q3 h3 F3 hc
      | inr r =>
        obtain ⟨O, s⟩ := r
        rw [hrn] at q3
        intro e3 O3 s3 sl3
        have h400 := O3.2.1
        have F4 : mo_fx h (jh_si h3 mo 547 (nI O.length)) mo ar re_F re_G := mo_fx.si (mo_fx.mono F3 (fun _ _ z => Or.inl z) (fun _ z => Or.inl z)) (Or.inr (Or.inl rfl))
        have loop : ∀ r j h4, j + r = O.length → mo_fx (jh_si h3 mo 547 (nI O.length)) h4 mo ar (fun k _ => k = 544) no_G → (∀ i, i < j → jh_I h4 (ar 544) i = nI (O.getD i 0)) → jw_J g 10 m_M_render jw_T0 100 [some (.inr (.inr (some mo))), some (.inl (nI k)), some (.inl (nI x)), some (.inl (nI j))] [] h4 0 0 Q := by
          intro r
          induction r with
          | zero =>
            intro j h4 hj f4 y4
            have ej : j = O.length := by omega
            subst ej
            have hm4 := mo_fx.ok f4 (mo_si hD3.1)
            have rd4 : ∀ kk, kk ≠ 547 → jh_i h4 mo kk = jh_i h3 mo kk := fun kk z => (mo_fx.rdi f4 (fun z => z)).trans (jh_u_k _ _ _ _ z)
            have z547 : jh_i h4 mo 547 = nI O.length := (mo_fx.rdi f4 (fun z => z)).trans (jh_u_s _ _ _ _)
            refine jw_iload_n rfl rfl ?_
            refine jw_aload_n rfl rfl ?_
            refine jw_gi rfl g_M_116 hm4.1 ((rd4 546 (by decide)).trans O3.1) ?_
            refine jw_icmp_ge 126 rfl rfl (fun _ => ?_) (fun z => absurd (Int32.le_refl _) z)
            refine jw_aload_n rfl rfl ?_
            refine jw_aload_n rfl rfl ?_
            refine jw_gi rfl g_M_25 hm4.1 ((rd4 517 (by decide)).trans s3) ?_
            refine jw_pi rfl p_M_render_28 hm4.1 ?_
            refine jw_aload_n rfl rfl ?_
            refine jw_aload_n rfl rfl ?_
            refine jw_gi rfl g_M_119 (mo_si hm4).1 ((jh_u_k _ _ _ _ (by decide)).trans z547) ?_
            refine js_call (As := [.inl (nI O.length)]) rfl l_M_fine c_M_162 i_M_fine s_M_fine jc_o8 rfl (mo_si hm4).1 rfl (cm_fine hg hm4.1 ?_) (by decide) (Nat.le_of_ble_eq_true rfl) (by omega) (by omega) rfl
            refine jw_ireturn rfl rfl rfl ?_
            refine q3 _ (mo_fx.si (mo_fx.tr F4 f4 (fun _ _ z => Or.inr z) (fun _ z => absurd z id)) (Or.inr (Or.inr rfl))) ⟨(jh_u_k _ _ _ _ (by decide)).trans z547, h400, fun j hj => ⟨y4 j hj, (O3.2.2 j hj).2⟩⟩ (jh_u_s _ _ _ _)
          | succ r ih =>
            intro j h4 hj f4 y4
            have hm4 := mo_fx.ok f4 (mo_si hD3.1)
            have rd4 : ∀ kk, kk ≠ 547 → jh_i h4 mo kk = jh_i h3 mo kk := fun kk z => (mo_fx.rdi f4 (fun z => z)).trans (jh_u_k _ _ _ _ z)
            have oj : jh_I h4 (ar 543) j = nI (O.getD j 0) := (mo_fx.rd hD3.1 f4 24 rfl (fun k z => ⟨by have : k = 544 := z; omega, (544, 0, 400), by decide, by have : k = 544 := z; exact this.symm⟩)).trans (O3.2.2 j (by omega)).1
            have o128 := (O3.2.2 j (by omega)).2
            refine jw_iload_n rfl rfl ?_
            refine jw_aload_n rfl rfl ?_
            refine jw_gi rfl g_M_116 hm4.1 ((rd4 546 (by decide)).trans O3.1) ?_
            refine jw_icmp_ge 126 rfl rfl (fun z => absurd z (fun z => absurd ((nI_leI (by omega) (by omega)).mp z) (by omega))) (fun _ => ?_)
            refine jw_aload_n rfl rfl ?_
            refine jw_gr rfl g_M_110 hm4.1 (mo_r hm4 25 rfl) ?_
            refine jw_iload_n rfl rfl ?_
            refine jw_aload_n rfl rfl ?_
            refine jw_gr rfl g_M_107 hm4.1 (mo_r hm4 24 rfl) ?_
            refine jw_iload_n rfl rfl ?_
            refine js_caldV (j) rfl (mo_a hm4 24 rfl) (by decide) (by rfl) rfl (by omega) (by decide) (oj) ?_
            refine js_cast (j) rfl (mo_a hm4 25 rfl) (by decide) (by rfl) rfl (by omega) (by decide) ?_
            refine js_iinc rfl rfl (nI_1 j) rfl (by decide) rfl ?_
            refine jw_goto 100 rfl rfl ?_
            refine ih (j + 1) _ (by omega) (mo_fx.sI f4 rfl) (fun i hi => ?_)
            by_cases e : i = j
            · subst e; exact (jh_u_s _ _ _ _).trans (nI_n (by omega))
            · exact (jh_u_k _ _ _ _ e).trans (y4 i (by omega))
        refine jw_aload_n rfl rfl ?_
        refine jw_gi rfl g_M_128 hD3.1.1 (e3) ?_
        refine jw_if_eq 90 rfl rfl (fun _ => ?_) (fun z => absurd (rfl) z)
        refine jw_aload_n rfl rfl ?_
        refine jw_aload_n rfl rfl ?_
        refine jw_gi rfl g_M_116 hD3.1.1 (O3.1) ?_
        refine jw_pi rfl p_M_render_119 hD3.1.1 ?_
        refine js_iconst (x := 0) rfl rfl ?_
        refine js_istore_n rfl rfl (by decide) rfl ?_
        exact loop O.length 0 _ (by omega) mo_fx.rf (fun i hi => absurd hi (by omega))
theorem mM_render {g : jg_G} (hg : (jg_l g).stackTraces = false) {h : jh_H} {mo n sn tw k : Nat} {col ar t : Nat → Nat} {ln O : List Nat} {D : sd_D} {TP : Nat → Option tp_X} {er kk xx b : Int32} {S' : SS} {Q : jw_O → jh_H → Prop} (hc : mc9 col mo ar) (hs : ms h mo ar t (ln, n, D, TP, er, O, sn, tw)) (st : st_ren ln n D TP er O sn tw kk xx k b S') (hq : ∀ b' h', (k = 0 → b' = b) → mpost h col mo ar h' S' (nI k) → Q (.inl (some (.inl b'))) h') : jw_C g 10 0 0 m_M_render [.inr (.inr (some mo)), .inl kk, .inl xx] h Q := by
  obtain ⟨s1, s2, s3, s4, s5, s6, s7, s8, s9, s10, s11⟩ := hs.out
  have hn := s2.1
  have no : ∀ q, q < 4 → ¬ (nI q < 0 ∨ 3 < nI q) := by
    rintro q hq (z | z)
    · exact absurd ((nI_ltI (b := 0) (by omega) (by decide)).mp z) (Nat.not_lt_zero _)
    · have := (nI_ltI (a := 3) (by decide) (by omega)).mp z
      omega
  refine cm_render2 hg ⟨s1, s2, rk_dp hn s11, s3, s4⟩ s5 (fun z => ?_) (fun q hq1 e1 z => ?_) (fun q X x hq1 e1 hX hx e2 => ?_)
  · rcases st with ⟨rfl, -, rfl⟩ | ⟨q, q1, rfl, -⟩
    · exact hq _ _ (fun e => absurd e (by decide)) (hs.rf hc fr.rf)
    · exact absurd z (no q q1)
  · rcases st with ⟨rfl, y, rfl⟩ | ⟨q', q1, e3, y⟩
    · subst e1; exact absurd y (no q hq1)
    · obtain rfl : q = q' := nI_inj (by omega) (by omega) (e1.symm.trans e3)
      rcases y with ⟨rfl, -, rfl⟩ | ⟨X, x, y1, y2, rfl, -⟩
      · exact hq _ _ (fun e => absurd e (by decide)) (hs.rf hc fr.rf)
      · rcases z with z | z
        · rw [z] at y1; cases y1
        · exact absurd z (ix_no y2 (by omega))
  · rcases st with ⟨rfl, y, rfl⟩ | ⟨q', q1, e3, y⟩
    · subst e1; exact absurd y (no q hq1)
    · obtain rfl : q = q' := nI_inj (by omega) (by omega) (e1.symm.trans e3)
      rcases y with ⟨rfl, y, rfl⟩ | ⟨X', x', y1, y2, y3, y⟩
      · rcases y with y | y
        · rw [y] at hX; cases hX
        · subst e2; exact absurd y (ix_no hx (by omega))
      · obtain rfl : x = x' := nI_inj (by omega) (by omega) (e2.symm.trans y3)
        cases Option.some.inj (hX.symm.trans y1)
        rcases y with ⟨c, y4, rfl, rfl⟩ | ⟨O', s', y4, rfl, rfl, rfl⟩
        · rw [y4]
          intro h1 fx hcc
          exact hq _ _ (fun e => by omega) ((hs.fx fx (fun k j z => by unfold go_F at z; exact ⟨by unfold mk_K; omega, by omega⟩) (fun k hk z => by unfold go_G at z; omega)).rf hc (fx.fr hc))
        · rw [y4]
          intro h1 fx r1 i518
          have rd : ∀ K j, mk_K K → K < 537 → jh_I h1 (ar K) j = jh_I h (ar K) j := fun K j hK hn => fx.2.2.2.2.2.2.2 _ _ (fun q hq => by
            unfold re_F go_F at hq
            exact ar_ne s1 hK (by unfold mk_K; omega) (by omega))
          have ei : ∀ q, q = 513 ∨ q = 514 ∨ q = 515 ∨ q = 516 → jh_i h1 mo q = jh_i h mo q := fun q hq => fx.rdi (fun z => by unfold re_G go_G at z; omega)
          have hs1 : ms h1 mo ar t (ln, n, D, TP, er, O', s', tw) := ms.mk ⟨fx.ok s1, s2.eqs (fun K j a b => rd K j (mkK (by omega)) (by omega)) (fun j => by rw [fx.2.2.2.2.1]), s3.eqs (fun j => rd 526 j (mkK (by decide)) (by decide)), fun k hk => go_T.eq (fun K j a b => rd K j (mkK (by omega)) (by omega)) (s4 k hk), (ei _ (by decide)).trans s5, s6.eqs (fun j => rd 519 j (mkK (by decide)) (by decide)) (ei _ (by decide)), (ei _ (by decide)).trans s7, r1, i518, (ei _ (by decide)).trans s10, s11⟩
          exact hq _ _ (fun _ => rfl) (hs1.fine hc (fx.fr hc))

