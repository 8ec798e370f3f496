/-! ENGINE: add, put -/
theorem ce.po1 {g : jg_G} {h h' : jh_H} {col ad R : Nat → Nat} {E : cd_E} {se : Nat} {S' : SS} (hc : ce g h' col ad R E (se + 1) S') (f : fr (cF col) h h') : cpost g h col ad se h' S' := ⟨col, R, E, se + 1, hc, fun _ _ => rfl, f, Nat.le_refl _⟩
theorem cE_add {g : jg_G} (hg : (jg_l g).stackTraces = false) {d mc ms : Nat} {h : jh_H} {col ad R : Nat → Nat} {E : cd_E} {se n sn tw : Nat} {ln O : List Nat} {D : sd_D} {TP : Nat → Option tp_X} {er ll xx : Int32} {Q : jw_O → jh_H → Prop} (hc : ce g h col ad R E se (ln, n, D, TP, er, O, sn, tw)) (hse : se < 1000000) (hd : 70 ≤ d) (hmc : 1 ≤ mc) (hms : 6 ≤ ms)
    (q1 : (ll < 0 ∨ nI n ≤ ll) ∨ (xx < 0 ∨ nI n ≤ xx) → ∀ h', cpost g h col ad se h' (ln, n, D, TP, er, O, sn, tw + 1) → Q (.inr "java/util/NoSuchElementException") h')
    (q2 : ∀ l x, l < n → x < n → ll = nI l → xx = nI x → (sd_k D l ≠ 2 ∨ sd_in D x l) → ∀ h', cpost g h col ad se h' (ln, n, D, TP, er, O, sn, tw + 1) → Q (.inr "java/lang/IllegalArgumentException") h')
    (q3 : ∀ l x, l < n → x < n → ll = nI l → xx = nI x → sd_k D l = 2 → ¬ sd_in D x l → sd_c D l = 10 → ∀ h', cpost g h col ad se h' (ln, n, D, TP, er, O, sn, tw + 1) → Q (.inr "java/lang/IllegalStateException") h')
    (q4 : ∀ l x, l < n → x < n → ll = nI l → xx = nI x → sd_k D l = 2 → ¬ sd_in D x l → sd_c D l < 10 → ∀ h', cpost g h col ad se h' (ln, n, sd_set D l (sd_c D l) x 0, TP, er, O, sn, tw) → Q (.inl (some (.inl (nI (sd_c D l + 1))))) h') : jw_C g d mc ms m_E_add [.inr (.inr (some (ad 0))), .inl ll, .inl xx] h Q := by
  refine jw_intro (ls := [some (.inr (.inr (some (ad 0)))), some (.inl ll), some (.inl xx), none]) (by decide) k_E_add rfl (by simp [lo_fit, jv_c]) hg ?_
  obtain ⟨⟨a1, a2, a3, a4, a5, a6, a7, a8, a9⟩, -⟩ := hc.out
  obtain ⟨hc1, f1⟩ := hc.tw (tw' := tw + 1)
  refine jw_aload_n rfl rfl ?_
  refine jw_dup rfl rfl ?_
  refine jw_gi rfl g_E_41 (a1) (a9) ?_
  refine js_iconst (x := 1) rfl rfl ?_
  refine jw_iaddV rfl (nI_1 tw) ?_
  refine jw_pi rfl p_E_add_41 (a1) ?_
  obtain ⟨h1, eh1⟩ : ∃ z, z = jh_si h (ad 0) 7 (nI (tw + 1)) := ⟨_, rfl⟩
  rw [← eh1] at hc1 f1
  rw [← eh1]
  obtain ⟨⟨b1, b2, b3, b4, b5, b6, b7, b8, b9⟩, bl, bd, -⟩ := hc1.out
  have hn60 := bd.2.2.1.1
  have at26 : (ll < 0 ∨ nI n ≤ ll) ∨ (xx < 0 ∨ nI n ≤ xx) → ∀ kc ks, 1 ≤ kc → 6 ≤ ks → jw_J g d m_E_add jw_T0 26 [some (.inr (.inr (some (ad 0)))), some (.inl ll), some (.inl xx), none] [] h1 kc ks Q := fun z kc ks u1 u2 => jw_throw (E := "java/util/NoSuchElementException") ts_E_add_26 (by omega) (by decide) u1 u2 (fun c hc => jw_nc hc _) (q1 z h1 (hc1.po f1))
  refine jw_aload_n rfl rfl ?_
  refine jw_iload_n rfl rfl ?_
  refine js_call (As := [.inl ll]) rfl l_E_isData c_E_90 i_E_isData s_E_isData jc_o0 rfl (b1) rfl (cE_isData (d := d - 1) (mc := 0) (ms := 0) hg b1 b6 hn60 (fun z => ?_) (fun l hl ex => ?_)) (by omega) (Nat.le_of_ble_eq_true rfl) (by omega) (by omega) rfl
  · refine jw_if_eq 26 rfl rfl (fun _ => ?_) (fun z => absurd (rfl) z)
    exact at26 (Or.inl z) _ _ (by omega) (by omega)
  · refine jw_if_eq 26 rfl rfl (fun z => absurd z (by decide)) (fun _ => ?_)
    refine jw_aload_n rfl rfl ?_
    refine jw_iload_n rfl rfl ?_
    refine js_call (As := [.inl xx]) rfl l_E_isData c_E_90 i_E_isData s_E_isData jc_o0 rfl (b1) rfl (cE_isData (d := d - 1) (mc := 0) (ms := 0) hg b1 b6 hn60 (fun z => ?_) (fun x hx ex2 => ?_)) (by omega) (Nat.le_of_ble_eq_true rfl) (by omega) (by omega) rfl
    · refine jw_if_ne 36 rfl rfl (fun z => absurd (rfl) z) (fun _ => ?_)
      exact at26 (Or.inr z) _ _ (by omega) (by omega)
    · obtain ⟨s1, s2, s3⟩ := cd_size (bd.2.2.1.2 l hl)
      have hk3 := (bd.2.2.1.2 l hl).2.1
      subst ex ex2
      refine jw_if_ne 36 rfl rfl (fun _ => ?_) (fun z => absurd z (by decide))
      refine jw_aload_n rfl rfl ?_
      refine jw_gr rfl g_E_20 (b1) (b3) ?_
      refine jw_iload_n rfl rfl ?_
      refine js_aald (l) rfl (bd.1) (by decide) (by rfl) rfl (by omega) (by omega) (bd.2.1 l hl) ?_
      refine js_astore_n rfl rfl (by decide) rfl ?_
      refine jw_aload_n rfl rfl ?_
      refine jw_gi rfl g_E_99 (s1) (s3) ?_
      refine js_iconst (x := 2) rfl rfl ?_
      have at65 : (sd_k D l ≠ 2 ∨ sd_in D x l) → ∀ hx' kc ks, 1 ≤ kc → 6 ≤ ks → cpost g h col ad se hx' (ln, n, D, TP, er, O, sn, tw + 1) → jw_J g d m_E_add jw_T0 65 [some (.inr (.inr (some (ad 0)))), some (.inl (nI l)), some (.inl (nI x)), some (.inr (.inr (some (E.1 l))))] [] hx' kc ks Q := fun z hx' kc ks u1 u2 u3 => jw_throw (E := "java/lang/IllegalArgumentException") ts_E_add_65 (by omega) (by decide) u1 u2 (fun c hc => jw_nc hc _) (q2 l x hl hx rfl rfl z hx' u3)
      by_cases ck : sd_k D l = 2
      · refine jw_icmp_ne 65 rfl rfl (fun z => absurd (by rw [ck]; rfl) z) (fun _ => ?_)
        refine jw_aload_n rfl rfl ?_
        refine jw_aload_n rfl rfl ?_
        refine jw_aload_n rfl rfl ?_
        refine jw_gr rfl g_E_20 (b1) (b3) ?_
        refine jw_iload_n rfl rfl ?_
        refine js_aald (x) rfl (bd.1) (by decide) (by rfl) rfl (by omega) (by omega) (bd.2.1 x hx) ?_
        refine js_call (As := [.inr (.inr (some (E.1 l))), .inr (.inr (some (E.1 x)))]) rfl l_E_wouldHoldItself c_E_102 i_E_wouldHoldItself s_E_wouldHoldItself jc_o0 rfl (b1) rfl (cw_would (d := d - 1) (mc := 0) (ms := 0) hg bd.2.2.2.2.2.2 hl hx hse bd.2.2.2.2.1 bd.2.2.1 b1 b7 bd.2.2.2.1 (by omega) (fun hin h2 f2 => ?_) (fun hin h2 f2 => ?_)) (by omega) (Nat.le_of_ble_eq_true rfl) (by omega) (by omega) rfl
        · obtain ⟨hc2, F2⟩ := hc1.sw f2
          refine jw_if_eq 75 rfl rfl (fun z => absurd z (by decide)) (fun _ => ?_)
          exact at65 (Or.inr hin) h2 _ _ (by omega) (by omega) (hc2.po1 (f1.tr F2 (fun _ _ z => z)))
        · obtain ⟨hc2, F2⟩ := hc1.sw f2
          obtain ⟨⟨d1, d2, d3, d4, d5, d6, d7, d8, d9⟩, dl, dd, -⟩ := hc2.out
          obtain ⟨t1, t2, t3⟩ := cd_size (dd.2.2.1.2 l hl)
          rw [if_pos (by omega)] at t2
          obtain ⟨-, -, -, -, p5⟩ := dd.2.2.1.2 l hl
          obtain ⟨g1, g2, g3, g4, g5, g6, g7, g8, g9, g10, g11⟩ := p5 (by omega)
          refine jw_if_eq 75 rfl rfl (fun _ => ?_) (fun z => absurd (rfl) z)
          refine jw_aload_n rfl rfl ?_
          refine jw_gi rfl g_E_108 (t1) (t2) ?_
          refine js_bipush (x := 10) rfl rfl ?_
          by_cases c10 : sd_c D l < 10
          · obtain ⟨hc3, f3⟩ := hc2.set (i := sd_c D l) (wm := 0) (w := 0) hl hx (by omega) c10 (Nat.le_refl _) hin (by rw [if_neg (by omega)])
            have em : max (sd_c D l) (sd_c D l + 1) = sd_c D l + 1 := by omega
            refine jw_icmp_lt 94 rfl rfl (fun _ => ?_) (fun z => absurd ((nI_ltI (b := 10) (by omega) (by decide)).mpr c10) z)
            refine jw_aload_n rfl rfl ?_
            refine jw_aload_n rfl rfl ?_
            refine jw_gi rfl g_E_108 (t1) (t2) ?_
            refine jw_lconst rfl ?_
            refine jw_aload_n rfl rfl ?_
            refine jw_gr rfl g_E_20 (d1) (d3) ?_
            refine jw_iload_n rfl rfl ?_
            refine js_aald (x) rfl (dd.1) (by decide) (by rfl) rfl (by omega) (by omega) (dd.2.1 x hx) ?_
            refine js_call (As := [.inl (nI (sd_c D l)), .inr (.inl 0), .inr (.inr (some (E.1 x)))]) rfl l_V_setEntry c_E_113 i_V_setEntry s_V_setEntry jc_o2 rfl (t1) rfl (cv_setEntry (d := d - 1) (mc := 0) (ms := 0) hg g3 g5 g6 g7 g8 g9 g10 c10 (cd_size (dd.2.2.1.2 x hx)).1 (by omega) ?_) (by omega) (Nat.le_of_ble_eq_true rfl) (by omega) (by omega) rfl
            obtain ⟨h3, eh3⟩ : ∃ z, z = jh_si (jh_sG (jh_sR h2 (E.2.1 l) (sd_c D l) (some (E.1 x))) (E.2.2 l) (sd_c D l) 0) (E.1 l) 133 (nI (max (sd_c D l) (sd_c D l + 1))) := ⟨_, rfl⟩
            rw [← eh3] at hc3 f3
            rw [← eh3]
            obtain ⟨⟨u1, u2, u3, u4, u5, u6, u7, u8, u9⟩, -⟩ := hc3.out
            obtain ⟨hc4, f4⟩ := hc3.tw (tw' := tw)
            have i3 : jh_i h3 (E.1 l) 133 = nI (sd_c D l + 1) := by rw [eh3, em]; exact jh_u_s _ _ _ _
            have O3 : jh_O h3 (E.1 l) 2 := f3.O t1
            refine jw_aload_n rfl rfl ?_
            refine jw_dup rfl rfl ?_
            refine jw_gi rfl g_E_41 (u1) (u9) ?_
            refine js_iconst (x := 1) rfl rfl ?_
            refine jw_isubV rfl (nI_pred tw) ?_
            refine jw_pi rfl p_E_add_41 (u1) ?_
            refine jw_aload_n rfl rfl ?_
            refine jw_gi rfl g_E_108 (O3) ((jh_u_k _ _ _ _ (by decide)).trans i3) ?_
            refine jw_ireturn rfl rfl rfl ?_
            exact q4 l x hl hx rfl rfl ck hin c10 _ (hc4.po1 (((f1.tr F2 (fun _ _ z => z)).tr f3 (fun _ _ z => z)).tr f4 (fun _ _ z => z)))
          · refine jw_icmp_lt 94 rfl rfl (fun z => absurd z (fun z => c10 ((nI_ltI (b := 10) (by omega) (by decide)).mp z))) (fun _ => ?_)
            exact jw_throw (E := "java/lang/IllegalStateException") ts_E_add_84 (by omega) (by decide) (by omega) (by omega) (fun c hc => jw_nc hc _) (q3 l x hl hx rfl rfl ck hin (by omega) h2 (hc2.po1 (f1.tr F2 (fun _ _ z => z))))
      · refine jw_icmp_ne 65 rfl rfl (fun _ => ?_) (fun z => absurd z (fun z => ck ((nI_eq (b := 2) (by omega) (by decide)).mp z)))
        exact at65 (Or.inl ck) h1 _ _ (by omega) (by omega) (hc1.po f1)
theorem ce.ln {g : jg_G} {h h' : jh_H} {col ad R : Nat → Nat} {E : cd_E} {se n tw sn : Nat} {ln ln' O : List Nat} {D : sd_D} {TP : Nat → Option tp_X} {er : Int32} (hc : ce g h col ad R E se (ln, n, D, TP, er, O, sn, tw)) (f : fr (fun b => b = ad 1) h h') (hl : tx_is h' (ad 1) (ad 2) 200 ln') : ce g h' col ad R E se (ln', n, D, TP, er, O, sn, tw) ∧ fr (cF col) h h' := by
  obtain ⟨c1, c2, c3, c4, c5, c6⟩ := hc.out
  obtain ⟨k1, k2, k3, k4, k5, k6, k7, k8⟩ := id c6
  have nc : ∀ {b}, col b ≠ 5 → b ≠ ad 1 := fun hb e => hb (by rw [e]; exact k4)
  exact ⟨ce.mk ⟨c1.mv f (nc (by rw [k3]; decide)), hl, c3.mv f (nc (by rw [k6]; decide)) (fun b hb _ => nc (by rw [hb]; decide)) k7, c4.mv f (fun b hb => nc (by rw [hb]; decide)) (nc (by rw [k8]; decide)), c5.mv f (fun i hi => nc (by rw [k2 i hi]; decide)), c6.sm f⟩, f.mono (fun b _ e => ⟨by rw [e, k4]; decide, by rw [e, k4]; decide⟩)⟩
theorem sub_all {ln : List Nat} : sp_sub (fun i => ln.getD i 0) 0 (ln.length - 0) = ln := by
  unfold sp_sub
  rw [Nat.sub_zero]
  refine List.ext_getElem (by simp) (fun i h1 h2 => ?_)
  simp [List.getElem_map, h2]
theorem cE_put {g : jg_G} (hg : (jg_l g).stackTraces = false) {d mc ms : Nat} {h : jh_H} {col ad R : Nat → Nat} {E : cd_E} {se n sn tw : Nat} {ln O : List Nat} {D : sd_D} {TP : Nat → Option tp_X} {er ll xx : Int32} {Q : jw_O → jh_H → Prop} (hc : ce g h col ad R E se (ln, n, D, TP, er, O, sn, tw)) (hse : se < 1000000) (hd : 70 ≤ d) (hmc : 1 ≤ mc) (hms : 6 ≤ ms)
    (q1 : (ll < 0 ∨ nI n ≤ ll) ∨ (xx < 0 ∨ nI n ≤ xx) → ∀ h', cpost g h col ad se h' (ln, n, D, TP, er, O, sn, tw + 1) → Q (.inr "java/util/NoSuchElementException") h')
    (q2 : ∀ l x, l < n → x < n → ll = nI l → xx = nI x → (sd_k D l ≠ 3 ∨ ¬ nm_ok ln ∨ sd_in D x l) → ∀ h', cpost g h col ad se h' (ln, n, D, TP, er, O, sn, tw + 1) → Q (.inr "java/lang/IllegalArgumentException") h')
    (q3 : ∀ l x, l < n → x < n → ll = nI l → xx = nI x → sd_k D l = 3 → nm_ok ln → ¬ sd_in D x l → (∀ i, i < sd_c D l → sd_n D l i ≠ nm_c ln 0) → sd_c D l = 10 → ∀ h', cpost g h col ad se h' (ln, n, D, TP, er, O, sn, tw + 1) → Q (.inr "java/lang/IllegalStateException") h')
    (q4 : ∀ l x, l < n → x < n → ll = nI l → xx = nI x → sd_k D l = 3 → nm_ok ln → ¬ sd_in D x l → (∀ i, i < sd_c D l → sd_n D l i ≠ nm_c ln 0) → sd_c D l < 10 → ∀ h', cpost g h col ad se h' ([], n, sd_set D l (sd_c D l) x (nm_c ln 0), TP, er, O, sn, tw) → Q (.inl (some (.inl (nI (sd_c D l + 1))))) h')
    (q5 : ∀ l x i, l < n → x < n → ll = nI l → xx = nI x → sd_k D l = 3 → nm_ok ln → ¬ sd_in D x l → i < sd_c D l → sd_n D l i = nm_c ln 0 → (∀ j, j < i → sd_n D l j ≠ nm_c ln 0) → ∀ h', cpost g h col ad se h' ([], n, sd_set D l i x (nm_c ln 0), TP, er, O, sn, tw) → Q (.inl (some (.inl (nI (sd_c D l))))) h') : jw_C g d mc ms m_E_put [.inr (.inr (some (ad 0))), .inl ll, .inl xx] h Q := by
  refine jw_intro (ls := [some (.inr (.inr (some (ad 0)))), some (.inl ll), some (.inl xx), none, none, none, none]) (by decide) k_E_put rfl (by simp [lo_fit, jv_c]) hg ?_
  obtain ⟨⟨a1, a2, a3, a4, a5, a6, a7, a8, a9⟩, -⟩ := hc.out
  obtain ⟨hc1, f1⟩ := hc.tw (tw' := tw + 1)
  refine jw_aload_n rfl rfl ?_
  refine jw_dup rfl rfl ?_
  refine jw_gi rfl g_E_41 (a1) (a9) ?_
  refine js_iconst (x := 1) rfl rfl ?_
  refine jw_iaddV rfl (nI_1 tw) ?_
  refine jw_pi rfl p_E_put_41 (a1) ?_
  obtain ⟨h1, eh1⟩ : ∃ z, z = jh_si h (ad 0) 7 (nI (tw + 1)) := ⟨_, rfl⟩
  rw [← eh1] at hc1 f1
  rw [← eh1]
  obtain ⟨⟨b1, b2, b3, b4, b5, b6, b7, b8, b9⟩, bl, bd, -⟩ := hc1.out
  have hn60 := bd.2.2.1.1
  have at26 : (ll < 0 ∨ nI n ≤ ll) ∨ (xx < 0 ∨ nI n ≤ xx) → ∀ kc ks, 1 ≤ kc → 6 ≤ ks → jw_J g d m_E_put jw_T0 26 [some (.inr (.inr (some (ad 0)))), some (.inl ll), some (.inl xx), none, none, none, none] [] h1 kc ks Q := fun z kc ks u1 u2 => jw_throw (E := "java/util/NoSuchElementException") ts_E_put_26 (by omega) (by decide) u1 u2 (fun c hc => jw_nc hc _) (q1 z h1 (hc1.po f1))
  refine jw_aload_n rfl rfl ?_
  refine jw_iload_n rfl rfl ?_
  refine js_call (As := [.inl ll]) rfl l_E_isData c_E_90 i_E_isData s_E_isData jc_o0 rfl (b1) rfl (cE_isData (d := d - 1) (mc := 0) (ms := 0) hg b1 b6 hn60 (fun z => ?_) (fun l hl ex => ?_)) (by omega) (Nat.le_of_ble_eq_true rfl) (by omega) (by omega) rfl
  · refine jw_if_eq 26 rfl rfl (fun _ => ?_) (fun z => absurd (rfl) z)
    exact at26 (Or.inl z) _ _ (by omega) (by omega)
  · refine jw_if_eq 26 rfl rfl (fun z => absurd z (by decide)) (fun _ => ?_)
    refine jw_aload_n rfl rfl ?_
    refine jw_iload_n rfl rfl ?_
    refine js_call (As := [.inl xx]) rfl l_E_isData c_E_90 i_E_isData s_E_isData jc_o0 rfl (b1) rfl (cE_isData (d := d - 1) (mc := 0) (ms := 0) hg b1 b6 hn60 (fun z => ?_) (fun x hx ex2 => ?_)) (by omega) (Nat.le_of_ble_eq_true rfl) (by omega) (by omega) rfl
    · refine jw_if_ne 36 rfl rfl (fun z => absurd (rfl) z) (fun _ => ?_)
      exact at26 (Or.inr z) _ _ (by omega) (by omega)
    · obtain ⟨s1, s2, s3⟩ := cd_size (bd.2.2.1.2 l hl)
      have hk3 := (bd.2.2.1.2 l hl).2.1
      subst ex ex2
      refine jw_if_ne 36 rfl rfl (fun _ => ?_) (fun z => absurd z (by decide))
      refine jw_aload_n rfl rfl ?_
      refine jw_gr rfl g_E_20 (b1) (b3) ?_
      refine jw_iload_n rfl rfl ?_
      refine js_aald (l) rfl (bd.1) (by decide) (by rfl) rfl (by omega) (by omega) (bd.2.1 l hl) ?_
      refine js_astore_n rfl rfl (by decide) rfl ?_
      refine jw_aload_n rfl rfl ?_
      refine jw_gr rfl g_E_14 (b1) (b2) ?_
      refine js_iconst (x := 0) rfl rfl ?_
      refine jw_aload_n rfl rfl ?_
      refine jw_gr rfl g_E_14 (b1) (b2) ?_
      refine jw_gi rfl g_E_51 (bl.1.1) (bl.1.2.2.2.1) ?_
      refine js_call (As := [.inl (nI 0), .inl (nI ln.length)]) rfl l_T_nameCode c_E_117 i_T_nameCode s_T_nameCode jc_o1 rfl (bl.1.1) rfl (ct_nameCode (d := d - 1) (mc := 0) (ms := 0) hg bl (Nat.zero_le _) (Nat.le_refl _) ?_) (by omega) (Nat.le_of_ble_eq_true rfl) (by omega) (by omega) rfl
      rw [sub_all]
      refine js_lstore rfl rfl (by decide) rfl ?_
      refine jw_aload_n rfl rfl ?_
      refine jw_gi rfl g_E_99 (s1) (s3) ?_
      refine js_iconst (x := 3) rfl rfl ?_
      have at89 : (sd_k D l ≠ 3 ∨ ¬ nm_ok ln ∨ sd_in D x l) → ∀ hx' kc ks, 1 ≤ kc → 6 ≤ ks → cpost g h col ad se hx' (ln, n, D, TP, er, O, sn, tw + 1) → jw_J g d m_E_put jw_T0 89 [some (.inr (.inr (some (ad 0)))), some (.inl (nI l)), some (.inl (nI x)), some (.inr (.inr (some (E.1 l)))), some (.inr (.inl (nm7 ln))), none, none] [] hx' kc ks Q := fun z hx' kc ks u1 u2 u3 => jw_throw (E := "java/lang/IllegalArgumentException") ts_E_put_89 (by omega) (by decide) u1 u2 (fun c hc => jw_nc hc _) (q2 l x hl hx rfl rfl z hx' u3)
      by_cases ck : sd_k D l = 3
      · refine jw_icmp_ne 89 rfl rfl (fun z => absurd (by rw [ck]; rfl) z) (fun _ => ?_)
        refine jw_lload rfl rfl ?_
        refine jw_lconst rfl ?_
        refine jw_lcmp rfl ?_
        by_cases cm : nm_ok ln
        · have hnp := nm_pos cm
          rw [nm7_of cm] at at89
          rw [nm7_of cm]
          refine jw_if_eq 89 rfl rfl (fun z => absurd z (fun z => hnp.1 ((lg_cmp_eq _ _).mp z))) (fun _ => ?_)
          refine jw_aload_n rfl rfl ?_
          refine jw_aload_n rfl rfl ?_
          refine jw_aload_n rfl rfl ?_
          refine jw_gr rfl g_E_20 (b1) (b3) ?_
          refine jw_iload_n rfl rfl ?_
          refine js_aald (x) rfl (bd.1) (by decide) (by rfl) rfl (by omega) (by omega) (bd.2.1 x hx) ?_
          refine js_call (As := [.inr (.inr (some (E.1 l))), .inr (.inr (some (E.1 x)))]) rfl l_E_wouldHoldItself c_E_102 i_E_wouldHoldItself s_E_wouldHoldItself jc_o0 rfl (b1) rfl (cw_would (d := d - 1) (mc := 0) (ms := 0) hg bd.2.2.2.2.2.2 hl hx hse bd.2.2.2.2.1 bd.2.2.1 b1 b7 bd.2.2.2.1 (by omega) (fun hin h2 f2 => ?_) (fun hin h2 f2 => ?_)) (by omega) (Nat.le_of_ble_eq_true rfl) (by omega) (by omega) rfl
          · obtain ⟨hc2, F2⟩ := hc1.sw f2
            refine jw_if_eq 99 rfl rfl (fun z => absurd z (by decide)) (fun _ => ?_)
            exact at89 (Or.inr (Or.inr hin)) h2 _ _ (by omega) (by omega) (hc2.po1 (f1.tr F2 (fun _ _ z => z)))
          · obtain ⟨hc2, F2⟩ := hc1.sw f2
            obtain ⟨⟨d1, d2, d3, d4, d5, d6, d7, d8, d9⟩, dl, dd, -, -, dc⟩ := hc2.out
            obtain ⟨t1, t2, t3⟩ := cd_size (dd.2.2.1.2 l hl)
            rw [if_pos (by omega)] at t2
            obtain ⟨p1, -, -, -, p5⟩ := dd.2.2.1.2 l hl
            obtain ⟨g1, g2, g3, g4, g5, g6, g7, g8, g9, g10, g11⟩ := p5 (by omega)
            have f12 := f1.tr F2 (fun _ _ z => z)
            have at124 : ∀ i kc ks, i < 10 → i ≤ sd_c D l → (∀ h', cpost g h col ad se h' ([], n, sd_set D l i x (nm_c ln 0), TP, er, O, sn, tw) → Q (.inl (some (.inl (nI (max (sd_c D l) (i + 1)))))) h') → jw_J g d m_E_put jw_T0 124 [some (.inr (.inr (some (ad 0)))), some (.inl (nI l)), some (.inl (nI x)), some (.inr (.inr (some (E.1 l)))), some (.inr (.inl (nc7 ln 0))), none, some (.inl (nI i))] [] h2 kc ks Q := by
              intro i kc ks hi hic hq
              obtain ⟨hc3, f3⟩ := hc2.set (i := i) (wm := nm_c ln 0) (w := nc7 ln 0) hl hx (by omega) hi hic hin (by rw [if_pos ck]; exact ⟨ln, cm, rfl, rfl⟩)
              refine jw_aload_n rfl rfl ?_
              refine jw_iload rfl rfl ?_
              refine jw_lload rfl rfl ?_
              refine jw_aload_n rfl rfl ?_
              refine jw_gr rfl g_E_20 (d1) (d3) ?_
              refine jw_iload_n rfl rfl ?_
              refine js_aald (x) rfl (dd.1) (by decide) (by rfl) rfl (by omega) (by omega) (dd.2.1 x hx) ?_
              refine js_call (As := [.inl (nI i), .inr (.inl (nc7 ln 0)), .inr (.inr (some (E.1 x)))]) rfl l_V_setEntry c_E_113 i_V_setEntry s_V_setEntry jc_o2 rfl (t1) rfl (cv_setEntry (d := d - 1) (mc := 0) (ms := 0) hg g3 g5 g6 g7 g8 g9 g10 hi (cd_size (dd.2.2.1.2 x hx)).1 (by omega) ?_) (by omega) (Nat.le_of_ble_eq_true rfl) (by omega) (by omega) rfl
              obtain ⟨h3, eh3⟩ : ∃ z, z = jh_si (jh_sG (jh_sR h2 (E.2.1 l) i (some (E.1 x))) (E.2.2 l) i (nc7 ln 0)) (E.1 l) 133 (nI (max (sd_c D l) (i + 1))) := ⟨_, rfl⟩
              rw [← eh3] at hc3 f3
              rw [← eh3]
              obtain ⟨⟨u1, u2, -⟩, ul, -⟩ := hc3.out
              have i3 : jh_i h3 (E.1 l) 133 = nI (max (sd_c D l) (i + 1)) := by rw [eh3]; exact jh_u_s _ _ _ _
              have O3 : jh_O h3 (E.1 l) 2 := f3.O t1
              refine jw_aload_n rfl rfl ?_
              refine jw_gr rfl g_E_14 (u1) (u2) ?_
              refine js_call (As := []) rfl l_T_clear c_E_84 i_T_clear s_T_clear jc_o1 rfl (ul.1.1) rfl (ct_clear2 (d := d - 1) (mc := 0) (ms := 0) hg ul (fun h4 l4 f4 => ?_)) (by omega) (Nat.le_of_ble_eq_true rfl) (by omega) (by omega) rfl
              obtain ⟨hc4, F4⟩ := hc3.ln f4 l4
              obtain ⟨⟨v1, v2, v3, v4, v5, v6, v7, v8, v9⟩, -⟩ := hc4.out
              obtain ⟨hc5, f5⟩ := hc4.tw (tw' := tw)
              obtain ⟨k1, k2, k3, k4, k5, k6, k7, k8⟩ := id dc
              have y4 := f4.2 _ O3.1 (fun e => by have := p1; rw [e] at this; have this : col (ad 1) = 1 := this; rw [k4] at this; cases this)
              refine jw_aload_n rfl rfl ?_
              refine jw_dup rfl rfl ?_
              refine jw_gi rfl g_E_41 (v1) (v9) ?_
              refine js_iconst (x := 1) rfl rfl ?_
              refine jw_isubV rfl (nI_pred tw) ?_
              refine jw_pi rfl p_E_put_41 (v1) ?_
              refine jw_aload_n rfl rfl ?_
              refine jw_gi rfl g_E_108 (y4.O O3) ((jh_u_k _ _ _ _ (by decide)).trans ((y4.2.2.1 133).trans i3)) ?_
              refine jw_ireturn rfl rfl rfl ?_
              exact hq _ (hc5.po1 (((f12.tr f3 (fun _ _ z => z)).tr F4 (fun _ _ z => z)).tr f5 (fun _ _ z => z)))
            refine jw_if_eq 99 rfl rfl (fun _ => ?_) (fun z => absurd (rfl) z)
            refine jw_aload_n rfl rfl ?_
            refine jw_lload rfl rfl ?_
            refine js_call (As := [.inr (.inl (nc7 ln 0))]) rfl l_V_placeOf c_E_123 i_V_placeOf s_V_placeOf jc_o2 rfl (t1) rfl (cv_placeOf (d := d - 1) (mc := 0) (ms := 0) hg dd.2.2.1 cm hl ck (fun hno => ?_) (fun i hi e1 e2 => ?_)) (by omega) (Nat.le_of_ble_eq_true rfl) (by omega) (by omega) rfl
            · refine js_istore rfl rfl (by decide) rfl ?_
              refine jw_iload rfl rfl ?_
              refine js_bipush (x := 10) rfl rfl ?_
              by_cases c10 : sd_c D l < 10
              · refine jw_icmp_lt 124 rfl rfl (fun _ => ?_) (fun z => absurd ((nI_ltI (b := 10) (by omega) (by decide)).mpr c10) z)
                refine at124 _ _ _ c10 (Nat.le_refl _) (fun h' hp => ?_)
                rw [show max (sd_c D l) (sd_c D l + 1) = sd_c D l + 1 by omega]
                exact q4 l x hl hx rfl rfl ck cm hin hno c10 h' hp
              · refine jw_icmp_lt 124 rfl rfl (fun z => absurd z (fun z => c10 ((nI_ltI (b := 10) (by omega) (by decide)).mp z))) (fun _ => ?_)
                exact jw_throw (E := "java/lang/IllegalStateException") ts_E_put_114 (by omega) (by decide) (by omega) (by omega) (fun c hc => jw_nc hc _) (q3 l x hl hx rfl rfl ck cm hin hno (by omega) h2 (hc2.po1 f12))
            · refine js_istore rfl rfl (by decide) rfl ?_
              refine jw_iload rfl rfl ?_
              refine js_bipush (x := 10) rfl rfl ?_
              refine jw_icmp_lt 124 rfl rfl (fun _ => ?_) (fun z => absurd ((nI_ltI (b := 10) (by omega) (by decide)).mpr (by omega)) z)
              refine at124 _ _ _ (by omega) (by omega) (fun h' hp => ?_)
              rw [show max (sd_c D l) (i + 1) = sd_c D l by omega]
              exact q5 l x i hl hx rfl rfl ck cm hin hi e1 e2 h' hp
        · refine jw_if_eq 89 rfl rfl (fun _ => ?_) (fun z => absurd ((lg_cmp_eq _ _).mpr (if_neg cm)) z)
          exact at89 (Or.inr (Or.inl cm)) h1 _ _ (by omega) (by omega) (hc1.po f1)
      · refine jw_icmp_ne 89 rfl rfl (fun _ => ?_) (fun z => absurd z (fun z => ck ((nI_eq (b := 3) (by omega) (by decide)).mp z)))
        exact at89 (Or.inl ck) h1 _ _ (by omega) (by omega) (hc1.po f1)

