/-! ENGINE: number, text, list, map -/
theorem nI_cl {n : Nat} (h : n < 2 ^ 31) : (nI n).toNatClampNeg = n := by
  show (nI n).toInt.toNat = n
  rw [nI_toInt h]
  rfl
theorem tx_fresh {h h' : jh_H} {ad : Nat → Nat} {ln : List Nat} (t : tx_is h (ad 1) (ad 2) 200 ln) (f : fr (fun _ => False) h h') : tx_is h' (ad 1) (ad 2) 200 ln := t.fr f id id
theorem cE_number {g : jg_G} (hg : (jg_l g).stackTraces = false) {d mc ms : Nat} {h : jh_H} {col ad R : Nat → Nat} {E : cd_E} {se n sn tw : Nat} {ln O : List Nat} {D : sd_D} {TP : Nat → Option tp_X} {er v : Int32} {Q : jw_O → jh_H → Prop} (hc : ce g h col ad R E se (ln, n, D, TP, er, O, sn, tw)) (hd : 11 ≤ d) (hmc : 1 ≤ mc) (hms : 7 ≤ ms)
    (q1 : n = 60 → ∀ h', cpost g h col ad se h' (ln, n, D, TP, er, O, sn, tw + 1) → Q (.inr "java/lang/IllegalStateException") h')
    (q2 : n < 60 → ∀ h', cpost g h col ad se h' (ln, n + 1, sd_up D n 0 v (fun _ => 0), TP, er, O, sn, tw) → Q (.inl (some (.inl (nI n)))) h') : jw_C g d mc ms m_E_number [.inr (.inr (some (ad 0))), .inl v] h Q := by
  refine jw_intro (ls := [some (.inr (.inr (some (ad 0)))), some (.inl v)]) (by decide) k_E_number rfl (by simp [lo_fit, jv_c]) hg ?_
  obtain ⟨⟨a1, a2, a3, a4, a5, a6, a7, a8, a9⟩, -⟩ := hc.out
  obtain ⟨hc1, f1⟩ := hc.tw (tw' := tw + 1)
  refine jw_aload_n rfl rfl ?_
  refine jw_dup rfl rfl ?_
  refine jw_gi rfl g_E_41 (a1) (a9) ?_
  refine js_iconst (x := 1) rfl rfl ?_
  refine jw_iaddV rfl (nI_1 tw) ?_
  refine jw_pi rfl p_E_number_41 (a1) ?_
  obtain ⟨h1, eh1⟩ : ∃ z, z = jh_si h (ad 0) 7 (nI (tw + 1)) := ⟨_, rfl⟩
  rw [← eh1] at hc1 f1
  rw [← eh1]
  obtain ⟨⟨b1, b2, b3, b4, b5, b6, b7, b8, b9⟩, bl, bd, -⟩ := hc1.out
  have hn60 : n ≤ 60 := bd.2.2.1.1
  refine jw_aload_n rfl rfl ?_
  refine jw_gi rfl g_E_63 (b1) (b6) ?_
  refine js_bipush (x := 60) rfl rfl ?_
  by_cases cn : n < 60
  · obtain ⟨hc2, f2⟩ := hc1.tw (tw' := tw)
    obtain ⟨⟨d1, d2, d3, d4, d5, d6, d7, d8, d9⟩, dl, dd, -⟩ := hc2.out
    refine jw_icmp_lt 29 rfl rfl (fun _ => ?_) (fun z => absurd ((nI_ltI (b := 60) (by omega) (by decide)).mpr cn) z)
    refine jw_aload_n rfl rfl ?_
    refine jw_dup rfl rfl ?_
    refine jw_gi rfl g_E_41 (b1) (b9) ?_
    refine js_iconst (x := 1) rfl rfl ?_
    refine jw_isubV rfl (nI_pred tw) ?_
    refine jw_pi rfl p_E_number_41 (b1) ?_
    obtain ⟨h2, eh2⟩ : ∃ z, z = jh_si h1 (ad 0) 7 (nI tw) := ⟨_, rfl⟩
    rw [← eh2] at hc2 f2 d1 d2 d3 d6 dl dd
    rw [← eh2]
    refine jw_aload_n rfl rfl ?_
    refine jw_iload_n rfl rfl ?_
    refine js_callS (As := [.inl v]) rfl l_V_ofNumber c_E_68 i_V_ofNumber rfl (cv_number2 (d := d - 1) (mc := 1) (ms := 7) hg (by omega) (by omega) (by omega) (fun h3 q hq v3 z3 f3 => ?_)) (by omega) (Nat.le_of_ble_eq_true rfl) (by omega) (by omega) rfl
    have y0 := f3.2 _ d1.1 id
    refine js_call (As := [.inr (.inr (some q))]) rfl l_E_keep c_E_72 i_E_keep s_E_keep jc_o0 rfl (y0.O d1) rfl (cE_keep (d := d - 1) (mc := 0) (ms := 0) hg (y0.O d1) ((y0.2.2.2.2.1 1).trans d3) (f3.A dd.1) ((y0.2.2.1 2).trans d6) cn v3.1 ?_) (by omega) (Nat.le_of_ble_eq_true rfl) (by omega) (by omega) rfl
    refine jw_ireturn rfl rfl rfl ?_
    refine q2 cn _ (ce.keep (f1.tr f2 (fun _ _ z => z)) hc2 cn (f3.mono (fun _ _ z => absurd z id)) (tx_fresh dl f3) hq (E' := (va_up E.1 n q, E.2.1, E.2.2)) (va_up_self _ _ _) (fun x hx => ⟨va_up_ne _ _ (by omega), rfl, rfl⟩) ?_ z3 (fun z => absurd z (by decide)))
    have eq : (va_up E.1 n q, E.2.1, E.2.2).1 n = q := va_up_self _ _ _
    have ek : sd_k (sd_up D n 0 v (fun _ => 0)) n = 0 := sd_up_k.1
    unfold cd_1
    rw [eq, ek]
    exact ⟨⟨hq, v3.1.1⟩, by decide, fun _ => by rw [sd_up_k.2.1]; exact v3, fun z => absurd z (by decide), fun z => absurd z (by decide)⟩
  · refine jw_icmp_lt 29 rfl rfl (fun z => absurd z (fun z => cn ((nI_ltI (b := 60) (by omega) (by decide)).mp z))) (fun _ => ?_)
    exact jw_throw (E := "java/lang/IllegalStateException") ts_E_number_19 (by omega) (by decide) (by omega) (by omega) (fun c hc => jw_nc hc _) (q1 (by omega) h1 (hc1.po f1))
theorem cE_list {g : jg_G} (hg : (jg_l g).stackTraces = false) {d mc ms : Nat} {h : jh_H} {col ad R : Nat → Nat} {E : cd_E} {se n sn tw : Nat} {ln O : List Nat} {D : sd_D} {TP : Nat → Option tp_X} {er : Int32} {Q : jw_O → jh_H → Prop} (hc : ce g h col ad R E se (ln, n, D, TP, er, O, sn, tw)) (hd : 11 ≤ d) (hmc : 3 ≤ mc) (hms : 27 ≤ ms)
    (q1 : n = 60 → ∀ h', cpost g h col ad se h' (ln, n, D, TP, er, O, sn, tw + 1) → Q (.inr "java/lang/IllegalStateException") h')
    (q2 : n < 60 → ∀ h', cpost g h col ad se h' (ln, n + 1, sd_up D n 2 0 (fun _ => 0), TP, er, O, sn, tw) → Q (.inl (some (.inl (nI n)))) h') : jw_C g d mc ms m_E_list [.inr (.inr (some (ad 0)))] h Q := by
  refine jw_intro (ls := [some (.inr (.inr (some (ad 0))))]) (by decide) k_E_list rfl (by simp [lo_fit, jv_c]) hg ?_
  obtain ⟨⟨a1, a2, a3, a4, a5, a6, a7, a8, a9⟩, -⟩ := hc.out
  obtain ⟨hc1, f1⟩ := hc.tw (tw' := tw + 1)
  refine jw_aload_n rfl rfl ?_
  refine jw_dup rfl rfl ?_
  refine jw_gi rfl g_E_41 (a1) (a9) ?_
  refine js_iconst (x := 1) rfl rfl ?_
  refine jw_iaddV rfl (nI_1 tw) ?_
  refine jw_pi rfl p_E_list_41 (a1) ?_
  obtain ⟨h1, eh1⟩ : ∃ z, z = jh_si h (ad 0) 7 (nI (tw + 1)) := ⟨_, rfl⟩
  rw [← eh1] at hc1 f1
  rw [← eh1]
  obtain ⟨⟨b1, b2, b3, b4, b5, b6, b7, b8, b9⟩, bl, bd, -⟩ := hc1.out
  have hn60 : n ≤ 60 := bd.2.2.1.1
  refine jw_aload_n rfl rfl ?_
  refine jw_gi rfl g_E_63 (b1) (b6) ?_
  refine js_bipush (x := 60) rfl rfl ?_
  by_cases cn : n < 60
  · obtain ⟨hc2, f2⟩ := hc1.tw (tw' := tw)
    obtain ⟨⟨d1, d2, d3, d4, d5, d6, d7, d8, d9⟩, dl, dd, -⟩ := hc2.out
    refine jw_icmp_lt 29 rfl rfl (fun _ => ?_) (fun z => absurd ((nI_ltI (b := 60) (by omega) (by decide)).mpr cn) z)
    refine jw_aload_n rfl rfl ?_
    refine jw_dup rfl rfl ?_
    refine jw_gi rfl g_E_41 (b1) (b9) ?_
    refine js_iconst (x := 1) rfl rfl ?_
    refine jw_isubV rfl (nI_pred tw) ?_
    refine jw_pi rfl p_E_list_41 (b1) ?_
    obtain ⟨h2, eh2⟩ : ∃ z, z = jh_si h1 (ad 0) 7 (nI tw) := ⟨_, rfl⟩
    rw [← eh2] at hc2 f2 d1 d2 d3 d6 dl dd
    rw [← eh2]
    refine jw_aload_n rfl rfl ?_
    refine js_iconst (x := 2) rfl rfl ?_
    refine js_callS (As := [.inl 2]) rfl l_V_ofEntries c_E_87 i_V_ofEntries rfl (cv_ofEntries (d := d - 1) (mc := 3) (ms := 27) hg (by omega) (by omega) (by omega) (fun h3 q qe qn hq hqe hqn v1 v2 v3 v4 v5 v6 v7 z3 f3 => ?_)) (by omega) (Nat.le_of_ble_eq_true rfl) (by omega) (by omega) rfl
    have y0 := f3.2 _ d1.1 id
    refine js_call (As := [.inr (.inr (some q))]) rfl l_E_keep c_E_72 i_E_keep s_E_keep jc_o0 rfl (y0.O d1) rfl (cE_keep (d := d - 1) (mc := 0) (ms := 0) hg (y0.O d1) ((y0.2.2.2.2.1 1).trans d3) (f3.A dd.1) ((y0.2.2.1 2).trans d6) cn v1 ?_) (by omega) (Nat.le_of_ble_eq_true rfl) (by omega) (by omega) rfl
    refine jw_ireturn rfl rfl rfl ?_
    refine q2 cn _ (ce.keep (f1.tr f2 (fun _ _ z => z)) hc2 cn (f3.mono (fun _ _ z => absurd z id)) (tx_fresh dl f3) hq (E' := (va_up E.1 n q, va_up E.2.1 n qe, va_up E.2.2 n qn)) (va_up_self _ _ _) (fun x hx => ⟨va_up_ne _ _ (by omega), va_up_ne _ _ (by omega), va_up_ne _ _ (by omega)⟩) ?_ z3 (fun _ => rfl))
    have eq : (va_up E.1 n q, va_up E.2.1 n qe, va_up E.2.2 n qn).1 n = q := va_up_self _ _ _
    have eqe : (va_up E.1 n q, va_up E.2.1 n qe, va_up E.2.2 n qn).2.1 n = qe := va_up_self _ _ _
    have eqn : (va_up E.1 n q, va_up E.2.1 n qe, va_up E.2.2 n qn).2.2 n = qn := va_up_self _ _ _
    have ek : sd_k (sd_up D n 2 0 (fun _ => 0)) n = 2 := sd_up_k.1
    have ec0 : sd_c (sd_up D n 2 0 (fun _ => 0)) n = 0 := sd_up_k.2.2.1
    unfold cd_1
    rw [eq, eqe, eqn, ek, ec0]
    exact ⟨⟨hq, v1.1⟩, by decide, fun z => absurd z (by decide), fun z => absurd z (by decide), fun _ => ⟨⟨hqe, v5.1⟩, ⟨hqn, v6.1⟩, v1, v2, v3, v4, v5, v6, v7, by decide, fun j hj => absurd hj (Nat.not_lt_zero _)⟩⟩
  · refine jw_icmp_lt 29 rfl rfl (fun z => absurd z (fun z => cn ((nI_ltI (b := 60) (by omega) (by decide)).mp z))) (fun _ => ?_)
    exact jw_throw (E := "java/lang/IllegalStateException") ts_E_list_19 (by omega) (by decide) (by omega) (by omega) (fun c hc => jw_nc hc _) (q1 (by omega) h1 (hc1.po f1))
theorem cE_map {g : jg_G} (hg : (jg_l g).stackTraces = false) {d mc ms : Nat} {h : jh_H} {col ad R : Nat → Nat} {E : cd_E} {se n sn tw : Nat} {ln O : List Nat} {D : sd_D} {TP : Nat → Option tp_X} {er : Int32} {Q : jw_O → jh_H → Prop} (hc : ce g h col ad R E se (ln, n, D, TP, er, O, sn, tw)) (hd : 11 ≤ d) (hmc : 3 ≤ mc) (hms : 27 ≤ ms)
    (q1 : n = 60 → ∀ h', cpost g h col ad se h' (ln, n, D, TP, er, O, sn, tw + 1) → Q (.inr "java/lang/IllegalStateException") h')
    (q2 : n < 60 → ∀ h', cpost g h col ad se h' (ln, n + 1, sd_up D n 3 0 (fun _ => 0), TP, er, O, sn, tw) → Q (.inl (some (.inl (nI n)))) h') : jw_C g d mc ms m_E_map [.inr (.inr (some (ad 0)))] h Q := by
  refine jw_intro (ls := [some (.inr (.inr (some (ad 0))))]) (by decide) k_E_map rfl (by simp [lo_fit, jv_c]) hg ?_
  obtain ⟨⟨a1, a2, a3, a4, a5, a6, a7, a8, a9⟩, -⟩ := hc.out
  obtain ⟨hc1, f1⟩ := hc.tw (tw' := tw + 1)
  refine jw_aload_n rfl rfl ?_
  refine jw_dup rfl rfl ?_
  refine jw_gi rfl g_E_41 (a1) (a9) ?_
  refine js_iconst (x := 1) rfl rfl ?_
  refine jw_iaddV rfl (nI_1 tw) ?_
  refine jw_pi rfl p_E_map_41 (a1) ?_
  obtain ⟨h1, eh1⟩ : ∃ z, z = jh_si h (ad 0) 7 (nI (tw + 1)) := ⟨_, rfl⟩
  rw [← eh1] at hc1 f1
  rw [← eh1]
  obtain ⟨⟨b1, b2, b3, b4, b5, b6, b7, b8, b9⟩, bl, bd, -⟩ := hc1.out
  have hn60 : n ≤ 60 := bd.2.2.1.1
  refine jw_aload_n rfl rfl ?_
  refine jw_gi rfl g_E_63 (b1) (b6) ?_
  refine js_bipush (x := 60) rfl rfl ?_
  by_cases cn : n < 60
  · obtain ⟨hc2, f2⟩ := hc1.tw (tw' := tw)
    obtain ⟨⟨d1, d2, d3, d4, d5, d6, d7, d8, d9⟩, dl, dd, -⟩ := hc2.out
    refine jw_icmp_lt 29 rfl rfl (fun _ => ?_) (fun z => absurd ((nI_ltI (b := 60) (by omega) (by decide)).mpr cn) z)
    refine jw_aload_n rfl rfl ?_
    refine jw_dup rfl rfl ?_
    refine jw_gi rfl g_E_41 (b1) (b9) ?_
    refine js_iconst (x := 1) rfl rfl ?_
    refine jw_isubV rfl (nI_pred tw) ?_
    refine jw_pi rfl p_E_map_41 (b1) ?_
    obtain ⟨h2, eh2⟩ : ∃ z, z = jh_si h1 (ad 0) 7 (nI tw) := ⟨_, rfl⟩
    rw [← eh2] at hc2 f2 d1 d2 d3 d6 dl dd
    rw [← eh2]
    refine jw_aload_n rfl rfl ?_
    refine js_iconst (x := 3) rfl rfl ?_
    refine js_callS (As := [.inl 3]) rfl l_V_ofEntries c_E_87 i_V_ofEntries rfl (cv_ofEntries (d := d - 1) (mc := 3) (ms := 27) hg (by omega) (by omega) (by omega) (fun h3 q qe qn hq hqe hqn v1 v2 v3 v4 v5 v6 v7 z3 f3 => ?_)) (by omega) (Nat.le_of_ble_eq_true rfl) (by omega) (by omega) rfl
    have y0 := f3.2 _ d1.1 id
    refine js_call (As := [.inr (.inr (some q))]) rfl l_E_keep c_E_72 i_E_keep s_E_keep jc_o0 rfl (y0.O d1) rfl (cE_keep (d := d - 1) (mc := 0) (ms := 0) hg (y0.O d1) ((y0.2.2.2.2.1 1).trans d3) (f3.A dd.1) ((y0.2.2.1 2).trans d6) cn v1 ?_) (by omega) (Nat.le_of_ble_eq_true rfl) (by omega) (by omega) rfl
    refine jw_ireturn rfl rfl rfl ?_
    refine q2 cn _ (ce.keep (f1.tr f2 (fun _ _ z => z)) hc2 cn (f3.mono (fun _ _ z => absurd z id)) (tx_fresh dl f3) hq (E' := (va_up E.1 n q, va_up E.2.1 n qe, va_up E.2.2 n qn)) (va_up_self _ _ _) (fun x hx => ⟨va_up_ne _ _ (by omega), va_up_ne _ _ (by omega), va_up_ne _ _ (by omega)⟩) ?_ z3 (fun _ => rfl))
    have eq : (va_up E.1 n q, va_up E.2.1 n qe, va_up E.2.2 n qn).1 n = q := va_up_self _ _ _
    have eqe : (va_up E.1 n q, va_up E.2.1 n qe, va_up E.2.2 n qn).2.1 n = qe := va_up_self _ _ _
    have eqn : (va_up E.1 n q, va_up E.2.1 n qe, va_up E.2.2 n qn).2.2 n = qn := va_up_self _ _ _
    have ek : sd_k (sd_up D n 3 0 (fun _ => 0)) n = 3 := sd_up_k.1
    have ec0 : sd_c (sd_up D n 3 0 (fun _ => 0)) n = 0 := sd_up_k.2.2.1
    unfold cd_1
    rw [eq, eqe, eqn, ek, ec0]
    exact ⟨⟨hq, v1.1⟩, by decide, fun z => absurd z (by decide), fun z => absurd z (by decide), fun _ => ⟨⟨hqe, v5.1⟩, ⟨hqn, v6.1⟩, v1, v2, v3, v4, v5, v6, v7, by decide, fun j hj => absurd hj (Nat.not_lt_zero _)⟩⟩
  · refine jw_icmp_lt 29 rfl rfl (fun z => absurd z (fun z => cn ((nI_ltI (b := 60) (by omega) (by decide)).mp z))) (fun _ => ?_)
    exact jw_throw (E := "java/lang/IllegalStateException") ts_E_map_19 (by omega) (by decide) (by omega) (by omega) (fun c hc => jw_nc hc _) (q1 (by omega) h1 (hc1.po f1))
theorem cE_text {g : jg_G} (hg : (jg_l g).stackTraces = false) {d mc ms : Nat} {h : jh_H} {col ad R : Nat → Nat} {E : cd_E} {se n sn tw : Nat} {ln O : List Nat} {D : sd_D} {TP : Nat → Option tp_X} {er : Int32} {Q : jw_O → jh_H → Prop} (hc : ce g h col ad R E se (ln, n, D, TP, er, O, sn, tw)) (hd : 11 ≤ d) (hmc : 3 ≤ mc) (hms : 209 ≤ ms)
    (q1 : n = 60 → ∀ h', cpost g h col ad se h' (ln, n, D, TP, er, O, sn, tw + 1) → Q (.inr "java/lang/IllegalStateException") h')
    (q2 : n < 60 → ∀ h', cpost g h col ad se h' ([], n + 1, sd_up D n 1 (nI ln.length) (fun j => ln.getD j 0), TP, er, O, sn, tw) → Q (.inl (some (.inl (nI n)))) h') : jw_C g d mc ms m_E_text [.inr (.inr (some (ad 0)))] h Q := by
  refine jw_intro (ls := [some (.inr (.inr (some (ad 0)))), none]) (by decide) k_E_text rfl (by simp [lo_fit, jv_c]) hg ?_
  obtain ⟨⟨a1, a2, a3, a4, a5, a6, a7, a8, a9⟩, -⟩ := hc.out
  obtain ⟨hc1, f1⟩ := hc.tw (tw' := tw + 1)
  refine jw_aload_n rfl rfl ?_
  refine jw_dup rfl rfl ?_
  refine jw_gi rfl g_E_41 (a1) (a9) ?_
  refine js_iconst (x := 1) rfl rfl ?_
  refine jw_iaddV rfl (nI_1 tw) ?_
  refine jw_pi rfl p_E_text_41 (a1) ?_
  obtain ⟨h1, eh1⟩ : ∃ z, z = jh_si h (ad 0) 7 (nI (tw + 1)) := ⟨_, rfl⟩
  rw [← eh1] at hc1 f1
  rw [← eh1]
  obtain ⟨⟨b1, b2, b3, b4, b5, b6, b7, b8, b9⟩, bl, bd, -⟩ := hc1.out
  have hn60 : n ≤ 60 := bd.2.2.1.1
  refine jw_aload_n rfl rfl ?_
  refine jw_gi rfl g_E_63 (b1) (b6) ?_
  refine js_bipush (x := 60) rfl rfl ?_
  by_cases cn : n < 60
  · obtain ⟨hc2, f2⟩ := hc1.tw (tw' := tw)
    obtain ⟨⟨d1, d2, d3, d4, d5, d6, d7, d8, d9⟩, dl, dd, -, -, dc⟩ := hc2.out
    refine jw_icmp_lt 29 rfl rfl (fun _ => ?_) (fun z => absurd ((nI_ltI (b := 60) (by omega) (by decide)).mpr cn) z)
    refine jw_aload_n rfl rfl ?_
    refine jw_dup rfl rfl ?_
    refine jw_gi rfl g_E_41 (b1) (b9) ?_
    refine js_iconst (x := 1) rfl rfl ?_
    refine jw_isubV rfl (nI_pred tw) ?_
    refine jw_pi rfl p_E_text_41 (b1) ?_
    obtain ⟨h2, eh2⟩ : ∃ z, z = jh_si h1 (ad 0) 7 (nI tw) := ⟨_, rfl⟩
    rw [← eh2] at hc2 f2 d1 d2 d3 d6 dl dd dc
    rw [← eh2]
    have hl2 : ln.length ≤ 200 := dl.1.2.2.2.2.1
    refine jw_aload_n rfl rfl ?_
    refine jw_gr rfl g_E_14 (d1) (d2) ?_
    refine js_iconst (x := 0) rfl rfl ?_
    refine jw_aload_n rfl rfl ?_
    refine jw_gr rfl g_E_14 (d1) (d2) ?_
    refine jw_gi rfl g_E_51 (dl.1.1) (dl.1.2.2.2.1) ?_
    refine js_call (As := [.inl (nI 0), .inl (nI ln.length)]) rfl l_T_copyOf c_E_76 i_T_copyOf s_T_copyOf jc_o1 rfl (dl.1.1) rfl (ct_copyOf (d := d - 1) (mc := 2) (ms := 202) hg dl (Nat.zero_le _) (Nat.le_refl _) (by omega) (by omega) (by omega) (fun h3 tb qc htb hqc t3 f3 => ?_)) (by omega) (Nat.le_of_ble_eq_true rfl) (by omega) (by omega) rfl
    refine js_callS (As := [.inr (.inr (some tb))]) rfl l_V_ofText c_E_80 i_V_ofText rfl (cv_text2 (d := d - 1) (mc := 1) (ms := 7) hg t3 (by omega) (by omega) (by omega) (fun h4 q hq v4 z4 f4 => ?_)) (by omega) (Nat.le_of_ble_eq_true rfl) (by omega) (by omega) rfl
    refine js_astore_n rfl rfl (by decide) rfl ?_
    have f24 : fr (fun _ => False) h2 h4 := f3.tr f4 (fun _ _ z => z)
    have y4 := f24.2 _ d1.1 id
    have l4 := tx_fresh dl f24
    refine jw_aload_n rfl rfl ?_
    refine jw_gr rfl g_E_14 (y4.O d1) ((y4.2.2.2.2.1 0).trans d2) ?_
    refine js_call (As := []) rfl l_T_clear c_E_84 i_T_clear s_T_clear jc_o1 rfl (l4.1.1) rfl (ct_clear2 (d := d - 1) (mc := 0) (ms := 0) hg l4 (fun h5 l5 f5 => ?_)) (by omega) (Nat.le_of_ble_eq_true rfl) (by omega) (by omega) rfl
    obtain ⟨k1, k2, k3, k4, k5, k6, k7, k8⟩ := id dc
    have f25 : fr (fun b => b = ad 1) h2 h5 := (f24.mono (fun _ _ z => absurd z id)).tr f5 (fun _ _ z => z)
    have y5 := f25.2 _ d1.1 (fun e => by have := k3; rw [e, k4] at this; cases this)
    have n1 : ∀ {b}, b ∉ jh_L h2 → b ≠ ad 1 := fun hb e => hb (by rw [e]; exact dl.1.1.1)
    have hq2 : q ∉ jh_L h2 := fun z => hq (f3.1 _ z).1
    have yq := f5.2 _ v4.1.1 (n1 hq2)
    have ytb := f5.2 _ v4.2.2.2.1.1.1.1 (n1 htb)
    have yqc := f5.2 _ v4.2.2.2.1.1.2.1.1 (n1 hqc)
    have v5 := v4.eq yq ytb yqc
    refine jw_aload_n rfl rfl ?_
    refine jw_aload_n rfl rfl ?_
    refine js_call (As := [.inr (.inr (some q))]) rfl l_E_keep c_E_72 i_E_keep s_E_keep jc_o0 rfl (y5.O d1) rfl (cE_keep (d := d - 1) (mc := 0) (ms := 0) hg (y5.O d1) ((y5.2.2.2.2.1 1).trans d3) (f25.A dd.1) ((y5.2.2.1 2).trans d6) cn v5.1 ?_) (by omega) (Nat.le_of_ble_eq_true rfl) (by omega) (by omega) rfl
    refine jw_ireturn rfl rfl rfl ?_
    refine q2 cn _ (ce.keep (f1.tr f2 (fun _ _ z => z)) hc2 cn f25 l5 hq2 (E' := (va_up E.1 n q, E.2.1, E.2.2)) (va_up_self _ _ _) (fun x hx => ⟨va_up_ne _ _ (by omega), rfl, rfl⟩) ?_ ((yq.2.2.1 134).trans z4) (fun z => absurd z (by decide)))
    have eq : (va_up E.1 n q, E.2.1, E.2.2).1 n = q := va_up_self _ _ _
    have ek : sd_k (sd_up D n 1 (nI ln.length) (fun j => ln.getD j 0)) n = 1 := sd_up_k.1
    have ecn : sd_c (sd_up D n 1 (nI ln.length) (fun j => ln.getD j 0)) n = ln.length := sd_up_k.2.2.1.trans (nI_cl (by omega))
    have et : sd_t (sd_up D n 1 (nI ln.length) (fun j => ln.getD j 0)) n = fun j => ln.getD j 0 := sd_up_k.2.2.2
    unfold cd_1
    rw [eq, ek, ecn, et]
    refine ⟨⟨hq2, v5.1.1⟩, by decide, fun z => absurd z (by decide), fun _ => ⟨tb, qc, ln.length - 0, ⟨htb, v5.2.2.2.1.1.1.1⟩, ⟨hqc, v5.2.2.2.1.1.2.1.1⟩, ?_⟩, fun z => absurd z (by decide)⟩
    have es : sp_sub (fun i => ln.getD i 0) 0 (ln.length - 0) = (List.range ln.length).map (fun j => ln.getD j 0) := by
      unfold sp_sub
      rw [Nat.sub_zero]
      refine List.map_congr_left (fun i _ => ?_)
      rw [Nat.zero_add]
    rw [← es]
    exact v5
  · refine jw_icmp_lt 29 rfl rfl (fun z => absurd z (fun z => cn ((nI_ltI (b := 60) (by omega) (by decide)).mp z))) (fun _ => ?_)
    exact jw_throw (E := "java/lang/IllegalStateException") ts_E_text_19 (by omega) (by decide) (by omega) (by omega) (fun c hc => jw_nc hc _) (q1 (by omega) h1 (hc1.po f1))

