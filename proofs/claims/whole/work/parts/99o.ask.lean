/-! ENGINE: what is asked of it -/
theorem cE_errorAt {g : jg_G} (hg : (jg_l g).stackTraces = false) {d mc ms : Nat} {h : jh_H} {col ad R : Nat → Nat} {E : cd_E} {se n sn tw : Nat} {ln O : List Nat} {D : sd_D} {TP : Nat → Option tp_X} {er : Int32} {Q : jw_O → jh_H → Prop} (hc : ce g h col ad R E se (ln, n, D, TP, er, O, sn, tw)) (hq : Q (.inl (some (.inl er))) h) : jw_C g d mc ms m_E_errorAt [.inr (.inr (some (ad 0)))] h Q := by
  refine jw_intro (ls := [some (.inr (.inr (some (ad 0))))]) (by decide) k_E_errorAt rfl (by simp [lo_fit, jv_c]) hg ?_
  obtain ⟨⟨a1, a2, a3, a4, a5, a6, a7, a8, a9⟩, -⟩ := hc.out
  refine jw_aload_n rfl rfl ?_
  refine jw_gi rfl g_E_30 (a1) (a8) ?_
  refine jw_ireturn rfl rfl rfl ?_
  exact hq
theorem cE_kind {g : jg_G} (hg : (jg_l g).stackTraces = false) {d mc ms : Nat} {h : jh_H} {col ad R : Nat → Nat} {E : cd_E} {se n sn tw : Nat} {ln O : List Nat} {D : sd_D} {TP : Nat → Option tp_X} {er x : Int32} {Q : jw_O → jh_H → Prop} (hc : ce g h col ad R E se (ln, n, D, TP, er, O, sn, tw)) (hd : 11 ≤ d) (hmc : 1 ≤ mc) (hms : 6 ≤ ms)
    (q1 : (x < 0 ∨ nI n ≤ x) → ∀ h', cpost g h col ad se h' (ln, n, D, TP, er, O, sn, tw + 1) → Q (.inr "java/util/NoSuchElementException") h')
    (q2 : ∀ i, i < n → x = nI i → ∀ h', cpost g h col ad se h' (ln, n, D, TP, er, O, sn, tw) → Q (.inl (some (.inl (nI (sd_k D i))))) h') : jw_C g d mc ms m_E_kind [.inr (.inr (some (ad 0))), .inl x] h Q := by
  refine jw_intro (ls := [some (.inr (.inr (some (ad 0)))), some (.inl x)]) (by decide) k_E_kind rfl (by simp [lo_fit, jv_c]) hg ?_
  obtain ⟨⟨a1, a2, a3, a4, a5, a6, a7, a8, a9⟩, -⟩ := hc.out
  obtain ⟨hc1, f1⟩ := hc.tw (tw' := tw + 1)
  refine jw_aload_n rfl rfl ?_
  refine jw_dup rfl rfl ?_
  refine jw_gi rfl g_E_41 (a1) (a9) ?_
  refine js_iconst (x := 1) rfl rfl ?_
  refine jw_iaddV rfl (nI_1 tw) ?_
  refine jw_pi rfl p_E_kind_41 (a1) ?_
  obtain ⟨h1, eh1⟩ : ∃ z, z = jh_si h (ad 0) 7 (nI (tw + 1)) := ⟨_, rfl⟩
  rw [← eh1] at hc1 f1
  rw [← eh1]
  obtain ⟨⟨b1, b2, b3, b4, b5, b6, b7, b8, b9⟩, bl, bd, -⟩ := hc1.out
  refine jw_aload_n rfl rfl ?_
  refine jw_iload_n rfl rfl ?_
  refine js_call (As := [.inl x]) rfl l_E_isData c_E_90 i_E_isData s_E_isData jc_o0 rfl (b1) rfl (cE_isData (d := d - 1) (mc := 0) (ms := 0) hg b1 b6 bd.2.2.1.1 (fun z => ?_) (fun i hi ex => ?_)) (by omega) (Nat.le_of_ble_eq_true rfl) (by omega) (by omega) rfl
  · refine jw_if_ne 28 rfl rfl (fun z => absurd (rfl) z) (fun _ => ?_)
    exact jw_throw (E := "java/util/NoSuchElementException") ts_E_kind_18 (by omega) (by decide) (by omega) (by omega) (fun c hc => jw_nc hc _) (q1 z h1 (hc1.po f1))
  · subst ex
    obtain ⟨hc2, f2⟩ := hc1.tw (tw' := tw)
    obtain ⟨⟨d1, d2, d3, -⟩, dl, dd, -⟩ := hc2.out
    have hn60 := dd.2.2.1.1
    obtain ⟨s1, s2, s3⟩ := cd_size (dd.2.2.1.2 i hi)
    refine jw_if_ne 28 rfl rfl (fun _ => ?_) (fun z => absurd z (by decide))
    refine jw_aload_n rfl rfl ?_
    refine jw_dup rfl rfl ?_
    refine jw_gi rfl g_E_41 (b1) (b9) ?_
    refine js_iconst (x := 1) rfl rfl ?_
    refine jw_isubV rfl (nI_pred tw) ?_
    refine jw_pi rfl p_E_kind_41 (b1) ?_
    refine jw_aload_n rfl rfl ?_
    refine jw_gr rfl g_E_20 (d1) (d3) ?_
    refine jw_iload_n rfl rfl ?_
    refine js_aald (i) rfl (dd.1) (by decide) (by rfl) rfl (by omega) (by omega) (dd.2.1 i hi) ?_
    refine jw_gi rfl g_E_99 (s1) (s3) ?_
    refine jw_ireturn rfl rfl rfl ?_
    exact q2 i hi rfl _ (hc2.po (f1.tr f2 (fun _ _ z => z)))
theorem cE_size {g : jg_G} (hg : (jg_l g).stackTraces = false) {d mc ms : Nat} {h : jh_H} {col ad R : Nat → Nat} {E : cd_E} {se n sn tw : Nat} {ln O : List Nat} {D : sd_D} {TP : Nat → Option tp_X} {er x : Int32} {Q : jw_O → jh_H → Prop} (hc : ce g h col ad R E se (ln, n, D, TP, er, O, sn, tw)) (hd : 11 ≤ d) (hmc : 1 ≤ mc) (hms : 6 ≤ ms)
    (q1 : (x < 0 ∨ nI n ≤ x) → ∀ h', cpost g h col ad se h' (ln, n, D, TP, er, O, sn, tw + 1) → Q (.inr "java/util/NoSuchElementException") h')
    (q2 : ∀ i, i < n → x = nI i → ∀ h', cpost g h col ad se h' (ln, n, D, TP, er, O, sn, tw) → Q (.inl (some (.inl (nI (sv_len D (sv_of D i)))))) h') : jw_C g d mc ms m_E_size [.inr (.inr (some (ad 0))), .inl x] h Q := by
  refine jw_intro (ls := [some (.inr (.inr (some (ad 0)))), some (.inl x)]) (by decide) k_E_size rfl (by simp [lo_fit, jv_c]) hg ?_
  obtain ⟨⟨a1, a2, a3, a4, a5, a6, a7, a8, a9⟩, -⟩ := hc.out
  obtain ⟨hc1, f1⟩ := hc.tw (tw' := tw + 1)
  refine jw_aload_n rfl rfl ?_
  refine jw_dup rfl rfl ?_
  refine jw_gi rfl g_E_41 (a1) (a9) ?_
  refine js_iconst (x := 1) rfl rfl ?_
  refine jw_iaddV rfl (nI_1 tw) ?_
  refine jw_pi rfl p_E_size_41 (a1) ?_
  obtain ⟨h1, eh1⟩ : ∃ z, z = jh_si h (ad 0) 7 (nI (tw + 1)) := ⟨_, rfl⟩
  rw [← eh1] at hc1 f1
  rw [← eh1]
  obtain ⟨⟨b1, b2, b3, b4, b5, b6, b7, b8, b9⟩, bl, bd, -⟩ := hc1.out
  refine jw_aload_n rfl rfl ?_
  refine jw_iload_n rfl rfl ?_
  refine js_call (As := [.inl x]) rfl l_E_isData c_E_90 i_E_isData s_E_isData jc_o0 rfl (b1) rfl (cE_isData (d := d - 1) (mc := 0) (ms := 0) hg b1 b6 bd.2.2.1.1 (fun z => ?_) (fun i hi ex => ?_)) (by omega) (Nat.le_of_ble_eq_true rfl) (by omega) (by omega) rfl
  · refine jw_if_ne 28 rfl rfl (fun z => absurd (rfl) z) (fun _ => ?_)
    exact jw_throw (E := "java/util/NoSuchElementException") ts_E_size_18 (by omega) (by decide) (by omega) (by omega) (fun c hc => jw_nc hc _) (q1 z h1 (hc1.po f1))
  · subst ex
    obtain ⟨hc2, f2⟩ := hc1.tw (tw' := tw)
    obtain ⟨⟨d1, d2, d3, -⟩, dl, dd, -⟩ := hc2.out
    have hn60 := dd.2.2.1.1
    obtain ⟨s1, s2, s3⟩ := cd_size (dd.2.2.1.2 i hi)
    refine jw_if_ne 28 rfl rfl (fun _ => ?_) (fun z => absurd z (by decide))
    refine jw_aload_n rfl rfl ?_
    refine jw_dup rfl rfl ?_
    refine jw_gi rfl g_E_41 (b1) (b9) ?_
    refine js_iconst (x := 1) rfl rfl ?_
    refine jw_isubV rfl (nI_pred tw) ?_
    refine jw_pi rfl p_E_size_41 (b1) ?_
    refine jw_aload_n rfl rfl ?_
    refine jw_gr rfl g_E_20 (d1) (d3) ?_
    refine jw_iload_n rfl rfl ?_
    refine js_aald (i) rfl (dd.1) (by decide) (by rfl) rfl (by omega) (by omega) (dd.2.1 i hi) ?_
    refine js_call (As := []) rfl l_V_measure c_E_167 i_V_measure s_V_measure jc_o2 rfl (s1) rfl (cv_measure (d := d - 1) (mc := 0) (ms := 0) hg dd.2.2.1 (vl_of dd.2.2.1 hi) ?_) (by omega) (Nat.le_of_ble_eq_true rfl) (by omega) (by omega) rfl
    refine jw_ireturn rfl rfl rfl ?_
    exact q2 i hi rfl _ (hc2.po (f1.tr f2 (fun _ _ z => z)))
theorem cE_at {g : jg_G} (hg : (jg_l g).stackTraces = false) {d mc ms : Nat} {h : jh_H} {col ad R : Nat → Nat} {E : cd_E} {se n sn tw : Nat} {ln O : List Nat} {D : sd_D} {TP : Nat → Option tp_X} {er x : Int32} {Q : jw_O → jh_H → Prop} (hc : ce g h col ad R E se (ln, n, D, TP, er, O, sn, tw)) (hd : 11 ≤ d) (hmc : 1 ≤ mc) (hms : 6 ≤ ms)
    (q1 : (x < 0 ∨ nI O.length ≤ x) → ∀ h', cpost g h col ad se h' (ln, n, D, TP, er, O, sn, tw + 1) → Q (.inr "java/lang/IndexOutOfBoundsException") h')
    (q2 : ∀ i, i < O.length → x = nI i → ∀ h', cpost g h col ad se h' (ln, n, D, TP, er, O, sn, tw) → Q (.inl (some (.inl (nI (O.getD i 0))))) h') : jw_C g d mc ms m_E_at [.inr (.inr (some (ad 0))), .inl x] h Q := by
  refine jw_intro (ls := [some (.inr (.inr (some (ad 0)))), some (.inl x)]) (by decide) k_E_at rfl (by simp [lo_fit, jv_c]) hg ?_
  obtain ⟨⟨a1, a2, a3, a4, a5, a6, a7, a8, a9⟩, -⟩ := hc.out
  obtain ⟨hc1, f1⟩ := hc.tw (tw' := tw + 1)
  refine jw_aload_n rfl rfl ?_
  refine jw_dup rfl rfl ?_
  refine jw_gi rfl g_E_41 (a1) (a9) ?_
  refine js_iconst (x := 1) rfl rfl ?_
  refine jw_iaddV rfl (nI_1 tw) ?_
  refine jw_pi rfl p_E_at_41 (a1) ?_
  refine jw_iload_n rfl rfl ?_
  obtain ⟨h1, eh1⟩ : ∃ z, z = jh_si h (ad 0) 7 (nI (tw + 1)) := ⟨_, rfl⟩
  rw [← eh1] at hc1 f1
  rw [← eh1]
  obtain ⟨⟨b1, b2, b3, b4, b5, b6, b7, b8, b9⟩, bl, bd, bt, bn, -⟩ := hc1.out
  have at28 : (x < 0 ∨ nI O.length ≤ x) → jw_J g d m_E_at jw_T0 28 [some (.inr (.inr (some (ad 0)))), some (.inl x)] [] h1 mc ms Q := fun z => jw_throw (E := "java/lang/IndexOutOfBoundsException") ts_E_at_28 (by omega) (by decide) hmc hms (fun c hc => jw_nc hc _) (q1 z h1 (hc1.po f1))
  obtain ⟨⟨n1, n2, n3, n4, n5, n6, n7, n8, n9, n10⟩, nt, n204⟩ := bn
  have hO : O.length ≤ 400 := nt.1.2.2.2.2.1
  refine jw_if_lt 28 rfl rfl (fun z => at28 (Or.inl z)) (fun z1 => ?_)
  refine jw_iload_n rfl rfl ?_
  refine jw_aload_n rfl rfl ?_
  refine jw_gr rfl g_E_37 (b1) (b5) ?_
  refine jw_gr rfl g_E_158 (n1) (n10) ?_
  refine jw_gi rfl g_E_51 (nt.1.1) (nt.1.2.2.2.1) ?_
  refine jw_icmp_lt 38 rfl rfl (fun z2 => ?_) (fun z2 => at28 (Or.inr (Int32.not_lt.mp z2)))
  rcases pk_ix x (n := O.length) (by omega) with z | z | ⟨i, hi, rfl⟩
  · exact absurd z z1
  · exact absurd z2 (Int32.not_lt.mpr z)
  · obtain ⟨hc2, f2⟩ := hc1.tw (tw' := tw)
    obtain ⟨⟨d1, d2, d3, d4, d5, -⟩, dl, dd, dt, ⟨⟨m1, m2, m3, m4, m5, m6, m7, m8, m9, m10⟩, mt, -⟩, -⟩ := hc2.out
    refine jw_aload_n rfl rfl ?_
    refine jw_dup rfl rfl ?_
    refine jw_gi rfl g_E_41 (b1) (b9) ?_
    refine js_iconst (x := 1) rfl rfl ?_
    refine jw_isubV rfl (nI_pred tw) ?_
    refine jw_pi rfl p_E_at_41 (b1) ?_
    refine jw_aload_n rfl rfl ?_
    refine jw_gr rfl g_E_37 (d1) (d5) ?_
    refine jw_gr rfl g_E_158 (m1) (m10) ?_
    refine jw_gr rfl g_E_163 (mt.1.1) (mt.1.2.2.1) ?_
    refine jw_iload_n rfl rfl ?_
    refine js_caldV (i) rfl (mt.1.2.1) (by decide) (by rfl) rfl (by omega) (by omega) ((mt.2 i hi).1) ?_
    refine jw_ireturn rfl rfl rfl ?_
    exact q2 i hi rfl _ (hc2.po (f1.tr f2 (fun _ _ z => z)))
theorem cE_there {g : jg_G} (hg : (jg_l g).stackTraces = false) {d mc ms : Nat} {h : jh_H} {a tp : Nat} {P : Nat → Prop} {TP : Nat → Option tp_X} {Q : jw_O → jh_H → Prop} (ho : jh_O h a 0) (h4 : jh_r h a 4 = some tp) (hT : et g h P TP tp) (hq : Q (.inl (some (.inl (nI (tp_cnt TP 4))))) h) : jw_C g d mc ms m_E_templatesThere [.inr (.inr (some a))] h Q := by
  refine jw_intro (ls := [some (.inr (.inr (some a))), none, none]) (by decide) k_E_templatesThere rfl (by simp [lo_fit, jv_c]) hg ?_
  refine js_iconst (x := 0) rfl rfl ?_
  refine js_istore_n rfl rfl (by decide) rfl ?_
  refine js_iconst (x := 0) rfl rfl ?_
  refine js_istore_n rfl rfl (by decide) rfl ?_
  have loop : ∀ m k kc ks, k + m = 4 → jw_J g d m_E_templatesThere jw_T0 4 [some (.inr (.inr (some a))), some (.inl (nI (tp_cnt TP k))), some (.inl (nI k))] [] h kc ks Q := by
    intro m
    induction m with
    | zero =>
      intro k kc ks hk
      have : k = 4 := by omega
      subst this
      refine jw_iload_n rfl rfl ?_
      refine js_iconst (x := 4) rfl rfl ?_
      refine jw_icmp_ge 27 rfl rfl (fun _ => ?_) (fun z => absurd (by decide) z)
      refine jw_iload_n rfl rfl ?_
      refine jw_ireturn rfl rfl rfl ?_
      exact hq
    | succ m ih =>
      intro k kc ks hk
      have hk4 : k < 4 := by omega
      have hp := hT.2 k hk4
      refine jw_iload_n rfl rfl ?_
      refine js_iconst (x := 4) rfl rfl ?_
      refine jw_icmp_ge 27 rfl rfl (fun z => absurd z (fun z => absurd ((nI_leI (a := 4) (by decide) (by omega)).mp z) (by omega))) (fun _ => ?_)
      refine jw_aload_n rfl rfl ?_
      refine jw_gr rfl g_E_26 (ho) (h4) ?_
      cases hX : TP k with
      | none =>
        rw [hX] at hp
        refine jw_iload_n rfl rfl ?_
        refine js_aald (k) rfl (hT.1) (by decide) (by rfl) rfl (by omega) (by omega) (hp) ?_
        refine jw_ifnull 21 rfl rfl (fun _ => ?_) (fun x_ z_ => by cases z_)
        refine js_iinc rfl rfl (nI_1 k) rfl (by decide) rfl ?_
        refine jw_goto 4 rfl rfl ?_
        have e : tp_cnt TP (k + 1) = tp_cnt TP k := by rw [tp_cnt, hX]; rfl
        rw [← e]
        exact ih (k + 1) _ _ (by omega)
      | some X =>
        rw [hX] at hp
        obtain ⟨-, A, T, rt, hr, -⟩ := hp
        refine jw_iload_n rfl rfl ?_
        refine js_aald (k) rfl (hT.1) (by decide) (by rfl) rfl (by omega) (by omega) (hr) ?_
        refine jw_ifnull 21 rfl rfl (fun z_ => by cases z_) (fun _ _ => ?_)
        refine js_iinc rfl rfl (nI_1 (tp_cnt TP k)) rfl (by decide) rfl ?_
        refine js_iinc rfl rfl (nI_1 k) rfl (by decide) rfl ?_
        refine jw_goto 4 rfl rfl ?_
        have e : tp_cnt TP (k + 1) = tp_cnt TP k + 1 := by rw [tp_cnt, hX]; rfl
        rw [← e]
        exact ih (k + 1) _ _ (by omega)
  exact loop 4 0 _ _ rfl
theorem cE_count {g : jg_G} (hg : (jg_l g).stackTraces = false) {d mc ms : Nat} {h : jh_H} {col ad R : Nat → Nat} {E : cd_E} {se n sn tw : Nat} {ln O : List Nat} {D : sd_D} {TP : Nat → Option tp_X} {er w : Int32} {Q : jw_O → jh_H → Prop} (hc : ce g h col ad R E se (ln, n, D, TP, er, O, sn, tw)) (hd : 2 ≤ d) (hq : Q (.inl (some (.inl (ct_ans (nI n) (nI ln.length) (nI (tp_cnt TP 4)) (nI O.length) (nI sn) (nI tw) w)))) h) : jw_C g d mc ms m_E_count [.inr (.inr (some (ad 0))), .inl w] h Q := by
  refine jw_intro (ls := [some (.inr (.inr (some (ad 0)))), some (.inl w)]) (by decide) k_E_count rfl (by simp [lo_fit, jv_c]) hg ?_
  obtain ⟨⟨a1, a2, a3, a4, a5, a6, a7, a8, a9⟩, al, ad', at', ⟨⟨n1, n2, n3, n4, n5, n6, n7, n8, n9, n10⟩, nt, n204⟩, -⟩ := hc.out
  refine jw_iload_n rfl rfl ?_
  by_cases w0 : w = 0
  · subst w0
    refine jw_tableIn 40 rfl (by decide) (by decide) rfl rfl ?_
    refine jw_aload_n rfl rfl ?_
    refine jw_gi rfl g_E_63 (a1) (a6) ?_
    refine jw_ireturn rfl rfl rfl ?_
    exact hq
  by_cases w1 : w = 1
  · subst w1
    refine jw_tableIn 45 rfl (by decide) (by decide) rfl rfl ?_
    refine jw_aload_n rfl rfl ?_
    refine jw_gr rfl g_E_14 (a1) (a2) ?_
    refine jw_gi rfl g_E_51 (al.1.1) (al.1.2.2.2.1) ?_
    refine jw_ireturn rfl rfl rfl ?_
    exact hq
  by_cases w2 : w = 2
  · subst w2
    refine jw_tableIn 53 rfl (by decide) (by decide) rfl rfl ?_
    refine jw_aload_n rfl rfl ?_
    refine js_call (As := []) rfl l_E_templatesThere c_E_171 i_E_templatesThere s_E_templatesThere jc_o0 rfl (a1) rfl (cE_there (d := d - 1) (mc := 0) (ms := 0) hg a1 a4 at' ?_) (by omega) (Nat.le_of_ble_eq_true rfl) (by omega) (by omega) rfl
    refine jw_ireturn rfl rfl rfl ?_
    exact hq
  by_cases w3 : w = 3
  · subst w3
    refine jw_tableIn 58 rfl (by decide) (by decide) rfl rfl ?_
    refine jw_aload_n rfl rfl ?_
    refine jw_gr rfl g_E_37 (a1) (a5) ?_
    refine jw_gr rfl g_E_158 (n1) (n10) ?_
    refine jw_gi rfl g_E_51 (nt.1.1) (nt.1.2.2.2.1) ?_
    refine jw_ireturn rfl rfl rfl ?_
    exact hq
  by_cases w4 : w = 4
  · subst w4
    refine jw_tableIn 69 rfl (by decide) (by decide) rfl rfl ?_
    refine jw_aload_n rfl rfl ?_
    refine jw_gr rfl g_E_37 (a1) (a5) ?_
    refine jw_gi rfl g_E_174 (n1) (n204) ?_
    refine jw_ireturn rfl rfl rfl ?_
    exact hq
  by_cases w5 : w = 5
  · subst w5
    refine jw_tableIn 77 rfl (by decide) (by decide) rfl rfl ?_
    refine jw_aload_n rfl rfl ?_
    refine jw_gi rfl g_E_41 (a1) (a9) ?_
    refine jw_ireturn rfl rfl rfl ?_
    exact hq
  · refine jw_tableOut 82 rfl ?_ rfl ?_
    · have e : ∀ (k : Int32) (m : Int), k.toInt = m → w ≠ k → w.toInt ≠ m := fun k m hm hk z => hk (Int32.toInt_inj.mp (z.trans hm.symm))
      have h0 := e 0 0 rfl w0
      have h1 := e 1 1 rfl w1
      have h2 := e 2 2 rfl w2
      have h3 := e 3 3 rfl w3
      have h4 := e 4 4 rfl w4
      have h5 := e 5 5 rfl w5
      clear e a1 a2 a3 a4 a5 a6 a7 a8 a9
      omega
    refine js_iconst (x := (-1)) rfl rfl ?_
    refine jw_ireturn rfl rfl rfl ?_
    unfold ct_ans at hq
    rw [if_neg w0, if_neg w1, if_neg w2, if_neg w3, if_neg w4, if_neg w5] at hq
    exact hq

