/-! ENGINE: typing; new DATA -/
set_option maxHeartbeats 4000000 in
set_option maxRecDepth 100000 in
theorem cv_number2 {g : jg_G} (hg : (jg_l g).stackTraces = false) {d mc ms : Nat} {h : jh_H} {x : Int32} {Q : jw_O → jh_H → Prop} (hd : 2 ≤ d) (hmc : 1 ≤ mc) (hms : 7 ≤ ms) (hq : ∀ h' q, q ∉ jh_L h → vl_num h' q x → jh_i h' q 134 = 0 → fr (fun _ => False) h h' → Q (.inl (some (.inr (.inr (some q))))) h') : jw_C g d mc ms m_V_ofNumber [.inl x] h Q := by
  refine jw_intro (ls := [some (.inl x), none]) (by decide) k_V_ofNumber rfl (by simp [lo_fit, jv_c]) hg ?_
  have e2 : (jc_q 2).2.2 = 7 := rfl
  refine jw_new rfl jc_o2 n_V_9 a_2 b_2 e_2 (by omega) (by omega) (fun q0 hq0 => ?_)
  refine jw_dup rfl rfl ?_
  refine js_callI (As := []) rfl l_V_init c_V_11 i_V_init rfl rfl rfl (cv_init (d := d - 1) (mc := 0) (ms := 0) hg (by omega) ?_) (by omega) (Nat.le_of_ble_eq_true rfl) (by omega) (by omega) rfl
  refine js_astore_n rfl rfl (by decide) rfl ?_
  refine jw_aload_n rfl rfl ?_
  refine js_iconst (x := 0) rfl rfl ?_
  refine jw_pi rfl p_V_ofNumber_12 (jh_nw_O) ?_
  refine jw_aload_n rfl rfl ?_
  refine jw_iload_n rfl rfl ?_
  refine jw_pi rfl p_V_ofNumber_16 (jh_nw_O) ?_
  refine jw_aload_n rfl rfl ?_
  refine jw_areturn rfl rfl (Or.inl ⟨_, rfl⟩) ?_
  refine hq _ q0 hq0 ⟨jh_nw_O, (jh_u_k _ _ _ _ (by decide)).trans (jh_u_s _ _ _ _), jh_u_s _ _ _ _, (jh_u_k _ _ _ _ (by decide)).trans ((jh_u_k _ _ _ _ (by decide)).trans (jh_z_s _ _ _ _))⟩ ((jh_u_k _ _ _ _ (by decide)).trans ((jh_u_k _ _ _ _ (by decide)).trans (jh_z_s _ _ _ _))) ?_
  have f0 : fr (fun b => b = q0) h (jh_nw h q0 2 (jc_q 2).2.2) := fr.nw fr.rf hq0
  exact (fr.si (fr.si f0 rfl) rfl).mono (fun b hb z => hq0 (by rw [← z]; exact hb))
set_option maxHeartbeats 4000000 in
set_option maxRecDepth 100000 in
theorem cv_text2 {g : jg_G} (hg : (jg_l g).stackTraces = false) {d mc ms : Nat} {h : jh_H} {tb ch cap : Nat} {X : List Nat} {Q : jw_O → jh_H → Prop} (ht : tx_is h tb ch cap X) (hd : 2 ≤ d) (hmc : 1 ≤ mc) (hms : 7 ≤ ms) (hq : ∀ h' q, q ∉ jh_L h → vl_txt h' q tb ch cap X → jh_i h' q 134 = 0 → fr (fun _ => False) h h' → Q (.inl (some (.inr (.inr (some q))))) h') : jw_C g d mc ms m_V_ofText [.inr (.inr (some tb))] h Q := by
  refine jw_intro (ls := [some (.inr (.inr (some tb))), none]) (by decide) k_V_ofText rfl (by simp [lo_fit, jv_c]) hg ?_
  have e2 : (jc_q 2).2.2 = 7 := rfl
  refine jw_new rfl jc_o2 n_V_9 a_2 b_2 e_2 (by omega) (by omega) (fun q0 hq0 => ?_)
  refine jw_dup rfl rfl ?_
  refine js_callI (As := []) rfl l_V_init c_V_11 i_V_init rfl rfl rfl (cv_init (d := d - 1) (mc := 0) (ms := 0) hg (by omega) ?_) (by omega) (Nat.le_of_ble_eq_true rfl) (by omega) (by omega) rfl
  refine js_astore_n rfl rfl (by decide) rfl ?_
  refine jw_aload_n rfl rfl ?_
  refine js_iconst (x := 1) rfl rfl ?_
  refine jw_pi rfl p_V_ofText_12 (jh_nw_O) ?_
  refine jw_aload_n rfl rfl ?_
  refine jw_aload_n rfl rfl ?_
  refine jw_pr rfl p_V_ofText_19 (jh_nw_O) ?_
  refine jw_aload_n rfl rfl ?_
  refine jw_areturn rfl rfl (Or.inl ⟨_, rfl⟩) ?_
  have f0 : fr (fun b => b = q0) h (jh_nw h q0 2 (jc_q 2).2.2) := fr.nw fr.rf hq0
  have f1 : fr (fun _ => False) h (jh_sr (jh_si (jh_nw h q0 2 (jc_q 2).2.2) q0 128 1) q0 130 (some tb)) := (fr.sr (fr.si f0 rfl) rfl).mono (fun b hb z => hq0 (by rw [← z]; exact hb))
  exact hq _ q0 hq0 ⟨jh_nw_O, jh_u_s _ _ _ _, jh_u_s _ _ _ _, ht.fr f1 (fun z => z) (fun z => z), (jh_u_k _ _ _ _ (by decide)).trans (jh_z_s _ _ _ _)⟩ ((jh_u_k _ _ _ _ (by decide)).trans (jh_z_s _ _ _ _)) f1
theorem cE_type {g : jg_G} (hg : (jg_l g).stackTraces = false) {d mc ms : Nat} {h : jh_H} {col ad R : Nat → Nat} {E : cd_E} {se n sn tw : Nat} {ln O : List Nat} {D : sd_D} {TP : Nat → Option tp_X} {er c : Int32} {Q : jw_O → jh_H → Prop} (hc : ce g h col ad R E se (ln, n, D, TP, er, O, sn, tw)) (hd : 11 ≤ d) (hmc : 1 ≤ mc) (hms : 6 ≤ ms)
    (q1 : (c < 0 ∨ 127 < c) → ∀ h', cpost g h col ad se h' (ln, n, D, TP, er, O, sn, tw + 1) → Q (.inr "java/lang/IllegalArgumentException") h')
    (q2 : ∀ k, k < 128 → c = nI k → ln.length = 200 → ∀ h', cpost g h col ad se h' (ln, n, D, TP, er, O, sn, tw + 1) → Q (.inr "java/lang/IllegalStateException") h')
    (q3 : ∀ k, k < 128 → c = nI k → ln.length < 200 → ∀ h', cpost g h col ad se h' (ln ++ [k], n, D, TP, er, O, sn, tw) → Q (.inl (some (.inl (nI (ln.length + 1))))) h') : jw_C g d mc ms m_E_type [.inr (.inr (some (ad 0))), .inl c] h Q := by
  refine jw_intro (ls := [some (.inr (.inr (some (ad 0)))), some (.inl c)]) (by decide) k_E_type rfl (by simp [lo_fit, jv_c]) hg ?_
  obtain ⟨⟨a1, a2, a3, a4, a5, a6, a7, a8, a9⟩, -⟩ := hc.out
  obtain ⟨hc1, f1⟩ := hc.tw (tw' := tw + 1)
  refine jw_aload_n rfl rfl ?_
  refine jw_dup rfl rfl ?_
  refine jw_gi rfl g_E_41 (a1) (a9) ?_
  refine js_iconst (x := 1) rfl rfl ?_
  refine jw_iaddV rfl (nI_1 tw) ?_
  refine jw_pi rfl p_E_type_41 (a1) ?_
  refine jw_iload_n rfl rfl ?_
  obtain ⟨h1, eh1⟩ : ∃ z, z = jh_si h (ad 0) 7 (nI (tw + 1)) := ⟨_, rfl⟩
  rw [← eh1] at hc1 f1
  rw [← eh1]
  obtain ⟨⟨b1, b2, b3, b4, b5, b6, b7, b8, b9⟩, bl, -⟩ := hc1.out
  have at20 : (c < 0 ∨ 127 < c) → jw_J g d m_E_type jw_T0 20 [some (.inr (.inr (some (ad 0)))), some (.inl c)] [] h1 mc ms Q := fun z => jw_throw (E := "java/lang/IllegalArgumentException") ts_E_type_20 (by omega) (by decide) hmc hms (fun c hc => jw_nc hc _) (q1 z h1 (hc1.po f1))
  refine jw_if_lt 20 rfl rfl (fun z => at20 (Or.inl z)) (fun z1 => ?_)
  refine jw_iload_n rfl rfl ?_
  refine js_bipush (x := 127) rfl rfl ?_
  refine jw_icmp_le 30 rfl rfl (fun z2 => ?_) (fun z2 => at20 (Or.inr (Int32.not_le.mp z2)))
  obtain ⟨k, hk, rfl⟩ := nI_of2 (M := 127) (n := 127) (by decide) z1 z2
  have hl := bl.1.2.2.2.1
  have hl2 : ln.length ≤ 200 := bl.1.2.2.2.2.1
  refine jw_aload_n rfl rfl ?_
  refine jw_gr rfl g_E_14 (b1) (b2) ?_
  refine jw_gi rfl g_E_51 (bl.1.1) (hl) ?_
  refine js_sipush (x := 200) rfl rfl ?_
  by_cases c2 : ln.length < 200
  · refine jw_icmp_lt 53 rfl rfl (fun _ => ?_) (fun z => absurd ((nI_ltI (b := 200) (by omega) (by decide)).mpr c2) z)
    refine jw_aload_n rfl rfl ?_
    refine jw_gr rfl g_E_14 (b1) (b2) ?_
    refine jw_iload_n rfl rfl ?_
    refine jw_i2cV rfl (nI_c (c := k) (by omega)) ?_
    refine js_call (As := [.inl (nI k)]) rfl l_T_append c_E_59 i_T_append s_T_append jc_o1 rfl (bl.1.1) rfl (ct_app (d := d - 1) (mc := 1) (ms := 6) hg bl (by omega) (fun z => absurd z (by omega)) (fun _ h2 t2 f2 => ?_) (fun z => absurd z (by omega))) (by omega) (Nat.le_of_ble_eq_true rfl) (by omega) (by omega) rfl
    obtain ⟨d1, d2, d3, d4, d5, d6⟩ := hc1.out
    obtain ⟨k1, k2, k3, k4, k5, k6, k7, k8⟩ := id d6
    have nc : ∀ {b}, col b ≠ 5 → col b ≠ 6 → ¬ tx_S (ad 1) (ad 2) b := fun h5 h6 z => by rcases z with z | z; exact h5 (by rw [z]; exact k4); exact h6 (by rw [z]; exact k5)
    have a2' := d1.mv f2 (nc (by rw [k3]; decide) (by rw [k3]; decide))
    have c2' : ce g h2 col ad R E se (ln ++ [k], n, D, TP, er, O, sn, tw + 1) := ce.mk ⟨a2', t2, d3.mv f2 (nc (by rw [k6]; decide) (by rw [k6]; decide)) (fun b hb _ => nc (by rw [hb]; decide) (by rw [hb]; decide)) k7, d4.mv f2 (fun b hb => nc (by rw [hb]; decide) (by rw [hb]; decide)) (nc (by rw [k8]; decide) (by rw [k8]; decide)), d5.mv f2 (fun i hi => nc (by rw [k2 i hi]; decide) (by rw [k2 i hi]; decide)), d6.sm f2⟩
    obtain ⟨c3, f3⟩ := c2'.tw (tw' := tw)
    have F2 : fr (cF col) h1 h2 := f2.mono (fun b _ z => by rcases z with z | z; exact ⟨by rw [z, k4]; decide, by rw [z, k4]; decide⟩; exact ⟨by rw [z, k5]; decide, by rw [z, k5]; decide⟩)
    refine jw_aload_n rfl rfl ?_
    refine jw_dup rfl rfl ?_
    refine jw_gi rfl g_E_41 (a2'.1) (a2'.2.2.2.2.2.2.2.2) ?_
    refine js_iconst (x := 1) rfl rfl ?_
    refine jw_isubV rfl (nI_pred tw) ?_
    refine jw_pi rfl p_E_type_41 (a2'.1) ?_
    refine jw_aload_n rfl rfl ?_
    refine jw_gr rfl g_E_14 (a2'.1) (a2'.2.1) ?_
    refine jw_gi rfl g_E_51 (t2.1.1) ((jh_u_k _ _ _ _ (by decide)).trans t2.1.2.2.2.1) ?_
    refine jw_ireturn rfl rfl rfl ?_
    rw [List.length_append, List.length_singleton]
    exact q3 k (by omega) rfl c2 _ (c3.po ((f1.tr F2 (fun _ _ z => z)).tr f3 (fun _ _ z => z)))
  · refine jw_icmp_lt 53 rfl rfl (fun z => absurd z (fun z => c2 ((nI_ltI (b := 200) (by omega) (by decide)).mp z))) (fun _ => ?_)
    exact jw_throw (E := "java/lang/IllegalStateException") ts_E_type_43 (by omega) (by decide) (by omega) (by omega) (fun c hc => jw_nc hc _) (q2 k (by omega) rfl (by omega) h1 (hc1.po f1))
theorem cE_isData {g : jg_G} (hg : (jg_l g).stackTraces = false) {d mc ms : Nat} {h : jh_H} {a n : Nat} {x : Int32} {Q : jw_O → jh_H → Prop} (ho : jh_O h a 0) (h2 : jh_i h a 2 = nI n) (hn : n ≤ 60) (q1 : (x < 0 ∨ nI n ≤ x) → Q (.inl (some (.inl 0))) h) (q2 : ∀ i, i < n → x = nI i → Q (.inl (some (.inl 1))) h) : jw_C g d mc ms m_E_isData [.inr (.inr (some a)), .inl x] h Q := by
  refine jw_intro (ls := [some (.inr (.inr (some a))), some (.inl x)]) (by decide) k_E_isData rfl (by simp [lo_fit, jv_c]) hg ?_
  have at16 : (x < 0 ∨ nI n ≤ x) → jw_J g d m_E_isData jw_T0 16 [some (.inr (.inr (some a))), some (.inl x)] [] h mc ms Q := by
    intro z
    refine js_iconst (x := 0) rfl rfl ?_
    refine jw_ireturn rfl rfl rfl ?_
    exact q1 z
  refine jw_iload_n rfl rfl ?_
  refine jw_if_lt 16 rfl rfl (fun c => at16 (Or.inl c)) (fun c => ?_)
  refine jw_iload_n rfl rfl ?_
  refine jw_aload_n rfl rfl ?_
  refine jw_gi rfl g_E_63 (ho) (h2) ?_
  refine jw_icmp_ge 16 rfl rfl (fun c2 => at16 (Or.inr c2)) (fun c2 => ?_)
  refine js_iconst (x := 1) rfl rfl ?_
  refine jw_goto 17 rfl rfl ?_
  refine jw_ireturn rfl rfl rfl ?_
  rcases pk_ix x (n := n) (by omega) with z | z | ⟨i, hi, rfl⟩
  · exact absurd z c
  · exact absurd z c2
  · exact q2 i hi rfl
theorem cE_keep {g : jg_G} (hg : (jg_l g).stackTraces = false) {d mc ms : Nat} {h : jh_H} {a da n v : Nat} {Q : jw_O → jh_H → Prop} (ho : jh_O h a 0) (h1 : jh_r h a 1 = some da) (hA : jh_A h da 4 60) (h2 : jh_i h a 2 = nI n) (hn : n < 60) (hv : jh_O h v 2) (hq : Q (.inl (some (.inl (nI n)))) (jh_si (jh_sR h da n (some v)) a 2 (nI (n + 1)))) : jw_C g d mc ms m_E_keep [.inr (.inr (some a)), .inr (.inr (some v))] h Q := by
  refine jw_intro (ls := [some (.inr (.inr (some a))), some (.inr (.inr (some v)))]) (by decide) k_E_keep rfl (by simp [lo_fit, jv_c]) hg ?_
  refine jw_aload_n rfl rfl ?_
  refine jw_gr rfl g_E_20 (ho) (h1) ?_
  refine jw_aload_n rfl rfl ?_
  refine jw_gi rfl g_E_63 (ho) (h2) ?_
  refine jw_aload_n rfl rfl ?_
  refine js_aast (n) rfl (hA) (hv) (by decide) jc_o2 (by rfl) rfl (by omega) (by omega) ?_
  refine jw_aload_n rfl rfl ?_
  refine jw_dup rfl rfl ?_
  refine jw_gi rfl g_E_63 (ho) (h2) ?_
  refine js_iconst (x := 1) rfl rfl ?_
  refine jw_iaddV rfl (nI_1 n) ?_
  refine jw_pi rfl p_E_keep_63 (ho) ?_
  refine jw_aload_n rfl rfl ?_
  refine jw_gi rfl g_E_63 (ho) (jh_u_s _ _ _ _) ?_
  refine js_iconst (x := 1) rfl rfl ?_
  refine jw_isubV rfl (nI_pred n) ?_
  refine jw_ireturn rfl rfl rfl ?_
  exact hq
/-- a new DATA -/
def sd_up (D : sd_D) (n k : Nat) (v : Int32) (t : Nat → Nat) : sd_D := (va_up D.1 n k, va_up D.2.1 n v, va_up D.2.2.1 n t, D.2.2.2.1, D.2.2.2.2)
theorem sd_up_k {D : sd_D} {n k : Nat} {v : Int32} {t : Nat → Nat} : sd_k (sd_up D n k v t) n = k ∧ sd_v (sd_up D n k v t) n = v ∧ sd_c (sd_up D n k v t) n = v.toNatClampNeg ∧ sd_t (sd_up D n k v t) n = t := ⟨va_up_self _ _ _, va_up_self _ _ _, congrArg Int32.toNatClampNeg (va_up_self _ _ _), va_up_self _ _ _⟩
theorem sd_up_o {D : sd_D} {n k x : Nat} {v : Int32} {t : Nat → Nat} (hx : x < n) : sd_k (sd_up D n k v t) x = sd_k D x ∧ sd_v (sd_up D n k v t) x = sd_v D x ∧ sd_c (sd_up D n k v t) x = sd_c D x ∧ sd_t (sd_up D n k v t) x = sd_t D x := ⟨va_up_ne _ _ (by omega), va_up_ne _ _ (by omega), congrArg Int32.toNatClampNeg (va_up_ne _ _ (by omega)), va_up_ne _ _ (by omega)⟩
set_option maxHeartbeats 4000000 in
set_option maxRecDepth 100000 in
theorem cd_1.up {h : jh_H} {n k : Nat} {v : Int32} {t : Nat → Nat} {D : sd_D} {E E' : cd_E} {P : Nat → Prop} {x : Nat} (hc : cd_1 h n D E P x) (hx : x < n) (hE : ∀ x, x < n → E'.1 x = E.1 x ∧ E'.2.1 x = E.2.1 x ∧ E'.2.2 x = E.2.2 x) : cd_1 h (n + 1) (sd_up D n k v t) E' P x := by
  obtain ⟨e1, e2, e3, e4⟩ := sd_up_o (D := D) (k := k) (v := v) (t := t) hx
  obtain ⟨f1, f2, f3⟩ := hE x hx
  obtain ⟨h1, h2, h3, h4, h5⟩ := hc
  unfold cd_1
  rw [e1, e2, e3, e4, f1, f2, f3]
  refine ⟨h1, h2, h3, h4, fun z => ?_⟩
  obtain ⟨a1, a2, a3, a4, a5, a6, a7, a8, a9, a10, a11⟩ := h5 z
  refine ⟨a1, a2, a3, a4, a5, a6, a7, a8, a9, a10, fun j hj => ?_⟩
  obtain ⟨b1, b2, b3⟩ := a11 j hj
  refine ⟨by rw [b1]; exact congrArg some (hE _ b2).1.symm, by show sd_p D x j < n + 1; omega, ?_⟩
  unfold nm_rel at b3 ⊢
  rw [e1]
  exact b3
theorem ce.new {g : jg_G} {h h1 : jh_H} {col ad R : Nat → Nat} {E E' : cd_E} {se n sn tw k v : Nat} {w : Int32} {t : Nat → Nat} {ln ln' O : List Nat} {D : sd_D} {TP : Nat → Option tp_X} {er : Int32} (hc : ce g h col ad R E se (ln, n, D, TP, er, O, sn, tw)) (hn : n < 60) (f1 : fr (fun b => b = ad 1) h h1) (hln : tx_is h1 (ad 1) (ad 2) 200 ln') (hv : v ∉ jh_L h) (e1 : E'.1 n = v) (hE : ∀ x, x < n → E'.1 x = E.1 x ∧ E'.2.1 x = E.2.1 x ∧ E'.2.2 x = E.2.2 x) (hD : cd_1 h1 (n + 1) (sd_up D n k w t) E' (fun b => b ∉ jh_L h ∧ b ∈ jh_L h1) n) (h134 : jh_i h1 v 134 = 0) (h0 : 2 ≤ k → w = 0) :
    ce g (jh_si (jh_sR h1 (ad 3) n (some v)) (ad 0) 2 (nI (n + 1))) (cnew h h1 col 1) ad R E' se (ln', n + 1, sd_up D n k w t, TP, er, O, sn, tw) ∧ fr (cF col) h (jh_si (jh_sR h1 (ad 3) n (some v)) (ad 0) 2 (nI (n + 1))) ∧ jh_O h1 v 2 := by
  obtain ⟨c1, c2, c3, c4, c5, c6⟩ := hc.out
  obtain ⟨k1, k2, k3, k4, k5, k6, k7, k8⟩ := id c6
  obtain ⟨h2, eh2⟩ : ∃ z, z = jh_si (jh_sR h1 (ad 3) n (some v)) (ad 0) 2 (nI (n + 1)) := ⟨_, rfl⟩
  rw [← eh2]
  have g2 : fr (fun b => b = ad 0 ∨ b = ad 3) h1 h2 := by rw [eh2]; exact fr.si (fr.sR fr.rf (Or.inr rfl)) (Or.inl rfl)
  have f2 : fr (fun b => b = ad 1 ∨ b = ad 0 ∨ b = ad 3) h h2 := (f1.mono (fun _ _ z => Or.inl z)).tr g2 (fun _ _ z => Or.inr z)
  have a3 : ad 3 ∈ jh_L h := k7 _ (by rw [k6]; decide)
  have a0 : ad 0 ∈ jh_L h := k7 _ (by rw [k3]; decide)
  have nb : ∀ {b}, col b ≠ 4 → col b ≠ 7 → ¬ (b = ad 0 ∨ b = ad 3) := fun h4 h7 z => by rcases z with z | z; exact h4 (by rw [z]; exact k3); exact h7 (by rw [z]; exact k6)
  have nc : ∀ {b}, col b ≠ 5 → col b ≠ 4 → col b ≠ 7 → ¬ (b = ad 1 ∨ b = ad 0 ∨ b = ad 3) := fun h5 h4 h7 z => by rcases z with z | z; exact h5 (by rw [z]; exact k4); exact nb h4 h7 z
  have nn : ∀ {b}, b ∉ jh_L h → ¬ (b = ad 0 ∨ b = ad 3) := fun hb z => by rcases z with z | z; exact hb (by rw [z]; exact a0); exact hb (by rw [z]; exact a3)
  have L2 : jh_L h2 = jh_L h1 := by rw [eh2]; rfl
  have n30 : ad 3 ≠ ad 0 := fun e => by have := k6; rw [e, k3] at this; cases this
  have y0 := f1.2 _ a0 (fun e => by have := k3; rw [e, k4] at this; cases this)
  have y3 := f1.2 _ a3 (fun e => by have := k6; rw [e, k4] at this; cases this)
  obtain ⟨d1, d2, d3, d4, d5, d6, d7⟩ := c3
  have eP : ∀ b, col b = 1 → jh_eq h h2 b := fun b hb => f2.2 b (k7 b (by rw [hb]; decide)) (nc (by rw [hb]; decide) (by rw [hb]; decide) (by rw [hb]; decide))
  have Ov : jh_O h1 v 2 := by rw [← e1]; exact (cd_size hD).1
  refine ⟨ce.mk ⟨?_, hln.fr g2 (nb (by rw [k4]; decide) (by rw [k4]; decide)) (nb (by rw [k5]; decide) (by rw [k5]; decide)), ⟨f2.A d1, fun x hx => ?_, ⟨by omega, fun x hx => ?_⟩, fun y hy => ?_, fun x y hx hy e => ?_, fun x y hx hy hkx hky e => ?_, ?_⟩, (c4.mv f2 (fun b hb => nc (by rw [hb]; decide) (by rw [hb]; decide) (by rw [hb]; decide)) (nc (by rw [k8]; decide) (by rw [k8]; decide) (by rw [k8]; decide))).mono (fun b hb => cnew_is k7 (by decide) hb), c5.mv f2 (fun i hi => nc (by rw [k2 i hi]; decide) (by rw [k2 i hi]; decide) (by rw [k2 i hi]; decide)), ?_⟩, f2.mono (fun b _ z => ?_), Ov⟩
  · obtain ⟨a1, a2, a3', a4, a5, a6, a7, a8, a9⟩ := c1
    have ei : ∀ q, q ≠ 2 → jh_i h2 (ad 0) q = jh_i h (ad 0) q := fun q hq => by rw [eh2]; exact (jh_u_k _ _ _ _ hq).trans (y0.2.2.1 q)
    have er : ∀ q, jh_r h2 (ad 0) q = jh_r h (ad 0) q := fun q => by rw [eh2]; exact y0.2.2.2.2.1 q
    exact ⟨f2.O a1, (er 0).trans a2, (er 1).trans a3', (er 4).trans a4, (er 6).trans a5, by rw [eh2]; exact jh_u_s _ _ _ _, (ei 3 (by decide)).trans a7, (ei 5 (by decide)).trans a8, (ei 7 (by decide)).trans a9⟩
  · have hx : x < n + 1 := hx
    by_cases c : x = n
    · rw [c, e1, eh2]
      exact jh_u_s _ _ _ _
    · rw [(hE x (by omega)).1, eh2]
      exact (jh_u_k _ _ _ _ c).trans ((y3.2.2.2.2.2.2.2 x).trans (d2 x (by omega)))
  · have hx : x < n + 1 := hx
    by_cases c : x = n
    · rw [c]
      exact (hD.eq (fun b hb => g2.2 b hb.2 (nn hb.1))).mono (fun b hb => cnew_new hb.1 hb.2)
    · exact (((d3.2 x (by omega)).eq eP).up (by omega) hE).mono (fun b hb => cnew_is k7 (by decide) hb)
  · have hy : y < n + 1 := hy
    by_cases c : y = n
    · refine ⟨0, Nat.zero_le _, ?_⟩
      rw [c, e1]
      exact ((g2.2 v Ov.1 (nn hv)).2.2.1 134).trans h134
    · obtain ⟨s, s1, s2⟩ := d4 y (by omega)
      refine ⟨s, s1, ?_⟩
      rw [(hE y (by omega)).1]
      exact ((eP _ (d3.2 y (by omega)).1).2.2.1 134).trans s2
  · have hx : x < n + 1 := hx
    have hy : y < n + 1 := hy
    by_cases cx : x = n
    · by_cases cy : y = n
      · rw [cx, cy]
      · rw [cx, e1, (hE y (by omega)).1] at e
        exact absurd (k7 _ (by rw [(d3.2 y (by omega)).1]; decide)) (by rw [← e]; exact hv)
    · by_cases cy : y = n
      · rw [cy, e1, (hE x (by omega)).1] at e
        exact absurd (k7 _ (by rw [(d3.2 x (by omega)).1]; decide)) (by rw [e]; exact hv)
      · rw [(hE x (by omega)).1, (hE y (by omega)).1] at e
        exact d5 x y (by omega) (by omega) e
  · have hx : x < n + 1 := hx
    have hy : y < n + 1 := hy
    have hnew : 2 ≤ sd_k (sd_up D n k w t) n → E'.2.1 n ∉ jh_L h ∧ E'.2.2 n ∉ jh_L h := fun z => ⟨(hD.2.2.2.2 z).1.1, (hD.2.2.2.2 z).2.1.1⟩
    have hold : ∀ y, y < n → 2 ≤ sd_k (sd_up D n k w t) y → 2 ≤ sd_k D y ∧ E'.2.1 y ∈ jh_L h ∧ E'.2.2 y ∈ jh_L h := by
      intro y hy z
      rw [(sd_up_o hy).1] at z
      rw [(hE y hy).2.1, (hE y hy).2.2]
      obtain ⟨a1, a2, -⟩ := (d3.2 y hy).2.2.2.2 z
      exact ⟨z, k7 _ (by rw [a1]; decide), k7 _ (by rw [a2]; decide)⟩
    by_cases cx : x = n
    · by_cases cy : y = n
      · rw [cx, cy]
      · rw [cx] at e hkx
        obtain ⟨z1, z2, z3⟩ := hold y (by omega) hky
        rcases e with e | e
        · exact absurd z2 (by rw [← e]; exact (hnew hkx).1)
        · exact absurd z3 (by rw [← e]; exact (hnew hkx).2)
    · obtain ⟨w1, w2, w3⟩ := hold x (by omega) hkx
      by_cases cy : y = n
      · rw [cy] at e hky
        rcases e with e | e
        · exact absurd w2 (by rw [e]; exact (hnew hky).1)
        · exact absurd w3 (by rw [e]; exact (hnew hky).2)
      · obtain ⟨z1, z2, z3⟩ := hold y (by omega) hky
        rw [(hE x (by omega)).2.1, (hE x (by omega)).2.2, (hE y (by omega)).2.1, (hE y (by omega)).2.2] at e
        exact d6 x y (by omega) (by omega) w1 z1 e
  · refine rk_new d7 (fun x hx => ⟨(sd_up_o hx).1, (sd_up_o hx).2.2.1, fun _ => rfl⟩) (fun z => ?_)
    rw [sd_up_k.1] at z
    rw [sd_up_k.2.2.1, h0 z]
    rfl
  · have := c6.mv (c := 1) f2
    unfold cnew at this ⊢
    rw [L2] at this
    exact this
  · rcases z with z | z | z
    · exact ⟨by rw [z, k4]; decide, by rw [z, k4]; decide⟩
    · exact ⟨by rw [z, k3]; decide, by rw [z, k3]; decide⟩
    · exact ⟨by rw [z, k6]; decide, by rw [z, k6]; decide⟩
theorem ce.keep {g : jg_G} {h h2 h3 : jh_H} {col ad R : Nat → Nat} {E E' : cd_E} {se n sn tw k v : Nat} {w : Int32} {t : Nat → Nat} {ln ln' O : List Nat} {D : sd_D} {TP : Nat → Option tp_X} {er : Int32} (f0 : fr (cF col) h h2) (hc : ce g h2 col ad R E se (ln, n, D, TP, er, O, sn, tw)) (hn : n < 60) (f1 : fr (fun b => b = ad 1) h2 h3) (hln : tx_is h3 (ad 1) (ad 2) 200 ln') (hv : v ∉ jh_L h2) (e1 : E'.1 n = v) (hE : ∀ x, x < n → E'.1 x = E.1 x ∧ E'.2.1 x = E.2.1 x ∧ E'.2.2 x = E.2.2 x) (hD : cd_1 h3 (n + 1) (sd_up D n k w t) E' (fun b => b ∉ jh_L h2 ∧ b ∈ jh_L h3) n) (h134 : jh_i h3 v 134 = 0) (h0 : 2 ≤ k → w = 0) :
    cpost g h col ad se (jh_si (jh_sR h3 (ad 3) n (some v)) (ad 0) 2 (nI (n + 1))) (ln', n + 1, sd_up D n k w t, TP, er, O, sn, tw) := by
  obtain ⟨z1, z2, z3⟩ := hc.new hn f1 hln hv e1 hE hD h134 h0
  exact ⟨cnew h2 h3 col 1, R, E', se, z1, fun b hb => cnew_old (f0.1 b hb).1, f0.tr z2 (fun _ _ z => z), by omega⟩

