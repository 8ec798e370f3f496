/-! TEXT: letters raised, copies, comparing, finding, names -/
set_option maxHeartbeats 4000000 in
set_option maxRecDepth 100000 in
theorem ct_raise {g : jg_G} (hg : (jg_l g).stackTraces = false) {d mc ms : Nat} {h : jh_H} {a ch cap : Nat} {X : List Nat} {Q : jw_O → jh_H → Prop} (ht : tx_is h a ch cap X) (hq : ∀ h', tx_is h' a ch cap (X.map ev_up) → fr (tx_S a ch) h h' → Q (.inl none) h') : jw_C g d mc ms m_T_raiseLetters [.inr (.inr (some a))] h Q := by
  refine jw_intro (ls := [some (.inr (.inr (some a))), none]) (by decide) k_T_raiseLetters rfl (by simp [lo_fit, jv_c]) hg ?_
  have hcap := ht.1.2.2.2.2
  have hac : a ≠ ch := jOA_ne ht.1.1 ht.1.2.1 (by decide)
  have loop : ∀ r j h1, j + r = X.length → (∀ i, i < X.length → jh_I h1 ch i = nI (if i < j then ev_up (X.getD i 0) else X.getD i 0)) → fr (fun b => b = ch) h h1 → jw_J g d m_T_raiseLetters jw_T0 2 [some (.inr (.inr (some a))), some (.inl (nI j))] [] h1 mc ms Q := by
    intro r
    induction r with
    | zero =>
      intro j h1 hj y1 f1
      have ea := f1.2 a ht.1.1.1 hac
      have ho := ea.O ht.1.1
      have hl : jh_i h1 a 65 = nI X.length := (ea.2.2.1 65).trans ht.1.2.2.2.1
      have ej : j = X.length := by omega
      subst ej
      refine jw_iload_n rfl rfl ?_
      refine jw_aload_n rfl rfl ?_
      refine jw_gi rfl g_T_15 (ho) (hl) ?_
      refine jw_icmp_ge 57 rfl rfl (fun _ => ?_) (fun z => absurd (Int32.le_refl _) z)
      refine jw_return rfl rfl ?_
      refine hq h1 ⟨⟨ho, f1.A ht.1.2.1, (ea.2.2.2.2.1 64).trans ht.1.2.2.1, by rw [List.length_map]; exact hl, by rw [List.length_map]; exact hcap⟩, fun i hi => ?_⟩ (f1.mono (fun _ _ z => Or.inr z))
      rw [List.length_map] at hi
      have e : (X.map ev_up).getD i 0 = ev_up (X.getD i 0) := by simp [List.getD, List.getElem?_map, List.getElem?_eq_getElem hi]
      have h2 := y1 i hi
      rw [if_pos hi] at h2
      refine ⟨by rw [e]; exact h2, ?_⟩
      rw [e, ev_up]
      have := (ht.2 i hi).2
      split <;> omega
    | succ r ih =>
      intro j h1 hj y1 f1
      have ea := f1.2 a ht.1.1.1 hac
      have ho := ea.O ht.1.1
      have hA := f1.A ht.1.2.1
      have hl : jh_i h1 a 65 = nI X.length := (ea.2.2.1 65).trans ht.1.2.2.2.1
      have hre : jh_r h1 a 64 = some ch := (ea.2.2.2.2.1 64).trans ht.1.2.2.1
      have yj := y1 j (by omega)
      rw [if_neg (Nat.lt_irrefl j)] at yj
      have hc := (ht.2 j (by omega)).2
      generalize hcc : X.getD j 0 = c at *
      have next : ∀ h2, jh_I h2 ch j = nI (ev_up c) → (∀ i, i ≠ j → jh_I h2 ch i = jh_I h1 ch i) → fr (fun b => b = ch) h h2 → jw_J g d m_T_raiseLetters jw_T0 51 [some (.inr (.inr (some a))), some (.inl (nI j))] [] h2 mc ms Q := by
        intro h2 e1 e2 f2
        refine js_iinc rfl rfl (nI_1 j) rfl (by decide) rfl ?_
        refine jw_goto 2 rfl rfl ?_
        refine ih (j + 1) h2 (by omega) (fun i hi => ?_) f2
        by_cases e : i = j
        · subst e; rw [if_pos (by omega), hcc]; exact e1
        · rw [e2 i e, y1 i hi]
          by_cases c2 : i < j
          · rw [if_pos c2, if_pos (by omega)]
          · rw [if_neg c2, if_neg (by omega)]
      refine jw_iload_n rfl rfl ?_
      refine jw_aload_n rfl rfl ?_
      refine jw_gi rfl g_T_15 (ho) (hl) ?_
      refine jw_icmp_ge 57 rfl rfl (fun z => absurd z (fun z => absurd ((nI_leI (by omega) (by omega)).mp z) (by omega))) (fun _ => ?_)
      refine jw_aload_n rfl rfl ?_
      refine jw_gr rfl g_T_9 (ho) (hre) ?_
      refine jw_iload_n rfl rfl ?_
      refine js_caldV (j) rfl (hA) (by decide) (by rfl) rfl (by omega) (by omega) (yj) ?_
      refine js_bipush (x := 97) rfl rfl ?_
      by_cases c97 : c < 97
      · refine jw_icmp_lt 51 rfl rfl (fun _ => ?_) (fun z => absurd (nI_lt (b := 97) c97 (by omega)) z)
        exact next h1 (by rw [ev_up, if_neg (by rw [sp_lt]; simp; omega)]; exact yj) (fun _ _ => rfl) f1
      refine jw_icmp_lt 51 rfl rfl (fun z => absurd z (nI_nlt (b := 97) (by omega) (by omega))) (fun _ => ?_)
      refine jw_aload_n rfl rfl ?_
      refine jw_gr rfl g_T_9 (ho) (hre) ?_
      refine jw_iload_n rfl rfl ?_
      refine js_caldV (j) rfl (hA) (by decide) (by rfl) rfl (by omega) (by omega) (yj) ?_
      refine js_bipush (x := 122) rfl rfl ?_
      by_cases c122 : 122 < c
      · refine jw_icmp_gt 51 rfl rfl (fun _ => ?_) (fun z => absurd (nI_lt (a := 122) c122 (by omega)) z)
        exact next h1 (by rw [ev_up, if_neg (by rw [sp_lt]; simp; omega)]; exact yj) (fun _ _ => rfl) f1
      refine jw_icmp_gt 51 rfl rfl (fun z => absurd z (nI_nlt (a := 122) (by omega) (by omega))) (fun _ => ?_)
      refine jw_aload_n rfl rfl ?_
      refine jw_gr rfl g_T_9 (ho) (hre) ?_
      refine jw_iload_n rfl rfl ?_
      refine jw_aload_n rfl rfl ?_
      refine jw_gr rfl g_T_9 (ho) (hre) ?_
      refine jw_iload_n rfl rfl ?_
      refine js_caldV (j) rfl (hA) (by decide) (by rfl) rfl (by omega) (by omega) (yj) ?_
      refine js_bipush (x := 97) rfl rfl ?_
      refine jw_isubV rfl (pk_sub (b := 97) (by omega)) ?_
      refine js_bipush (x := 65) rfl rfl ?_
      refine jw_iaddV rfl (nI_add _ 65) ?_
      refine jw_i2cV rfl (nI_c (by omega)) ?_
      refine js_cast (j) rfl (hA) (by decide) (by rfl) rfl (by omega) (by omega) ?_
      refine next _ ?_ (fun i hi => jh_u_k _ _ _ _ hi) (fr.sI f1 rfl)
      rw [ev_up, if_pos (by rw [sp_lt]; simp; omega)]
      exact (jh_u_s _ _ _ _).trans ((nI_n (by omega)).trans (congrArg nI (by omega)))
  refine js_iconst (x := 0) rfl rfl ?_
  refine js_istore_n rfl rfl (by decide) rfl ?_
  exact loop X.length 0 h (by omega) (fun i hi => by rw [if_neg (by omega)]; exact (ht.2 i hi).1) fr.rf
set_option maxHeartbeats 4000000 in
set_option maxRecDepth 100000 in
theorem ct_Tinit {g : jg_G} (hg : (jg_l g).stackTraces = false) {d mc ms : Nat} {h : jh_H} {a n : Nat} {Q : jw_O → jh_H → Prop} (ho : jh_O h a 1) (hz : jh_i h a 65 = 0) (hn : n ≤ 400) (hd1 : 1 ≤ d) (hmc : 1 ≤ mc) (hms : n ≤ ms) (hq : ∀ h' ch, ch ∉ jh_L h → tx_is h' a ch n [] → fr (fun b => b = a) h h' → Q (.inl none) h') : jw_C g d mc ms m_T_init [.inr (.inr (some a)), .inl (nI n)] h Q := by
  refine jw_intro (ls := [some (.inr (.inr (some a))), some (.inl (nI n))]) (by decide) k_T_init rfl (by simp [lo_fit, jv_c]) hg ?_
  refine jw_aload_n rfl rfl ?_
  refine jw_obj rfl oi_T_3 (by omega) (Nat.le_of_ble_eq_true rfl) ?_
  refine jw_aload_n rfl rfl ?_
  refine jw_iload_n rfl rfl ?_
  refine jw_newa (t := 0) (n := n) rfl (by decide) rfl (Or.inl ⟨rfl, rfl⟩) v_0 rfl (by rw [show componentBytes (jc_at 0) = 2 from rfl]; omega) (by omega) (by omega) (by omega) (fun q6 hq6 => ?_)
  have haq : a ≠ q6 := fun e => hq6 (by rw [← e]; exact ho.1)
  refine jw_pr rfl p_T_init_9 (jh_nwO ho hq6) ?_
  refine jw_return rfl rfl ?_
  refine hq _ q6 hq6 ⟨⟨jh_nwO ho hq6, jh_nw_A, jh_u_s _ _ _ _, (jh_z_a _ _ _ haq).trans hz, Nat.zero_le _, hn⟩, fun j hj => absurd hj (by show ¬ j < 0; omega)⟩ (fr.sr (fr.nw fr.rf hq6) rfl)
theorem sub_len2 (t : Nat → Nat) (p n : Nat) : (sp_sub t p n).length = n := by rw [sp_sub, List.length_map, List.length_range]
set_option maxHeartbeats 4000000 in
set_option maxRecDepth 100000 in
theorem ct_copyOf {g : jg_G} (hg : (jg_l g).stackTraces = false) {d mc ms : Nat} {h : jh_H} {a ch cap p e : Nat} {X : List Nat} {Q : jw_O → jh_H → Prop} (ht : tx_is h a ch cap X) (hpe : p ≤ e) (he : e ≤ X.length) (hd1 : 2 ≤ d) (hmc : 2 ≤ mc) (hms : 2 + (e - p) ≤ ms)
    (hq : ∀ h' q qc, q ∉ jh_L h → qc ∉ jh_L h → tx_is h' q qc (e - p) (sp_sub (fun i => X.getD i 0) p (e - p)) → fr (fun _ => False) h h' → Q (.inl (some (.inr (.inr (some q))))) h') : jw_C g d mc ms m_T_copyOf [.inr (.inr (some a)), .inl (nI p), .inl (nI e)] h Q := by
  refine jw_intro (ls := [some (.inr (.inr (some a))), some (.inl (nI p)), some (.inl (nI e)), none, none]) (by decide) k_T_copyOf rfl (by simp [lo_fit, jv_c]) hg ?_
  have hcap := ht.1.2.2.2.2
  have e2 : (jc_q 1).2.2 = 2 := rfl
  refine jw_new rfl jc_o1 n_T_10 a_1 b_1 e_1 (by omega) (by omega) (fun q0 hq0 => ?_)
  refine jw_dup rfl rfl ?_
  refine js_iconst (x := 0) rfl rfl ?_
  refine jw_iload_n rfl rfl ?_
  refine jw_iload_n rfl rfl ?_
  refine jw_isubV rfl (pk_sub hpe) ?_
  refine jw_max rfl mx_T_56 (by omega) (Nat.le_of_ble_eq_true rfl) ((nI_max (a := 0) (b := e - p) (by omega) (by omega)).trans (congrArg nI (show max 0 (e - p) = e - p by omega))) ?_
  have haq : a ≠ q0 := fun z => hq0 (by rw [← z]; exact ht.1.1.1)
  have hcq : ch ≠ q0 := fun z => hq0 (by rw [← z]; exact ht.1.2.1.1)
  have f0 : fr (fun _ => False) h (jh_nw h q0 1 (jc_q 1).2.2) := fr.nw fr.rf hq0
  refine js_callI (As := [.inl (nI (e - p))]) rfl l_T_init c_T_60 i_T_init rfl rfl rfl (ct_Tinit (d := d - 1) (mc := 1) (ms := e - p) hg jh_nw_O (jh_z_s _ _ _ _) (by omega) (by omega) (by omega) (by omega) (fun h1 qc hqc t1 f1 => ?_)) (by omega) (Nat.le_of_ble_eq_true rfl) (by omega) (by omega) rfl
  have hqcL : qc ∉ jh_L h := fun z => hqc (List.mem_append_left _ z)
  have F1 : fr (fun _ => False) h h1 := f0.tr f1 (fun x hx z => hq0 (by rw [← z]; exact hx))
  have loop : ∀ r j h2, j + r = e - p → tx_is h2 q0 qc (e - p) (sp_sub (fun i => X.getD i 0) p j) → fr (fun _ => False) h h2 → jw_J g d m_T_copyOf jw_T0 18 [some (.inr (.inr (some a))), some (.inl (nI p)), some (.inl (nI e)), some (.inr (.inr (some q0))), some (.inl (nI (p + j)))] [] h2 (mc - 1 - 1) (ms - 2 - (e - p)) Q := by
    intro r
    induction r with
    | zero =>
      intro j h2 hj t2 f2
      have ej : j = e - p := by omega
      subst ej
      refine jw_iload rfl rfl ?_
      refine jw_iload_n rfl rfl ?_
      refine jw_icmp_ge 41 rfl rfl (fun _ => ?_) (fun z => absurd (nI_le (by omega) (by omega)) z)
      refine jw_aload_n rfl rfl ?_
      refine jw_areturn rfl rfl (Or.inl ⟨_, rfl⟩) ?_
      exact hq h2 q0 qc hq0 hqcL t2 f2
    | succ r ih =>
      intro j h2 hj t2 f2
      have s2 := ht.fr f2 (fun z => z) (fun z => z)
      have sj := s2.2 (p + j) (by omega)
      have el := sub_len2 (fun i => X.getD i 0) p j
      refine jw_iload rfl rfl ?_
      refine jw_iload_n rfl rfl ?_
      refine jw_icmp_ge 41 rfl rfl (fun z => absurd z (fun z => absurd ((nI_leI (by omega) (by omega)).mp z) (by omega))) (fun _ => ?_)
      refine jw_aload_n rfl rfl ?_
      refine jw_aload_n rfl rfl ?_
      refine jw_gr rfl g_T_9 (s2.1.1) (s2.1.2.2.1) ?_
      refine jw_iload rfl rfl ?_
      refine js_caldV (p + j) rfl (s2.1.2.1) (by decide) (by rfl) rfl (by omega) (by omega) (sj.1) ?_
      refine js_call (As := [.inl (nI (X.getD (p + j) 0))]) rfl l_T_append c_T_35 i_T_append s_T_append jc_o1 rfl (t2.1.1) rfl (ct_app (d := d - 1) (mc := 0) (ms := 0) hg t2 sj.2 (fun z => absurd z (by omega)) (fun _ h3 t3 f3 => ?_) (fun z => absurd z (by omega))) (by omega) (Nat.le_of_ble_eq_true rfl) (by omega) (by omega) rfl
      refine js_iinc rfl rfl (nI_1 _) rfl (by decide) rfl ?_
      refine jw_goto 18 rfl rfl ?_
      have hx : ∀ x, x ∈ jh_L h → tx_S q0 qc x → False := fun x hx z => by
        rcases z with z | z
        · exact hq0 (by rw [← z]; exact hx)
        · exact hqcL (by rw [← z]; exact hx)
      refine ih (j + 1) h3 (by omega) ?_ (f2.tr f3 hx)
      rw [sub_snoc]; exact t3
  refine js_astore_n rfl rfl (by decide) rfl ?_
  refine jw_iload_n rfl rfl ?_
  refine js_istore rfl rfl (by decide) rfl ?_
  exact loop (e - p) 0 h1 (by omega) t1 F1
set_option maxHeartbeats 4000000 in
set_option maxRecDepth 100000 in
theorem ct_isLike {g : jg_G} (hg : (jg_l g).stackTraces = false) {d mc ms : Nat} {h : jh_H} {a ch cap b bh capb : Nat} {X Y : List Nat} {Q : jw_O → jh_H → Prop} (ht : tx_is h a ch cap X) (hy : tx_is h b bh capb Y) (hq : Q (.inl (some (.inl (sp_b (decide (X = Y)))))) h) : jw_C g d mc ms m_T_isLike [.inr (.inr (some a)), .inr (.inr (some b))] h Q := by
  refine jw_intro (ls := [some (.inr (.inr (some a))), some (.inr (.inr (some b))), none]) (by decide) k_T_isLike rfl (by simp [lo_fit, jv_c]) hg ?_
  have hcap := ht.1.2.2.2.2
  have hcapb := hy.1.2.2.2.2
  refine jw_aload_n rfl rfl ?_
  refine jw_gi rfl g_T_15 (ht.1.1) (ht.1.2.2.2.1) ?_
  refine jw_aload_n rfl rfl ?_
  refine jw_gi rfl g_T_15 (hy.1.1) (hy.1.2.2.2.1) ?_
  by_cases hl : X.length = Y.length
  rotate_left
  · rw [decide_eq_false (fun z => hl (by rw [z]))] at hq
    refine jw_icmp_eq 13 rfl rfl (fun z => absurd z (fun z => hl ((nI_eq (by omega) (by omega)).mp z))) (fun _ => ?_)
    refine js_iconst (x := 0) rfl rfl ?_
    refine jw_ireturn rfl rfl rfl ?_
    exact hq
  have loop : ∀ r j, j + r = X.length → (∀ i, i < j → X.getD i 0 = Y.getD i 0) → jw_J g d m_T_isLike jw_T0 15 [some (.inr (.inr (some a))), some (.inr (.inr (some b))), some (.inl (nI j))] [] h mc ms Q := by
    intro r
    induction r with
    | zero =>
      intro j hj he
      have ej : j = X.length := by omega
      subst ej
      rw [decide_eq_true (list_getD hl he)] at hq
      refine jw_iload_n rfl rfl ?_
      refine jw_aload_n rfl rfl ?_
      refine jw_gi rfl g_T_15 (ht.1.1) (ht.1.2.2.2.1) ?_
      refine jw_icmp_ge 46 rfl rfl (fun _ => ?_) (fun z => absurd (Int32.le_refl _) z)
      refine js_iconst (x := 1) rfl rfl ?_
      refine jw_ireturn rfl rfl rfl ?_
      exact hq
    | succ r ih =>
      intro j hj he
      have xj := ht.2 j (by omega)
      have yj := hy.2 j (by omega)
      refine jw_iload_n rfl rfl ?_
      refine jw_aload_n rfl rfl ?_
      refine jw_gi rfl g_T_15 (ht.1.1) (ht.1.2.2.2.1) ?_
      refine jw_icmp_ge 46 rfl rfl (fun z => absurd z (fun z => absurd ((nI_leI (by omega) (by omega)).mp z) (by omega))) (fun _ => ?_)
      refine jw_aload_n rfl rfl ?_
      refine jw_gr rfl g_T_9 (ht.1.1) (ht.1.2.2.1) ?_
      refine jw_iload_n rfl rfl ?_
      refine js_caldV (j) rfl (ht.1.2.1) (by decide) (by rfl) rfl (by omega) (by omega) (xj.1) ?_
      refine jw_aload_n rfl rfl ?_
      refine jw_gr rfl g_T_9 (hy.1.1) (hy.1.2.2.1) ?_
      refine jw_iload_n rfl rfl ?_
      refine js_caldV (j) rfl (hy.1.2.1) (by decide) (by rfl) rfl (by omega) (by omega) (yj.1) ?_
      by_cases ec : X.getD j 0 = Y.getD j 0
      · refine jw_icmp_eq 40 rfl rfl (fun _ => ?_) (fun z => absurd (by rw [ec]) z)
        refine js_iinc rfl rfl (nI_1 j) rfl (by decide) rfl ?_
        refine jw_goto 15 rfl rfl ?_
        refine ih (j + 1) (by omega) (fun i hi => ?_)
        by_cases e : i = j
        · subst e; exact ec
        · exact he i (by omega)
      · rw [decide_eq_false (fun z => ec (by rw [z]))] at hq
        refine jw_icmp_eq 40 rfl rfl (fun z => absurd z (fun z => ec ((nI_eq (by omega) (by omega)).mp z))) (fun _ => ?_)
        refine js_iconst (x := 0) rfl rfl ?_
        refine jw_ireturn rfl rfl rfl ?_
        exact hq
  refine jw_icmp_eq 13 rfl rfl (fun _ => ?_) (fun z => absurd (by rw [hl]) z)
  refine js_iconst (x := 0) rfl rfl ?_
  refine js_istore_n rfl rfl (by decide) rfl ?_
  exact loop X.length 0 (by omega) (fun i hi => absurd hi (by omega))
theorem st_out {t : Nat → Nat} {e p : Nat} {L : List Nat} (hL : L ≠ []) (h0 : ∀ c ∈ L, c ≠ 0) (h : e < p + L.length) : sp_st t e p L = false := by
  cases hs : sp_st t e p L with
  | false => rfl
  | true =>
    by_cases hp : p ≤ e
    · have := sp_st_len t hL h0 hp hs
      omega
    · cases L with
      | nil => exact absurd rfl hL
      | cons c r =>
        have ea : sp_at t p e = 0 := by rw [sp_at, if_neg (by omega)]
        rw [sp_st, ea, if_neg (fun z => h0 c List.mem_cons_self (Eq.symm z))] at hs
        exact hs.symm
theorem drop_cons {L : List Nat} {i : Nat} (h : i < L.length) : L.drop i = L.getD i 0 :: L.drop (i + 1) := by
  rw [List.drop_eq_getElem_cons h]
  congr 1
  simp [List.getD, List.getElem?_eq_getElem h]
set_option maxHeartbeats 4000000 in
set_option maxRecDepth 100000 in
theorem ct_hasWord {g : jg_G} (hg : (jg_l g).stackTraces = false) {d mc ms : Nat} {h : jh_H} {a ch cap n p e : Nat} {X L : List Nat} {Q : jw_O → jh_H → Prop} (ht : tx_is h a ch cap X) (hs : sk_ok n L) (hL : L ≠ []) (h0 : ∀ c ∈ L, c ≠ 0) (he : e ≤ X.length) (hp : p ≤ 1000) (hd1 : 4 ≤ d) (hq : Q (.inl (some (.inl (sp_b (sp_st (fun i => X.getD i 0) e p L))))) h) : jw_C g d mc ms m_T_hasWord [.inr (.inr (some a)), .inr (.inr (some (jg_c g n))), .inl (nI p), .inl (nI e)] h Q := by
  refine jw_intro (ls := [some (.inr (.inr (some a))), some (.inr (.inr (some (jg_c g n)))), some (.inl (nI p)), some (.inl (nI e)), none]) (by decide) k_T_hasWord rfl (by simp [lo_fit, jv_c]) hg ?_
  have hcap := ht.1.2.2.2.2
  have h100 := hs.2.2.2.2.2
  refine jw_iload_n rfl rfl ?_
  refine jw_aload_n rfl rfl ?_
  refine js_callK (As := []) rfl l_jS_length c_T_26 i_jS_length s_jS_length hs.2.1 rfl (ck_length (d := d - 1) (mc := 0) (ms := 0) hg hs (by omega) ?_) (by omega) (Nat.le_of_ble_eq_true rfl) (by omega) (by omega) rfl
  refine jw_iaddV rfl (nI_add _ _) ?_
  refine jw_iload_n rfl rfl ?_
  by_cases hout : e < p + L.length
  · rw [st_out hL h0 hout] at hq
    refine jw_icmp_gt 18 rfl rfl (fun _ => ?_) (fun z => absurd (nI_lt hout (by omega)) z)
    refine js_iconst (x := 0) rfl rfl ?_
    refine jw_ireturn rfl rfl rfl ?_
    exact hq
  have loop : ∀ r j, j + r = L.length → sp_st (fun i => X.getD i 0) e p L = sp_st (fun i => X.getD i 0) e (p + j) (L.drop j) → jw_J g d m_T_hasWord jw_T0 23 [some (.inr (.inr (some a))), some (.inr (.inr (some (jg_c g n)))), some (.inl (nI p)), some (.inl (nI e)), some (.inl (nI j))] [] h mc ms Q := by
    intro r
    induction r with
    | zero =>
      intro j hj heq
      have ej : j = L.length := by omega
      subst ej
      rw [heq, List.drop_length] at hq
      refine jw_iload rfl rfl ?_
      refine jw_aload_n rfl rfl ?_
      refine js_callK (As := []) rfl l_jS_length c_T_26 i_jS_length s_jS_length hs.2.1 rfl (ck_length (d := d - 1) (mc := 0) (ms := 0) hg hs (by omega) ?_) (by omega) (Nat.le_of_ble_eq_true rfl) (by omega) (by omega) rfl
      refine jw_icmp_ge 58 rfl rfl (fun _ => ?_) (fun z => absurd (Int32.le_refl _) z)
      refine js_iconst (x := 1) rfl rfl ?_
      refine jw_ireturn rfl rfl rfl ?_
      exact hq
    | succ r ih =>
      intro j hj heq
      have xj := ht.2 (p + j) (by omega)
      rw [drop_cons (show j < L.length by omega), sp_st, sp_at, if_pos (show p + j < e by omega)] at heq
      have hc : L.getD j 0 < 128 := by
        have : L.getD j 0 ∈ L := by
          rw [List.getD_eq_getElem?_getD, List.getElem?_eq_getElem (show j < L.length by omega)]; exact List.getElem_mem _
        exact hs.2.2.2.2.1 _ this
      refine jw_iload rfl rfl ?_
      refine jw_aload_n rfl rfl ?_
      refine js_callK (As := []) rfl l_jS_length c_T_26 i_jS_length s_jS_length hs.2.1 rfl (ck_length (d := d - 1) (mc := 0) (ms := 0) hg hs (by omega) ?_) (by omega) (Nat.le_of_ble_eq_true rfl) (by omega) (by omega) rfl
      refine jw_icmp_ge 58 rfl rfl (fun z => absurd z (fun z => absurd ((nI_leI (by omega) (by omega)).mp z) (by omega))) (fun _ => ?_)
      refine jw_aload_n rfl rfl ?_
      refine jw_gr rfl g_T_9 (ht.1.1) (ht.1.2.2.1) ?_
      refine jw_iload_n rfl rfl ?_
      refine jw_iload rfl rfl ?_
      refine jw_iaddV rfl (nI_add p j) ?_
      refine js_caldV (p + j) rfl (ht.1.2.1) (by decide) (by rfl) rfl (by omega) (by omega) (xj.1) ?_
      refine jw_aload_n rfl rfl ?_
      refine jw_iload rfl rfl ?_
      refine js_callK (As := [.inl (nI j)]) rfl l_jS_charAt c_T_31 i_jS_charAt s_jS_charAt hs.2.1 rfl (ck_charAt (d := d - 1) (mc := 0) (ms := 0) hg hs (by omega) (by omega) ?_) (by omega) (Nat.le_of_ble_eq_true rfl) (by omega) (by omega) rfl
      by_cases ec : X.getD (p + j) 0 = L.getD j 0
      · rw [if_pos ec] at heq
        refine jw_icmp_eq 52 rfl rfl (fun _ => ?_) (fun z => absurd (by rw [ec]) z)
        refine js_iinc rfl rfl (nI_1 j) rfl (by decide) rfl ?_
        refine jw_goto 23 rfl rfl ?_
        exact ih (j + 1) (by omega) heq
      · rw [heq, if_neg ec] at hq
        refine jw_icmp_eq 52 rfl rfl (fun z => absurd z (fun z => ec ((nI_eq (by omega) (by omega)).mp z))) (fun _ => ?_)
        refine js_iconst (x := 0) rfl rfl ?_
        refine jw_ireturn rfl rfl rfl ?_
        exact hq
  refine jw_icmp_gt 18 rfl rfl (fun z => absurd z (nI_nlt (by omega) (by omega))) (fun _ => ?_)
  refine jw_iload_n rfl rfl ?_
  refine jw_aload_n rfl rfl ?_
  refine jw_gi rfl g_T_15 (ht.1.1) (ht.1.2.2.2.1) ?_
  refine jw_icmp_le 20 rfl rfl (fun _ => ?_) (fun z => absurd (nI_le he (by omega)) z)
  refine js_iconst (x := 0) rfl rfl ?_
  refine js_istore rfl rfl (by decide) rfl ?_
  exact loop L.length 0 (by omega) rfl
set_option maxHeartbeats 4000000 in
set_option maxRecDepth 100000 in
theorem ct_find {g : jg_G} (hg : (jg_l g).stackTraces = false) {d mc ms : Nat} {h : jh_H} {a ch cap n p : Nat} {X L : List Nat} {Q : jw_O → jh_H → Prop} (ht : tx_is h a ch cap X) (hs : sk_ok n L) (hL : L ≠ []) (h0 : ∀ c ∈ L, c ≠ 0) (hp : p ≤ X.length) (hd1 : 5 ≤ d) (hq : Q (.inl (some (.inl (nI (sp_fd (fun i => X.getD i 0) X.length L (X.length - p) p))))) h) : jw_C g d mc ms m_T_find [.inr (.inr (some a)), .inr (.inr (some (jg_c g n))), .inl (nI p)] h Q := by
  refine jw_intro (ls := [some (.inr (.inr (some a))), some (.inr (.inr (some (jg_c g n)))), some (.inl (nI p)), none]) (by decide) k_T_find rfl (by simp [lo_fit, jv_c]) hg ?_
  have hcap := ht.1.2.2.2.2
  have loop : ∀ r j, j + r = X.length → Q (.inl (some (.inl (nI (sp_fd (fun i => X.getD i 0) X.length L r j))))) h → jw_J g d m_T_find jw_T0 2 [some (.inr (.inr (some a))), some (.inr (.inr (some (jg_c g n)))), some (.inl (nI p)), some (.inl (nI j))] [] h mc ms Q := by
    intro r
    induction r with
    | zero =>
      intro j hj hq
      have ej : j = X.length := by omega
      subst ej
      refine jw_iload_n rfl rfl ?_
      refine jw_aload_n rfl rfl ?_
      refine jw_gi rfl g_T_15 (ht.1.1) (ht.1.2.2.2.1) ?_
      refine jw_icmp_ge 31 rfl rfl (fun _ => ?_) (fun z => absurd (Int32.le_refl _) z)
      refine jw_aload_n rfl rfl ?_
      refine jw_gi rfl g_T_15 (ht.1.1) (ht.1.2.2.2.1) ?_
      refine jw_ireturn rfl rfl rfl ?_
      exact hq
    | succ r ih =>
      intro j hj hq
      rw [sp_fd] at hq
      refine jw_iload_n rfl rfl ?_
      refine jw_aload_n rfl rfl ?_
      refine jw_gi rfl g_T_15 (ht.1.1) (ht.1.2.2.2.1) ?_
      refine jw_icmp_ge 31 rfl rfl (fun z => absurd z (fun z => absurd ((nI_leI (by omega) (by omega)).mp z) (by omega))) (fun _ => ?_)
      refine jw_aload_n rfl rfl ?_
      refine jw_aload_n rfl rfl ?_
      refine jw_iload_n rfl rfl ?_
      refine jw_aload_n rfl rfl ?_
      refine jw_gi rfl g_T_15 (ht.1.1) (ht.1.2.2.2.1) ?_
      refine js_call (As := [.inr (.inr (some (jg_c g n))), .inl (nI j), .inl (nI X.length)]) rfl l_T_hasWord c_T_63 i_T_hasWord s_T_hasWord jc_o1 rfl (ht.1.1) rfl (ct_hasWord (d := d - 1) (mc := 0) (ms := 0) hg ht hs hL h0 (Nat.le_refl _) (by omega) (by omega) ?_) (by omega) (Nat.le_of_ble_eq_true rfl) (by omega) (by omega) rfl
      cases hst : sp_st (fun i => X.getD i 0) X.length j L with
      | true =>
        rw [hst, if_neg (fun z => by cases z.2)] at hq
        refine jw_if_eq 25 rfl rfl (fun z => absurd z (by decide)) (fun _ => ?_)
        refine jw_iload_n rfl rfl ?_
        refine jw_ireturn rfl rfl rfl ?_
        exact hq
      | false =>
        rw [hst, if_pos ⟨by omega, rfl⟩] at hq
        refine jw_if_eq 25 rfl rfl (fun _ => ?_) (fun z => absurd (rfl) z)
        refine js_iinc rfl rfl (nI_1 j) rfl (by decide) rfl ?_
        refine jw_goto 2 rfl rfl ?_
        exact ih (j + 1) (by omega) hq
  refine jw_iload_n rfl rfl ?_
  refine js_istore_n rfl rfl (by decide) rfl ?_
  exact loop (X.length - p) p (by omega) hq
/-- a NAME's code, as the class reckons it -/
def nc7 : List Nat → Int64 → Int64
  | [], w => w
  | c :: r, w => nc7 r (w * 27 + (nI c - 97 + 1).toInt64)
def nm7 (L : List Nat) : Int64 := if 1 ≤ L.length ∧ L.length ≤ 8 ∧ L.all sp_lt = true then nc7 L 0 else 0
theorem nc7_app (L : List Nat) (c : Nat) : ∀ w, nc7 (L ++ [c]) w = nc7 L w * 27 + (nI c - 97 + 1).toInt64 := by
  induction L with
  | nil => intro w; rfl
  | cons a r ih => intro w; exact ih _
set_option maxHeartbeats 4000000 in
set_option maxRecDepth 100000 in
theorem ct_nameCode {g : jg_G} (hg : (jg_l g).stackTraces = false) {d mc ms : Nat} {h : jh_H} {a ch cap p e : Nat} {X : List Nat} {Q : jw_O → jh_H → Prop} (ht : tx_is h a ch cap X) (hpe : p ≤ e) (he : e ≤ X.length) (hq : Q (.inl (some (.inr (.inl (nm7 (sp_sub (fun i => X.getD i 0) p (e - p))))))) h) : jw_C g d mc ms m_T_nameCode [.inr (.inr (some a)), .inl (nI p), .inl (nI e)] h Q := by
  refine jw_intro (ls := [some (.inr (.inr (some a))), some (.inl (nI p)), some (.inl (nI e)), none, none, none]) (by decide) k_T_nameCode rfl (by simp [lo_fit, jv_c]) hg ?_
  have hcap := ht.1.2.2.2.2
  have el := sub_len2 (fun i => X.getD i 0) p (e - p)
  have at13 : ¬ (1 ≤ e - p ∧ e - p ≤ 8) → jw_J g d m_T_nameCode jw_T0 13 [some (.inr (.inr (some a))), some (.inl (nI p)), some (.inl (nI e)), none, none, none] [] h mc ms Q := by
    intro hne
    rw [nm7, if_neg (fun z => hne ⟨by rw [← el]; exact z.1, by rw [← el]; exact z.2.1⟩)] at hq
    refine jw_lconst rfl ?_
    refine jw_lreturn rfl rfl ?_
    exact hq
  refine jw_iload_n rfl rfl ?_
  refine jw_iload_n rfl rfl ?_
  by_cases h1 : e ≤ p
  · refine jw_icmp_le 13 rfl rfl (fun _ => ?_) (fun z => absurd (nI_le h1 (by omega)) z)
    exact at13 (by omega)
  refine jw_icmp_le 13 rfl rfl (fun z => absurd z (fun z => absurd ((nI_leI (by omega) (by omega)).mp z) h1)) (fun _ => ?_)
  refine jw_iload_n rfl rfl ?_
  refine jw_iload_n rfl rfl ?_
  refine jw_isubV rfl (pk_sub hpe) ?_
  refine js_bipush (x := 8) rfl rfl ?_
  by_cases h8 : e - p ≤ 8
  rotate_left
  · refine jw_icmp_le 15 rfl rfl (fun z => absurd z (fun z => absurd ((nI_leI (b := 8) (by omega) (by omega)).mp z) h8)) (fun _ => ?_)
    exact at13 (by omega)
  have loop : ∀ r j, j + r = e - p → (sp_sub (fun i => X.getD i 0) p j).all sp_lt = true → jw_J g d m_T_nameCode jw_T0 20 [some (.inr (.inr (some a))), some (.inl (nI p)), some (.inl (nI e)), some (.inr (.inl (nc7 (sp_sub (fun i => X.getD i 0) p j) 0))), none, some (.inl (nI (p + j)))] [] h mc ms Q := by
    intro r
    induction r with
    | zero =>
      intro j hj hall
      have ej : j = e - p := by omega
      subst ej
      rw [nm7, if_pos ⟨by rw [el]; omega, by rw [el]; exact h8, hall⟩] at hq
      refine jw_iload rfl rfl ?_
      refine jw_iload_n rfl rfl ?_
      refine jw_icmp_ge 78 rfl rfl (fun _ => ?_) (fun z => absurd (nI_le (by omega) (by omega)) z)
      refine jw_lload_n rfl rfl ?_
      refine jw_lreturn rfl rfl ?_
      exact hq
    | succ r ih =>
      intro j hj hall
      have xj := ht.2 (p + j) (by omega)
      have es := sub_snoc (fun i => X.getD i 0) p j
      have no : sp_lt (X.getD (p + j) 0) = false → jw_J g d m_T_nameCode jw_T0 50 [some (.inr (.inr (some a))), some (.inl (nI p)), some (.inl (nI e)), some (.inr (.inl (nc7 (sp_sub (fun i => X.getD i 0) p j) 0))), none, some (.inl (nI (p + j)))] [] h mc ms Q := by
        intro hf
        have : ¬ (sp_sub (fun i => X.getD i 0) p (e - p)).all sp_lt = true := fun z => by
          have h2 := List.all_eq_true.mp z (X.getD (p + j) 0) (by rw [sp_sub]; exact List.mem_map.mpr ⟨j, List.mem_range.mpr (by omega), rfl⟩)
          rw [hf] at h2; cases h2
        rw [nm7, if_neg (fun z => this z.2.2)] at hq
        refine jw_lconst rfl ?_
        refine jw_lreturn rfl rfl ?_
        exact hq
      generalize hc : X.getD (p + j) 0 = c at *
      refine jw_iload rfl rfl ?_
      refine jw_iload_n rfl rfl ?_
      refine jw_icmp_ge 78 rfl rfl (fun z => absurd z (fun z => absurd ((nI_leI (by omega) (by omega)).mp z) (by omega))) (fun _ => ?_)
      refine jw_aload_n rfl rfl ?_
      refine jw_gr rfl g_T_9 (ht.1.1) (ht.1.2.2.1) ?_
      refine jw_iload rfl rfl ?_
      refine js_caldV (p + j) rfl (ht.1.2.1) (by decide) (by rfl) rfl (by omega) (by omega) (xj.1) ?_
      refine js_bipush (x := 97) rfl rfl ?_
      by_cases c97 : c < 97
      · refine jw_icmp_lt 50 rfl rfl (fun _ => ?_) (fun z => absurd (nI_lt (b := 97) c97 (by omega)) z)
        exact no (by rw [sp_lt]; simp; omega)
      refine jw_icmp_lt 50 rfl rfl (fun z => absurd z (nI_nlt (b := 97) (by omega) (by omega))) (fun _ => ?_)
      refine jw_aload_n rfl rfl ?_
      refine jw_gr rfl g_T_9 (ht.1.1) (ht.1.2.2.1) ?_
      refine jw_iload rfl rfl ?_
      refine js_caldV (p + j) rfl (ht.1.2.1) (by decide) (by rfl) rfl (by omega) (by omega) (xj.1) ?_
      refine js_bipush (x := 122) rfl rfl ?_
      by_cases c122 : 122 < c
      · refine jw_icmp_le 52 rfl rfl (fun z => absurd z (fun z => absurd ((nI_leI (b := 122) (by omega) (by omega)).mp z) (by omega))) (fun _ => ?_)
        exact no (by rw [sp_lt]; simp; omega)
      refine jw_icmp_le 52 rfl rfl (fun _ => ?_) (fun z => absurd (nI_le (b := 122) (by omega) (by omega)) z)
      refine jw_lload_n rfl rfl ?_
      refine jw_ldc2 rfl q_T_67 ?_
      refine jw_lmul rfl ?_
      refine jw_aload_n rfl rfl ?_
      refine jw_gr rfl g_T_9 (ht.1.1) (ht.1.2.2.1) ?_
      refine jw_iload rfl rfl ?_
      refine js_caldV (p + j) rfl (ht.1.2.1) (by decide) (by rfl) rfl (by omega) (by omega) (xj.1) ?_
      refine js_bipush (x := 97) rfl rfl ?_
      refine jw_isub rfl ?_
      refine js_iconst (x := 1) rfl rfl ?_
      refine jw_iadd rfl ?_
      refine jw_i2l rfl ?_
      refine jw_ladd rfl ?_
      refine js_lstore_n rfl rfl (by decide) rfl ?_
      refine js_iinc rfl rfl (nI_1 _) rfl (by decide) rfl ?_
      refine jw_goto 20 rfl rfl ?_
      have ih := ih (j + 1) (by omega) (by rw [es, List.all_append, hall]; show (true && (sp_lt c && true)) = true; simp [sp_lt]; omega)
      rw [es, nc7_app] at ih
      exact ih
  refine jw_icmp_le 15 rfl rfl (fun _ => ?_) (fun z => absurd (nI_le (b := 8) h8 (by omega)) z)
  refine jw_lconst rfl ?_
  refine js_lstore_n rfl rfl (by decide) rfl ?_
  refine jw_iload_n rfl rfl ?_
  refine js_istore rfl rfl (by decide) rfl ?_
  exact loop (e - p) 0 (by omega) rfl

