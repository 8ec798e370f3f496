/-! VALUES: the class's methods -/
set_option maxHeartbeats 4000000 in
set_option maxRecDepth 100000 in
theorem cv_init {g : jg_G} (hg : (jg_l g).stackTraces = false) {d mc ms : Nat} {h : jh_H} {a : Nat} {Q : jw_O → jh_H → Prop} (hd : 1 ≤ d) (hq : Q (.inl none) h) : jw_C g d mc ms m_V_init [.inr (.inr (some a))] h Q := by
  refine jw_intro (ls := [some (.inr (.inr (some a)))]) (by decide) k_V_init rfl (by simp [lo_fit, jv_c]) hg ?_
  refine jw_aload_n rfl rfl ?_
  refine jw_obj rfl oi_V_3 (by omega) (Nat.le_of_ble_eq_true rfl) ?_
  refine jw_return rfl rfl ?_
  exact hq
set_option maxHeartbeats 4000000 in
set_option maxRecDepth 100000 in
theorem cv_ofNumber {g : jg_G} (hg : (jg_l g).stackTraces = false) {d mc ms : Nat} {h : jh_H} {x : Int32} {Q : jw_O → jh_H → Prop} (hd : 2 ≤ d) (hmc : 1 ≤ mc) (hms : 7 ≤ ms) (hq : ∀ h' q, q ∉ jh_L h → vl_num h' q x → fr (fun _ => False) h h' → Q (.inl (some (.inr (.inr (some q))))) h') : jw_C g d mc ms m_V_ofNumber [.inl x] h Q := by
  refine jw_intro (ls := [some (.inl x), none]) (by decide) k_V_ofNumber rfl (by simp [lo_fit, jv_c]) hg ?_
  have e2 : (jc_q 2).2.2 = 7 := rfl
  refine jw_new rfl jc_o2 n_V_9 a_2 b_2 e_2 (by omega) (by omega) (fun q0 hq0 => ?_)
  refine jw_dup rfl rfl ?_
  refine js_callI (As := []) rfl l_V_init c_V_11 i_V_init rfl rfl rfl (cv_init (d := d - 1) (mc := 0) (ms := 0) hg (by omega) ?_) (by omega) (Nat.le_of_ble_eq_true rfl) (by omega) (by omega) rfl
  refine js_astore_n rfl rfl (by decide) rfl ?_
  refine jw_aload_n rfl rfl ?_
  refine js_iconst (x := 0) rfl rfl ?_
  refine jw_pi rfl p_V_ofNumber_12 (jh_nw_O) ?_
  refine jw_aload_n rfl rfl ?_
  refine jw_iload_n rfl rfl ?_
  refine jw_pi rfl p_V_ofNumber_16 (jh_nw_O) ?_
  refine jw_aload_n rfl rfl ?_
  refine jw_areturn rfl rfl (Or.inl ⟨_, rfl⟩) ?_
  refine hq _ q0 hq0 ⟨jh_nw_O, (jh_u_k _ _ _ _ (by decide)).trans (jh_u_s _ _ _ _), jh_u_s _ _ _ _, (jh_u_k _ _ _ _ (by decide)).trans ((jh_u_k _ _ _ _ (by decide)).trans (jh_z_s _ _ _ _))⟩ ?_
  have f0 : fr (fun b => b = q0) h (jh_nw h q0 2 (jc_q 2).2.2) := fr.nw fr.rf hq0
  exact (fr.si (fr.si f0 rfl) rfl).mono (fun b hb z => hq0 (by rw [← z]; exact hb))
set_option maxHeartbeats 4000000 in
set_option maxRecDepth 100000 in
theorem cv_ofText {g : jg_G} (hg : (jg_l g).stackTraces = false) {d mc ms : Nat} {h : jh_H} {tb ch cap : Nat} {X : List Nat} {Q : jw_O → jh_H → Prop} (ht : tx_is h tb ch cap X) (hd : 2 ≤ d) (hmc : 1 ≤ mc) (hms : 7 ≤ ms) (hq : ∀ h' q, q ∉ jh_L h → vl_txt h' q tb ch cap X → fr (fun _ => False) h h' → Q (.inl (some (.inr (.inr (some q))))) h') : jw_C g d mc ms m_V_ofText [.inr (.inr (some tb))] h Q := by
  refine jw_intro (ls := [some (.inr (.inr (some tb))), none]) (by decide) k_V_ofText rfl (by simp [lo_fit, jv_c]) hg ?_
  have e2 : (jc_q 2).2.2 = 7 := rfl
  refine jw_new rfl jc_o2 n_V_9 a_2 b_2 e_2 (by omega) (by omega) (fun q0 hq0 => ?_)
  refine jw_dup rfl rfl ?_
  refine js_callI (As := []) rfl l_V_init c_V_11 i_V_init rfl rfl rfl (cv_init (d := d - 1) (mc := 0) (ms := 0) hg (by omega) ?_) (by omega) (Nat.le_of_ble_eq_true rfl) (by omega) (by omega) rfl
  refine js_astore_n rfl rfl (by decide) rfl ?_
  refine jw_aload_n rfl rfl ?_
  refine js_iconst (x := 1) rfl rfl ?_
  refine jw_pi rfl p_V_ofText_12 (jh_nw_O) ?_
  refine jw_aload_n rfl rfl ?_
  refine jw_aload_n rfl rfl ?_
  refine jw_pr rfl p_V_ofText_19 (jh_nw_O) ?_
  refine jw_aload_n rfl rfl ?_
  refine jw_areturn rfl rfl (Or.inl ⟨_, rfl⟩) ?_
  have f0 : fr (fun b => b = q0) h (jh_nw h q0 2 (jc_q 2).2.2) := fr.nw fr.rf hq0
  have f1 : fr (fun _ => False) h (jh_sr (jh_si (jh_nw h q0 2 (jc_q 2).2.2) q0 128 1) q0 130 (some tb)) := (fr.sr (fr.si f0 rfl) rfl).mono (fun b hb z => hq0 (by rw [← z]; exact hb))
  exact hq _ q0 hq0 ⟨jh_nw_O, jh_u_s _ _ _ _, jh_u_s _ _ _ _, ht.fr f1 (fun z => z) (fun z => z), (jh_u_k _ _ _ _ (by decide)).trans (jh_z_s _ _ _ _)⟩ f1
set_option maxHeartbeats 4000000 in
set_option maxRecDepth 100000 in
theorem cv_become {g : jg_G} (hg : (jg_l g).stackTraces = false) {d mc ms : Nat} {h : jh_H} {a : Nat} {x : Int32} {Q : jw_O → jh_H → Prop} (ho : jh_O h a 2) (hq : Q (.inl (some (.inr (.inr (some a))))) (jh_si (jh_si h a 128 0) a 129 x)) : jw_C g d mc ms m_V_becomeNumber [.inr (.inr (some a)), .inl x] h Q := by
  refine jw_intro (ls := [some (.inr (.inr (some a))), some (.inl x)]) (by decide) k_V_becomeNumber rfl (by simp [lo_fit, jv_c]) hg ?_
  refine jw_aload_n rfl rfl ?_
  refine js_iconst (x := 0) rfl rfl ?_
  refine jw_pi rfl p_V_becomeNumber_12 (ho) ?_
  refine jw_aload_n rfl rfl ?_
  refine jw_iload_n rfl rfl ?_
  refine jw_pi rfl p_V_becomeNumber_16 (ho) ?_
  refine jw_aload_n rfl rfl ?_
  refine jw_areturn rfl rfl (Or.inl ⟨_, rfl⟩) ?_
  exact hq
theorem bn_is {h : jh_H} {a : Nat} {x : Int32} (ho : jh_O h a 2) (hs : jh_i h a 133 = 0) : vl_num (jh_si (jh_si h a 128 0) a 129 x) a x ∧ fr (fun b => b = a) h (jh_si (jh_si h a 128 0) a 129 x) := ⟨⟨ho, (jh_u_k _ _ _ _ (by decide)).trans (jh_u_s _ _ _ _), jh_u_s _ _ _ _, (jh_u_k _ _ _ _ (by decide)).trans ((jh_u_k _ _ _ _ (by decide)).trans hs)⟩, fr.si (fr.si fr.rf rfl) rfl⟩
set_option maxHeartbeats 4000000 in
set_option maxRecDepth 100000 in
theorem cv_element {g : jg_G} (hg : (jg_l g).stackTraces = false) {d mc ms : Nat} {h : jh_H} {n : Nat} {D : sd_D} {E : cd_E} {P P' : Nat → Prop} {a : Nat} {v : sv_T} {k : Int32} {Q : jw_O → jh_H → Prop} (hc : cd_ok h n D E P) (hv : vl_is h n D E P' (some a) v) (hq : ∀ p, vl_is h n D E P p (ev_el D v k) → Q (.inl (some (.inr (.inr p)))) h) : jw_C g d mc ms m_V_elementAt [.inr (.inr (some a)), .inl k] h Q := by
  refine jw_intro (ls := [some (.inr (.inr (some a))), some (.inl k)]) (by decide) k_V_elementAt rfl (by simp [lo_fit, jv_c]) hg ?_
  have no : ev_el D v k = none → jw_J g d m_V_elementAt jw_T0 29 [some (.inr (.inr (some a))), some (.inl k)] [] h mc ms Q := by
    intro e
    refine jw_null rfl ?_
    refine jw_areturn rfl rfl (Or.inl ⟨_, rfl⟩) ?_
    exact hq none (by rw [e]; rfl)
  rcases v with _ | v | L | x
  · cases hv
  · obtain ⟨a', e, -, hn⟩ := hv
    cases e
    refine jw_aload_n rfl rfl ?_
    refine jw_gi rfl g_V_12 (hn.1) (hn.2.1) ?_
    refine js_iconst (x := 2) rfl rfl ?_
    refine jw_icmp_ne 29 rfl rfl (fun _ => ?_) (fun z => absurd z (by decide))
    exact no rfl
  · obtain ⟨a', tb, ch, cap, e, -, -, -, hn⟩ := hv
    cases e
    refine jw_aload_n rfl rfl ?_
    refine jw_gi rfl g_V_12 (hn.1) (hn.2.1) ?_
    refine js_iconst (x := 2) rfl rfl ?_
    refine jw_icmp_ne 29 rfl rfl (fun _ => ?_) (fun z => absurd z (by decide))
    exact no rfl
  · obtain ⟨e, hx, hk⟩ := hv
    cases e
    obtain ⟨h1, h2, -, -, h5⟩ := hc.2 x hx
    obtain ⟨a1, a2, a3, a4, a5, a6, a7, a8, a9, a10, a11⟩ := h5 hk
    refine jw_aload_n rfl rfl ?_
    refine jw_gi rfl g_V_12 (a3) (a4) ?_
    refine js_iconst (x := 2) rfl rfl ?_
    by_cases k2 : sd_k D x = 2
    rotate_left
    · refine jw_icmp_ne 29 rfl rfl (fun _ => ?_) (fun z => absurd z (fun z => k2 ((nI_eq (b := 2) (by omega) (by omega)).mp z)))
      exact no (by show (if _ then _ else _) = _; rw [if_neg (fun z => k2 z.1)])
    refine jw_icmp_ne 29 rfl rfl (fun z => absurd (by rw [k2]; rfl) z) (fun _ => ?_)
    refine jw_iload_n rfl rfl ?_
    refine jw_if_lt 29 rfl rfl (fun z => no ?_) (fun z => ?_)
    · show (if _ then _ else _) = _; rw [if_neg (fun y => absurd z (Int32.not_lt.mpr y.2.1))]
    refine jw_iload_n rfl rfl ?_
    refine jw_aload_n rfl rfl ?_
    refine jw_gi rfl g_V_31 (a3) (a9) ?_
    refine jw_icmp_ge 29 rfl rfl (fun y => no ?_) (fun y => ?_)
    · show (if _ then _ else _) = _; rw [if_neg (fun w => absurd y (Int32.not_le.mpr w.2.2))]
    obtain ⟨j, hj, rfl⟩ := nI_of z
    have hlt : j < sd_c D x := (nI_ltI hj (by omega)).mp (Int32.not_le.mp y)
    obtain ⟨r1, r2, -⟩ := a11 j hlt
    refine jw_aload_n rfl rfl ?_
    refine jw_gr rfl g_V_23 (a3) (a5) ?_
    refine jw_iload_n rfl rfl ?_
    refine js_aald (j) rfl (a7) (by decide) (by rfl) rfl (by omega) (by omega) (r1) ?_
    refine jw_goto 30 rfl rfl ?_
    refine jw_areturn rfl rfl (Or.inl ⟨_, rfl⟩) ?_
    refine hq _ ?_
    rw [show ev_el D (some (.inr (.inr x))) (nI j) = sv_of D (sd_p D x j) by show (if _ then _ else _) = _; rw [if_pos ⟨k2, Int32.not_lt.mp z, nI_lt hlt (by omega)⟩, nI_clamp hj]]
    exact vl_of hc r2
theorem ev_fd_at {D : sd_D} {x : Nat} {w : Int64} : ∀ m i j, i ≤ j → j < i + m → sd_n D x j = w → (∀ k, i ≤ k → k < j → sd_n D x k ≠ w) → ev_fd D x w m i = some j := by
  intro m
  induction m with
  | zero => intro i j h1 h2; omega
  | succ m ih =>
    intro i j h1 h2 h3 h4
    rw [ev_fd]
    by_cases e : i = j
    · subst e; rw [if_pos h3]
    · rw [if_neg (h4 i (Nat.le_refl _) (by omega))]
      exact ih (i + 1) j (by omega) (by omega) h3 (fun k hk1 hk2 => h4 k (by omega) hk2)
set_option maxHeartbeats 4000000 in
set_option maxRecDepth 100000 in
theorem cv_entry {g : jg_G} (hg : (jg_l g).stackTraces = false) {d mc ms : Nat} {h : jh_H} {n : Nat} {D : sd_D} {E : cd_E} {P P' : Nat → Prop} {a : Nat} {v : sv_T} {L : List Nat} {Q : jw_O → jh_H → Prop} (hc : cd_ok h n D E P) (hL : nm_ok L) (hv : vl_is h n D E P' (some a) v) (hq : ∀ p, vl_is h n D E P p (ev_mem D v (nm_c L 0)) → Q (.inl (some (.inr (.inr p)))) h) : jw_C g d mc ms m_V_entryNamed [.inr (.inr (some a)), .inr (.inl (nc7 L 0))] h Q := by
  refine jw_intro (ls := [some (.inr (.inr (some a))), some (.inr (.inl (nc7 L 0))), none, none]) (by decide) k_V_entryNamed rfl (by simp [lo_fit, jv_c]) hg ?_
  -- nothing there
  have no0 : ev_mem D v (nm_c L 0) = none → jh_O h a 2 → jh_i h a 133 = 0 → jw_J g d m_V_entryNamed jw_T0 0 [some (.inr (.inr (some a))), some (.inr (.inl (nc7 L 0))), none, none] [] h mc ms Q := by
    intro e ho hs
    refine js_iconst (x := 0) rfl rfl ?_
    refine js_istore_n rfl rfl (by decide) rfl ?_
    refine jw_iload_n rfl rfl ?_
    refine jw_aload_n rfl rfl ?_
    refine jw_gi rfl g_V_31 (ho) (hs) ?_
    refine jw_icmp_ge 34 rfl rfl (fun _ => ?_) (fun z => absurd (by decide) z)
    refine jw_null rfl ?_
    refine jw_areturn rfl rfl (Or.inl ⟨_, rfl⟩) ?_
    exact hq none (by rw [e]; rfl)
  rcases v with _ | v | M | x
  · cases hv
  · obtain ⟨a', e, -, hn⟩ := hv
    cases e
    exact no0 rfl hn.1 hn.2.2.2
  · obtain ⟨a', tb, ch, cap, e, -, -, -, hn⟩ := hv
    cases e
    exact no0 rfl hn.1 hn.2.2.2.2
  · obtain ⟨e, hx, hk⟩ := hv
    cases e
    obtain ⟨h1, h2, -, -, h5⟩ := hc.2 x hx
    obtain ⟨a1, a2, a3, a4, a5, a6, a7, a8, a9, a10, a11⟩ := h5 hk
    have loop : ∀ r j, j + r = sd_c D x → (sd_k D x = 3 → ∀ i, i < j → sd_n D x i ≠ nm_c L 0) → jw_J g d m_V_entryNamed jw_T0 2 [some (.inr (.inr (some (E.1 x)))), some (.inr (.inl (nc7 L 0))), none, some (.inl (nI j))] [] h mc ms Q := by
      intro r
      induction r with
      | zero =>
        intro j hj hn
        have ej : j = sd_c D x := by omega
        subst ej
        refine jw_iload_n rfl rfl ?_
        refine jw_aload_n rfl rfl ?_
        refine jw_gi rfl g_V_31 (a3) (a9) ?_
        refine jw_icmp_ge 34 rfl rfl (fun _ => ?_) (fun z => absurd (Int32.le_refl _) z)
        refine jw_null rfl ?_
        refine jw_areturn rfl rfl (Or.inl ⟨_, rfl⟩) ?_
        refine hq none ?_
        have : ev_mem D (some (.inr (.inr x))) (nm_c L 0) = none := by
          show (if _ then _ else _) = _
          by_cases k3 : sd_k D x = 3
          · rw [if_pos k3, ev_fd_none _ _ (fun i _ hi => hn k3 i (by omega))]
          · rw [if_neg k3]
        rw [this]; rfl
      | succ r ih =>
        intro j hj hn
        obtain ⟨r1, r2, r3⟩ := a11 j (by omega)
        rw [nm_rel] at r3
        generalize hw : jh_G h (E.2.2 x) j = w at r3
        refine jw_iload_n rfl rfl ?_
        refine jw_aload_n rfl rfl ?_
        refine jw_gi rfl g_V_31 (a3) (a9) ?_
        refine jw_icmp_ge 34 rfl rfl (fun z => absurd z (fun z => absurd ((nI_leI (by omega) (by omega)).mp z) (by omega))) (fun _ => ?_)
        refine jw_aload_n rfl rfl ?_
        refine jw_gr rfl g_V_27 (a3) (a6) ?_
        refine jw_iload_n rfl rfl ?_
        refine js_laldV (j) rfl (a8) (by decide) (by rfl) rfl (by omega) (by omega) (hw) ?_
        refine jw_lload_n rfl rfl ?_
        refine jw_lcmp rfl ?_
        by_cases k3 : sd_k D x = 3
        · rw [if_pos k3] at r3
          obtain ⟨M, hM, e1, e2⟩ := r3
          by_cases es : sd_n D x j = nm_c L 0
          · have ew : w = nc7 L 0 := by rw [e2]; exact (nm_same hM hL).mp (e1.symm.trans es)
            refine jw_if_ne 28 rfl rfl (fun z => absurd ((lg_cmp_eq _ _).mpr ew) z) (fun _ => ?_)
            refine jw_aload_n rfl rfl ?_
            refine jw_gr rfl g_V_23 (a3) (a5) ?_
            refine jw_iload_n rfl rfl ?_
            refine js_aald (j) rfl (a7) (by decide) (by rfl) rfl (by omega) (by omega) (r1) ?_
            refine jw_areturn rfl rfl (Or.inl ⟨_, rfl⟩) ?_
            refine hq _ ?_
            have : ev_mem D (some (.inr (.inr x))) (nm_c L 0) = sv_of D (sd_p D x j) := by
              show (if _ then _ else _) = _
              rw [if_pos k3, ev_fd_at (sd_c D x) 0 j (Nat.zero_le _) (by omega) es (fun k _ hk2 => hn k3 k hk2)]
            rw [this]
            exact vl_of hc r2
          · have ew : w ≠ nc7 L 0 := fun z => es (by rw [e1]; exact (nm_same hM hL).mpr (e2.symm.trans z))
            refine jw_if_ne 28 rfl rfl (fun _ => ?_) (fun z => absurd z (fun z => ew ((lg_cmp_eq _ _).mp z)))
            refine js_iinc rfl rfl (nI_1 j) rfl (by decide) rfl ?_
            refine jw_goto 2 rfl rfl ?_
            refine ih (j + 1) (by omega) (fun k3 i hi => ?_)
            by_cases e : i = j
            · subst e; exact es
            · exact hn k3 i (by omega)
        · rw [if_neg k3] at r3
          have ew : w ≠ nc7 L 0 := fun z => (nm_pos hL).1 (z.symm.trans r3)
          refine jw_if_ne 28 rfl rfl (fun _ => ?_) (fun z => absurd z (fun z => ew ((lg_cmp_eq _ _).mp z)))
          refine js_iinc rfl rfl (nI_1 j) rfl (by decide) rfl ?_
          refine jw_goto 2 rfl rfl ?_
          exact ih (j + 1) (by omega) (fun z => absurd z k3)
    refine js_iconst (x := 0) rfl rfl ?_
    refine js_istore_n rfl rfl (by decide) rfl ?_
    exact loop (sd_c D x) 0 (by omega) (fun _ i hi => absurd hi (by omega))
set_option maxHeartbeats 4000000 in
set_option maxRecDepth 100000 in
theorem cv_isFalse {g : jg_G} (hg : (jg_l g).stackTraces = false) {d mc ms : Nat} {h : jh_H} {n : Nat} {D : sd_D} {E : cd_E} {P P' : Nat → Prop} {a : Nat} {v : sv_T} {Q : jw_O → jh_H → Prop} (hc : cd_ok h n D E P) (hv : vl_is h n D E P' (some a) v) (hq : Q (.inl (some (.inl (sp_b (sv_false D v))))) h) : jw_C g d mc ms m_V_isFalse [.inr (.inr (some a))] h Q := by
  refine jw_intro (ls := [some (.inr (.inr (some a)))]) (by decide) k_V_isFalse rfl (by simp [lo_fit, jv_c]) hg ?_
  rcases v with _ | v | L | x
  · cases hv
  · obtain ⟨a', e, -, hn⟩ := hv
    cases e
    refine jw_aload_n rfl rfl ?_
    refine jw_gi rfl g_V_12 (hn.1) (hn.2.1) ?_
    refine jw_tableIn 32 rfl (by decide) (by decide) rfl rfl ?_
    refine jw_aload_n rfl rfl ?_
    refine jw_gi rfl g_V_16 (hn.1) (hn.2.2.1) ?_
    by_cases e0 : v = 0
    · refine jw_if_ne 43 rfl rfl (fun z => absurd (e0) z) (fun _ => ?_)
      refine js_iconst (x := 1) rfl rfl ?_
      refine jw_goto 44 rfl rfl ?_
      refine jw_ireturn rfl rfl rfl ?_
      rw [show sv_false D (some (.inl v)) = true from decide_eq_true e0] at hq
      exact hq
    · refine jw_if_ne 43 rfl rfl (fun _ => ?_) (fun z => absurd z (e0))
      refine js_iconst (x := 0) rfl rfl ?_
      refine jw_ireturn rfl rfl rfl ?_
      rw [show sv_false D (some (.inl v)) = false from decide_eq_false e0] at hq
      exact hq
  · obtain ⟨a', tb, ch, cap, e, -, -, -, hn⟩ := hv
    cases e
    have hcap := hn.2.2.2.1.1.2.2.2.2
    refine jw_aload_n rfl rfl ?_
    refine jw_gi rfl g_V_12 (hn.1) (hn.2.1) ?_
    refine jw_tableIn 45 rfl (by decide) (by decide) rfl rfl ?_
    refine jw_aload_n rfl rfl ?_
    refine jw_gr rfl g_V_19 (hn.1) (hn.2.2.1) ?_
    refine jw_gi rfl g_V_40 (hn.2.2.2.1.1.1) (hn.2.2.2.1.1.2.2.2.1) ?_
    by_cases e0 : L.length = 0
    · refine jw_if_ne 59 rfl rfl (fun z => absurd (by rw [e0]; rfl) z) (fun _ => ?_)
      refine js_iconst (x := 1) rfl rfl ?_
      refine jw_goto 60 rfl rfl ?_
      refine jw_ireturn rfl rfl rfl ?_
      rw [show sv_false D (some (.inr (.inl L))) = true from decide_eq_true e0] at hq
      exact hq
    · refine jw_if_ne 59 rfl rfl (fun _ => ?_) (fun z => absurd z (nI_ne0 (by omega) (by omega)))
      refine js_iconst (x := 0) rfl rfl ?_
      refine jw_ireturn rfl rfl rfl ?_
      rw [show sv_false D (some (.inr (.inl L))) = false from decide_eq_false e0] at hq
      exact hq
  · obtain ⟨e, hx, hk⟩ := hv
    cases e
    obtain ⟨h1, h2, -, -, h5⟩ := hc.2 x hx
    obtain ⟨a1, a2, a3, a4, a5, a6, a7, a8, a9, a10, a11⟩ := h5 hk
    by_cases k2 : sd_k D x = 2
    · rw [k2] at a4
      refine jw_aload_n rfl rfl ?_
      refine jw_gi rfl g_V_12 (a3) (a4) ?_
      refine jw_tableIn 61 rfl (by decide) (by decide) rfl rfl ?_
      refine jw_aload_n rfl rfl ?_
      refine jw_gi rfl g_V_31 (a3) (a9) ?_
      by_cases e0 : sd_c D x = 0
      · refine jw_if_ne 72 rfl rfl (fun z => absurd (by rw [e0]; rfl) z) (fun _ => ?_)
        refine js_iconst (x := 1) rfl rfl ?_
        refine jw_goto 73 rfl rfl ?_
        refine jw_ireturn rfl rfl rfl ?_
        rw [show sv_false D (some (.inr (.inr x))) = true from by show decide (_ ∧ _) = true; exact decide_eq_true ⟨k2, e0⟩] at hq
        exact hq
      · refine jw_if_ne 72 rfl rfl (fun _ => ?_) (fun z => absurd z (nI_ne0 (by omega) (by omega)))
        refine js_iconst (x := 0) rfl rfl ?_
        refine jw_ireturn rfl rfl rfl ?_
        rw [show sv_false D (some (.inr (.inr x))) = false from by show decide (_ ∧ _) = false; exact decide_eq_false (fun z => e0 z.2)] at hq
        exact hq
    · have k3 : sd_k D x = 3 := by omega
      rw [k3] at a4
      refine jw_aload_n rfl rfl ?_
      refine jw_gi rfl g_V_12 (a3) (a4) ?_
      refine jw_tableOut 74 rfl (by decide) rfl ?_
      refine js_iconst (x := 0) rfl rfl ?_
      refine jw_ireturn rfl rfl rfl ?_
      rw [show sv_false D (some (.inr (.inr x))) = false from by show decide (_ ∧ _) = false; exact decide_eq_false (fun z => k2 z.1)] at hq
      exact hq

