/-! the model: expressions -/
theorem list_getD {X Y : List Nat} (hl : X.length = Y.length) (h : ∀ i, i < X.length → X.getD i 0 = Y.getD i 0) : X = Y := by
  refine List.ext_getElem hl (fun i h1 h2 => ?_)
  have := h i h1
  simpa [List.getD, List.getElem?_eq_getElem h1, List.getElem?_eq_getElem h2] using this
theorem xp_rd {h h' : jh_H} {mo : Nat} {ar : Nat → Nat} {G : Nat → Prop} (a : mo_fx h h' mo ar rd_F G) : mo_fx h h' mo ar xp_F G := mo_fx.mono a (fun _ _ z => Or.inl z) (fun _ z => z)
theorem xp_rg {h h' : jh_H} {mo : Nat} {ar : Nat → Nat} {r : Nat} (hr : r < 3) (a : mo_fx h h' mo ar (rg_F r) no_G) : mo_fx h h' mo ar xp_F sr_G := mo_fx.mono a (fun k j z => by
  rcases (show r = 0 ∨ r = 1 ∨ r = 2 by omega) with rfl | rfl | rfl
  · exact Or.inr (Or.inl z)
  · exact Or.inr (Or.inr (Or.inl z))
  · exact Or.inr (Or.inr (Or.inr z))) (fun _ z => absurd z id)
theorem xp_in {k j : Nat} (h : xp_F k j) : ((k < 520 ∨ 524 < k) ∧ (k = 542 ∨ k = 556 ∨ k = 557 ∨ (538 ≤ k ∧ k ≤ 541 ∧ (k ≠ 541 → j < 3) ∧ (k = 541 → j < 1200)))) ∧ ∃ x ∈ mo_T, x.1 = k := by
  have rgc : ∀ r, r < 3 → rg_F r k j → ((k < 520 ∨ 524 < k) ∧ (k = 542 ∨ k = 556 ∨ k = 557 ∨ (538 ≤ k ∧ k ≤ 541 ∧ (k ≠ 541 → j < 3) ∧ (k = 541 → j < 1200)))) ∧ ∃ x ∈ mo_T, x.1 = k := by
    intro r hr z
    refine ⟨?_, rg_F_in z⟩
    rcases z with ⟨_, _⟩ | ⟨_, _⟩ <;> omega
  rcases h with h | h | h | h
  · refine ⟨?_, (rd_F_in h).2⟩
    have := (rd_F_in h).1
    rcases h with h | h | h <;> omega
  · exact rgc 0 (by decide) h
  · exact rgc 1 (by decide) h
  · exact rgc 2 (by decide) h
set_option maxHeartbeats 4000000 in
set_option maxRecDepth 100000 in
theorem cm_alike {g : jg_G} (hg : (jg_l g).stackTraces = false) {h : jh_H} {mo : Nat} {ar : Nat → Nat} {n : Nat} {D : sd_D} {v0 v1 : sv_T} {Q : jw_O → jh_H → Prop} (hm : mo_ok h mo ar) (hD : mo_D h ar n D) (hdp : ∀ x, x < n → sd_dp D 60 x) (hf0 : jh_i h mo 550 = 0) (hv0 : mo_R h ar n D 0 v0) (hv1 : mo_R h ar n D 1 v1)
    (hq : ∀ h' b, mo_fx h h' mo ar xp_F sr_G → jh_i h' mo 550 = (if 400 < (sv_raw D v0).length ∨ 400 < (sv_raw D v1).length then 4 else 0) → (¬ (400 < (sv_raw D v0).length ∨ 400 < (sv_raw D v1).length) → b = decide (sv_raw D v0 = sv_raw D v1)) → Q (.inl (some (.inl (sp_b b)))) h') : jw_C g 4 0 0 m_M_alike [.inr (.inr (some mo))] h Q := by
  refine jw_intro (ls := [some (.inr (.inr (some mo))), none, none]) (by decide) k_M_alike rfl (by simp [lo_fit, jv_c]) hg ?_
  generalize hX : sv_raw D v0 = X at hq
  generalize hY : sv_raw D v1 = Y at hq
  refine jw_aload_n rfl rfl ?_
  refine js_iconst (x := 0) rfl rfl ?_
  refine js_call (As := [.inl (nI 0)]) rfl l_M_showRaw c_M_304 i_M_showRaw s_M_showRaw jc_o8 rfl hm.1 rfl (cm_showRaw hg hm hD hdp (by decide) hv0 (fun h1 f1 x1 e1 => ?_)) (by decide) (Nat.le_of_ble_eq_true rfl) (by omega) (by omega) rfl
  rw [hX] at x1 e1
  have hm1 := mo_fx.ok f1 hm
  refine jw_aload_n rfl rfl ?_
  refine jw_gi rfl g_M_113 hm1.1 (x1.1) ?_
  refine js_istore_n rfl rfl (by decide) rfl ?_
  refine jw_aload_n rfl rfl ?_
  refine jw_gi rfl g_M_128 hm1.1 (e1) ?_
  by_cases h4 : 400 < X.length
  · rw [if_pos h4]
    refine jw_if_eq 19 rfl rfl (fun z => absurd z (by decide)) (fun _ => ?_)
    refine js_iconst (x := 0) rfl rfl ?_
    refine jw_ireturn rfl rfl rfl ?_
    exact hq h1 false (xp_rd f1) (by rw [if_pos (Or.inl h4), e1, if_pos h4]) (fun z => absurd (Or.inl h4) z)
  rw [if_neg h4] at e1 ⊢
  rw [hf0] at e1 ⊢
  have hmin : min X.length 401 = X.length := by omega
  rw [hmin]
  have x1 : jh_i h1 mo 545 = nI X.length ∧ ∀ j, j < X.length → jh_I h1 (ar 542) j = nI (X.getD j 0) ∧ X.getD j 0 < 128 := by
    have := x1; rw [rw_ok, hmin] at this; exact this
  refine jw_if_eq 19 rfl rfl (fun _ => ?_) (fun z => absurd (rfl) z)
  refine js_iconst (x := 0) rfl rfl ?_
  refine js_istore_n rfl rfl (by decide) rfl ?_
  -- the second part
  have at48 : ∀ h3 a, mo_fx h1 h3 mo ar (rg_F 2) no_G → (∀ i, i < X.length → jh_I h3 (ar 541) (2 * 400 + i) = nI (X.getD i 0)) → jw_J g 4 m_M_alike jw_T0 48 [some (.inr (.inr (some mo))), some (.inl (nI X.length)), a] [] h3 0 0 Q := by
    intro h3 a f3 ac
    have hm3 := mo_fx.ok f3 hm1
    have hD1 : mo_D h1 ar n D := mo_D.fx hm f1 (fun k j z => ⟨Or.inr (by rcases z with rfl | rfl | rfl <;> decide), (rd_F_in z).2⟩) hD
    have hD3 := mo_D.rg hm1 f3 hD1
    have hv3 : mo_R h3 ar n D 1 v1 := mo_R.fx hm1 f3 (fun k j z => ⟨rg_F_in z, fun z2 => by rcases z with ⟨_, e⟩ | ⟨_, e⟩ <;> rcases z2 with ⟨_, e2⟩ | ⟨_, e2⟩ <;> omega⟩) (by decide) (mo_R.rd hm f1 (by decide) hv1)
    have F3 : mo_fx h h3 mo ar xp_F sr_G := mo_fx.tr (xp_rd f1) (xp_rg (by decide) f3) (fun _ _ z => z) (fun _ z => z)
    have e3 : jh_i h3 mo 550 = 0 := (mo_fx.rdi f3 (fun z => z)).trans e1
    refine jw_aload_n rfl rfl ?_
    refine js_iconst (x := 1) rfl rfl ?_
    refine js_call (As := [.inl (nI 1)]) rfl l_M_showRaw c_M_304 i_M_showRaw s_M_showRaw jc_o8 rfl hm3.1 rfl (cm_showRaw hg hm3 hD3 hdp (by decide) hv3 (fun h4 f4 x4 e4 => ?_)) (by decide) (Nat.le_of_ble_eq_true rfl) (by omega) (by omega) rfl
    rw [hY] at x4 e4
    rw [e3] at e4
    have hm4 := mo_fx.ok f4 hm3
    have F4 : mo_fx h h4 mo ar xp_F sr_G := mo_fx.tr F3 f4 (fun _ _ z => Or.inl z) (fun _ z => z)
    have e5 : jh_i h4 mo 550 = (if 400 < X.length ∨ 400 < Y.length then 4 else 0) := by
      rw [e4]
      by_cases z : 400 < Y.length
      · rw [if_pos z, if_pos (Or.inr z)]
      · rw [if_neg z, if_neg (by omega)]
    refine jw_iload_n rfl rfl ?_
    refine jw_aload_n rfl rfl ?_
    refine jw_gi rfl g_M_113 hm4.1 (x4.1) ?_
    refine jw_icmp_eq 63 rfl rfl (fun z => ?_) (fun z => ?_)
    rotate_left
    · have hne : X.length ≠ min Y.length 401 := fun q => z (by rw [q])
      refine js_iconst (x := 0) rfl rfl ?_
      refine jw_ireturn rfl rfl rfl ?_
      refine hq h4 false F4 e5 (fun q => ?_)
      exact (decide_eq_false (fun e => hne (by rw [← e]; omega))).symm
    have hlen : X.length = min Y.length 401 := (nI_eq (by omega) (by omega)).mp z
    have hXY : X.length = Y.length := by omega
    have ac4 : ∀ i, i < X.length → jh_I h4 (ar 541) (2 * 400 + i) = nI (X.getD i 0) := fun i hi => (mo_fx.rd hm3 f4 22 rfl (fun k z => ⟨by rcases z with rfl | rfl | rfl <;> decide, (rd_F_in (j := 2 * 400 + i) z).2⟩)).trans (ac i hi)
    have loop : ∀ k j, j + k = X.length → (∀ i, i < j → X.getD i 0 = Y.getD i 0) → jw_J g 4 m_M_alike jw_T0 65 [some (.inr (.inr (some mo))), some (.inl (nI X.length)), some (.inl (nI j))] [] h4 0 0 Q := by
      intro k
      induction k with
      | zero =>
        intro j hj hs
        refine jw_iload_n rfl rfl ?_
        refine jw_iload_n rfl rfl ?_
        refine jw_icmp_ge 97 rfl rfl (fun _ => ?_) (fun z => absurd ((nI_leI (by omega) (by omega)).mpr (by omega)) z)
        refine js_iconst (x := 1) rfl rfl ?_
        refine jw_ireturn rfl rfl rfl ?_
        refine hq h4 true F4 e5 (fun _ => ?_)
        exact (decide_eq_true (list_getD hXY (fun i hi => hs i (by omega)))).symm
      | succ k ih =>
        intro j hj hs
        have hx := x1.2 j (by omega)
        have hy := x4.2 j (by omega)
        refine jw_iload_n rfl rfl ?_
        refine jw_iload_n rfl rfl ?_
        refine jw_icmp_ge 97 rfl rfl (fun z => absurd z (fun z => absurd ((nI_leI (by omega) (by omega)).mp z) (by omega))) (fun _ => ?_)
        refine jw_aload_n rfl rfl ?_
        refine jw_gr rfl g_M_101 hm4.1 (mo_r hm4 22 rfl) ?_
        refine js_sipush (x := 800) rfl rfl ?_
        refine jw_iload_n rfl rfl ?_
        refine jw_iaddV rfl (nI_add 800 j) ?_
        refine js_caldV (2 * 400 + j) rfl (mo_a hm4 22 rfl) (by decide) (by rfl) rfl (by omega) (by decide) (ac4 j (by omega)) ?_
        refine jw_aload_n rfl rfl ?_
        refine jw_gr rfl g_M_104 hm4.1 (mo_r hm4 23 rfl) ?_
        refine jw_iload_n rfl rfl ?_
        refine js_caldV (j) rfl (mo_a hm4 23 rfl) (by decide) (by rfl) rfl (by omega) (by decide) (hy.1) ?_
        refine jw_icmp_eq 91 rfl rfl (fun z => ?_) (fun z => ?_)
        · have hc : X.getD j 0 = Y.getD j 0 := (nI_eq (by omega) (by omega)).mp z
          refine js_iinc rfl rfl (nI_1 j) rfl (by decide) rfl ?_
          refine jw_goto 65 rfl rfl ?_
          refine ih (j + 1) (by omega) (fun i hi => ?_)
          by_cases q : i = j
          · subst q; exact hc
          · exact hs i (by omega)
        · refine js_iconst (x := 0) rfl rfl ?_
          refine jw_ireturn rfl rfl rfl ?_
          refine hq h4 false F4 e5 (fun _ => ?_)
          exact (decide_eq_false (fun e => z (by rw [e]))).symm
    refine js_iconst (x := 0) rfl rfl ?_
    refine js_istore_n rfl rfl (by decide) rfl ?_
    exact loop X.length 0 (by omega) (fun i hi => absurd hi (by omega))
  have loop : ∀ k j h3, j + k = X.length → mo_fx h1 h3 mo ar (rg_F 2) no_G → (∀ i, i < j → jh_I h3 (ar 541) (2 * 400 + i) = nI (X.getD i 0)) → jw_J g 4 m_M_alike jw_T0 21 [some (.inr (.inr (some mo))), some (.inl (nI X.length)), some (.inl (nI j))] [] h3 0 0 Q := by
    intro k
    induction k with
    | zero =>
      intro j h3 hj f3 ac
      refine jw_iload_n rfl rfl ?_
      refine jw_iload_n rfl rfl ?_
      refine jw_icmp_ge 48 rfl rfl (fun _ => ?_) (fun z => absurd ((nI_leI (by omega) (by omega)).mpr (by omega)) z)
      exact at48 h3 _ f3 (fun i hi => ac i (by omega))
    | succ k ih =>
      intro j h3 hj f3 ac
      have hm3 := mo_fx.ok f3 hm1
      have hx := x1.2 j (by omega)
      have hx3 : jh_I h3 (ar 542) j = nI (X.getD j 0) := (mo_fx.rd hm1 f3 23 rfl (fun k z => ⟨by have := rg_F_k z; omega, rg_F_in z⟩)).trans hx.1
      refine jw_iload_n rfl rfl ?_
      refine jw_iload_n rfl rfl ?_
      refine jw_icmp_ge 48 rfl rfl (fun z => absurd z (fun z => absurd ((nI_leI (by omega) (by omega)).mp z) (by omega))) (fun _ => ?_)
      refine jw_aload_n rfl rfl ?_
      refine jw_gr rfl g_M_101 hm3.1 (mo_r hm3 22 rfl) ?_
      refine js_sipush (x := 800) rfl rfl ?_
      refine jw_iload_n rfl rfl ?_
      refine jw_iaddV rfl (nI_add 800 j) ?_
      refine jw_aload_n rfl rfl ?_
      refine jw_gr rfl g_M_104 hm3.1 (mo_r hm3 23 rfl) ?_
      refine jw_iload_n rfl rfl ?_
      refine js_caldV (j) rfl (mo_a hm3 23 rfl) (by decide) (by rfl) rfl (by omega) (by decide) (hx3) ?_
      refine js_cast (2 * 400 + j) rfl (mo_a hm3 22 rfl) (by decide) (by rfl) rfl (by omega) (by decide) ?_
      refine js_iinc rfl rfl (nI_1 j) rfl (by decide) rfl ?_
      refine jw_goto 21 rfl rfl ?_
      refine ih (j + 1) _ (by omega) (mo_fx.sI f3 (Or.inr ⟨rfl, by omega, by omega⟩)) (fun i hi => ?_)
      by_cases z : i = j
      · subst z; exact (jh_u_s _ _ _ _).trans (nI_n (by omega))
      · exact (jh_u_k _ _ _ _ (by omega)).trans (ac i (by omega))
  exact loop X.length 0 h1 (by omega) mo_fx.rf (fun i hi => absurd hi (by omega))
/-! where operands end -/
theorem sp_quote_ge (t : Nat → Nat) (e : Nat) : ∀ n k, k ≤ sp_quote t e n k := by
  intro n
  induction n with
  | zero => intro k; exact Nat.le_refl _
  | succ n ih =>
    intro k
    rw [sp_quote]
    split
    · have := ih (k + 1); omega
    · exact Nat.le_refl _
theorem sp_digits_ge (t : Nat → Nat) (e : Nat) : ∀ n k, k ≤ sp_digits t e n k := by
  intro n
  induction n with
  | zero => intro k; exact Nat.le_refl _
  | succ n ih =>
    intro k
    rw [sp_digits]
    split
    · have := ih (k + 1); omega
    · exact Nat.le_refl _
theorem sp_tail_ge (t : Nat → Nat) (e : Nat) : ∀ n k r, sp_tail t e n k = some r → k ≤ r := by
  intro n
  induction n with
  | zero => intro k r h; rw [sp_tail] at h; cases h; exact Nat.le_refl _
  | succ n ih =>
    intro k r h
    rw [sp_tail] at h
    split at h
    · split at h
      · cases h
      · have := ih _ r h; omega
    · cases h; exact Nat.le_refl _
theorem sp_operandEnd_ge (t : Nat → Nat) {p e r : Nat} (hp : p ≤ e) (h : sp_operandEnd t p e = some r) : p < r ∧ (t p = 34 → p + 2 ≤ r) := by
  have hre := sp_operandEnd_le t hp h
  have key : p < r ∧ (sp_at t p e = 34 → p + 2 ≤ r) := by
    rw [sp_operandEnd] at h
    split at h
    case isTrue h0 =>
      split at h
      · have := sp_quote_ge t e (e - (p + 1)) (p + 1)
        cases h; omega
      · cases h
    case isFalse h0 =>
      split at h
      case isTrue h1 =>
        cases h
        rw [show (5 : Nat) = 4 + 1 from rfl, sp_digits, if_pos h1]
        have := sp_digits_ge t e 4 (p + 1)
        exact ⟨by omega, fun q => absurd q h0⟩
      case isFalse h1 =>
        refine ⟨?_, fun q => absurd q h0⟩
        rw [sp_pathEnd] at h
        have hu := sp_up_le t e (e - p) p hp
        split at h
        · cases h; omega
        · split at h
          · cases h
          · split at h
            · cases h; omega
            · have := sp_tail_ge t e _ _ r h; omega
  refine ⟨key.1, fun q => key.2 ?_⟩
  rw [sp_at, if_pos (by omega)]; exact q
theorem mo_R_num {h : jh_H} {ar : Nat → Nat} {n r : Nat} {D : sd_D} {v : sv_T} (hk3 : ∀ x, x < n → sd_k D x ≤ 3) (hv : mo_R h ar n D r v) : (∃ x, ev_num v = some x ∧ jh_I h (ar 538) r = 0 ∧ jh_I h (ar 539) r = x) ∨ (ev_num v = none ∧ jh_I h (ar 538) r ≠ 0) := by
  rcases v with _ | v | L | x
  · exact Or.inr ⟨rfl, fun e => absurd (e.symm.trans hv) (by decide)⟩
  · exact Or.inl ⟨v, rfl, hv.1, hv.2⟩
  · exact Or.inr ⟨rfl, fun e => absurd (e.symm.trans hv.1) (by decide)⟩
  · refine Or.inr ⟨rfl, fun e => ?_⟩
    have h1 := hv.1.symm.trans e
    have h3 := hk3 x hv.2.2.1
    have := (nI_eq (b := 0) (by omega) (by omega)).mp h1
    have := hv.2.2.2
    omega

