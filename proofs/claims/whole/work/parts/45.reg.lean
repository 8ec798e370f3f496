/-! registers: lengths, truth, loading -/
def sv_len (D : sd_D) (v : sv_T) : Nat := match v with
  | none => 0
  | some (.inl x) => (sd_num x).length
  | some (.inr (.inl L)) => L.length
  | some (.inr (.inr x)) => sd_c D x
def sv_false (D : sd_D) (v : sv_T) : Bool := match v with
  | none => true
  | some (.inl x) => decide (x = 0)
  | some (.inr (.inl L)) => decide (L.length = 0)
  | some (.inr (.inr x)) => decide (sd_k D x = 2 ∧ sd_c D x = 0)
theorem sd_u_len (a : Nat) : ∀ m, (sd_u a m).length = m + 1 := by
  intro m
  induction m with
  | zero => rfl
  | succ m ih => rw [sd_u, List.length_cons, ih]
theorem sd_m_le : ∀ f a, sd_m f a ≤ f := by
  intro f
  induction f with
  | zero => intro a; exact Nat.le_refl _
  | succ f ih =>
    intro a
    rw [sd_m]
    split
    · omega
    · have := ih (a / 10); omega
theorem sd_num_len (v : Int32) : (sd_num v).length ≤ 12 ∧ 0 < (sd_num v).length := by
  have h1 : (sd_nat (sd_abs v)).length ≤ 11 ∧ 0 < (sd_nat (sd_abs v)).length := by
    rw [sd_nat, sd_u_len]; have := sd_m_le 10 (sd_abs v); omega
  rw [sd_num]
  split
  · rw [List.length_cons]; omega
  · omega
theorem mo_fx.sr {h h' : jh_H} {mo : Nat} {ar : Nat → Nat} {F : Nat → Nat → Prop} (a : mo_fx h h' mo ar F sr_G) (e : jh_i h' mo 550 = jh_i h mo 550) : mo_fx h h' mo ar F rd_G := by
  obtain ⟨a1, a2, a3, a4, a5, a6, a7, a8⟩ := a
  refine ⟨a1, a2, a3, a4, a5, a6, fun b k hk => ?_, a8⟩
  by_cases z : b = mo ∧ k = 550
  · rw [z.1, z.2]; exact e
  · refine a7 b k (fun eb hs => ?_)
    rcases hs with hs | hs
    · exact hk eb hs
    · exact z ⟨eb, hs⟩
set_option maxHeartbeats 4000000 in
set_option maxRecDepth 100000 in
theorem cm_lengthOf {g : jg_G} (hg : (jg_l g).stackTraces = false) {h : jh_H} {mo : Nat} {ar : Nat → Nat} {n r : Nat} {D : sd_D} {v : sv_T} {Q : jw_O → jh_H → Prop} (hm : mo_ok h mo ar) (hD : mo_D h ar n D) (hdp : ∀ x, x < n → sd_dp D 60 x) (hr : r < 18) (hv : mo_R h ar n D r v)
    (hq : ∀ h', mo_fx h h' mo ar rd_F rd_G → Q (.inl (some (.inl (nI (sv_len D v))))) h') : jw_C g 4 0 0 m_M_lengthOf [.inr (.inr (some mo)), .inl (nI r)] h Q := by
  refine jw_intro (ls := [some (.inr (.inr (some mo))), some (.inl (nI r))]) (by decide) k_M_lengthOf rfl (by simp [lo_fit, jv_c]) hg ?_
  refine jw_aload_n rfl rfl ?_
  refine jw_gr rfl g_M_92 hm.1 (mo_r hm 19 rfl) ?_
  refine jw_iload_n rfl rfl ?_
  refine js_iald (r) rfl (mo_a hm 19 rfl) (by decide) (by rfl)  rfl (by omega) (by decide) ?_
  rcases v with _ | v | L | x
  · have hw : jh_I h (ar 538) r = -1 := hv
    rw [hw]
    refine jw_if_ge 11 rfl rfl (fun z => absurd z (by decide)) (fun _ => ?_)
    refine js_iconst (x := 0) rfl rfl ?_
    refine jw_ireturn rfl rfl rfl ?_
    exact hq h mo_fx.rf
  · have hv2 := hv
    obtain ⟨hw, hnum⟩ : jh_I h (ar 538) r = 0 ∧ jh_I h (ar 539) r = v := hv
    rw [hw]
    refine jw_if_ge 11 rfl rfl (fun _ => ?_) (fun z => absurd (by decide) z)
    refine jw_aload_n rfl rfl ?_
    refine jw_gr rfl g_M_92 hm.1 (mo_r hm 19 rfl) ?_
    refine jw_iload_n rfl rfl ?_
    refine js_iald (r) rfl (mo_a hm 19 rfl) (by decide) (by rfl)  rfl (by omega) (by decide) ?_
    rw [hw]
    refine js_iconst (x := 1) rfl rfl ?_
    refine jw_icmp_ne 28 rfl rfl (fun _ => ?_) (fun z => absurd z (by decide))
    refine jw_aload_n rfl rfl ?_
    refine jw_gr rfl g_M_92 hm.1 (mo_r hm 19 rfl) ?_
    refine jw_iload_n rfl rfl ?_
    refine js_iald (r) rfl (mo_a hm 19 rfl) (by decide) (by rfl)  rfl (by omega) (by decide) ?_
    rw [hw]
    refine js_iconst (x := 1) rfl rfl ?_
    refine jw_icmp_le 50 rfl rfl (fun _ => ?_) (fun z => absurd (by decide) z)
    refine jw_aload_n rfl rfl ?_
    refine jw_iload_n rfl rfl ?_
    refine js_call (As := [.inl (nI r)]) rfl l_M_showRaw c_M_304 i_M_showRaw s_M_showRaw jc_o8 rfl hm.1 rfl (cm_showRaw hg hm hD hdp hr hv2 (fun h' f' x' e' => ?_)) (by decide) (Nat.le_of_ble_eq_true rfl) (by omega) (by omega) rfl
    have hl := sd_num_len v
    have x1 : jh_i h' mo 545 = nI (sd_num v).length := by
      have := x'.1
      rw [this]; congr 1
      show min (sd_num v).length 401 = _
      omega
    have e1 : jh_i h' mo 550 = jh_i h mo 550 := by
      rw [e']; exact if_neg (by show ¬ 400 < (sd_num v).length; omega)
    have hm' := mo_fx.ok f' hm
    refine jw_aload_n rfl rfl ?_
    refine jw_gi rfl g_M_113 hm'.1 x1 ?_
    refine jw_ireturn rfl rfl rfl ?_
    exact hq h' (mo_fx.sr f' e1)
  · obtain ⟨hw, hsz, hL, hch⟩ : jh_I h (ar 538) r = 1 ∧ jh_I h (ar 540) r = nI L.length ∧ L.length ≤ 400 ∧ ∀ j, j < L.length → jh_I h (ar 541) (r * 400 + j) = nI (L.getD j 0) ∧ L.getD j 0 < 128 := hv
    rw [hw]
    refine jw_if_ge 11 rfl rfl (fun _ => ?_) (fun z => absurd (by decide) z)
    refine jw_aload_n rfl rfl ?_
    refine jw_gr rfl g_M_92 hm.1 (mo_r hm 19 rfl) ?_
    refine jw_iload_n rfl rfl ?_
    refine js_iald (r) rfl (mo_a hm 19 rfl) (by decide) (by rfl)  rfl (by omega) (by decide) ?_
    rw [hw]
    refine js_iconst (x := 1) rfl rfl ?_
    refine jw_icmp_ne 28 rfl rfl (fun z => absurd rfl z) (fun _ => ?_)
    refine jw_aload_n rfl rfl ?_
    refine jw_gr rfl g_M_98 hm.1 (mo_r hm 21 rfl) ?_
    refine jw_iload_n rfl rfl ?_
    refine js_iald (r) rfl (mo_a hm 21 rfl) (by decide) (by rfl)  rfl (by omega) (by decide) ?_
    rw [hsz]
    refine jw_ireturn rfl rfl rfl ?_
    exact hq h mo_fx.rf
  · obtain ⟨hw, hnum, hxn, hk2⟩ : jh_I h (ar 538) r = nI (sd_k D x) ∧ jh_I h (ar 539) r = nI x ∧ x < n ∧ 2 ≤ sd_k D x := hv
    have hn60 := hD.1
    obtain ⟨d1, d2, d3, d4, d5, d6, d7⟩ := hD.2 x hxn
    rw [hw]
    refine jw_if_ge 11 rfl rfl (fun _ => ?_) (fun z => absurd (nI_pos' (by omega)) z)
    refine jw_aload_n rfl rfl ?_
    refine jw_gr rfl g_M_92 hm.1 (mo_r hm 19 rfl) ?_
    refine jw_iload_n rfl rfl ?_
    refine js_iald (r) rfl (mo_a hm 19 rfl) (by decide) (by rfl)  rfl (by omega) (by decide) ?_
    rw [hw]
    refine js_iconst (x := 1) rfl rfl ?_
    refine jw_icmp_ne 28 rfl rfl (fun _ => ?_) (fun z => absurd ((nI_eq (b := 1) (by omega) (by omega)).mp z) (by omega))
    refine jw_aload_n rfl rfl ?_
    refine jw_gr rfl g_M_92 hm.1 (mo_r hm 19 rfl) ?_
    refine jw_iload_n rfl rfl ?_
    refine js_iald (r) rfl (mo_a hm 19 rfl) (by decide) (by rfl)  rfl (by omega) (by decide) ?_
    rw [hw]
    refine js_iconst (x := 1) rfl rfl ?_
    refine jw_icmp_le 50 rfl rfl (fun z => absurd ((nI_leI (b := 1) (by omega) (by omega)).mp z) (by omega)) (fun _ => ?_)
    refine jw_aload_n rfl rfl ?_
    refine jw_gr rfl g_M_39 hm.1 (mo_r hm 2 rfl) ?_
    refine jw_aload_n rfl rfl ?_
    refine jw_gr rfl g_M_95 hm.1 (mo_r hm 20 rfl) ?_
    refine jw_iload_n rfl rfl ?_
    refine js_iald (r) rfl (mo_a hm 20 rfl) (by decide) (by rfl)  rfl (by omega) (by decide) ?_
    rw [hnum]
    refine js_iald (x) rfl (mo_a hm 2 rfl) (by decide) (by rfl)  rfl (by omega) (by decide) ?_
    rw [d3, d4 (by omega)]
    refine jw_ireturn rfl rfl rfl ?_
    exact hq h mo_fx.rf

