/-! the model: truth, copying, elements, members -/
set_option maxHeartbeats 4000000 in
set_option maxRecDepth 100000 in
theorem cm_isFalse {g : jg_G} (hg : (jg_l g).stackTraces = false) {h : jh_H} {mo : Nat} {ar : Nat → Nat} {n r : Nat} {D : sd_D} {v : sv_T} {Q : jw_O → jh_H → Prop} (hm : mo_ok h mo ar) (hD : mo_D h ar n D) (hdp : ∀ x, x < n → sd_dp D 60 x) (hr : r < 18) (hv : mo_R h ar n D r v)
    (hq : ∀ h', mo_fx h h' mo ar rd_F rd_G → Q (.inl (some (.inl (sp_b (sv_false D v))))) h') : jw_C g 5 0 0 m_M_isFalse [.inr (.inr (some mo)), .inl (nI r)] h Q := by
  refine jw_intro (ls := [some (.inr (.inr (some mo))), some (.inl (nI r))]) (by decide) k_M_isFalse rfl (by simp [lo_fit, jv_c]) hg ?_
  have hv2 := hv
  rcases v with _ | v | L | x
  · refine jw_aload_n rfl rfl ?_
    refine jw_gr rfl g_M_92 hm.1 (mo_r hm 19 rfl) ?_
    refine jw_iload_n rfl rfl ?_
    refine js_ialdV (r) rfl (mo_a hm 19 rfl) (by decide) (by rfl) rfl (by omega) (by decide) (hv) ?_
    refine jw_if_lt 55 rfl rfl (fun _ => ?_) (fun z => absurd (by decide) z)
    refine js_iconst (x := 1) rfl rfl ?_
    refine jw_goto 60 rfl rfl ?_
    refine jw_ireturn rfl rfl rfl ?_
    exact hq h mo_fx.rf
  · obtain ⟨hw, hnum⟩ : jh_I h (ar 538) r = 0 ∧ jh_I h (ar 539) r = v := hv
    refine jw_aload_n rfl rfl ?_
    refine jw_gr rfl g_M_92 hm.1 (mo_r hm 19 rfl) ?_
    refine jw_iload_n rfl rfl ?_
    refine js_ialdV (r) rfl (mo_a hm 19 rfl) (by decide) (by rfl) rfl (by omega) (by decide) (hw) ?_
    refine jw_if_lt 55 rfl rfl (fun z => absurd z (by decide)) (fun _ => ?_)
    refine jw_aload_n rfl rfl ?_
    refine jw_gr rfl g_M_92 hm.1 (mo_r hm 19 rfl) ?_
    refine jw_iload_n rfl rfl ?_
    refine js_ialdV (r) rfl (mo_a hm 19 rfl) (by decide) (by rfl) rfl (by omega) (by decide) (hw) ?_
    refine jw_if_ne 27 rfl rfl (fun z => absurd (rfl) z) (fun _ => ?_)
    refine jw_aload_n rfl rfl ?_
    refine jw_gr rfl g_M_95 hm.1 (mo_r hm 20 rfl) ?_
    refine jw_iload_n rfl rfl ?_
    refine js_ialdV (r) rfl (mo_a hm 20 rfl) (by decide) (by rfl) rfl (by omega) (by decide) (hnum) ?_
    refine jw_if_eq 55 rfl rfl (fun z => ?_) (fun z => ?_)
    · refine js_iconst (x := 1) rfl rfl ?_
      refine jw_goto 60 rfl rfl ?_
      refine jw_ireturn rfl rfl rfl ?_
      have e : sv_false D (some (.inl v)) = true := decide_eq_true z
      rw [e] at hq
      exact hq h mo_fx.rf
    · refine jw_aload_n rfl rfl ?_
      refine jw_gr rfl g_M_92 hm.1 (mo_r hm 19 rfl) ?_
      refine jw_iload_n rfl rfl ?_
      refine js_ialdV (r) rfl (mo_a hm 19 rfl) (by decide) (by rfl) rfl (by omega) (by decide) (hw) ?_
      refine js_iconst (x := 1) rfl rfl ?_
      refine jw_icmp_eq 47 rfl rfl (fun z => absurd z (by decide)) (fun _ => ?_)
      refine jw_aload_n rfl rfl ?_
      refine jw_gr rfl g_M_92 hm.1 (mo_r hm 19 rfl) ?_
      refine jw_iload_n rfl rfl ?_
      refine js_ialdV (r) rfl (mo_a hm 19 rfl) (by decide) (by rfl) rfl (by omega) (by decide) (hw) ?_
      refine js_iconst (x := 2) rfl rfl ?_
      refine jw_icmp_ne 59 rfl rfl (fun _ => ?_) (fun z => absurd z (by decide))
      refine js_iconst (x := 0) rfl rfl ?_
      refine jw_ireturn rfl rfl rfl ?_
      have e : sv_false D (some (.inl v)) = false := decide_eq_false z
      rw [e] at hq
      exact hq h mo_fx.rf
  · obtain ⟨hw, hsz, hL, hch⟩ : jh_I h (ar 538) r = 1 ∧ jh_I h (ar 540) r = nI L.length ∧ L.length ≤ 400 ∧ ∀ j, j < L.length → jh_I h (ar 541) (r * 400 + j) = nI (L.getD j 0) ∧ L.getD j 0 < 128 := hv
    refine jw_aload_n rfl rfl ?_
    refine jw_gr rfl g_M_92 hm.1 (mo_r hm 19 rfl) ?_
    refine jw_iload_n rfl rfl ?_
    refine js_ialdV (r) rfl (mo_a hm 19 rfl) (by decide) (by rfl) rfl (by omega) (by decide) (hw) ?_
    refine jw_if_lt 55 rfl rfl (fun z => absurd z (by decide)) (fun _ => ?_)
    refine jw_aload_n rfl rfl ?_
    refine jw_gr rfl g_M_92 hm.1 (mo_r hm 19 rfl) ?_
    refine jw_iload_n rfl rfl ?_
    refine js_ialdV (r) rfl (mo_a hm 19 rfl) (by decide) (by rfl) rfl (by omega) (by decide) (hw) ?_
    refine jw_if_ne 27 rfl rfl (fun _ => ?_) (fun z => absurd z (by decide))
    refine jw_aload_n rfl rfl ?_
    refine jw_gr rfl g_M_92 hm.1 (mo_r hm 19 rfl) ?_
    refine jw_iload_n rfl rfl ?_
    refine js_ialdV (r) rfl (mo_a hm 19 rfl) (by decide) (by rfl) rfl (by omega) (by decide) (hw) ?_
    refine js_iconst (x := 1) rfl rfl ?_
    refine jw_icmp_eq 47 rfl rfl (fun _ => ?_) (fun z => absurd (rfl) z)
    refine jw_aload_n rfl rfl ?_
    refine jw_iload_n rfl rfl ?_
    refine js_call (As := [.inl (nI r)]) rfl l_M_lengthOf c_M_307 i_M_lengthOf s_M_lengthOf jc_o8 rfl hm.1 rfl (cm_lengthOf hg hm hD hdp hr hv2 (fun h' f' => ?_)) (by decide) (Nat.le_of_ble_eq_true rfl) (by omega) (by omega) rfl
    refine jw_if_ne 59 rfl rfl (fun z => ?_) (fun z => ?_)
    · refine js_iconst (x := 0) rfl rfl ?_
      refine jw_ireturn rfl rfl rfl ?_
      have e : sv_false D (some (.inr (.inl L))) = false := decide_eq_false (fun e => z (by show nI L.length = 0; rw [e]; rfl))
      rw [e] at hq
      exact hq h' f'
    · refine js_iconst (x := 1) rfl rfl ?_
      refine jw_goto 60 rfl rfl ?_
      refine jw_ireturn rfl rfl rfl ?_
      have e : sv_false D (some (.inr (.inl L))) = true := decide_eq_true ((nI_eq (b := 0) (by omega) (by omega)).mp z)
      rw [e] at hq
      exact hq h' f'
  · obtain ⟨hw, hnum, hxn, hk2⟩ : jh_I h (ar 538) r = nI (sd_k D x) ∧ jh_I h (ar 539) r = nI x ∧ x < n ∧ 2 ≤ sd_k D x := hv
    have hn60 := hD.1
    obtain ⟨d1, d2, d3, d4, d5, d6, d7⟩ := hD.2 x hxn
    refine jw_aload_n rfl rfl ?_
    refine jw_gr rfl g_M_92 hm.1 (mo_r hm 19 rfl) ?_
    refine jw_iload_n rfl rfl ?_
    refine js_ialdV (r) rfl (mo_a hm 19 rfl) (by decide) (by rfl) rfl (by omega) (by decide) (hw) ?_
    refine jw_if_lt 55 rfl rfl (fun z => absurd z (nI_pos (by omega))) (fun _ => ?_)
    refine jw_aload_n rfl rfl ?_
    refine jw_gr rfl g_M_92 hm.1 (mo_r hm 19 rfl) ?_
    refine jw_iload_n rfl rfl ?_
    refine js_ialdV (r) rfl (mo_a hm 19 rfl) (by decide) (by rfl) rfl (by omega) (by decide) (hw) ?_
    refine jw_if_ne 27 rfl rfl (fun _ => ?_) (fun z => absurd z (fun z => absurd ((nI_eq (b := 0) (by omega) (by omega)).mp z) (by omega)))
    refine jw_aload_n rfl rfl ?_
    refine jw_gr rfl g_M_92 hm.1 (mo_r hm 19 rfl) ?_
    refine jw_iload_n rfl rfl ?_
    refine js_ialdV (r) rfl (mo_a hm 19 rfl) (by decide) (by rfl) rfl (by omega) (by decide) (hw) ?_
    refine js_iconst (x := 1) rfl rfl ?_
    refine jw_icmp_eq 47 rfl rfl (fun z => absurd z (fun z => absurd ((nI_eq (b := 1) (by omega) (by omega)).mp z) (by omega))) (fun _ => ?_)
    refine jw_aload_n rfl rfl ?_
    refine jw_gr rfl g_M_92 hm.1 (mo_r hm 19 rfl) ?_
    refine jw_iload_n rfl rfl ?_
    refine js_ialdV (r) rfl (mo_a hm 19 rfl) (by decide) (by rfl) rfl (by omega) (by decide) (hw) ?_
    refine js_iconst (x := 2) rfl rfl ?_
    refine jw_icmp_ne 59 rfl rfl (fun z => ?_) (fun z => ?_)
    · refine js_iconst (x := 0) rfl rfl ?_
      refine jw_ireturn rfl rfl rfl ?_
      have e : sv_false D (some (.inr (.inr x))) = false := decide_eq_false (fun e => z (by rw [e.1]; rfl))
      rw [e] at hq
      exact hq h mo_fx.rf
    · have h2 : sd_k D x = 2 := (nI_eq (b := 2) (by omega) (by omega)).mp z
      have hc := (d6 hk2).1
      refine jw_aload_n rfl rfl ?_
      refine jw_iload_n rfl rfl ?_
      refine js_call (As := [.inl (nI r)]) rfl l_M_lengthOf c_M_307 i_M_lengthOf s_M_lengthOf jc_o8 rfl hm.1 rfl (cm_lengthOf hg hm hD hdp hr hv2 (fun h' f' => ?_)) (by decide) (Nat.le_of_ble_eq_true rfl) (by omega) (by omega) rfl
      refine jw_if_ne 59 rfl rfl (fun z => ?_) (fun z => ?_)
      · refine js_iconst (x := 0) rfl rfl ?_
        refine jw_ireturn rfl rfl rfl ?_
        have e : sv_false D (some (.inr (.inr x))) = false := decide_eq_false (fun e => z (by show nI (sd_c D x) = 0; rw [e.2]; rfl))
        rw [e] at hq
        exact hq h' f'
      · refine js_iconst (x := 1) rfl rfl ?_
        refine jw_goto 60 rfl rfl ?_
        refine jw_ireturn rfl rfl rfl ?_
        have e : sv_false D (some (.inr (.inr x))) = true := decide_eq_true ⟨h2, (nI_eq (b := 0) (by show sd_c D x < _; omega) (by omega)).mp z⟩
        rw [e] at hq
        exact hq h' f'
set_option maxHeartbeats 4000000 in
set_option maxRecDepth 100000 in
theorem cm_copy {g : jg_G} (hg : (jg_l g).stackTraces = false) {h : jh_H} {mo : Nat} {ar : Nat → Nat} {n r s : Nat} {D : sd_D} {v : sv_T} {Q : jw_O → jh_H → Prop} (hm : mo_ok h mo ar) (hr : r < 18) (hs : s < 18) (hrs : r ≠ s) (hk3 : ∀ x, x < n → sd_k D x ≤ 3) (hv : mo_R h ar n D s v)
    (hq : ∀ h', mo_fx h h' mo ar (rg_F r) no_G → mo_R h' ar n D r v → Q (.inl none) h') : jw_C g 0 0 0 m_M_copy [.inr (.inr (some mo)), .inl (nI r), .inl (nI s)] h Q := by
  refine jw_intro (ls := [some (.inr (.inr (some mo))), some (.inl (nI r)), some (.inl (nI s)), none]) (by decide) k_M_copy rfl (by simp [lo_fit, jv_c]) hg ?_
  have wS : ∀ h3, mo_fx h h3 mo ar (rg_F r) no_G → mo_R h3 ar n D s v := fun h3 f3 => mo_R.fx hm f3 (fun k j z => ⟨rg_F_in z, fun z2 => by rcases z with ⟨_, e⟩ | ⟨_, e⟩ <;> rcases z2 with ⟨_, e2⟩ | ⟨_, e2⟩ <;> omega⟩) hs hv
  refine jw_aload_n rfl rfl ?_
  refine jw_gr rfl g_M_92 hm.1 (mo_r hm 19 rfl) ?_
  refine jw_iload_n rfl rfl ?_
  refine jw_aload_n rfl rfl ?_
  refine jw_gr rfl g_M_92 hm.1 (mo_r hm 19 rfl) ?_
  refine jw_iload_n rfl rfl ?_
  refine js_iald (s) rfl (mo_a hm 19 rfl) (by decide) (by rfl) rfl (by omega) (by decide) ?_
  refine js_iast (r) rfl (mo_a hm 19 rfl) (by decide) (by rfl) rfl (by omega) (by decide) ?_
  refine jw_aload_n rfl rfl ?_
  refine jw_gr rfl g_M_95 (mo_sI hm).1 (mo_r (mo_sI hm) 20 rfl) ?_
  refine jw_iload_n rfl rfl ?_
  refine jw_aload_n rfl rfl ?_
  refine jw_gr rfl g_M_95 (mo_sI hm).1 (mo_r (mo_sI hm) 20 rfl) ?_
  refine jw_iload_n rfl rfl ?_
  refine js_ialdV (s) rfl (mo_a (mo_sI hm) 20 rfl) (by decide) (by rfl) rfl (by omega) (by decide) (mo_rs hm 20 19 rfl rfl (by decide)) ?_
  refine js_iast (r) rfl (mo_a (mo_sI hm) 20 rfl) (by decide) (by rfl) rfl (by omega) (by decide) ?_
  refine jw_aload_n rfl rfl ?_
  refine jw_gr rfl g_M_98 (mo_sI (mo_sI hm)).1 (mo_r (mo_sI (mo_sI hm)) 21 rfl) ?_
  refine jw_iload_n rfl rfl ?_
  refine jw_aload_n rfl rfl ?_
  refine jw_gr rfl g_M_98 (mo_sI (mo_sI hm)).1 (mo_r (mo_sI (mo_sI hm)) 21 rfl) ?_
  refine jw_iload_n rfl rfl ?_
  refine js_ialdV (s) rfl (mo_a (mo_sI (mo_sI hm)) 21 rfl) (by decide) (by rfl) rfl (by omega) (by decide) ((mo_rs hm 21 20 rfl rfl (by decide)).trans (mo_rs hm 21 19 rfl rfl (by decide))) ?_
  refine js_iast (r) rfl (mo_a (mo_sI (mo_sI hm)) 21 rfl) (by decide) (by rfl) rfl (by omega) (by decide) ?_
  refine js_iconst (x := 0) rfl rfl ?_
  refine js_istore_n rfl rfl (by decide) rfl ?_
  generalize hh2 : jh_sI (jh_sI (jh_sI h (ar 538) r (jh_I h (ar 538) s)) (ar 539) r (jh_I h (ar 539) s)) (ar 540) r (jh_I h (ar 540) s) = h2
  have f2 : mo_fx h h2 mo ar (rg_F r) no_G := by rw [← hh2]; exact mo_fx.sI (mo_fx.sI (mo_fx.sI mo_fx.rf (Or.inl ⟨Or.inl rfl, rfl⟩)) (Or.inl ⟨Or.inr (Or.inl rfl), rfl⟩)) (Or.inl ⟨Or.inr (Or.inr rfl), rfl⟩)
  have g0 : jh_I h2 (ar 538) r = jh_I h (ar 538) s := by rw [← hh2]; exact (mo_rs hm 19 21 rfl rfl (by decide)).trans ((mo_rs hm 19 20 rfl rfl (by decide)).trans (jh_u_s _ _ _ _))
  have g1 : jh_I h2 (ar 539) r = jh_I h (ar 539) s := by rw [← hh2]; exact (mo_rs hm 20 21 rfl rfl (by decide)).trans (jh_u_s _ _ _ _)
  have g2 : jh_I h2 (ar 540) r = jh_I h (ar 540) s := by rw [← hh2]; exact jh_u_s _ _ _ _
  have g3 : jh_I h2 (ar 538) s = jh_I h (ar 538) s := mo_fx.rd hm f2 19 rfl (fun k z => ⟨fun e => by rcases z with ⟨_, e⟩ | ⟨e, _⟩ <;> omega, rg_F_in z⟩)
  clear hh2
  have hm2 := mo_fx.ok f2 hm
  by_cases ht : jh_I h (ar 538) s = 1
  · rcases v with _ | v | L | x
    · exact absurd (ht.symm.trans hv) (by decide)
    · exact absurd (ht.symm.trans hv.1) (by decide)
    · obtain ⟨hw, hsz, hL, hch⟩ : jh_I h (ar 538) s = 1 ∧ jh_I h (ar 540) s = nI L.length ∧ L.length ≤ 400 ∧ ∀ j, j < L.length → jh_I h (ar 541) (s * 400 + j) = nI (L.getD j 0) ∧ L.getD j 0 < 128 := hv
      have loop : ∀ m j h3, j + m = L.length → mo_fx h h3 mo ar (rg_F r) no_G → jh_I h3 (ar 538) r = 1 → jh_I h3 (ar 540) r = nI L.length → (∀ i, i < j → jh_I h3 (ar 541) (r * 400 + i) = nI (L.getD i 0)) → jw_J g 0 m_M_copy jw_T0 38 [some (.inr (.inr (some mo))), some (.inl (nI r)), some (.inl (nI s)), some (.inl (nI j))] [] h3 0 0 Q := by
        intro m
        induction m with
        | zero =>
          intro j h3 hj f3 a0 a2 ac
          have hm3 := mo_fx.ok f3 hm
          refine jw_iload_n rfl rfl ?_
          refine jw_aload_n rfl rfl ?_
          refine jw_gr rfl g_M_98 hm3.1 (mo_r hm3 21 rfl) ?_
          refine jw_iload_n rfl rfl ?_
          refine js_ialdV (s) rfl (mo_a hm3 21 rfl) (by decide) (by rfl) rfl (by omega) (by decide) ((wS h3 f3).2.1) ?_
          refine jw_icmp_ge 88 rfl rfl (fun _ => ?_) (fun z => absurd ((nI_leI (by omega) (by omega)).mpr (by omega)) z)
          refine jw_return rfl rfl ?_
          exact hq h3 f3 ⟨a0, a2, hL, fun i hi => ⟨ac i (by omega), (hch i hi).2⟩⟩
        | succ m ih =>
          intro j h3 hj f3 a0 a2 ac
          have hm3 := mo_fx.ok f3 hm
          have hcj := hch j (by omega)
          refine jw_iload_n rfl rfl ?_
          refine jw_aload_n rfl rfl ?_
          refine jw_gr rfl g_M_98 hm3.1 (mo_r hm3 21 rfl) ?_
          refine jw_iload_n rfl rfl ?_
          refine js_ialdV (s) rfl (mo_a hm3 21 rfl) (by decide) (by rfl) rfl (by omega) (by decide) ((wS h3 f3).2.1) ?_
          refine jw_icmp_ge 88 rfl rfl (fun z => absurd z (fun z => absurd ((nI_leI (by omega) (by omega)).mp z) (by omega))) (fun _ => ?_)
          refine jw_aload_n rfl rfl ?_
          refine jw_gr rfl g_M_92 hm3.1 (mo_r hm3 19 rfl) ?_
          refine jw_iload_n rfl rfl ?_
          refine js_ialdV (s) rfl (mo_a hm3 19 rfl) (by decide) (by rfl) rfl (by omega) (by decide) ((wS h3 f3).1) ?_
          refine js_iconst (x := 1) rfl rfl ?_
          refine jw_icmp_ne 88 rfl rfl (fun z => absurd (rfl) z) (fun _ => ?_)
          refine jw_aload_n rfl rfl ?_
          refine jw_gr rfl g_M_101 hm3.1 (mo_r hm3 22 rfl) ?_
          refine jw_iload_n rfl rfl ?_
          refine js_sipush (x := 400) rfl rfl ?_
          refine jw_imulV rfl (pk_mul r 400) ?_
          refine jw_iload_n rfl rfl ?_
          refine jw_iaddV rfl (nI_add _ _) ?_
          refine jw_aload_n rfl rfl ?_
          refine jw_gr rfl g_M_101 hm3.1 (mo_r hm3 22 rfl) ?_
          refine jw_iload_n rfl rfl ?_
          refine js_sipush (x := 400) rfl rfl ?_
          refine jw_imulV rfl (pk_mul s 400) ?_
          refine jw_iload_n rfl rfl ?_
          refine jw_iaddV rfl (nI_add _ _) ?_
          refine js_caldV (s * 400 + j) rfl (mo_a hm3 22 rfl) (by decide) (by rfl) rfl (by omega) (by decide) (((wS h3 f3).2.2.2 j (by omega)).1) ?_
          refine js_cast (r * 400 + j) rfl (mo_a hm3 22 rfl) (by decide) (by rfl) rfl (by omega) (by decide) ?_
          refine js_iinc rfl rfl (nI_1 j) rfl (by decide) rfl ?_
          refine jw_goto 38 rfl rfl ?_
          refine ih (j + 1) _ (by omega) (mo_fx.sI f3 (Or.inr ⟨rfl, by omega, by omega⟩)) ((mo_rs hm 19 22 rfl rfl (by decide)).trans a0) ((mo_rs hm 21 22 rfl rfl (by decide)).trans a2) (fun i hi => ?_)
          by_cases z : i = j
          · subst z; exact (jh_u_s _ _ _ _).trans (nI_n (by omega))
          · exact (jh_u_k _ _ _ _ (by omega)).trans (ac i (by omega))
      exact loop L.length 0 h2 (by omega) f2 (g0.trans hw) (g2.trans hsz) (fun i hi => absurd hi (by omega))
    · exact absurd ((nI_eq (b := 1) (by have := hk3 x hv.2.2.1; omega) (by omega)).mp (hv.1.symm.trans ht)) (by have := hv.2.2.2; omega)
  · have fin : mo_R h2 ar n D r v := by
      rcases v with _ | v | L | x
      · exact g0.trans hv
      · exact ⟨g0.trans hv.1, g1.trans hv.2⟩
      · exact absurd hv.1 ht
      · exact ⟨g0.trans hv.1, g1.trans hv.2.1, hv.2.2⟩
    refine jw_iload_n rfl rfl ?_
    refine jw_aload_n rfl rfl ?_
    refine jw_gr rfl g_M_98 hm2.1 (mo_r hm2 21 rfl) ?_
    refine jw_iload_n rfl rfl ?_
    refine js_iald (s) rfl (mo_a hm2 21 rfl) (by decide) (by rfl) rfl (by omega) (by decide) ?_
    refine jw_icmp_ge 88 rfl rfl (fun z => ?_) (fun z => ?_)
    · refine jw_return rfl rfl ?_
      exact hq h2 f2 fin
    · refine jw_aload_n rfl rfl ?_
      refine jw_gr rfl g_M_92 hm2.1 (mo_r hm2 19 rfl) ?_
      refine jw_iload_n rfl rfl ?_
      refine js_ialdV (s) rfl (mo_a hm2 19 rfl) (by decide) (by rfl) rfl (by omega) (by decide) (g3) ?_
      refine js_iconst (x := 1) rfl rfl ?_
      refine jw_icmp_ne 88 rfl rfl (fun _ => ?_) (fun z => absurd z (ht))
      refine jw_return rfl rfl ?_
      exact hq h2 f2 fin

