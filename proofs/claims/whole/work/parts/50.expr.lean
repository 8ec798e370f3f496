/-! the model: operands and expressions -/
theorem sub_getD {t : Nat → Nat} {p n j : Nat} (h : j < n) : (sp_sub t p n).getD j 0 = t (p + j) := getD_rm h
theorem sub_len {t : Nat → Nat} {p n : Nat} : (sp_sub t p n).length = n := by rw [sp_sub, List.length_map, List.length_range]
set_option maxHeartbeats 4000000 in
set_option maxRecDepth 100000 in
theorem cm_operand {g : jg_G} (hg : (jg_l g).stackTraces = false) {h : jh_H} {mo : Nat} {ar t : Nat → Nat} {n r p e cn m : Nat} {D : sd_D} {C : Nat → sv_T} {Fr : Nat → fr_T} {Q : jw_O → jh_H → Prop} (hm : mo_ok h mo ar) (hD : mo_D h ar n D) (ht : mo_tx h ar t) (hcx : cx_ok h mo ar n D cn C) (hu : un_ok h mo ar m Fr) (hr : r < 3) (hp : p ≤ e) (he : e ≤ 900) (hpe : e ≤ p + 300) (hp2 : t p = 34 → p + 2 ≤ e)
    (hq : ∀ h', mo_fx h h' mo ar (rg_F r) no_G → mo_R h' ar n D r (ev_op D C cn (fr_turn Fr m) (ex_op t p e)) → Q (.inl none) h') : jw_C g 4 0 0 m_M_operand [.inr (.inr (some mo)), .inl (nI r), .inl (nI p), .inl (nI e)] h Q := by
  refine jw_intro (ls := [some (.inr (.inr (some mo))), some (.inl (nI r)), some (.inl (nI p)), some (.inl (nI e)), none, none]) (by decide) k_M_operand rfl (by simp [lo_fit, jv_c]) hg ?_
  have htp := ht p (by omega)
  rw [ex_op] at hq
  by_cases h34 : t p = 34
  · rw [if_pos h34] at hq
    have hp2 := hp2 h34
    have hL : (sp_sub t (p + 1) (e - p - 2)).length = e - p - 2 := sub_len
    refine jw_aload_n rfl rfl ?_
    refine jw_gr rfl g_M_56 hm.1 (mo_r hm 7 rfl) ?_
    refine jw_iload_n rfl rfl ?_
    refine js_caldV (p) rfl (mo_a hm 7 rfl) (by decide) (by rfl) rfl (by omega) (by decide) (htp.1.trans (by rw [h34])) ?_
    refine js_bipush (x := 34) rfl rfl ?_
    refine jw_icmp_ne 76 rfl rfl (fun z => absurd (rfl) z) (fun _ => ?_)
    refine jw_aload_n rfl rfl ?_
    refine jw_gr rfl g_M_92 hm.1 (mo_r hm 19 rfl) ?_
    refine jw_iload_n rfl rfl ?_
    refine js_iconst (x := 1) rfl rfl ?_
    refine js_iast (r) rfl (mo_a hm 19 rfl) (by decide) (by rfl) rfl (by omega) (by decide) ?_
    refine jw_aload_n rfl rfl ?_
    refine jw_gr rfl g_M_98 (mo_sI hm).1 (mo_r (mo_sI hm) 21 rfl) ?_
    refine jw_iload_n rfl rfl ?_
    refine jw_iload_n rfl rfl ?_
    refine jw_iload_n rfl rfl ?_
    refine jw_isubV rfl (pk_sub hp) ?_
    refine js_iconst (x := 2) rfl rfl ?_
    refine jw_isubV rfl (pk_sub (b := 2) (by omega)) ?_
    refine js_iast (r) rfl (mo_a (mo_sI hm) 21 rfl) (by decide) (by rfl) rfl (by omega) (by decide) ?_
    refine js_iconst (x := 0) rfl rfl ?_
    refine js_istore rfl rfl (by decide) rfl ?_
    generalize hh2 : jh_sI (jh_sI h (ar 538) r 1) (ar 540) r (nI (e - p - 2)) = h2
    have f2 : mo_fx h h2 mo ar (rg_F r) no_G := by rw [← hh2]; exact mo_fx.sI (mo_fx.sI mo_fx.rf (Or.inl ⟨Or.inl rfl, rfl⟩)) (Or.inl ⟨Or.inr (Or.inr rfl), rfl⟩)
    have g0 : jh_I h2 (ar 538) r = 1 := by rw [← hh2]; exact (mo_rs hm 19 21 rfl rfl (by decide)).trans (jh_u_s _ _ _ _)
    have g2 : jh_I h2 (ar 540) r = nI (e - p - 2) := by rw [← hh2]; exact jh_u_s _ _ _ _
    clear hh2
    have loop : ∀ k j h3, j + k = e - p - 2 → mo_fx h h3 mo ar (rg_F r) no_G → jh_I h3 (ar 538) r = 1 → jh_I h3 (ar 540) r = nI (e - p - 2) → (∀ i, i < j → jh_I h3 (ar 541) (r * 400 + i) = nI (t (p + 1 + i))) → jw_J g 4 m_M_operand jw_T0 32 [some (.inr (.inr (some mo))), some (.inl (nI r)), some (.inl (nI p)), some (.inl (nI e)), some (.inl (nI j)), none] [] h3 0 0 Q := by
      intro k
      induction k with
      | zero =>
        intro j h3 hj f3 a0 a2 ac
        have hm3 := mo_fx.ok f3 hm
        refine jw_iload rfl rfl ?_
        refine jw_aload_n rfl rfl ?_
        refine jw_gr rfl g_M_98 hm3.1 (mo_r hm3 21 rfl) ?_
        refine jw_iload_n rfl rfl ?_
        refine js_ialdV (r) rfl (mo_a hm3 21 rfl) (by decide) (by rfl) rfl (by omega) (by decide) (a2) ?_
        refine jw_icmp_ge 73 rfl rfl (fun _ => ?_) (fun z => absurd ((nI_leI (by omega) (by omega)).mpr (by omega)) z)
        refine jw_goto 142 rfl rfl ?_
        refine jw_return rfl rfl ?_
        refine hq h3 f3 ⟨a0, by rw [hL]; exact a2, by rw [hL]; omega, fun i hi => ?_⟩
        rw [hL] at hi
        rw [sub_getD hi]
        exact ⟨ac i (by omega), (ht (p + 1 + i) (by omega)).2⟩
      | succ k ih =>
        intro j h3 hj f3 a0 a2 ac
        have hm3 := mo_fx.ok f3 hm
        have ht3 := mo_tx.rg hm f3 ht
        have htj := ht3 (p + 1 + j) (by omega)
        refine jw_iload rfl rfl ?_
        refine jw_aload_n rfl rfl ?_
        refine jw_gr rfl g_M_98 hm3.1 (mo_r hm3 21 rfl) ?_
        refine jw_iload_n rfl rfl ?_
        refine js_ialdV (r) rfl (mo_a hm3 21 rfl) (by decide) (by rfl) rfl (by omega) (by decide) (a2) ?_
        refine jw_icmp_ge 73 rfl rfl (fun z => absurd z (fun z => absurd ((nI_leI (by omega) (by omega)).mp z) (by omega))) (fun _ => ?_)
        refine jw_aload_n rfl rfl ?_
        refine jw_gr rfl g_M_101 hm3.1 (mo_r hm3 22 rfl) ?_
        refine jw_iload_n rfl rfl ?_
        refine js_sipush (x := 400) rfl rfl ?_
        refine jw_imulV rfl (pk_mul r 400) ?_
        refine jw_iload rfl rfl ?_
        refine jw_iaddV rfl (nI_add _ _) ?_
        refine jw_aload_n rfl rfl ?_
        refine jw_gr rfl g_M_56 hm3.1 (mo_r hm3 7 rfl) ?_
        refine jw_iload_n rfl rfl ?_
        refine js_iconst (x := 1) rfl rfl ?_
        refine jw_iaddV rfl (nI_1 p) ?_
        refine jw_iload rfl rfl ?_
        refine jw_iaddV rfl (nI_add _ _) ?_
        refine js_caldV (p + 1 + j) rfl (mo_a hm3 7 rfl) (by decide) (by rfl) rfl (by omega) (by decide) (htj.1) ?_
        refine js_cast (r * 400 + j) rfl (mo_a hm3 22 rfl) (by decide) (by rfl) rfl (by omega) (by decide) ?_
        refine js_iinc rfl rfl (nI_1 j) rfl (by decide) rfl ?_
        refine jw_goto 32 rfl rfl ?_
        refine ih (j + 1) _ (by omega) (mo_fx.sI f3 (Or.inr ⟨rfl, by omega, by omega⟩)) ((mo_rs hm 19 22 rfl rfl (by decide)).trans a0) ((mo_rs hm 21 22 rfl rfl (by decide)).trans a2) (fun i hi => ?_)
        by_cases z : i = j
        · subst z; exact (jh_u_s _ _ _ _).trans (nI_n (by omega))
        · exact (jh_u_k _ _ _ _ (by omega)).trans (ac i (by omega))
    exact loop (e - p - 2) 0 h2 (by omega) f2 g0 g2 (fun i hi => absurd hi (by omega))
  rw [if_neg h34] at hq
  refine jw_aload_n rfl rfl ?_
  refine jw_gr rfl g_M_56 hm.1 (mo_r hm 7 rfl) ?_
  refine jw_iload_n rfl rfl ?_
  refine js_caldV (p) rfl (mo_a hm 7 rfl) (by decide) (by rfl) rfl (by omega) (by decide) (htp.1) ?_
  refine js_bipush (x := 34) rfl rfl ?_
  refine jw_icmp_ne 76 rfl rfl (fun _ => ?_) (fun z => absurd z (fun z => absurd ((nI_eq (b := 34) (by omega) (by omega)).mp z) h34))
  refine jw_aload_n rfl rfl ?_
  refine jw_aload_n rfl rfl ?_
  refine jw_gr rfl g_M_56 hm.1 (mo_r hm 7 rfl) ?_
  refine jw_iload_n rfl rfl ?_
  refine js_caldV (p) rfl (mo_a hm 7 rfl) (by decide) (by rfl) rfl (by omega) (by decide) (htp.1) ?_
  refine js_call (As := [.inl (nI (t p))]) rfl l_M_digit c_M_212 i_M_digit s_M_digit jc_o8 rfl hm.1 rfl (cm_digit hg (by omega) ?_) (by decide) (Nat.le_of_ble_eq_true rfl) (by omega) (by omega) rfl
  cases hd : sp_dg (t p) with
  | true =>
    rw [hd, if_pos rfl] at hq
    have loop : ∀ k j w, j + k = e → p ≤ j → ex_dec t k j w = ex_dec t (e - p) p 0 → jw_J g 4 m_M_operand jw_T0 95 [some (.inr (.inr (some mo))), some (.inl (nI r)), some (.inl (nI p)), some (.inl (nI e)), some (.inl w), some (.inl (nI j))] [] h 0 0 Q := by
      intro k
      induction k with
      | zero =>
        intro j w hj hpj hw
        refine jw_iload rfl rfl ?_
        refine jw_iload_n rfl rfl ?_
        refine jw_icmp_ge 125 rfl rfl (fun _ => ?_) (fun z => absurd ((nI_leI (by omega) (by omega)).mpr (by omega)) z)
        refine jw_aload_n rfl rfl ?_
        refine jw_iload_n rfl rfl ?_
        refine jw_iload rfl rfl ?_
        refine js_call (As := [.inl (nI r), .inl w]) rfl l_M_setNumber c_M_320 i_M_setNumber s_M_setNumber jc_o8 rfl hm.1 rfl (cm_setNumber hg hm (by omega) ?_) (by decide) (Nat.le_of_ble_eq_true rfl) (by omega) (by omega) rfl
        refine jw_goto 142 rfl rfl ?_
        refine jw_return rfl rfl ?_
        refine hq _ rg_numf ?_
        rw [← hw]
        exact rg_numv hm
      | succ k ih =>
        intro j w hj hpj hw
        refine jw_iload rfl rfl ?_
        refine jw_iload_n rfl rfl ?_
        refine jw_icmp_ge 125 rfl rfl (fun z => absurd z (fun z => absurd ((nI_leI (by omega) (by omega)).mp z) (by omega))) (fun _ => ?_)
        refine jw_iload rfl rfl ?_
        refine js_bipush (x := 10) rfl rfl ?_
        refine jw_imul rfl ?_
        refine jw_aload_n rfl rfl ?_
        refine jw_gr rfl g_M_56 hm.1 (mo_r hm 7 rfl) ?_
        refine jw_iload rfl rfl ?_
        refine js_caldV (j) rfl (mo_a hm 7 rfl) (by decide) (by rfl) rfl (by omega) (by decide) ((ht j (by omega)).1) ?_
        refine jw_iadd rfl ?_
        refine js_bipush (x := 48) rfl rfl ?_
        refine jw_isub rfl ?_
        refine js_istore rfl rfl (by decide) rfl ?_
        refine js_iinc rfl rfl (nI_1 j) rfl (by decide) rfl ?_
        refine jw_goto 95 rfl rfl ?_
        exact ih (j + 1) _ (by omega) (by omega) hw
    refine jw_if_eq 135 rfl rfl (fun z => absurd z (by decide)) (fun _ => ?_)
    refine js_iconst (x := 0) rfl rfl ?_
    refine js_istore rfl rfl (by decide) rfl ?_
    refine jw_iload_n rfl rfl ?_
    refine js_istore rfl rfl (by decide) rfl ?_
    exact loop (e - p) p 0 (by omega) (Nat.le_refl _) rfl
  | false =>
    rw [hd, if_neg Bool.false_ne_true] at hq
    refine jw_if_eq 135 rfl rfl (fun _ => ?_) (fun z => absurd (rfl) z)
    refine jw_aload_n rfl rfl ?_
    refine jw_iload_n rfl rfl ?_
    refine jw_iload_n rfl rfl ?_
    refine jw_iload_n rfl rfl ?_
    refine js_call (As := [.inl (nI r), .inl (nI p), .inl (nI e)]) rfl l_M_path c_M_333 i_M_path s_M_path jc_o8 rfl hm.1 rfl (cm_path hg hm hD ht hcx hu hr hp he (fun h' f' v' => ?_)) (by decide) (Nat.le_of_ble_eq_true rfl) (by omega) (by omega) rfl
    refine jw_return rfl rfl ?_
    refine hq h' f' ?_
    by_cases z : t p = 64
    · rw [if_pos z] at v' ⊢; exact v'
    · rw [if_neg z] at v' ⊢; exact v'
theorem rd_rg {s k j : Nat} (h : rd_F k j) : ¬ rg_F s k j := by
  intro z
  have := rg_F_k z
  rcases h with rfl | rfl | rfl <;> omega
theorem mo_R.rd {h h' h0 : jh_H} {mo : Nat} {ar : Nat → Nat} {G : Nat → Prop} {n : Nat} {D : sd_D} {s : Nat} {v : sv_T} (hm : mo_ok h0 mo ar) (hf : mo_fx h h' mo ar rd_F G) (hs : s < 18) (hv : mo_R h ar n D s v) : mo_R h' ar n D s v := mo_R.fx hm hf (fun k j z => ⟨(rd_F_in z).2, rd_rg z⟩) hs hv
/-- what an expression may change: its three registers, and the raw text -/
def xp_F (k j : Nat) : Prop := rd_F k j ∨ rg_F 0 k j ∨ rg_F 1 k j ∨ rg_F 2 k j
set_option maxHeartbeats 4000000 in
set_option maxRecDepth 100000 in
theorem cm_upper {g : jg_G} (hg : (jg_l g).stackTraces = false) {h : jh_H} {mo : Nat} {ar : Nat → Nat} {n : Nat} {D : sd_D} {v : sv_T} {Q : jw_O → jh_H → Prop} (hm : mo_ok h mo ar) (hD : mo_D h ar n D) (hdp : ∀ x, x < n → sd_dp D 60 x) (hv : mo_R h ar n D 0 v)
    (hq : ∀ h', mo_fx h h' mo ar xp_F sr_G → jh_i h' mo 550 = (if 400 < (sv_raw D v).length then 4 else jh_i h mo 550) → ((sv_raw D v).length ≤ 400 → mo_R h' ar n D 2 (some (.inr (.inl ((sv_raw D v).map ev_up))))) → Q (.inl none) h') : jw_C g 4 0 0 m_M_upper [.inr (.inr (some mo))] h Q := by
  refine jw_intro (ls := [some (.inr (.inr (some mo))), none]) (by decide) k_M_upper rfl (by simp [lo_fit, jv_c]) hg ?_
  generalize hX : sv_raw D v = X at hq
  refine jw_aload_n rfl rfl ?_
  refine js_iconst (x := 0) rfl rfl ?_
  refine js_call (As := [.inl (nI 0)]) rfl l_M_showRaw c_M_304 i_M_showRaw s_M_showRaw jc_o8 rfl hm.1 rfl (cm_showRaw hg hm hD hdp (by decide) hv (fun h1 f1 x1 e1 => ?_)) (by decide) (Nat.le_of_ble_eq_true rfl) (by omega) (by omega) rfl
  rw [hX] at x1 e1
  have hm1 := mo_fx.ok f1 hm
  have hF1 : mo_fx h h1 mo ar xp_F sr_G := mo_fx.mono f1 (fun _ _ z => Or.inl z) (fun _ z => z)
  -- from the size on
  have rest : ∀ sz, sz = min X.length 400 → jw_J g 4 m_M_upper jw_T0 37 [some (.inr (.inr (some mo))), none] [.inl (nI sz), .inl (nI 2), .inr (.inr (some (ar 540)))] (jh_sI h1 (ar 538) 2 1) 0 0 Q := by
    intro sz hsz
    refine js_iast (2) rfl (mo_a (mo_sI hm1) 21 rfl) (by decide) (by rfl) rfl (by omega) (by decide) ?_
    refine js_iconst (x := 0) rfl rfl ?_
    refine js_istore_n rfl rfl (by decide) rfl ?_
    generalize hh2 : jh_sI (jh_sI h1 (ar 538) 2 1) (ar 540) 2 (nI sz) = h2
    have f2 : mo_fx h1 h2 mo ar (rg_F 2) no_G := by rw [← hh2]; exact mo_fx.sI (mo_fx.sI mo_fx.rf (Or.inl ⟨Or.inl rfl, rfl⟩)) (Or.inl ⟨Or.inr (Or.inr rfl), rfl⟩)
    have g0 : jh_I h2 (ar 538) 2 = 1 := by rw [← hh2]; exact (mo_rs hm 19 21 rfl rfl (by decide)).trans (jh_u_s _ _ _ _)
    have g2 : jh_I h2 (ar 540) 2 = nI sz := by rw [← hh2]; exact jh_u_s _ _ _ _
    clear hh2
    have loop : ∀ k j h3, j + k = sz → mo_fx h1 h3 mo ar (rg_F 2) no_G → jh_I h3 (ar 538) 2 = 1 → jh_I h3 (ar 540) 2 = nI sz → (∀ i, i < j → jh_I h3 (ar 541) (2 * 400 + i) = nI (ev_up (X.getD i 0))) → jw_J g 4 m_M_upper jw_T0 40 [some (.inr (.inr (some mo))), some (.inl (nI j))] [] h3 0 0 Q := by
      intro k
      induction k with
      | zero =>
        intro j h3 hj f3 a0 a2 ac
        have hm3 := mo_fx.ok f3 hm1
        refine jw_iload_n rfl rfl ?_
        refine jw_aload_n rfl rfl ?_
        refine jw_gr rfl g_M_98 hm3.1 (mo_r hm3 21 rfl) ?_
        refine js_iconst (x := 2) rfl rfl ?_
        refine js_ialdV (2) rfl (mo_a hm3 21 rfl) (by decide) (by rfl) rfl (by omega) (by decide) (a2) ?_
        refine jw_icmp_ge 98 rfl rfl (fun _ => ?_) (fun z => absurd ((nI_leI (by omega) (by omega)).mpr (by omega)) z)
        refine jw_return rfl rfl ?_
        refine hq h3 (mo_fx.tr hF1 f3 (fun _ _ z => Or.inr (Or.inr (Or.inr z))) (fun _ z => absurd z id)) (by rw [mo_fx.rdi f3 (fun z => z)]; exact e1) (fun hl => ?_)
        refine ⟨a0, by rw [List.length_map, a2]; congr 1; omega, by rw [List.length_map]; exact hl, fun i hi => ?_⟩
        rw [List.length_map] at hi
        have hx := x1.2 i (by omega)
        rw [show (X.map ev_up).getD i 0 = ev_up (X.getD i 0) by simp [List.getD, List.getElem?_eq_getElem hi]]
        refine ⟨ac i (by omega), ?_⟩
        rw [ev_up]; split <;> omega
      | succ k ih =>
        intro j h3 hj f3 a0 a2 ac
        have hm3 := mo_fx.ok f3 hm1
        have hx := x1.2 j (by omega)
        have hx3 : jh_I h3 (ar 542) j = nI (X.getD j 0) := (mo_fx.rd hm1 f3 23 rfl (fun k z => ⟨by have := rg_F_k z; omega, rg_F_in z⟩)).trans hx.1
        have back : ∀ w, w = nI (ev_up (X.getD j 0)) → jw_J g 4 m_M_upper jw_T0 91 [some (.inr (.inr (some mo))), some (.inl (nI j))] [.inl w, .inl (nI (800 + j)), .inr (.inr (some (ar 541)))] h3 0 0 Q := by
          intro w hw
          refine js_cast (2 * 400 + j) rfl (mo_a hm3 22 rfl) (by decide) (by rfl) rfl (by omega) (by decide) ?_
          refine js_iinc rfl rfl (nI_1 j) rfl (by decide) rfl ?_
          refine jw_goto 40 rfl rfl ?_
          refine ih (j + 1) _ (by omega) (mo_fx.sI f3 (Or.inr ⟨rfl, by omega, by omega⟩)) ((mo_rs hm 19 22 rfl rfl (by decide)).trans a0) ((mo_rs hm 21 22 rfl rfl (by decide)).trans a2) (fun i hi => ?_)
          have hup : ev_up (X.getD j 0) < 65536 := by rw [ev_up]; split <;> omega
          by_cases z : i = j
          · subst z; exact (jh_u_s _ _ _ _).trans (by rw [hw]; exact nI_n hup)
          · exact (jh_u_k _ _ _ _ (by omega)).trans (ac i (by omega))
        refine jw_iload_n rfl rfl ?_
        refine jw_aload_n rfl rfl ?_
        refine jw_gr rfl g_M_98 hm3.1 (mo_r hm3 21 rfl) ?_
        refine js_iconst (x := 2) rfl rfl ?_
        refine js_ialdV (2) rfl (mo_a hm3 21 rfl) (by decide) (by rfl) rfl (by omega) (by decide) (a2) ?_
        refine jw_icmp_ge 98 rfl rfl (fun z => absurd z (fun z => absurd ((nI_leI (by omega) (by omega)).mp z) (by omega))) (fun _ => ?_)
        refine jw_aload_n rfl rfl ?_
        refine jw_gr rfl g_M_101 hm3.1 (mo_r hm3 22 rfl) ?_
        refine js_sipush (x := 800) rfl rfl ?_
        refine jw_iload_n rfl rfl ?_
        refine jw_iaddV rfl (nI_add 800 j) ?_
        refine jw_aload_n rfl rfl ?_
        refine jw_aload_n rfl rfl ?_
        refine jw_gr rfl g_M_104 hm3.1 (mo_r hm3 23 rfl) ?_
        refine jw_iload_n rfl rfl ?_
        refine js_caldV (j) rfl (mo_a hm3 23 rfl) (by decide) (by rfl) rfl (by omega) (by decide) (hx3) ?_
        refine js_call (As := [.inl (nI (X.getD j 0))]) rfl l_M_letter c_M_177 i_M_letter s_M_letter jc_o8 rfl hm3.1 rfl (cm_letter hg (by omega) ?_) (by decide) (Nat.le_of_ble_eq_true rfl) (by omega) (by omega) rfl
        cases hs : sp_lt (X.getD j 0) with
        | true =>
          have h97 : 97 ≤ X.getD j 0 := by
            have := of_decide_eq_true hs; omega
          refine jw_if_eq 85 rfl rfl (fun z => absurd z (by decide)) (fun _ => ?_)
          refine jw_aload_n rfl rfl ?_
          refine jw_gr rfl g_M_104 hm3.1 (mo_r hm3 23 rfl) ?_
          refine jw_iload_n rfl rfl ?_
          refine js_caldV (j) rfl (mo_a hm3 23 rfl) (by decide) (by rfl) rfl (by omega) (by decide) (hx3) ?_
          refine js_bipush (x := 32) rfl rfl ?_
          refine jw_isubV rfl (pk_sub (b := 32) (by omega)) ?_
          refine jw_i2cV rfl (nI_c (by omega)) ?_
          refine jw_goto 91 rfl rfl ?_
          exact back _ (by rw [ev_up, hs]; rfl)
        | false =>
          refine jw_if_eq 85 rfl rfl (fun _ => ?_) (fun z => absurd (rfl) z)
          refine jw_aload_n rfl rfl ?_
          refine jw_gr rfl g_M_104 hm3.1 (mo_r hm3 23 rfl) ?_
          refine jw_iload_n rfl rfl ?_
          refine js_caldV (j) rfl (mo_a hm3 23 rfl) (by decide) (by rfl) rfl (by omega) (by decide) (hx3) ?_
          exact back _ (by rw [ev_up, hs]; rfl)
    exact loop sz 0 h2 (by omega) f2 g0 g2 (fun i hi => absurd hi (by omega))
  refine jw_aload_n rfl rfl ?_
  refine jw_gr rfl g_M_92 hm1.1 (mo_r hm1 19 rfl) ?_
  refine js_iconst (x := 2) rfl rfl ?_
  refine js_iconst (x := 1) rfl rfl ?_
  refine js_iast (2) rfl (mo_a hm1 19 rfl) (by decide) (by rfl) rfl (by omega) (by decide) ?_
  refine jw_aload_n rfl rfl ?_
  refine jw_gr rfl g_M_98 (mo_sI hm1).1 (mo_r (mo_sI hm1) 21 rfl) ?_
  refine js_iconst (x := 2) rfl rfl ?_
  refine jw_aload_n rfl rfl ?_
  refine jw_gi rfl g_M_113 (mo_sI hm1).1 (x1.1) ?_
  refine js_sipush (x := 400) rfl rfl ?_
  refine jw_icmp_le 33 rfl rfl (fun z => ?_) (fun z => ?_)
  · have hl : min X.length 401 ≤ 400 := (nI_leI (b := 400) (by omega) (by omega)).mp z
    refine jw_aload_n rfl rfl ?_
    refine jw_gi rfl g_M_113 (mo_sI hm1).1 (x1.1) ?_
    exact rest (min X.length 401) (by omega)
  · have hl : ¬ min X.length 401 ≤ 400 := fun q => z ((nI_leI (b := 400) (by omega) (by omega)).mpr q)
    refine js_sipush (x := 400) rfl rfl ?_
    refine jw_goto 37 rfl rfl ?_
    exact rest 400 (by omega)

