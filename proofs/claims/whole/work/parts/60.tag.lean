/-! the model: what a tag does -/
theorem go_bl {h h' : jh_H} {mo : Nat} {ar : Nat → Nat} (a : mo_fx h h' mo ar bl_F bl_G) : mo_fx h h' mo ar go_F go_G := mo_fx.mono a (fun _ _ z => z.1) (fun _ z => z.1)
theorem go_tr {h h1 h2 : jh_H} {mo : Nat} {ar : Nat → Nat} (a : mo_fx h h1 mo ar go_F go_G) (b : mo_fx h1 h2 mo ar go_F go_G) : mo_fx h h2 mo ar go_F go_G := mo_fx.tr a b (fun _ _ z => z) (fun _ z => z)
-- a part of a block ends
set_option maxHeartbeats 4000000 in
set_option maxRecDepth 100000 in
theorem cm_tag_e {g : jg_G} (hg : (jg_l g).stackTraces = false) {h : jh_H} {mo : Nat} {ar t : Nat → Nat} {n k i i0 m cn : Nat} {D : sd_D} {TP : Nat → Option tp_X} {X : tp_X} {Fr : Nat → fr_T} {C : Nat → sv_T} {Q : jw_O → jh_H → Prop} (hD : go_D h mo ar n D TP t) (hk : k < 4) (hX : TP k = some X) (hi0 : i0 < X.2.1) (hs0 : 6 ≤ rn_s X i0 ∧ rn_s X i0 ≤ 9) (hi : i < X.2.1) (hs : 3 ≤ rn_s X i ∧ rn_s X i ≤ 5) (hu : un_ok h mo ar (m + 1) Fr) (hcx : cx_ok h mo ar n D cn C) (hf0 : jh_i h mo 550 = 0)
    (hf1 : (Fr m).2.1 = k * 50 + i) (hfs : (Fr m).2.2.1 = rn_s X i) (hcn : (Fr m).2.2.2.2.1 = false → rn_s X i ≠ 3 → 1 ≤ cn) (hov : (Fr m).2.2.2.2.1 = false → rn_s X i = 4 → (Fr m).2.2.2.2.2.1 < 20 ∧ (Fr m).2.2.2.2.2.2 = nI (en_x (Fr m)) ∧ en_x (Fr m) < n ∧ 2 ≤ sd_k D (en_x (Fr m)))
    (q1 : en_more D (Fr m) → ∀ h', mo_fx h h' mo ar bl_F bl_G → jh_i h' mo 550 = 0 → un_ok h' mo ar (m + 1) (va_up Fr m (en_next (Fr m))) → cx_ok h' mo ar n D cn (va_up C (cn - 1) (sv_of D (sd_p D (en_x (Fr m)) ((Fr m).2.2.2.2.2.1 + 1)))) → Q (.inl (some (.inl (nI (tp_at X.2.2.1 (i + 1) + k * 200))))) h')
    (q2 : ¬ en_more D (Fr m) → ∀ h', mo_fx h h' mo ar bl_F bl_G → jh_i h' mo 550 = 0 → un_ok h' mo ar m Fr → cx_ok h' mo ar n D (if (Fr m).2.2.2.2.1 = true ∨ rn_s X i = 3 then cn else cn - 1) C → Q (.inl (some (.inl (nI (tp_at X.2.2.1 (rn_after X i) + k * 200))))) h') : jw_C g 8 0 0 m_M_tag [.inr (.inr (some mo)), .inl (nI (k * 50 + i0))] h Q := by
  refine jw_intro (ls := [some (.inr (.inr (some mo))), some (.inl (nI (k * 50 + i0))), none]) (by decide) k_M_tag rfl (by simp [lo_fit, jv_c]) hg ?_
  have hm := hD.1
  have hn50 := (gt_of hD hk hX).2.1.2.2
  obtain ⟨g1, g2, g3, g4, g5, g6, g7⟩ := ga_of hD hk hX hi0
  refine jw_aload_n rfl rfl ?_
  refine jw_gr rfl g_M_80 hm.1 (mo_r hm 15 rfl) ?_
  refine jw_iload_n rfl rfl ?_
  refine js_ialdV (k * 50 + i0) rfl (mo_a hm 15 rfl) (by decide) (by rfl) rfl (by omega) (by decide) (g5) ?_
  refine js_istore_n rfl rfl (by decide) rfl ?_
  refine jw_iload_n rfl rfl ?_
  refine js_iconst (x := 5) rfl rfl ?_
  refine jw_icmp_le 24 rfl rfl (fun z => absurd z (fun z => absurd ((nI_leI (b := 5) (by omega) (by omega)).mp z) (by omega))) (fun _ => ?_)
  refine jw_iload_n rfl rfl ?_
  refine js_bipush (x := 10) rfl rfl ?_
  refine jw_icmp_ge 24 rfl rfl (fun z => absurd z (fun z => absurd ((nI_leI (a := 10) (by omega) (by omega)).mp z) (by omega))) (fun _ => ?_)
  refine jw_aload_n rfl rfl ?_
  refine jw_iload_n rfl rfl ?_
  refine js_call (As := [.inl (nI (k * 50 + i0))]) rfl l_M_ends c_M_374 i_M_ends s_M_ends jc_o8 rfl hm.1 rfl (cm_ends hg hD hk hX hi hs hu hcx hf0 hf1 hfs hcn hov (fun z h' a1 a2 a3 a4 => ?_) (fun z h' a1 a2 a3 a4 => ?_)) (by decide) (Nat.le_of_ble_eq_true rfl) (by omega) (by omega) rfl
  · refine jw_ireturn rfl rfl rfl ?_
    exact q1 z h' a1 a2 a3 a4
  · refine jw_ireturn rfl rfl rfl ?_
    exact q2 z h' a1 a2 a3 a4
-- the tag is the 601st
set_option maxHeartbeats 4000000 in
set_option maxRecDepth 100000 in
theorem cm_tag_f {g : jg_G} (hg : (jg_l g).stackTraces = false) {h : jh_H} {mo : Nat} {ar t : Nat → Nat} {n k i : Nat} {D : sd_D} {TP : Nat → Option tp_X} {X : tp_X} {Q : jw_O → jh_H → Prop} (hD : go_D h mo ar n D TP t) (hk : k < 4) (hX : TP k = some X) (hi : i < X.2.1) (hs : ¬ (6 ≤ rn_s X i ∧ rn_s X i ≤ 9)) (hsn : jh_i h mo 517 = nI 600) (hq : Q (.inl (some (.inl 0))) (jh_si h mo 550 4)) : jw_C g 8 0 0 m_M_tag [.inr (.inr (some mo)), .inl (nI (k * 50 + i))] h Q := by
  refine jw_intro (ls := [some (.inr (.inr (some mo))), some (.inl (nI (k * 50 + i))), none]) (by decide) k_M_tag rfl (by simp [lo_fit, jv_c]) hg ?_
  have hm := hD.1
  have htp := (gt_of hD hk hX).2.1
  have hn50 := htp.2.2
  have hs10 : rn_s X i ≤ 10 := (tp_tg htp hi).2.2.2.2.2.1
  obtain ⟨g1, g2, g3, g4, g5, g6, g7⟩ := ga_of hD hk hX hi
  refine jw_aload_n rfl rfl ?_
  refine jw_gr rfl g_M_80 hm.1 (mo_r hm 15 rfl) ?_
  refine jw_iload_n rfl rfl ?_
  refine js_ialdV (k * 50 + i) rfl (mo_a hm 15 rfl) (by decide) (by rfl) rfl (by omega) (by decide) (g5) ?_
  refine js_istore_n rfl rfl (by decide) rfl ?_
  refine jw_iload_n rfl rfl ?_
  refine js_iconst (x := 5) rfl rfl ?_
  have at24 : jw_J g 8 m_M_tag jw_T0 24 [some (.inr (.inr (some mo))), some (.inl (nI (k * 50 + i))), some (.inl (nI (rn_s X i)))] [] h 0 0 Q := by
    refine jw_aload_n rfl rfl ?_
    refine jw_gi rfl g_M_25 hm.1 (hsn) ?_
    refine js_sipush (x := 600) rfl rfl ?_
    refine jw_icmp_ne 41 rfl rfl (fun z => absurd (rfl) z) (fun _ => ?_)
    refine jw_aload_n rfl rfl ?_
    refine js_iconst (x := 4) rfl rfl ?_
    refine jw_pi rfl p_M_tag_128 hm.1 ?_
    refine js_iconst (x := 0) rfl rfl ?_
    refine jw_ireturn rfl rfl rfl ?_
    exact hq
  by_cases c : rn_s X i ≤ 5
  · refine jw_icmp_le 24 rfl rfl (fun _ => ?_) (fun z => absurd (nI_le (b := 5) c (by omega)) z)
    exact at24
  · refine jw_icmp_le 24 rfl rfl (fun z => absurd z (fun z => absurd ((nI_leI (b := 5) (by omega) (by omega)).mp z) (by omega))) (fun _ => ?_)
    refine jw_iload_n rfl rfl ?_
    refine js_bipush (x := 10) rfl rfl ?_
    refine jw_icmp_ge 24 rfl rfl (fun _ => ?_) (fun z => absurd (nI_le (a := 10) (by omega) (by omega)) z)
    exact at24
-- one more tag is come to
theorem tg_41 {g : jg_G} {h : jh_H} {mo : Nat} {ar t : Nat → Nat} {n k i sn : Nat} {D : sd_D} {TP : Nat → Option tp_X} {X : tp_X} {Q : jw_O → jh_H → Prop} (hD : go_D h mo ar n D TP t) (hk : k < 4) (hX : TP k = some X) (hi : i < X.2.1) (hs : ¬ (6 ≤ rn_s X i ∧ rn_s X i ≤ 9)) (hsn : jh_i h mo 517 = nI sn) (hlt : sn < 600)
    (hq : jw_J g 8 m_M_tag jw_T0 51 [some (.inr (.inr (some mo))), some (.inl (nI (k * 50 + i))), some (.inl (nI (rn_s X i)))] [] (jh_si h mo 517 (nI (sn + 1))) 0 0 Q) : jw_J g 8 m_M_tag jw_T0 0 [some (.inr (.inr (some mo))), some (.inl (nI (k * 50 + i))), none] [] h 0 0 Q := by
  have hm := hD.1
  have htp := (gt_of hD hk hX).2.1
  have hn50 := htp.2.2
  have hs10 : rn_s X i ≤ 10 := (tp_tg htp hi).2.2.2.2.2.1
  obtain ⟨g1, g2, g3, g4, g5, g6, g7⟩ := ga_of hD hk hX hi
  refine jw_aload_n rfl rfl ?_
  refine jw_gr rfl g_M_80 hm.1 (mo_r hm 15 rfl) ?_
  refine jw_iload_n rfl rfl ?_
  refine js_ialdV (k * 50 + i) rfl (mo_a hm 15 rfl) (by decide) (by rfl) rfl (by omega) (by decide) (g5) ?_
  refine js_istore_n rfl rfl (by decide) rfl ?_
  refine jw_iload_n rfl rfl ?_
  refine js_iconst (x := 5) rfl rfl ?_
  have at24 : jw_J g 8 m_M_tag jw_T0 24 [some (.inr (.inr (some mo))), some (.inl (nI (k * 50 + i))), some (.inl (nI (rn_s X i)))] [] h 0 0 Q := by
    refine jw_aload_n rfl rfl ?_
    refine jw_gi rfl g_M_25 hm.1 (hsn) ?_
    refine js_sipush (x := 600) rfl rfl ?_
    refine jw_icmp_ne 41 rfl rfl (fun _ => ?_) (fun z => absurd z (fun z => absurd ((nI_eq (b := 600) (by omega) (by omega)).mp z) (by omega)))
    refine jw_aload_n rfl rfl ?_
    refine jw_dup rfl rfl ?_
    refine jw_gi rfl g_M_25 hm.1 (hsn) ?_
    refine js_iconst (x := 1) rfl rfl ?_
    refine jw_iaddV rfl (nI_1 sn) ?_
    refine jw_pi rfl p_M_tag_25 hm.1 ?_
    exact hq
  by_cases c : rn_s X i ≤ 5
  · refine jw_icmp_le 24 rfl rfl (fun _ => ?_) (fun z => absurd (nI_le (b := 5) c (by omega)) z)
    exact at24
  · refine jw_icmp_le 24 rfl rfl (fun z => absurd z (fun z => absurd ((nI_leI (b := 5) (by omega) (by omega)).mp z) (by omega))) (fun _ => ?_)
    refine jw_iload_n rfl rfl ?_
    refine js_bipush (x := 10) rfl rfl ?_
    refine jw_icmp_ge 24 rfl rfl (fun _ => ?_) (fun z => absurd (nI_le (a := 10) (by omega) (by omega)) z)
    exact at24
theorem go_D.si {h : jh_H} {mo : Nat} {ar t : Nat → Nat} {n : Nat} {D : sd_D} {TP : Nat → Option tp_X} (hD : go_D h mo ar n D TP t) {k : Nat} {v : Int32} : go_D (jh_si h mo k v) mo ar n D TP t := go_D.fx hD (F := go_F) (G := fun _ => True) (mo_fx.si mo_fx.rf trivial) (fun _ _ z => z)
-- a remark
set_option maxHeartbeats 4000000 in
set_option maxRecDepth 100000 in
theorem cm_tag_r {g : jg_G} (hg : (jg_l g).stackTraces = false) {h : jh_H} {mo : Nat} {ar t : Nat → Nat} {n k i sn : Nat} {D : sd_D} {TP : Nat → Option tp_X} {X : tp_X} {Q : jw_O → jh_H → Prop} (hD : go_D h mo ar n D TP t) (hk : k < 4) (hX : TP k = some X) (hi : i < X.2.1) (hs : rn_s X i = 2) (hsn : jh_i h mo 517 = nI sn) (hlt : sn < 600)
    (hq : Q (.inl (some (.inl (nI (tp_at X.2.2.1 (i + 1) + k * 200))))) (jh_si h mo 517 (nI (sn + 1)))) : jw_C g 8 0 0 m_M_tag [.inr (.inr (some mo)), .inl (nI (k * 50 + i))] h Q := by
  refine jw_intro (ls := [some (.inr (.inr (some mo))), some (.inl (nI (k * 50 + i))), none]) (by decide) k_M_tag rfl (by simp [lo_fit, jv_c]) hg ?_
  refine tg_41 hD hk hX hi (by omega) hsn hlt ?_
  have htp := (gt_of hD hk hX).2.1
  have hn50 := htp.2.2
  have hD1 := go_D.si hD (k := 517) (v := nI (sn + 1))
  obtain ⟨g1, g2, g3, g4, g5, g6, g7⟩ := ga_of hD1 hk hX hi
  rw [hs]
  refine jw_iload_n rfl rfl ?_
  refine js_iconst (x := 2) rfl rfl ?_
  refine jw_icmp_le 68 rfl rfl (fun _ => ?_) (fun z => absurd (by decide) z)
  refine jw_iload_n rfl rfl ?_
  refine js_bipush (x := 10) rfl rfl ?_
  refine jw_icmp_ne 84 rfl rfl (fun _ => ?_) (fun z => absurd z (by decide))
  refine jw_iload_n rfl rfl ?_
  refine js_iconst (x := 2) rfl rfl ?_
  refine jw_icmp_ge 126 rfl rfl (fun _ => ?_) (fun z => absurd (by decide) z)
  refine jw_aload_n rfl rfl ?_
  refine jw_gr rfl g_M_71 hD1.1.1 (mo_r hD1.1 12 rfl) ?_
  refine jw_iload_n rfl rfl ?_
  refine js_ialdV (k * 50 + i) rfl (mo_a hD1.1 12 rfl) (by decide) (by rfl) rfl (by omega) (by decide) (g4) ?_
  refine jw_ireturn rfl rfl rfl ?_
  exact hq
-- a block begins
set_option maxHeartbeats 4000000 in
set_option maxRecDepth 100000 in
theorem cm_tag_b {g : jg_G} (hg : (jg_l g).stackTraces = false) {h : jh_H} {mo : Nat} {ar t : Nat → Nat} {n k i m cn sn : Nat} {D : sd_D} {TP : Nat → Option tp_X} {X : tp_X} {Fr : Nat → fr_T} {C : Nat → sv_T} {Q : jw_O → jh_H → Prop} (hD : go_D h mo ar n D TP t) (hk : k < 4) (hX : TP k = some X) (hi : i < X.2.1) (hs : 3 ≤ rn_s X i ∧ rn_s X i ≤ 5) (hu : un_ok h mo ar m Fr) (hm20 : m < 20) (hcx : cx_ok h mo ar n D cn C) (hcn : cn ≤ 13) (hf0 : jh_i h mo 550 = 0) (hsn : jh_i h mo 517 = nI sn) (hlt : sn < 600)
    (hq : ∀ h', mo_fx (jh_si h mo 517 (nI (sn + 1))) h' mo ar bl_F bl_G → (match ev_ex D C cn (fr_turn Fr m) (rn_ex X i) with
      | none => jh_i h' mo 550 = 4 → Q (.inl (some (.inl 0))) h'
      | some v => (∀ x, v = some (.inr (.inr x)) → x < n ∧ 2 ≤ sd_k D x) → jh_i h' mo 550 = 0 → un_ok h' mo ar (bl_out D X k i m Fr cn C v).2.1 (bl_out D X k i m Fr cn C v).2.2.1 → cx_ok h' mo ar n D (bl_out D X k i m Fr cn C v).2.2.2.1 (bl_out D X k i m Fr cn C v).2.2.2.2 → Q (.inl (some (.inl (nI (tp_at X.2.2.1 (bl_out D X k i m Fr cn C v).1 + k * 200))))) h')) : jw_C g 8 0 0 m_M_tag [.inr (.inr (some mo)), .inl (nI (k * 50 + i))] h Q := by
  refine jw_intro (ls := [some (.inr (.inr (some mo))), some (.inl (nI (k * 50 + i))), none]) (by decide) k_M_tag rfl (by simp [lo_fit, jv_c]) hg ?_
  refine tg_41 hD hk hX hi (by omega) hsn hlt ?_
  have hD1 := go_D.si hD (k := 517) (v := nI (sn + 1))
  have hu1 : un_ok (jh_si h mo 517 (nI (sn + 1))) mo ar m Fr := ⟨(jh_u_k _ _ _ _ (by decide)).trans hu.1, hu.2⟩
  have hc1 : cx_ok (jh_si h mo 517 (nI (sn + 1))) mo ar n D cn C := ⟨(jh_u_k _ _ _ _ (by decide)).trans hcx.1, hcx.2⟩
  refine jw_iload_n rfl rfl ?_
  refine js_iconst (x := 2) rfl rfl ?_
  refine jw_icmp_le 68 rfl rfl (fun z => absurd z (fun z => absurd ((nI_leI (b := 2) (by omega) (by omega)).mp z) (by omega))) (fun _ => ?_)
  refine jw_iload_n rfl rfl ?_
  refine js_bipush (x := 6) rfl rfl ?_
  refine jw_icmp_ge 68 rfl rfl (fun z => absurd z (fun z => absurd ((nI_leI (a := 6) (by omega) (by omega)).mp z) (by omega))) (fun _ => ?_)
  refine jw_aload_n rfl rfl ?_
  refine jw_iload_n rfl rfl ?_
  refine js_call (As := [.inl (nI (k * 50 + i))]) rfl l_M_block c_M_377 i_M_block s_M_block jc_o8 rfl hD1.1.1 rfl (cm_block hg hD1 hk hX hi hs hu1 hm20 hc1 hcn ((jh_u_k _ _ _ _ (by decide)).trans hf0) (fun h' f' => ?_)) (by decide) (Nat.le_of_ble_eq_true rfl) (by omega) (by omega) rfl
  have hq := hq h' f'
  revert hq
  cases ev_ex D C cn (fr_turn Fr m) (rn_ex X i) with
  | none =>
    intro hq e'
    refine jw_ireturn rfl rfl rfl ?_
    exact hq e'
  | some v =>
    intro hq x' e' u' c'
    refine jw_ireturn rfl rfl rfl ?_
    exact hq x' e' u' c'
-- a partial template
set_option maxHeartbeats 4000000 in
set_option maxRecDepth 100000 in
theorem cm_tag_p {g : jg_G} (hg : (jg_l g).stackTraces = false) {h : jh_H} {mo : Nat} {ar t : Nat → Nat} {n k i m sn : Nat} {D : sd_D} {TP : Nat → Option tp_X} {X : tp_X} {Fr : Nat → fr_T} {Q : jw_O → jh_H → Prop} (hD : go_D h mo ar n D TP t) (hk : k < 4) (hX : TP k = some X) (hi : i < X.2.1) (hs : rn_s X i = 10) (hu : un_ok h mo ar m Fr) (hm20 : m < 20) (hsn : jh_i h mo 517 = nI sn) (hlt : sn < 600)
    (hq : match TP (rn_pt X i) with
      | none => Q (.inl (some (.inl (nI (rn_pt X i * 200))))) (jh_si (jh_si h mo 517 (nI (sn + 1))) mo 550 2)
      | some Y => if fr_uw Fr m = 3 then Q (.inl (some (.inl (nI (rn_pt X i * 200))))) (jh_si (jh_si h mo 517 (nI (sn + 1))) mo 550 3) else ∀ h', mo_fx (jh_si h mo 517 (nI (sn + 1))) h' mo ar (pu_F m) pu_G → un_ok h' mo ar (m + 1) (va_up Fr m (rn_pt X i, k * 50 + i, 10, true, false, 0, -1)) → Q (.inl (some (.inl (nI (rn_pt X i * 200))))) h') : jw_C g 8 0 0 m_M_tag [.inr (.inr (some mo)), .inl (nI (k * 50 + i))] h Q := by
  refine jw_intro (ls := [some (.inr (.inr (some mo))), some (.inl (nI (k * 50 + i))), none]) (by decide) k_M_tag rfl (by simp [lo_fit, jv_c]) hg ?_
  refine tg_41 hD hk hX hi (by omega) hsn hlt ?_
  have hD1 := go_D.si hD (k := 517) (v := nI (sn + 1))
  have hu1 : un_ok (jh_si h mo 517 (nI (sn + 1))) mo ar m Fr := ⟨(jh_u_k _ _ _ _ (by decide)).trans hu.1, hu.2⟩
  have huw := fr_uw_le Fr m
  rw [hs]
  refine jw_iload_n rfl rfl ?_
  refine js_iconst (x := 2) rfl rfl ?_
  refine jw_icmp_le 68 rfl rfl (fun z => absurd z (by decide)) (fun _ => ?_)
  refine jw_iload_n rfl rfl ?_
  refine js_bipush (x := 6) rfl rfl ?_
  refine jw_icmp_ge 68 rfl rfl (fun _ => ?_) (fun z => absurd (by decide) z)
  refine jw_iload_n rfl rfl ?_
  refine js_bipush (x := 10) rfl rfl ?_
  refine jw_icmp_ne 84 rfl rfl (fun z => absurd (rfl) z) (fun _ => ?_)
  refine jw_aload_n rfl rfl ?_
  refine jw_iload_n rfl rfl ?_
  refine jw_aload_n rfl rfl ?_
  refine js_call (As := []) rfl l_M_underTemplates c_M_380 i_M_underTemplates s_M_underTemplates jc_o8 rfl hD1.1.1 rfl (cm_underTemplates hg hD1.1 hu1 ?_) (by decide) (Nat.le_of_ble_eq_true rfl) (by omega) (by omega) rfl
  refine js_call (As := [.inl (nI (k * 50 + i)), .inl (nI (fr_uw Fr m))]) rfl l_M_partial c_M_383 i_M_partial s_M_partial jc_o8 rfl hD1.1.1 rfl (cm_partial hg hD1 hk hX hi hs hu1 hm20 (by omega) ?_) (by decide) (Nat.le_of_ble_eq_true rfl) (by omega) (by omega) rfl
  revert hq
  cases TP (rn_pt X i) with
  | none =>
    intro hq
    refine jw_ireturn rfl rfl rfl ?_
    exact hq
  | some Y =>
    intro hq
    by_cases c : fr_uw Fr m = 3
    · simp only [if_pos c] at hq ⊢
      refine jw_ireturn rfl rfl rfl ?_
      exact hq
    · simp only [if_neg c] at hq ⊢
      intro h' f' u'
      refine jw_ireturn rfl rfl rfl ?_
      exact hq h' f' u'
-- what an expression gives is shown
set_option maxHeartbeats 4000000 in
set_option maxRecDepth 100000 in
theorem cm_tag_s {g : jg_G} (hg : (jg_l g).stackTraces = false) {h : jh_H} {mo : Nat} {ar t : Nat → Nat} {n k i m cn sn : Nat} {D : sd_D} {TP : Nat → Option tp_X} {X : tp_X} {Fr : Nat → fr_T} {C : Nat → sv_T} {O : List Nat} {Q : jw_O → jh_H → Prop} (hD : go_D h mo ar n D TP t) (hk : k < 4) (hX : TP k = some X) (hi : i < X.2.1) (hs : rn_s X i ≤ 1) (hu : un_ok h mo ar m Fr) (hcx : cx_ok h mo ar n D cn C) (hO : ou_ok h mo ar O) (hf0 : jh_i h mo 550 = 0) (hsn : jh_i h mo 517 = nI sn) (hlt : sn < 600)
    (hq : ∀ h', mo_fx h h' mo ar go_F go_G → (match ev_ex D C cn (fr_turn Fr m) (rn_ex X i) with
      | none => jh_i h' mo 550 = 4 → Q (.inl (some (.inl (nI (tp_at X.2.2.1 (i + 1) + k * 200))))) h'
      | some v => match rn_show D (decide (rn_s X i = 1)) v O (sn + 1) with
        | .inl _ => jh_i h' mo 550 = 4 → Q (.inl (some (.inl (nI (tp_at X.2.2.1 (i + 1) + k * 200))))) h'
        | .inr (O', _) => jh_i h' mo 550 = 0 → un_ok h' mo ar m Fr → cx_ok h' mo ar n D cn C → ou_ok h' mo ar O' → jh_i h' mo 517 = nI (sn + 1) → Q (.inl (some (.inl (nI (tp_at X.2.2.1 (i + 1) + k * 200))))) h')) : jw_C g 8 0 0 m_M_tag [.inr (.inr (some mo)), .inl (nI (k * 50 + i))] h Q := by
  refine jw_intro (ls := [some (.inr (.inr (some mo))), some (.inl (nI (k * 50 + i))), none]) (by decide) k_M_tag rfl (by simp [lo_fit, jv_c]) hg ?_
  refine tg_41 hD hk hX hi (by omega) hsn hlt ?_
  have hD1 := go_D.si hD (k := 517) (v := nI (sn + 1))
  have hu1 : un_ok (jh_si h mo 517 (nI (sn + 1))) mo ar m Fr := ⟨(jh_u_k _ _ _ _ (by decide)).trans hu.1, hu.2⟩
  have hc1 : cx_ok (jh_si h mo 517 (nI (sn + 1))) mo ar n D cn C := ⟨(jh_u_k _ _ _ _ (by decide)).trans hcx.1, hcx.2⟩
  have hO1 : ou_ok (jh_si h mo 517 (nI (sn + 1))) mo ar O := ⟨(jh_u_k _ _ _ _ (by decide)).trans hO.1, hO.2⟩
  have e1 : jh_i (jh_si h mo 517 (nI (sn + 1))) mo 550 = 0 := (jh_u_k _ _ _ _ (by decide)).trans hf0
  have s1 : jh_i (jh_si h mo 517 (nI (sn + 1))) mo 517 = nI (sn + 1) := jh_u_s _ _ _ _
  have f01 : mo_fx h (jh_si h mo 517 (nI (sn + 1))) mo ar go_F go_G := mo_fx.si mo_fx.rf (Or.inl rfl)
  generalize jh_si h mo 517 (nI (sn + 1)) = h1 at *
  obtain ⟨hm1, hDd, hdp, htx, -⟩ := id hD1
  obtain ⟨-, htp, hsh, -, -⟩ := gt_of hD1 hk hX
  have hn50 := htp.2.2
  have hlen := htp.1
  obtain ⟨g1, g2, g3, g4, g5, g6, g7⟩ := ga_of hD1 hk hX hi
  have htg := tp_tg htp hi
  have hix := htg.2.2.2.2.2.2.1 hs
  have hqe : tg_q (X.2.2.1 i) + 2 ≤ X.1.length := by have := htg.2.2.2.1; have := htg.2.2.2.2.1; omega
  have hfq := htg.2.2.1
  have hex : ex_ex t (tg_f (X.2.2.1 i) + k * 200) (tg_q (X.2.2.1 i) + k * 200) = rn_ex X i := by
    rw [sh_ex (hsh.lt (by omega)) hfq hix, rn_ex, rn_xo, if_pos hs, Nat.add_zero]
  have hixt : sp_isExpr t (tg_f (X.2.2.1 i) + k * 200) (tg_q (X.2.2.1 i) + k * 200) = true := by
    rw [sh_isExpr (hsh.lt (by omega))]; exact hix
  generalize hS : rn_s X i = s at *
  have fin : ∀ h3, go_D h3 mo ar n D TP t → Q (.inl (some (.inl (nI (tp_at X.2.2.1 (i + 1) + k * 200))))) h3 → jw_J g 8 m_M_tag jw_T0 126 [some (.inr (.inr (some mo))), some (.inl (nI (k * 50 + i))), some (.inl (nI s))] [] h3 0 0 Q := by
    intro h3 hD3 hq3
    have b4 := (ga_of hD3 hk hX hi).2.2.2.1
    refine jw_aload_n rfl rfl ?_
    refine jw_gr rfl g_M_71 hD3.1.1 (mo_r hD3.1 12 rfl) ?_
    refine jw_iload_n rfl rfl ?_
    refine js_ialdV (k * 50 + i) rfl (mo_a hD3.1 12 rfl) (by decide) (by rfl) rfl (by omega) (by decide) (b4) ?_
    refine jw_ireturn rfl rfl rfl ?_
    exact hq3
  refine jw_iload_n rfl rfl ?_
  refine js_iconst (x := 2) rfl rfl ?_
  refine jw_icmp_le 68 rfl rfl (fun _ => ?_) (fun z => absurd (nI_le (b := 2) (by omega) (by omega)) z)
  refine jw_iload_n rfl rfl ?_
  refine js_bipush (x := 10) rfl rfl ?_
  refine jw_icmp_ne 84 rfl rfl (fun _ => ?_) (fun z => absurd z (fun z => absurd ((nI_eq (b := 10) (by omega) (by omega)).mp z) (by omega)))
  refine jw_iload_n rfl rfl ?_
  refine js_iconst (x := 2) rfl rfl ?_
  refine jw_icmp_ge 126 rfl rfl (fun z => absurd z (fun z => absurd ((nI_leI (a := 2) (by omega) (by omega)).mp z) (by omega))) (fun _ => ?_)
  refine jw_aload_n rfl rfl ?_
  refine jw_aload_n rfl rfl ?_
  refine jw_gr rfl g_M_74 hm1.1 (mo_r hm1 13 rfl) ?_
  refine jw_iload_n rfl rfl ?_
  refine js_ialdV (k * 50 + i) rfl (mo_a hm1 13 rfl) (by decide) (by rfl) rfl (by omega) (by decide) (g2) ?_
  refine jw_aload_n rfl rfl ?_
  refine jw_gr rfl g_M_77 hm1.1 (mo_r hm1 14 rfl) ?_
  refine jw_iload_n rfl rfl ?_
  refine js_ialdV (k * 50 + i) rfl (mo_a hm1 14 rfl) (by decide) (by rfl) rfl (by omega) (by decide) (g3) ?_
  refine js_call (As := [.inl (nI (tg_f (X.2.2.1 i) + k * 200)), .inl (nI (tg_q (X.2.2.1 i) + k * 200))]) rfl l_M_expr c_M_364 i_M_expr s_M_expr jc_o8 rfl hm1.1 rfl (cm_expr hg hm1 hDd hdp htx hc1 hu1 e1 (by omega) (by omega) (by omega) hixt (fun h2 f2 r2 => ?_)) (by decide) (Nat.le_of_ble_eq_true rfl) (by omega) (by omega) rfl
  rw [hex] at r2
  have hm2 := mo_fx.ok f2 hm1
  have F2 : mo_fx h1 h2 mo ar go_F go_G := mo_fx.mono f2 (fun _ _ z => go_F.xp z) (fun _ z => go_G.sr z)
  have hD2 := go_D.fx hD1 F2 (fun _ _ z => z)
  cases hev : ev_ex D C cn (fr_turn Fr m) (rn_ex X i) with
  | none =>
    rw [hev] at r2 hq
    refine jw_aload_n rfl rfl ?_
    refine jw_gi rfl g_M_128 hm2.1 (r2) ?_
    refine jw_if_ne 126 rfl rfl (fun _ => ?_) (fun z => absurd z (by decide))
    exact fin h2 hD2 (hq h2 (go_tr f01 F2) r2)
  | some v =>
    rw [hev] at r2 hq
    obtain ⟨r2, v2⟩ := r2
    have hO2 : ou_ok h2 mo ar O := ou_ok.fx hm1 f2 (fun _ _ z => xp_ou z) (by unfold sr_G rd_G; decide) hO1
    have hu2 : un_ok h2 mo ar m Fr := un_ok.fx hm1 f2 (fun _ _ z => xp_un z) (by unfold sr_G rd_G; decide) hu1
    have hc2 : cx_ok h2 mo ar n D cn C := cx_ok.fx hm1 f2 (fun _ _ z => ⟨go_F.xp z, fun i _ => xp_cx z i⟩) (by unfold sr_G rd_G; decide) hc1
    have s2 : jh_i h2 mo 517 = nI (sn + 1) := (mo_fx.rdi f2 (by unfold sr_G rd_G; decide)).trans s1
    have at123 : jw_J g 8 m_M_tag jw_T0 123 [some (.inr (.inr (some mo))), some (.inl (nI (k * 50 + i))), some (.inl (nI s))] [.inl (sp_b (decide (s = 1))), .inr (.inr (some mo))] h2 0 0 Q := by
      refine js_call (As := [.inl (sp_b (decide (s = 1)))]) rfl l_M_show c_M_386 i_M_show s_M_show jc_o8 rfl hm2.1 rfl (cm_show hg hm2 hD2.2.1 hdp v2 hO2 r2 (fun h3 f3 y1 y2 => ?_)) (by decide) (Nat.le_of_ble_eq_true rfl) (by omega) (by omega) rfl
      have F3 : mo_fx h2 h3 mo ar go_F go_G := mo_fx.mono f3 (fun _ _ z => go_F.sh z) (fun _ z => go_G.sh z)
      refine fin h3 (go_D.fx hD2 F3 (fun _ _ z => z)) ?_
      have hq := hq h3 (go_tr f01 (go_tr F2 F3))
      simp only [rn_show] at hq
      by_cases c : (sv_raw D v).length ≤ 400 ∧ O.length + (es_L (decide (s = 1)) (sv_raw D v)).length ≤ 400
      · rw [if_pos c] at hq
        obtain ⟨z1, z2⟩ := y1 c
        have shx : ∀ k j, sh_F k j → (go_F k j ∧ (k < 552 ∨ k = 556 ∨ k = 557)) ∧ ∀ i, ¬ rg_F i k j := by
          intro k j z
          rcases z with z | z
          · exact ⟨xp_un (Or.inl z), fun i => rd_rg z⟩
          · have z : k = 543 := z
            exact ⟨⟨go_F.sh (Or.inr z), by omega⟩, fun i y => by have := rg_F_k y; omega⟩
        exact hq z1 (un_ok.fx hm2 f3 (fun k j z => (shx k j z).1) (by unfold sh_G sr_G rd_G ew_G; decide) hu2) (cx_ok.fx hm2 f3 (fun k j z => ⟨(shx k j z).1.1, fun i _ => (shx k j z).2 _⟩) (by unfold sh_G sr_G rd_G ew_G; decide) hc2) z2 ((mo_fx.rdi f3 (by unfold sh_G sr_G rd_G ew_G; decide)).trans s2)
      · rw [if_neg c] at hq
        exact hq (y2 c)
    by_cases c1 : s = 1
    · rw [show decide (s = 1) = true from decide_eq_true c1] at at123
      refine jw_aload_n rfl rfl ?_
      refine jw_gi rfl g_M_128 hm2.1 (r2) ?_
      refine jw_if_ne 126 rfl rfl (fun z => absurd (rfl) z) (fun _ => ?_)
      refine jw_aload_n rfl rfl ?_
      refine jw_iload_n rfl rfl ?_
      refine js_iconst (x := 1) rfl rfl ?_
      refine jw_icmp_ne 122 rfl rfl (fun z => absurd (by rw [c1]; rfl) z) (fun _ => ?_)
      refine js_iconst (x := 1) rfl rfl ?_
      refine jw_goto 123 rfl rfl ?_
      exact at123
    · rw [show decide (s = 1) = false from decide_eq_false c1] at at123
      refine jw_aload_n rfl rfl ?_
      refine jw_gi rfl g_M_128 hm2.1 (r2) ?_
      refine jw_if_ne 126 rfl rfl (fun z => absurd (rfl) z) (fun _ => ?_)
      refine jw_aload_n rfl rfl ?_
      refine jw_iload_n rfl rfl ?_
      refine js_iconst (x := 1) rfl rfl ?_
      refine jw_icmp_ne 122 rfl rfl (fun _ => ?_) (fun z => absurd z (fun z => c1 ((nI_eq (b := 1) (by omega) (by omega)).mp z)))
      refine js_iconst (x := 0) rfl rfl ?_
      exact at123

