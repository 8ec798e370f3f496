/-! the model: a part of a block ends; partial templates -/
def en_x (f : fr_T) : Nat := f.2.2.2.2.2.2.toNatClampNeg
def en_more (D : sd_D) (f : fr_T) : Prop := f.2.2.1 = 4 ∧ f.2.2.2.2.1 = false ∧ f.2.2.2.2.2.1 + 1 < sd_c D (en_x f)
def en_next (f : fr_T) : fr_T := (f.1, f.2.1, f.2.2.1, f.2.2.2.1, f.2.2.2.2.1, f.2.2.2.2.2.1 + 1, f.2.2.2.2.2.2)
theorem un_ok.tu {h h0 : jh_H} {mo : Nat} {ar : Nat → Nat} {m : Nat} {Fr : Nat → fr_T} (hm : mo_ok h0 mo ar) (hu : un_ok h mo ar (m + 1) Fr) (h20 : (Fr m).2.2.2.2.2.1 < 20) : un_ok (jh_sI h (ar 554) m (nI ((Fr m).2.2.2.2.2.1 + 1))) mo ar (m + 1) (va_up Fr m (en_next (Fr m))) := by
  refine ⟨hu.1, hu.2.1, fun u hlt => ?_⟩
  have h1 := hu.2.2 u hlt
  by_cases z : u = m
  · subst z
    rw [va_up_self]
    obtain ⟨u1, u2, u3, u4, u5, u6, u7, u8, u8b, u9⟩ := h1
    exact ⟨(mo_rs hm 26 28 rfl rfl (by decide)).trans u1, (mo_rs hm 27 28 rfl rfl (by decide)).trans u2, u3, (mo_rs hm 15 28 rfl rfl (by decide)).trans u4, u5, (mo_rs hm 33 28 rfl rfl (by decide)).trans u6, (mo_rs hm 32 28 rfl rfl (by decide)).trans u7, jh_u_s _ _ _ _, h20, (mo_rs hm 29 28 rfl rfl (by decide)).trans u9⟩
  · rw [va_up_ne _ _ z]
    exact un_at.fx (G := pu_G) hm (mo_fx.sI mo_fx.rf (show pu_F m 554 m from ⟨by decide, rfl⟩)) z h1
set_option maxHeartbeats 4000000 in
set_option maxRecDepth 100000 in
theorem cm_ends {g : jg_G} (hg : (jg_l g).stackTraces = false) {h : jh_H} {mo : Nat} {ar t : Nat → Nat} {n k i m cn gg : Nat} {D : sd_D} {TP : Nat → Option tp_X} {X : tp_X} {Fr : Nat → fr_T} {C : Nat → sv_T} {Q : jw_O → jh_H → Prop} (hD : go_D h mo ar n D TP t) (hk : k < 4) (hX : TP k = some X) (hi : i < X.2.1) (hs : 3 ≤ rn_s X i ∧ rn_s X i ≤ 5) (hu : un_ok h mo ar (m + 1) Fr) (hcx : cx_ok h mo ar n D cn C) (hf0 : jh_i h mo 550 = 0)
    (hf1 : (Fr m).2.1 = k * 50 + i) (hfs : (Fr m).2.2.1 = rn_s X i) (hcn : (Fr m).2.2.2.2.1 = false → rn_s X i ≠ 3 → 1 ≤ cn) (hov : (Fr m).2.2.2.2.1 = false → rn_s X i = 4 → (Fr m).2.2.2.2.2.1 < 20 ∧ (Fr m).2.2.2.2.2.2 = nI (en_x (Fr m)) ∧ en_x (Fr m) < n ∧ 2 ≤ sd_k D (en_x (Fr m)))
    (q1 : en_more D (Fr m) → ∀ h', mo_fx h h' mo ar bl_F bl_G → jh_i h' mo 550 = 0 → un_ok h' mo ar (m + 1) (va_up Fr m (en_next (Fr m))) → cx_ok h' mo ar n D cn (va_up C (cn - 1) (sv_of D (sd_p D (en_x (Fr m)) ((Fr m).2.2.2.2.2.1 + 1)))) → Q (.inl (some (.inl (nI (tp_at X.2.2.1 (i + 1) + k * 200))))) h')
    (q2 : ¬ en_more D (Fr m) → ∀ h', mo_fx h h' mo ar bl_F bl_G → jh_i h' mo 550 = 0 → un_ok h' mo ar m Fr → cx_ok h' mo ar n D (if (Fr m).2.2.2.2.1 = true ∨ rn_s X i = 3 then cn else cn - 1) C → Q (.inl (some (.inl (nI (tp_at X.2.2.1 (rn_after X i) + k * 200))))) h') : jw_C g 3 0 0 m_M_ends [.inr (.inr (some mo)), .inl (nI gg)] h Q := by
  refine jw_intro (ls := [some (.inr (.inr (some mo))), some (.inl (nI gg)), none, none, none]) (by decide) k_M_ends rfl (by simp [lo_fit, jv_c]) hg ?_
  obtain ⟨hm, hDd, hdp, htx, -⟩ := id hD
  obtain ⟨-, htp, hsh, -, -⟩ := gt_of hD hk hX
  have hn50 := htp.2.2
  have hm20 := hu.2.1
  have hcn14 := hcx.2.1
  have hn60 := hDd.1
  obtain ⟨lv, hlv⟩ := tp_lv htp
  obtain ⟨l, hla, hl1, hl2, -, -, -, hot⟩ := ((hlv.2.2 i hi).2.1 hs).2.2
  have eaft : rn_after X i = l + 1 := by rw [rn_after, if_pos hs, hla]; rfl
  rw [eaft] at q2
  obtain ⟨u1, u2, u3, u4, u5, u6, u7, u8, u8b, u9⟩ := hu.2.2 m (by omega)
  rw [hf1] at u2 u4
  rw [hfs] at u4
  generalize hS : rn_s X i = s at *
  generalize hW : (Fr m).2.2.2.2.1 = was at *
  generalize hTu : (Fr m).2.2.2.2.2.1 = tu at *
  -- the frame goes
  have at87 : ¬ en_more D (Fr m) → ∀ h2, mo_fx h h2 mo ar bl_F bl_G → jh_i h2 mo 550 = 0 → jh_i h2 mo 549 = nI (m + 1) → (∀ u, u < m → un_at h2 ar u (Fr u)) → cx_ok h2 mo ar n D (if was = true ∨ s = 3 then cn else cn - 1) C → jw_J g 3 m_M_ends jw_T0 87 [some (.inr (.inr (some mo))), some (.inl (nI gg)), some (.inl (nI m)), some (.inl (nI (k * 50 + i))), some (.inl (sp_b was))] [] h2 0 0 Q := by
    intro hne h2 f2 e2 c2 un2 cx2
    have hm2 := mo_fx.ok f2 hm
    have f3 : mo_fx h (jh_si h2 mo 549 (nI m)) mo ar bl_F bl_G := mo_fx.si f2 ⟨by unfold go_G; decide, by decide, by decide⟩
    have hD3 := go_D.fx hD f3 (fun _ _ z => z.1)
    have a7 := (ga_of hD3 hk hX hi).2.2.2.2.2.2
    rw [hla] at a7
    have a4 := (ga_of hD3 hk hX hl2).2.2.2.1
    refine jw_aload_n rfl rfl ?_
    refine jw_dup rfl rfl ?_
    refine jw_gi rfl g_M_125 hm2.1 (c2) ?_
    refine js_iconst (x := 1) rfl rfl ?_
    refine jw_isubV rfl (nI_pred m) ?_
    refine jw_pi rfl p_M_ends_125 hm2.1 ?_
    refine jw_aload_n rfl rfl ?_
    refine jw_gr rfl g_M_71 (mo_si hm2).1 (mo_r (mo_si hm2) 12 rfl) ?_
    refine jw_aload_n rfl rfl ?_
    refine jw_gr rfl g_M_86 (mo_si hm2).1 (mo_r (mo_si hm2) 17 rfl) ?_
    refine jw_iload_n rfl rfl ?_
    refine js_ialdV (k * 50 + i) rfl (mo_a (mo_si hm2) 17 rfl) (by decide) (by rfl) rfl (by omega) (by decide) (a7) ?_
    refine js_ialdV (k * 50 + l) rfl (mo_a (mo_si hm2) 12 rfl) (by decide) (by rfl) rfl (by omega) (by decide) (a4) ?_
    refine jw_ireturn rfl rfl rfl ?_
    exact q2 hne _ f3 ((jh_u_k _ _ _ _ (by decide)).trans e2) ⟨jh_u_s _ _ _ _, by omega, un2⟩ ⟨(jh_u_k _ _ _ _ (by decide)).trans cx2.1, cx2.2⟩
  have at62 : ¬ en_more D (Fr m) → ∀ h1, mo_fx h h1 mo ar (pu_F m) no_G → jw_J g 3 m_M_ends jw_T0 62 [some (.inr (.inr (some mo))), some (.inl (nI gg)), some (.inl (nI m)), some (.inl (nI (k * 50 + i))), some (.inl (sp_b was))] [] h1 0 0 Q := by
    intro hne h1 f1
    have hm1 := mo_fx.ok f1 hm
    have F1 : mo_fx h h1 mo ar bl_F bl_G := bl_pu (mo_fx.mono f1 (fun _ _ z => z) (fun _ z => absurd z id))
    have e1 : jh_i h1 mo 550 = 0 := (mo_fx.rdi f1 (fun z => z)).trans hf0
    have c1 : jh_i h1 mo 549 = nI (m + 1) := (mo_fx.rdi f1 (fun z => z)).trans hu.1
    have un1 : ∀ u, u < m → un_at h1 ar u (Fr u) := fun u hlt => un_at.fx hm f1 (by omega) (hu.2.2 u (by omega))
    have cx1 : cx_ok h1 mo ar n D cn C := cx_ok.fx hm f1 (fun _ _ z => ⟨pu_go z, fun i _ y => by have := rg_F_k y; have := z.1; omega⟩) (fun z => z) hcx
    have at87 := at87 hne
    cases hwas : was with
    | true =>
      rw [if_pos (Or.inl hwas), hwas] at at87
      refine jw_iload rfl rfl ?_
      refine jw_if_ne 87 rfl rfl (fun _ => ?_) (fun z => absurd z (by decide))
      exact at87 h1 F1 e1 c1 un1 cx1
    | false =>
      rw [hwas] at at87
      have s1 : jh_I h1 (ar 534) (k * 50 + i) = nI s := (mo_fx.rd hm f1 15 rfl (fun k z => ⟨by have := z.1; omega, go_F_in (pu_go z)⟩)).trans u4
      refine jw_iload rfl rfl ?_
      refine jw_if_ne 87 rfl rfl (fun z => absurd (rfl) z) (fun _ => ?_)
      refine jw_aload_n rfl rfl ?_
      refine jw_gr rfl g_M_80 hm1.1 (mo_r hm1 15 rfl) ?_
      refine jw_iload_n rfl rfl ?_
      refine js_ialdV (k * 50 + i) rfl (mo_a hm1 15 rfl) (by decide) (by rfl) rfl (by omega) (by decide) (s1) ?_
      refine js_iconst (x := 3) rfl rfl ?_
      by_cases s3 : s = 3
      · rw [if_pos (Or.inr s3)] at at87
        refine jw_icmp_eq 87 rfl rfl (fun _ => ?_) (fun z => absurd (by rw [s3]; rfl) z)
        exact at87 h1 F1 e1 c1 un1 cx1
      · rw [if_neg (fun z => by rcases z with z | z; cases z; exact s3 z)] at at87
        have h1c := hcn hwas s3
        obtain ⟨c', rfl⟩ : ∃ c', cn = c' + 1 := ⟨cn - 1, by omega⟩
        refine jw_icmp_eq 87 rfl rfl (fun z => absurd z (fun z => s3 ((nI_eq (b := 3) (by omega) (by omega)).mp z))) (fun _ => ?_)
        refine jw_aload_n rfl rfl ?_
        refine jw_dup rfl rfl ?_
        refine jw_gi rfl g_M_122 hm1.1 (cx1.1) ?_
        refine js_iconst (x := 1) rfl rfl ?_
        refine jw_isubV rfl (nI_pred c') ?_
        refine jw_pi rfl p_M_ends_122 hm1.1 ?_
        exact at87 _ (mo_fx.si F1 ⟨by unfold go_G; decide, by decide, by decide⟩) ((jh_u_k _ _ _ _ (by decide)).trans e1) ((jh_u_k _ _ _ _ (by decide)).trans c1) un1 ⟨jh_u_s _ _ _ _, by omega, fun j hj => cx1.2.2 j (by omega)⟩
  refine jw_aload_n rfl rfl ?_
  refine jw_gi rfl g_M_125 hm.1 (hu.1) ?_
  refine js_iconst (x := 1) rfl rfl ?_
  refine jw_isubV rfl (nI_pred m) ?_
  refine js_istore_n rfl rfl (by decide) rfl ?_
  refine jw_aload_n rfl rfl ?_
  refine jw_gr rfl g_M_137 hm.1 (mo_r hm 27 rfl) ?_
  refine jw_iload_n rfl rfl ?_
  refine js_ialdV (m) rfl (mo_a hm 27 rfl) (by decide) (by rfl) rfl (by omega) (by decide) (u2) ?_
  refine js_istore_n rfl rfl (by decide) rfl ?_
  refine jw_aload_n rfl rfl ?_
  refine jw_gr rfl g_M_152 hm.1 (mo_r hm 32 rfl) ?_
  refine jw_iload_n rfl rfl ?_
  refine js_zaldV (m) rfl (mo_a hm 32 rfl) (by decide) (by rfl) rfl (by omega) (by decide) (u7) ?_
  refine js_istore rfl rfl (by decide) rfl ?_
  cases hwas : was with
  | true =>
    have at62 := at62 (fun z => by have := z.2.1; rw [hW, hwas] at this; cases this) h mo_fx.rf
    rw [hwas] at at62
    refine jw_iload rfl rfl ?_
    refine jw_if_ne 62 rfl rfl (fun _ => ?_) (fun z => absurd z (by decide))
    exact at62
  | false =>
    rw [hwas] at at62
    refine jw_iload rfl rfl ?_
    refine jw_if_ne 62 rfl rfl (fun z => absurd (rfl) z) (fun _ => ?_)
    refine jw_aload_n rfl rfl ?_
    refine jw_gr rfl g_M_80 hm.1 (mo_r hm 15 rfl) ?_
    refine jw_iload_n rfl rfl ?_
    refine js_ialdV (k * 50 + i) rfl (mo_a hm 15 rfl) (by decide) (by rfl) rfl (by omega) (by decide) (u4) ?_
    refine js_iconst (x := 4) rfl rfl ?_
    by_cases s4 : s = 4
    · obtain ⟨o1, o2, o3, o4⟩ := hov hwas s4
      have f1 : mo_fx h (jh_sI h (ar 554) m (nI (tu + 1))) mo ar (pu_F m) no_G := mo_fx.sI mo_fx.rf ⟨by decide, rfl⟩
      have F1 : mo_fx h (jh_sI h (ar 554) m (nI (tu + 1))) mo ar bl_F bl_G := bl_pu (mo_fx.mono f1 (fun _ _ z => z) (fun _ z => absurd z id))
      have hD1 := go_D.fx hD F1 (fun _ _ z => z.1)
      have un1 := un_ok.tu hm hu (by rw [hTu]; exact o1)
      rw [hTu] at un1
      have w := un1.2.2 m (by omega)
      rw [va_up_self] at w
      obtain ⟨w1, w2, w3, w4, w5, w6, w7, w8, w8b, w9⟩ := w
      have w8 : jh_I (jh_sI h (ar 554) m (nI (tu + 1))) (ar 554) m = nI (tu + 1) := jh_u_s _ _ _ _
      have w9 : jh_I (jh_sI h (ar 554) m (nI (tu + 1))) (ar 555) m = nI (en_x (Fr m)) := (show _ = (Fr m).2.2.2.2.2.2 from w9).trans o2
      have cn1 := hcn hwas (by omega)
      refine jw_icmp_ne 62 rfl rfl (fun z => absurd (by rw [s4]; rfl) z) (fun _ => ?_)
      refine jw_aload_n rfl rfl ?_
      refine jw_gr rfl g_M_140 hm.1 (mo_r hm 28 rfl) ?_
      refine jw_iload_n rfl rfl ?_
      refine jw_dup2 rfl rfl rfl ?_
      refine js_ialdV (m) rfl (mo_a hm 28 rfl) (by decide) (by rfl) rfl (by omega) (by decide) (u8) ?_
      refine js_iconst (x := 1) rfl rfl ?_
      refine jw_iaddV rfl (nI_1 tu) ?_
      refine js_iast (m) rfl (mo_a hm 28 rfl) (by decide) (by rfl) rfl (by omega) (by decide) ?_
      refine jw_aload_n rfl rfl ?_
      refine jw_iload_n rfl rfl ?_
      refine js_call (As := [.inl (nI m)]) rfl l_M_nextTurn c_M_371 i_M_nextTurn s_M_nextTurn jc_o8 rfl (mo_sI hm).1 rfl (cm_nextTurn (n := n) (D := D) (l := en_x (Fr m)) (tu := tu + 1) (cn := cn) hg hm hD1.2.1 (by omega) w9 o3 o4 w8 (by omega) hcx.1 hcn14 (fun hc => ?_) (fun hc h2 f2 v2 => ?_)) (by decide) (Nat.le_of_ble_eq_true rfl) (by omega) (by omega) rfl
      · refine jw_if_eq 62 rfl rfl (fun _ => ?_) (fun z => absurd (rfl) z)
        exact at62 (fun z => by have := z.2.2; rw [hTu] at this; omega) _ f1
      · have b4 := (ga_of (go_D.fx hD1 f2 (fun _ _ z => go_F.rg z)) hk hX hi).2.2.2.1
        refine jw_if_eq 62 rfl rfl (fun z => absurd z (by decide)) (fun _ => ?_)
        refine jw_aload_n rfl rfl ?_
        refine jw_gr rfl g_M_71 (mo_fx.ok f2 hD1.1).1 (mo_r (mo_fx.ok f2 hD1.1) 12 rfl) ?_
        refine jw_iload_n rfl rfl ?_
        refine js_ialdV (k * 50 + i) rfl (mo_a (mo_fx.ok f2 hD1.1) 12 rfl) (by decide) (by rfl) rfl (by omega) (by decide) (b4) ?_
        refine jw_ireturn rfl rfl rfl ?_
        obtain ⟨c', rfl⟩ : ∃ c', cn = c' + 1 := ⟨cn - 1, by omega⟩
        rw [show 2 + (c' + 1) = 3 + c' by omega] at f2 v2
        refine q1 ⟨by rw [hfs]; exact s4, by rw [hW]; exact hwas, by rw [hTu]; exact hc⟩ h2 (bl_tr F1 (bl_rg f2)) ((mo_fx.rdi f2 (fun z => z)).trans hf0) (un_ok.rg2 hm f2 un1) ?_
        refine cx_ok.add hm f2 (by omega) hcx.1 (fun j hj => mo_R.fx hm f1 (fun k j z => ⟨go_F_in (pu_go z), fun y => by have := rg_F_k y; have := z.1; omega⟩) (by omega) (hcx.2.2 j (by omega))) v2
    · refine jw_icmp_ne 62 rfl rfl (fun _ => ?_) (fun z => absurd z (fun z => s4 ((nI_eq (b := 4) (by omega) (by omega)).mp z)))
      exact at62 (fun z => s4 (by have := z.1; rw [hfs] at this; exact this)) h mo_fx.rf
set_option maxHeartbeats 4000000 in
set_option maxRecDepth 100000 in
theorem cm_partial {g : jg_G} (hg : (jg_l g).stackTraces = false) {h : jh_H} {mo : Nat} {ar t : Nat → Nat} {n k i m uw : Nat} {D : sd_D} {TP : Nat → Option tp_X} {X : tp_X} {Fr : Nat → fr_T} {Q : jw_O → jh_H → Prop} (hD : go_D h mo ar n D TP t) (hk : k < 4) (hX : TP k = some X) (hi : i < X.2.1) (hs : rn_s X i = 10) (hu : un_ok h mo ar m Fr) (hm20 : m < 20) (huw : uw < 100)
    (hq : match TP (rn_pt X i) with
      | none => Q (.inl (some (.inl (nI (rn_pt X i * 200))))) (jh_si h mo 550 2)
      | some Y => if uw = 3 then Q (.inl (some (.inl (nI (rn_pt X i * 200))))) (jh_si h mo 550 3) else ∀ h', mo_fx h h' mo ar (pu_F m) pu_G → un_ok h' mo ar (m + 1) (va_up Fr m (rn_pt X i, k * 50 + i, 10, true, false, 0, -1)) → Q (.inl (some (.inl (nI (rn_pt X i * 200))))) h') : jw_C g 1 0 0 m_M_partial [.inr (.inr (some mo)), .inl (nI (k * 50 + i)), .inl (nI uw)] h Q := by
  refine jw_intro (ls := [some (.inr (.inr (some mo))), some (.inl (nI (k * 50 + i))), some (.inl (nI uw)), none]) (by decide) k_M_partial rfl (by simp [lo_fit, jv_c]) hg ?_
  obtain ⟨hm, hDd, hdp, htx, hTP⟩ := id hD
  obtain ⟨-, htp, hsh, -, -⟩ := gt_of hD hk hX
  have hn50 := htp.2.2
  have hlen := htp.1
  obtain ⟨g1, g2, g3, g4, g5, g6, g7⟩ := ga_of hD hk hX hi
  have htg := tp_tg htp hi
  have h10 := htg.2.2.2.2.2.2.2.2.2 hs
  have hqe : tg_q (X.2.2.1 i) + 2 ≤ X.1.length := by have := htg.2.2.2.1; have := htg.2.2.2.2.1; omega
  have etx : t (tg_f (X.2.2.1 i) + 2 + k * 200) = tx X (tg_f (X.2.2.1 i) + 2) := hsh _ (by omega)
  have hc := htx (tg_f (X.2.2.1 i) + 2 + k * 200) (by omega)
  rw [etx] at hc
  have hpt : rn_pt X i < 4 := by rw [rn_pt]; omega
  have h529 := hTP (rn_pt X i) hpt
  rw [hs] at g5
  have esub : nI (tx X (tg_f (X.2.2.1 i) + 2)) - 97 = nI (rn_pt X i) := pk_sub (b := 97) (by omega)
  generalize hP : rn_pt X i = pt at *
  refine jw_aload_n rfl rfl ?_
  refine jw_gr rfl g_M_56 hm.1 (mo_r hm 7 rfl) ?_
  refine jw_aload_n rfl rfl ?_
  refine jw_gr rfl g_M_74 hm.1 (mo_r hm 13 rfl) ?_
  refine jw_iload_n rfl rfl ?_
  refine js_ialdV (k * 50 + i) rfl (mo_a hm 13 rfl) (by decide) (by rfl) rfl (by omega) (by decide) (g2) ?_
  refine js_iconst (x := 2) rfl rfl ?_
  refine jw_iaddV rfl ((nI_add _ 2).trans (congrArg nI (Nat.add_right_comm _ _ _))) ?_
  refine js_caldV (tg_f (X.2.2.1 i) + 2 + k * 200) rfl (mo_a hm 7 rfl) (by decide) (by rfl) rfl (by omega) (by decide) (hc.1) ?_
  refine js_bipush (x := 97) rfl rfl ?_
  refine jw_isubV rfl (esub) ?_
  refine js_istore_n rfl rfl (by decide) rfl ?_
  refine jw_aload_n rfl rfl ?_
  refine jw_gr rfl g_M_65 hm.1 (mo_r hm 10 rfl) ?_
  refine jw_iload_n rfl rfl ?_
  refine js_zald (pt) rfl (mo_a hm 10 rfl) (by decide) (by rfl) rfl (by omega) (by decide) ?_
  cases hY : TP pt with
  | none =>
    rw [hY] at h529 hq
    rw [show jh_I h (ar 529) pt = 0 from h529]
    refine jw_if_ne 34 rfl rfl (fun z => absurd (rfl) z) (fun _ => ?_)
    refine jw_aload_n rfl rfl ?_
    refine js_iconst (x := 2) rfl rfl ?_
    refine jw_pi rfl p_M_partial_128 hm.1 ?_
    refine jw_goto 55 rfl rfl ?_
    refine jw_iload_n rfl rfl ?_
    refine js_sipush (x := 200) rfl rfl ?_
    refine jw_imulV rfl (pk_mul pt 200) ?_
    refine jw_ireturn rfl rfl rfl ?_
    exact hq
  | some Y =>
    rw [hY] at h529 hq
    rw [h529.1]
    refine jw_if_ne 34 rfl rfl (fun _ => ?_) (fun z => absurd z (by decide))
    refine jw_iload_n rfl rfl ?_
    refine js_iconst (x := 3) rfl rfl ?_
    by_cases u3 : uw = 3
    · rw [if_pos u3] at hq
      refine jw_icmp_ne 47 rfl rfl (fun z => absurd (by rw [u3]; rfl) z) (fun _ => ?_)
      refine jw_aload_n rfl rfl ?_
      refine js_iconst (x := 3) rfl rfl ?_
      refine jw_pi rfl p_M_partial_128 hm.1 ?_
      refine jw_goto 55 rfl rfl ?_
      refine jw_iload_n rfl rfl ?_
      refine js_sipush (x := 200) rfl rfl ?_
      refine jw_imulV rfl (pk_mul pt 200) ?_
      refine jw_ireturn rfl rfl rfl ?_
      exact hq
    · rw [if_neg u3] at hq
      refine jw_icmp_ne 47 rfl rfl (fun _ => ?_) (fun z => absurd z (fun z => u3 ((nI_eq (b := 3) (by omega) (by omega)).mp z)))
      refine jw_aload_n rfl rfl ?_
      refine jw_iload_n rfl rfl ?_
      refine jw_iload_n rfl rfl ?_
      refine js_iconst (x := 1) rfl rfl ?_
      refine js_iconst (x := 0) rfl rfl ?_
      refine js_call (As := [.inl (nI pt), .inl (nI (k * 50 + i)), .inl (sp_b true), .inl (sp_b false)]) rfl l_M_push c_M_367 i_M_push s_M_push jc_o8 rfl hm.1 rfl (cm_push hg hm hu hm20 (by omega) g5 (by decide) (fun h' f' u' => ?_)) (by decide) (Nat.le_of_ble_eq_true rfl) (by omega) (by omega) rfl
      refine jw_iload_n rfl rfl ?_
      refine js_sipush (x := 200) rfl rfl ?_
      refine jw_imulV rfl (pk_mul pt 200) ?_
      refine jw_ireturn rfl rfl rfl ?_
      exact hq h' f' u'

