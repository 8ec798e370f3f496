/-! the model: blocks and their ends, partial templates -/
def bl_F (k j : Nat) : Prop := go_F k j ∧ k ≠ 543
def bl_G (k : Nat) : Prop := go_G k ∧ k ≠ 546 ∧ k ≠ 517
theorem bl_xp {h h' : jh_H} {mo : Nat} {ar : Nat → Nat} (a : mo_fx h h' mo ar xp_F sr_G) : mo_fx h h' mo ar bl_F bl_G := mo_fx.mono a (fun _ _ z => xp_ou z) (fun k z => ⟨go_G.sr z, by rcases z with (z | z) | z <;> omega, by rcases z with (z | z) | z <;> omega⟩)
theorem bl_rd {h h' : jh_H} {mo : Nat} {ar : Nat → Nat} (a : mo_fx h h' mo ar rd_F rd_G) : mo_fx h h' mo ar bl_F bl_G := bl_xp (mo_fx.mono a (fun _ _ z => Or.inl z) (fun _ z => Or.inl z))
theorem bl_rg {h h' : jh_H} {mo : Nat} {ar : Nat → Nat} {r : Nat} (a : mo_fx h h' mo ar (rg_F r) no_G) : mo_fx h h' mo ar bl_F bl_G := mo_fx.mono a (fun k _ z => ⟨go_F.rg z, by have := rg_F_k z; omega⟩) (fun _ z => absurd z id)
theorem bl_pu {h h' : jh_H} {mo : Nat} {ar : Nat → Nat} {m : Nat} (a : mo_fx h h' mo ar (pu_F m) pu_G) : mo_fx h h' mo ar bl_F bl_G := mo_fx.mono a (fun k _ z => ⟨pu_go z, by have := z.1; omega⟩) (fun k z => by have : k = 549 := z; subst this; exact ⟨by unfold go_G; decide, by decide, by decide⟩)
theorem bl_tr {h h1 h2 : jh_H} {mo : Nat} {ar : Nat → Nat} (a : mo_fx h h1 mo ar bl_F bl_G) (b : mo_fx h1 h2 mo ar bl_F bl_G) : mo_fx h h2 mo ar bl_F bl_G := mo_fx.tr a b (fun _ _ z => z) (fun _ z => z)
theorem tp_lv {X : tp_X} (h : tp_ok X) : ∃ lv, lv_ok (tx X) X.1.length X.2.1 X.2.2.1 X.2.2.2.1 X.2.2.2.2 lv := lv_all h.2.1
theorem tp_tg {X : tp_X} (h : tp_ok X) {i : Nat} (hi : i < X.2.1) : tg_ok (tx X) X.1.length (tp_at X.2.2.1 i) (X.2.2.1 i) := by
  obtain ⟨lv, h1⟩ := tp_lv h
  exact (h1.2.2 i hi).1
/-- what the rows hold of the tag i of the template k -/
def ga_ok (h : jh_H) (ar t : Nat → Nat) (k : Nat) (X : tp_X) (i : Nat) : Prop := jh_I h (ar 530) (k * 50 + i) = nI (tg_b (X.2.2.1 i) + k * 200) ∧ jh_I h (ar 532) (k * 50 + i) = nI (tg_f (X.2.2.1 i) + k * 200) ∧ jh_I h (ar 533) (k * 50 + i) = nI (tg_q (X.2.2.1 i) + k * 200) ∧ jh_I h (ar 531) (k * 50 + i) = nI (tg_e (X.2.2.1 i) + k * 200) ∧ jh_I h (ar 534) (k * 50 + i) = nI (rn_s X i) ∧ jh_I h (ar 535) (k * 50 + i) = mt_o (k * 50) (X.2.2.2.1 i) ∧ jh_I h (ar 536) (k * 50 + i) = mt_o (k * 50) (X.2.2.2.2 i)
theorem ga_of {h : jh_H} {mo : Nat} {ar t : Nat → Nat} {n : Nat} {D : sd_D} {TP : Nat → Option tp_X} (hD : go_D h mo ar n D TP t) {k i : Nat} (hk : k < 4) {X : tp_X} (hX : TP k = some X) (hi : i < X.2.1) : ga_ok h ar t k X i := by
  have h1 := hD.2.2.2.2 k hk
  rw [hX] at h1
  exact h1.2.2.2.2.2 i hi
theorem gt_of {h : jh_H} {mo : Nat} {ar t : Nat → Nat} {n : Nat} {D : sd_D} {TP : Nat → Option tp_X} (hD : go_D h mo ar n D TP t) {k : Nat} (hk : k < 4) {X : tp_X} (hX : TP k = some X) : jh_I h (ar 529) k = 1 ∧ tp_ok X ∧ sh_ok t (tx X) (k * 200) X.1.length ∧ jh_I h (ar 527) k = nI X.1.length ∧ jh_I h (ar 528) k = nI X.2.1 := by
  have h1 := hD.2.2.2.2 k hk
  rw [hX] at h1
  exact ⟨h1.1, h1.2.1, h1.2.2.1, h1.2.2.2.1, h1.2.2.2.2.1⟩
theorem un_ok.ov {h h0 : jh_H} {mo : Nat} {ar : Nat → Nat} {m a b c f : Nat} {d e : Bool} {w w' : Int32} {Fr : Nat → fr_T} (hm : mo_ok h0 mo ar) (hu : un_ok h mo ar (m + 1) (va_up Fr m (a, b, c, d, e, f, w'))) : un_ok (jh_sI h (ar 555) m w) mo ar (m + 1) (va_up Fr m (a, b, c, d, e, f, w)) := by
  refine ⟨hu.1, hu.2.1, fun u hlt => ?_⟩
  have h1 := hu.2.2 u hlt
  by_cases z : u = m
  · subst z
    rw [va_up_self] at h1 ⊢
    obtain ⟨u1, u2, u3, u4, u5, u6, u7, u8, u8b, u9⟩ := h1
    exact ⟨(mo_rs hm 26 29 rfl rfl (by decide)).trans u1, (mo_rs hm 27 29 rfl rfl (by decide)).trans u2, u3, (mo_rs hm 15 29 rfl rfl (by decide)).trans u4, u5, (mo_rs hm 33 29 rfl rfl (by decide)).trans u6, (mo_rs hm 32 29 rfl rfl (by decide)).trans u7, (mo_rs hm 28 29 rfl rfl (by decide)).trans u8, u8b, jh_u_s _ _ _ _⟩
  · rw [va_up_ne _ _ z] at h1 ⊢
    exact un_at.fx (G := pu_G) hm (mo_fx.sI mo_fx.rf (show pu_F m 555 m from ⟨by decide, rfl⟩)) z h1
/-- where a block leads -/
def bl_out (D : sd_D) (X : tp_X) (k i m : Nat) (Fr : Nat → fr_T) (cn : Nat) (C : Nat → sv_T) (v : sv_T) : Nat × Nat × (Nat → fr_T) × Nat × (Nat → sv_T) :=
  if rn_first D (rn_s X i) v then (i + 1, m + 1, va_up Fr m (k, k * 50 + i, rn_s X i, false, false, 0, if rn_s X i = 4 then nI (rn_over v) else -1), if rn_s X i = 3 then cn else cn + 1, if rn_s X i = 3 then C else va_up C cn (if rn_s X i = 5 then v else rn_part D v 0))
  else match X.2.2.2.1 i with
    | none => (rn_after X i, m, Fr, cn, C)
    | some o => (o + 1, m + 1, va_up Fr m (k, k * 50 + i, rn_s X i, false, true, 0, -1), cn, C)
set_option maxHeartbeats 4000000 in
set_option maxRecDepth 100000 in
theorem cx_ok.add {h h' h0 : jh_H} {mo : Nat} {ar : Nat → Nat} {n cn : Nat} {D : sd_D} {C : Nat → sv_T} {v : sv_T} (hm : mo_ok h0 mo ar) (hf : mo_fx h h' mo ar (rg_F (3 + cn)) no_G) (hcn : cn ≤ 13) (h1 : jh_i h mo 548 = nI (cn + 1)) (h2 : ∀ i, i < cn → mo_R h ar n D (3 + i) (C i)) (hv : mo_R h' ar n D (3 + cn) v) : cx_ok h' mo ar n D (cn + 1) (va_up C cn v) := by
  refine ⟨(mo_fx.rdi hf (fun z => z)).trans h1, by omega, fun i hi => ?_⟩
  by_cases e : i = cn
  · subst e; rw [va_up_self]; exact hv
  · rw [va_up_ne _ _ e]
    exact mo_R.fx hm hf (fun k j z => ⟨rg_F_in z, fun z2 => by rcases z with ⟨_, e⟩ | ⟨_, e⟩ <;> rcases z2 with ⟨_, e2⟩ | ⟨_, e2⟩ <;> omega⟩) (by omega) (h2 i (by omega))
theorem un_ok.rg2 {h h' h0 : jh_H} {mo : Nat} {ar : Nat → Nat} {r : Nat} {m : Nat} {Fr : Nat → fr_T} (hm : mo_ok h0 mo ar) (hf : mo_fx h h' mo ar (rg_F r) no_G) (hu : un_ok h mo ar m Fr) : un_ok h' mo ar m Fr := un_ok.fx hm hf (fun k _ z => ⟨go_F.rg z, Or.inl (by have := rg_F_k z; omega)⟩) (fun z => z) hu
set_option maxHeartbeats 4000000 in
set_option maxRecDepth 100000 in
theorem cm_block {g : jg_G} (hg : (jg_l g).stackTraces = false) {h : jh_H} {mo : Nat} {ar t : Nat → Nat} {n k i m cn : Nat} {D : sd_D} {TP : Nat → Option tp_X} {X : tp_X} {Fr : Nat → fr_T} {C : Nat → sv_T} {Q : jw_O → jh_H → Prop} (hD : go_D h mo ar n D TP t) (hk : k < 4) (hX : TP k = some X) (hi : i < X.2.1) (hs : 3 ≤ rn_s X i ∧ rn_s X i ≤ 5) (hu : un_ok h mo ar m Fr) (hm20 : m < 20) (hcx : cx_ok h mo ar n D cn C) (hcn : cn ≤ 13) (hf0 : jh_i h mo 550 = 0)
    (hq : ∀ h', mo_fx h h' mo ar bl_F bl_G → (match ev_ex D C cn (fr_turn Fr m) (rn_ex X i) with
      | none => jh_i h' mo 550 = 4 → Q (.inl (some (.inl 0))) h'
      | some v => (∀ x, v = some (.inr (.inr x)) → x < n ∧ 2 ≤ sd_k D x) → jh_i h' mo 550 = 0 → un_ok h' mo ar (bl_out D X k i m Fr cn C v).2.1 (bl_out D X k i m Fr cn C v).2.2.1 → cx_ok h' mo ar n D (bl_out D X k i m Fr cn C v).2.2.2.1 (bl_out D X k i m Fr cn C v).2.2.2.2 → Q (.inl (some (.inl (nI (tp_at X.2.2.1 (bl_out D X k i m Fr cn C v).1 + k * 200))))) h')) : jw_C g 7 0 0 m_M_block [.inr (.inr (some mo)), .inl (nI (k * 50 + i))] h Q := by
  refine jw_intro (ls := [some (.inr (.inr (some mo))), some (.inl (nI (k * 50 + i))), none, none]) (by decide) k_M_block rfl (by simp [lo_fit, jv_c]) hg ?_
  obtain ⟨hm, hDd, hdp, htx, -⟩ := id hD
  obtain ⟨-, htp, hsh, -, -⟩ := gt_of hD hk hX
  have hn50 := htp.2.2
  have hlen := htp.1
  obtain ⟨g1, g2, g3, g4, g5, g6, g7⟩ := ga_of hD hk hX hi
  have htg := tp_tg htp hi
  obtain ⟨lv, hlv⟩ := tp_lv htp
  have hbl := ((hlv.2.2 i hi).2.1 hs)
  obtain ⟨l, hla, hl1, hl2, -, -, -, hot⟩ := hbl.2.2
  have gl := ga_of hD hk hX hl2
  have eaft : rn_after X i = l + 1 := by rw [rn_after, if_pos hs, hla]; rfl
  have hk3 : ∀ x, x < n → sd_k D x ≤ 3 := fun x hx => (hDd.2 x hx).2.1
  generalize hS : rn_s X i = s at *
  have hxo : rn_xo s = if s = 3 then 4 else 6 := by rw [rn_xo, if_neg (by omega)]
  have hix : sp_isExpr (tx X) (tg_f (X.2.2.1 i) + rn_xo s) (tg_q (X.2.2.1 i)) = true ∧ tg_f (X.2.2.1 i) + rn_xo s ≤ tg_q (X.2.2.1 i) := by
    have e3 := htg.2.2.2.2.2.2.2.1
    have e4 := htg.2.2.2.2.2.2.2.2.1
    rw [show tg_s (X.2.2.1 i) = s from hS] at e3 e4
    rw [hxo]
    by_cases h3 : s = 3
    · rw [if_pos h3]; exact e3 h3
    · rw [if_neg h3]; exact e4 (by omega)
  have hqe : tg_q (X.2.2.1 i) + 2 ≤ X.1.length := by have := htg.2.2.2.1; have := htg.2.2.2.2.1; omega
  have hex : ex_ex t (tg_f (X.2.2.1 i) + rn_xo s + k * 200) (tg_q (X.2.2.1 i) + k * 200) = rn_ex X i := by
    rw [sh_ex (hsh.lt (by omega)) hix.2 hix.1, rn_ex, hS]
  have hixt : sp_isExpr t (tg_f (X.2.2.1 i) + rn_xo s + k * 200) (tg_q (X.2.2.1 i) + k * 200) = true := by
    rw [sh_isExpr (hsh.lt (by omega))]; exact hix.1
  have hxo6 : rn_xo s ≤ 6 := by rw [hxo]; split <;> omega
  -- the expression's value is there
  have at35 : ∀ h1, mo_fx h h1 mo ar xp_F sr_G → (match ev_ex D C cn (fr_turn Fr m) (rn_ex X i) with | none => jh_i h1 mo 550 = 4 | some v => jh_i h1 mo 550 = 0 ∧ mo_R h1 ar n D 2 v) → jw_J g 7 m_M_block jw_T0 35 [some (.inr (.inr (some mo))), some (.inl (nI (k * 50 + i))), some (.inl (nI s)), none] [] h1 0 0 Q := by
    intro h1 f1 r1
    have hm1 := mo_fx.ok f1 hm
    have hD1 := go_D.fx hD f1 (fun _ _ z => go_F.xp z)
    have hu1 : un_ok h1 mo ar m Fr := un_ok.fx hm f1 (fun _ _ z => xp_un z) (by unfold sr_G rd_G; decide) hu
    have hc1 : cx_ok h1 mo ar n D cn C := cx_ok.fx hm f1 (fun _ _ z => ⟨go_F.xp z, fun i _ => xp_cx z i⟩) (by unfold sr_G rd_G; decide) hcx
    have hq1 := fun h2 (f2 : mo_fx h1 h2 mo ar bl_F bl_G) => hq h2 (bl_tr (bl_xp f1) f2)
    clear hq
    cases hev : ev_ex D C cn (fr_turn Fr m) (rn_ex X i) with
    | none =>
      rw [hev] at r1 hq1
      refine jw_aload_n rfl rfl ?_
      refine jw_gi rfl g_M_128 hm1.1 (r1) ?_
      refine jw_if_eq 44 rfl rfl (fun z => absurd z (by decide)) (fun _ => ?_)
      refine js_iconst (x := 0) rfl rfl ?_
      refine jw_ireturn rfl rfl rfl ?_
      exact hq1 h1 mo_fx.rf r1
    | some v =>
      rw [hev] at r1 hq1
      obtain ⟨r1, v1⟩ := r1
      have hq1 := fun h2 f2 => hq1 h2 f2 (fun x e => by subst e; exact ⟨v1.2.2.1, v1.2.2.2⟩)
      have f0 : ∀ h2, mo_fx h1 h2 mo ar rd_F rd_G → jh_i h2 mo 550 = 0 := fun h2 f2 => (mo_fx.rdi f2 (by unfold rd_G; decide)).trans r1
      -- is the first part rendered
      have at116 : ∀ h2, mo_fx h1 h2 mo ar rd_F rd_G → jw_J g 7 m_M_block jw_T0 116 [some (.inr (.inr (some mo))), some (.inl (nI (k * 50 + i))), some (.inl (nI s)), none] [.inl (sp_b (rn_first D s v))] h2 0 0 Q := by
        intro h2 f2
        have e2 := f0 h2 f2
        have hm2 := mo_fx.ok f2 hm1
        have hD2 := go_D.fx hD1 f2 (fun _ _ z => go_F.rd z)
        have hu2 : un_ok h2 mo ar m Fr := un_ok.fx hm f2 (fun _ _ z => xp_un (Or.inl z)) (by unfold rd_G; decide) hu1
        have hc2 : cx_ok h2 mo ar n D cn C := cx_ok.fx hm f2 (fun _ _ z => ⟨go_F.rd z, fun i _ => rd_rg z⟩) (by unfold rd_G; decide) hc1
        have v2 : mo_R h2 ar n D 2 v := mo_R.rd hm f2 (by decide) v1
        have hq2 := fun h3 (f3 : mo_fx h2 h3 mo ar bl_F bl_G) => hq1 h3 (bl_tr (bl_rd f2) f3)
        clear hq1
        obtain ⟨a1, a2, a3, a4, a5, a6, a7⟩ := ga_of hD2 hk hX hi
        rw [hS] at a5
        have al := ga_of hD2 hk hX hl2
        have htl := tp_tg htp hl2
        rw [hla] at a7
        simp only [bl_out, hS] at hq2
        cases hfi : rn_first D s v with
        | false =>
          simp only [hfi] at hq2
          cases ho : X.2.2.2.1 i with
          | none =>
            rw [ho] at a6 hq2
            refine js_istore_n rfl rfl (by decide) rfl ?_
            refine jw_iload_n rfl rfl ?_
            refine jw_if_ne 142 rfl rfl (fun z => absurd (rfl) z) (fun _ => ?_)
            refine jw_aload_n rfl rfl ?_
            refine jw_gr rfl g_M_83 hm2.1 (mo_r hm2 16 rfl) ?_
            refine jw_iload_n rfl rfl ?_
            refine js_ialdV (k * 50 + i) rfl (mo_a hm2 16 rfl) (by decide) (by rfl) rfl (by omega) (by decide) (a6) ?_
            refine jw_if_ge 142 rfl rfl (fun z => absurd z (show ¬ (0 : Int32) ≤ -1 by decide)) (fun _ => ?_)
            refine jw_aload_n rfl rfl ?_
            refine jw_gr rfl g_M_71 hm2.1 (mo_r hm2 12 rfl) ?_
            refine jw_aload_n rfl rfl ?_
            refine jw_gr rfl g_M_86 hm2.1 (mo_r hm2 17 rfl) ?_
            refine jw_iload_n rfl rfl ?_
            refine js_ialdV (k * 50 + i) rfl (mo_a hm2 17 rfl) (by decide) (by rfl) rfl (by omega) (by decide) (a7) ?_
            refine js_ialdV (k * 50 + l) rfl (mo_a hm2 12 rfl) (by decide) (by rfl) rfl (by omega) (by decide) (al.2.2.2.1) ?_
            refine jw_ireturn rfl rfl rfl ?_
            have := hq2 h2 mo_fx.rf e2 hu2 hc2
            rw [eaft] at this
            exact this
          | some o =>
            have hoo := hot o ho
            have ao := ga_of hD2 hk hX (show o < X.2.1 by omega)
            rw [ho] at a6 hq2
            refine js_istore_n rfl rfl (by decide) rfl ?_
            refine jw_iload_n rfl rfl ?_
            refine jw_if_ne 142 rfl rfl (fun z => absurd (rfl) z) (fun _ => ?_)
            refine jw_aload_n rfl rfl ?_
            refine jw_gr rfl g_M_83 hm2.1 (mo_r hm2 16 rfl) ?_
            refine jw_iload_n rfl rfl ?_
            refine js_ialdV (k * 50 + i) rfl (mo_a hm2 16 rfl) (by decide) (by rfl) rfl (by omega) (by decide) (a6) ?_
            refine jw_if_ge 142 rfl rfl (fun _ => ?_) (fun z => absurd (nI_pos' (by omega)) z)
            refine jw_aload_n rfl rfl ?_
            refine jw_iload_n rfl rfl ?_
            refine js_bipush (x := 50) rfl rfl ?_
            refine jw_idivV rfl (by decide) ((pk_div (d := 50) (by omega) (by decide) (by decide)).trans (congrArg nI (show (k * 50 + i) / 50 = k by omega))) ?_
            refine jw_iload_n rfl rfl ?_
            refine js_iconst (x := 0) rfl rfl ?_
            refine jw_iload_n rfl rfl ?_
            refine jw_if_ne 157 rfl rfl (fun z => absurd (rfl) z) (fun _ => ?_)
            refine js_iconst (x := 1) rfl rfl ?_
            refine jw_goto 158 rfl rfl ?_
            refine js_call (As := [.inl (nI k), .inl (nI (k * 50 + i)), .inl (sp_b false), .inl (sp_b true)]) rfl l_M_push c_M_367 i_M_push s_M_push jc_o8 rfl hm2.1 rfl (cm_push hg hm2 hu2 hm20 (by omega) a5 (by omega) (fun h3 f3 u3 => ?_)) (by decide) (Nat.le_of_ble_eq_true rfl) (by omega) (by omega) rfl
            have hm3 := mo_fx.ok f3 hm2
            have hD3 := go_D.fx hD2 f3 (fun _ _ z => pu_go z)
            have b6 := (ga_of hD3 hk hX hi).2.2.2.2.2.1
            rw [ho] at b6
            have bo := ga_of hD3 hk hX (show o < X.2.1 by omega)
            refine jw_iload_n rfl rfl ?_
            refine jw_if_ne 177 rfl rfl (fun z => absurd (rfl) z) (fun _ => ?_)
            refine jw_aload_n rfl rfl ?_
            refine jw_gr rfl g_M_71 hm3.1 (mo_r hm3 12 rfl) ?_
            refine jw_aload_n rfl rfl ?_
            refine jw_gr rfl g_M_83 hm3.1 (mo_r hm3 16 rfl) ?_
            refine jw_iload_n rfl rfl ?_
            refine js_ialdV (k * 50 + i) rfl (mo_a hm3 16 rfl) (by decide) (by rfl) rfl (by omega) (by decide) (b6) ?_
            refine js_ialdV (k * 50 + o) rfl (mo_a hm3 12 rfl) (by decide) (by rfl) rfl (by omega) (by decide) (bo.2.2.2.1) ?_
            refine jw_ireturn rfl rfl rfl ?_
            refine hq2 h3 (bl_pu f3) ((mo_fx.rdi f3 (by unfold pu_G; decide)).trans e2) u3 (cx_ok.fx hm f3 (fun _ _ z => ⟨pu_go z, fun i _ y => by have := rg_F_k y; have := z.1; omega⟩) (by unfold pu_G; decide) hc2)
        | true =>
          simp only [hfi] at hq2
          refine js_istore_n rfl rfl (by decide) rfl ?_
          refine jw_iload_n rfl rfl ?_
          refine jw_if_ne 142 rfl rfl (fun _ => ?_) (fun z => absurd z (by decide))
          refine jw_aload_n rfl rfl ?_
          refine jw_iload_n rfl rfl ?_
          refine js_bipush (x := 50) rfl rfl ?_
          refine jw_idivV rfl (by decide) ((pk_div (d := 50) (by omega) (by decide) (by decide)).trans (congrArg nI (show (k * 50 + i) / 50 = k by omega))) ?_
          refine jw_iload_n rfl rfl ?_
          refine js_iconst (x := 0) rfl rfl ?_
          refine jw_iload_n rfl rfl ?_
          refine jw_if_ne 157 rfl rfl (fun _ => ?_) (fun z => absurd z (by decide))
          refine js_iconst (x := 0) rfl rfl ?_
          refine js_call (As := [.inl (nI k), .inl (nI (k * 50 + i)), .inl (sp_b false), .inl (sp_b false)]) rfl l_M_push c_M_367 i_M_push s_M_push jc_o8 rfl hm2.1 rfl (cm_push hg hm2 hu2 hm20 (by omega) a5 (by omega) (fun h3 f3 u3 => ?_)) (by decide) (Nat.le_of_ble_eq_true rfl) (by omega) (by omega) rfl
          have hm3 := mo_fx.ok f3 hm2
          have hD3 := go_D.fx hD2 f3 (fun _ _ z => pu_go z)
          have b4 := (ga_of hD3 hk hX hi).2.2.2.1
          have hc3 : cx_ok h3 mo ar n D cn C := cx_ok.fx hm f3 (fun _ _ z => ⟨pu_go z, fun i _ y => by have := rg_F_k y; have := z.1; omega⟩) (by unfold pu_G; decide) hc2
          have e3 := (mo_fx.rdi f3 (show ¬ pu_G 550 by unfold pu_G; decide)).trans e2
          have v3 : mo_R h3 ar n D 2 v := mo_R.fx hm f3 (fun k j z => ⟨go_F_in (pu_go z), fun y => by have := rg_F_k y; have := z.1; omega⟩) (by decide) v2
          by_cases s3 : s = 3
          · simp only [if_pos s3, if_neg (show ¬ s = 4 by omega)] at hq2
            refine jw_iload_n rfl rfl ?_
            refine jw_if_ne 177 rfl rfl (fun _ => ?_) (fun z => absurd z (by decide))
            refine jw_iload_n rfl rfl ?_
            refine js_iconst (x := 3) rfl rfl ?_
            refine jw_icmp_ne 189 rfl rfl (fun z => absurd (by rw [s3]; rfl) z) (fun _ => ?_)
            refine jw_aload_n rfl rfl ?_
            refine jw_gr rfl g_M_71 hm3.1 (mo_r hm3 12 rfl) ?_
            refine jw_iload_n rfl rfl ?_
            refine js_ialdV (k * 50 + i) rfl (mo_a hm3 12 rfl) (by decide) (by rfl) rfl (by omega) (by decide) (b4) ?_
            refine jw_ireturn rfl rfl rfl ?_
            exact hq2 h3 (bl_pu f3) e3 u3 hc3
          simp only [if_neg s3] at hq2
          have f4 : mo_fx h2 (jh_si h3 mo 548 (nI (cn + 1))) mo ar bl_F bl_G := mo_fx.si (bl_pu f3) ⟨by unfold go_G; decide, by decide, by decide⟩
          have f34 : mo_fx h3 (jh_si h3 mo 548 (nI (cn + 1))) mo ar bl_F bl_G := mo_fx.si mo_fx.rf ⟨by unfold go_G; decide, by decide, by decide⟩
          by_cases s5 : s = 5
          · simp only [if_pos s5, if_neg (show ¬ s = 4 by omega)] at hq2
            refine jw_iload_n rfl rfl ?_
            refine jw_if_ne 177 rfl rfl (fun _ => ?_) (fun z => absurd z (by decide))
            refine jw_iload_n rfl rfl ?_
            refine js_iconst (x := 3) rfl rfl ?_
            refine jw_icmp_ne 189 rfl rfl (fun _ => ?_) (fun z => absurd z (fun z => s3 ((nI_eq (b := 3) (by omega) (by omega)).mp z)))
            refine jw_aload_n rfl rfl ?_
            refine jw_dup rfl rfl ?_
            refine jw_gi rfl g_M_122 hm3.1 (hc3.1) ?_
            refine js_iconst (x := 1) rfl rfl ?_
            refine jw_iaddV rfl (nI_1 cn) ?_
            refine jw_pi rfl p_M_block_122 hm3.1 ?_
            refine jw_iload_n rfl rfl ?_
            refine js_iconst (x := 5) rfl rfl ?_
            refine jw_icmp_ne 218 rfl rfl (fun z => absurd (by rw [s5]; rfl) z) (fun _ => ?_)
            refine jw_aload_n rfl rfl ?_
            refine js_iconst (x := 2) rfl rfl ?_
            refine jw_aload_n rfl rfl ?_
            refine jw_gi rfl g_M_122 (mo_si hm3).1 (jh_u_s _ _ _ _) ?_
            refine jw_iaddV rfl ((nI_add 2 (cn + 1)).trans (congrArg nI (show 2 + (cn + 1) = 3 + cn by omega))) ?_
            refine js_iconst (x := 2) rfl rfl ?_
            refine js_call (As := [.inl (nI (3 + cn)), .inl (nI 2)]) rfl l_M_copy c_M_323 i_M_copy s_M_copy jc_o8 rfl (mo_si hm3).1 rfl (cm_copy (n := n) (D := D) (v := v) hg hm3 (by omega) (by decide) (by omega) hk3 v3 (fun h5 f5 v5 => ?_)) (by decide) (Nat.le_of_ble_eq_true rfl) (by omega) (by omega) rfl
            refine jw_goto 246 rfl rfl ?_
            have b5 := (ga_of (go_D.fx (go_D.fx hD3 f34 (fun _ _ z => z.1)) f5 (fun _ _ z => go_F.rg z)) hk hX hi).2.2.2.1
            refine jw_aload_n rfl rfl ?_
            refine jw_gr rfl g_M_71 (mo_fx.ok f5 (mo_si hm3)).1 (mo_r (mo_fx.ok f5 (mo_si hm3)) 12 rfl) ?_
            refine jw_iload_n rfl rfl ?_
            refine js_ialdV (k * 50 + i) rfl (mo_a (mo_fx.ok f5 (mo_si hm3)) 12 rfl) (by decide) (by rfl) rfl (by omega) (by decide) (b5) ?_
            refine jw_ireturn rfl rfl rfl ?_
            have u4 : un_ok (jh_si h3 mo 548 (nI (cn + 1))) mo ar (m + 1) (va_up Fr m (k, k * 50 + i, s, false, false, 0, -1)) := ⟨(jh_u_k _ _ _ _ (by decide)).trans u3.1, u3.2⟩
            refine hq2 h5 (bl_tr f4 (bl_rg f5)) ?_ (un_ok.rg2 hm f5 u4) (cx_ok.add hm f5 hcn (jh_u_s _ _ _ _) hc3.2.2 v5)
            exact (mo_fx.rdi f5 (fun z => z)).trans ((jh_u_k _ _ _ _ (by decide)).trans e3)
          · have s4 : s = 4 := by omega
            simp only [if_neg s5, if_pos s4] at hq2
            have hmany : 0 < rn_many D v := by
              rw [rn_first, if_neg s3, if_neg s5] at hfi
              exact of_decide_eq_true hfi
            obtain ⟨x, rfl⟩ : ∃ x, v = some (.inr (.inr x)) := by
              rcases v with _ | v | L | x
              · exact absurd hmany (Nat.lt_irrefl 0)
              · exact absurd hmany (Nat.lt_irrefl 0)
              · exact absurd hmany (Nat.lt_irrefl 0)
              · exact ⟨x, rfl⟩
            obtain ⟨x1, x2, x3, x4⟩ := v3
            have u4 : un_ok (jh_sI (jh_si h3 mo 548 (nI (cn + 1))) (ar 555) m (nI x)) mo ar (m + 1) (va_up Fr m (k, k * 50 + i, s, false, false, 0, nI x)) := un_ok.ov hm ⟨(jh_u_k _ _ _ _ (by decide)).trans u3.1, u3.2⟩
            have f5 : mo_fx h2 (jh_sI (jh_si h3 mo 548 (nI (cn + 1))) (ar 555) m (nI x)) mo ar bl_F bl_G := mo_fx.sI f4 ⟨by unfold go_F; decide, by decide⟩
            have hD5 := go_D.fx hD2 f5 (fun _ _ z => z.1)
            have u4m := u4.2.2 m (by omega)
            rw [va_up_self] at u4m
            obtain ⟨w1, w2, w3, w4, w5, w6, w7, w8, w8b, w9⟩ := u4m
            have c5 : jh_i (jh_sI (jh_si h3 mo 548 (nI (cn + 1))) (ar 555) m (nI x)) mo 548 = nI (cn + 1) := jh_u_s _ _ _ _
            refine jw_iload_n rfl rfl ?_
            refine jw_if_ne 177 rfl rfl (fun _ => ?_) (fun z => absurd z (by decide))
            refine jw_iload_n rfl rfl ?_
            refine js_iconst (x := 3) rfl rfl ?_
            refine jw_icmp_ne 189 rfl rfl (fun _ => ?_) (fun z => absurd z (fun z => s3 ((nI_eq (b := 3) (by omega) (by omega)).mp z)))
            refine jw_aload_n rfl rfl ?_
            refine jw_dup rfl rfl ?_
            refine jw_gi rfl g_M_122 hm3.1 (hc3.1) ?_
            refine js_iconst (x := 1) rfl rfl ?_
            refine jw_iaddV rfl (nI_1 cn) ?_
            refine jw_pi rfl p_M_block_122 hm3.1 ?_
            refine jw_iload_n rfl rfl ?_
            refine js_iconst (x := 5) rfl rfl ?_
            refine jw_icmp_ne 218 rfl rfl (fun _ => ?_) (fun z => absurd z (fun z => s5 ((nI_eq (b := 5) (by omega) (by omega)).mp z)))
            refine jw_aload_n rfl rfl ?_
            refine jw_gr rfl g_M_143 (mo_si hm3).1 (mo_r (mo_si hm3) 29 rfl) ?_
            refine jw_aload_n rfl rfl ?_
            refine jw_gi rfl g_M_125 (mo_si hm3).1 ((jh_u_k _ _ _ _ (by decide)).trans u3.1) ?_
            refine js_iconst (x := 1) rfl rfl ?_
            refine jw_isubV rfl (nI_pred m) ?_
            refine jw_aload_n rfl rfl ?_
            refine jw_gr rfl g_M_95 (mo_si hm3).1 (mo_r (mo_si hm3) 20 rfl) ?_
            refine js_iconst (x := 2) rfl rfl ?_
            refine js_ialdV (2) rfl (mo_a (mo_si hm3) 20 rfl) (by decide) (by rfl) rfl (by omega) (by decide) (x2) ?_
            refine js_iast (m) rfl (mo_a (mo_si hm3) 29 rfl) (by decide) (by rfl) rfl (by omega) (by decide) ?_
            refine jw_aload_n rfl rfl ?_
            refine jw_aload_n rfl rfl ?_
            refine jw_gi rfl g_M_125 (mo_sI (mo_si hm3)).1 ((jh_u_k _ _ _ _ (by decide)).trans u3.1) ?_
            refine js_iconst (x := 1) rfl rfl ?_
            refine jw_isubV rfl (nI_pred m) ?_
            refine js_call (As := [.inl (nI m)]) rfl l_M_nextTurn c_M_371 i_M_nextTurn s_M_nextTurn jc_o8 rfl (mo_sI (mo_si hm3)).1 rfl (cm_nextTurn (n := n) (D := D) (l := x) (tu := 0) (cn := cn + 1) hg hm3 hD5.2.1 hm20 w9 x3 x4 w8 (by decide) c5 (by omega) (fun z => absurd hmany (by show ¬ 0 < sd_c D x; omega)) (fun _ h6 f6 v6 => ?_)) (by decide) (Nat.le_of_ble_eq_true rfl) (by omega) (by omega) rfl
            refine jw_pop rfl rfl ?_
            rw [show 2 + (cn + 1) = 3 + cn by omega] at f6 v6
            have b5 := (ga_of (go_D.fx hD5 f6 (fun _ _ z => go_F.rg z)) hk hX hi).2.2.2.1
            refine jw_aload_n rfl rfl ?_
            refine jw_gr rfl g_M_71 (mo_fx.ok f6 hD5.1).1 (mo_r (mo_fx.ok f6 hD5.1) 12 rfl) ?_
            refine jw_iload_n rfl rfl ?_
            refine js_ialdV (k * 50 + i) rfl (mo_a (mo_fx.ok f6 hD5.1) 12 rfl) (by decide) (by rfl) rfl (by omega) (by decide) (b5) ?_
            refine jw_ireturn rfl rfl rfl ?_
            have f45 : mo_fx (jh_si h3 mo 548 (nI (cn + 1))) (jh_sI (jh_si h3 mo 548 (nI (cn + 1))) (ar 555) m (nI x)) mo ar (pu_F m) pu_G := mo_fx.sI mo_fx.rf ⟨by decide, rfl⟩
            refine hq2 h6 (bl_tr f5 (bl_rg f6)) ?_ (un_ok.rg2 hm f6 u4) (cx_ok.add hm f6 hcn c5 (fun j hj => mo_R.fx hm f45 (fun k j z => ⟨go_F_in (pu_go z), fun y => by have := rg_F_k y; have := z.1; omega⟩) (by omega) (hc3.2.2 j hj)) v6)
            exact (mo_fx.rdi f6 (fun z => z)).trans ((jh_u_k _ _ _ _ (by decide)).trans e3)
      by_cases s3 : s = 3
      · have efi : rn_first D s v = !sv_false D v := by rw [rn_first, if_pos s3]
        rw [efi] at at116
        refine jw_aload_n rfl rfl ?_
        refine jw_gi rfl g_M_128 hm1.1 (r1) ?_
        refine jw_if_eq 44 rfl rfl (fun _ => ?_) (fun z => absurd (rfl) z)
        refine jw_iload_n rfl rfl ?_
        refine js_iconst (x := 3) rfl rfl ?_
        refine jw_icmp_ne 65 rfl rfl (fun z => absurd (by rw [s3]; rfl) z) (fun _ => ?_)
        refine jw_aload_n rfl rfl ?_
        refine js_iconst (x := 2) rfl rfl ?_
        refine js_call (As := [.inl (nI 2)]) rfl l_M_isFalse c_M_342 i_M_isFalse s_M_isFalse jc_o8 rfl hm1.1 rfl (cm_isFalse hg hm1 hD1.2.1 hdp (by decide) v1 (fun h2 f2 => ?_)) (by decide) (Nat.le_of_ble_eq_true rfl) (by omega) (by omega) rfl
        have at116 := at116 h2 f2
        cases hsf : sv_false D v with
        | true =>
          rw [hsf] at at116
          refine jw_if_ne 61 rfl rfl (fun _ => ?_) (fun z => absurd z (by decide))
          refine js_iconst (x := 0) rfl rfl ?_
          refine jw_goto 116 rfl rfl ?_
          exact at116
        | false =>
          rw [hsf] at at116
          refine jw_if_ne 61 rfl rfl (fun z => absurd (rfl) z) (fun _ => ?_)
          refine js_iconst (x := 1) rfl rfl ?_
          refine jw_goto 116 rfl rfl ?_
          exact at116
      have at116 := at116 h1 mo_fx.rf
      by_cases s5 : s = 5
      · have efi : rn_first D s v = v.isSome := by rw [rn_first, if_neg s3, if_pos s5]
        rw [efi] at at116
        refine jw_aload_n rfl rfl ?_
        refine jw_gi rfl g_M_128 hm1.1 (r1) ?_
        refine jw_if_eq 44 rfl rfl (fun _ => ?_) (fun z => absurd (rfl) z)
        refine jw_iload_n rfl rfl ?_
        refine js_iconst (x := 3) rfl rfl ?_
        refine jw_icmp_ne 65 rfl rfl (fun _ => ?_) (fun z => absurd z (fun z => s3 ((nI_eq (b := 3) (by omega) (by omega)).mp z)))
        refine jw_iload_n rfl rfl ?_
        refine js_iconst (x := 5) rfl rfl ?_
        refine jw_icmp_ne 87 rfl rfl (fun z => absurd (by rw [s5]; rfl) z) (fun _ => ?_)
        refine jw_aload_n rfl rfl ?_
        refine jw_gr rfl g_M_92 hm1.1 (mo_r hm1 19 rfl) ?_
        refine js_iconst (x := 2) rfl rfl ?_
        refine js_iald (2) rfl (mo_a hm1 19 rfl) (by decide) (by rfl) rfl (by omega) (by decide) ?_
        rcases v with _ | v | L | x
        · rw [show jh_I h1 (ar 538) 2 = -1 from v1]
          refine jw_if_lt 83 rfl rfl (fun _ => ?_) (fun z => absurd (by decide) z)
          refine js_iconst (x := 0) rfl rfl ?_
          refine jw_goto 116 rfl rfl ?_
          exact at116
        · rw [v1.1]
          refine jw_if_lt 83 rfl rfl (fun z => absurd z (by decide)) (fun _ => ?_)
          refine js_iconst (x := 1) rfl rfl ?_
          refine jw_goto 116 rfl rfl ?_
          exact at116
        · rw [v1.1]
          refine jw_if_lt 83 rfl rfl (fun z => absurd z (by decide)) (fun _ => ?_)
          refine js_iconst (x := 1) rfl rfl ?_
          refine jw_goto 116 rfl rfl ?_
          exact at116
        · rw [v1.1]
          refine jw_if_lt 83 rfl rfl (fun z => absurd z (nI_pos (by have := hk3 x v1.2.2.1; omega))) (fun _ => ?_)
          refine js_iconst (x := 1) rfl rfl ?_
          refine jw_goto 116 rfl rfl ?_
          exact at116
      · have efi : rn_first D s v = decide (0 < rn_many D v) := by rw [rn_first, if_neg s3, if_neg s5]
        rw [efi] at at116
        refine jw_aload_n rfl rfl ?_
        refine jw_gi rfl g_M_128 hm1.1 (r1) ?_
        refine jw_if_eq 44 rfl rfl (fun _ => ?_) (fun z => absurd (rfl) z)
        refine jw_iload_n rfl rfl ?_
        refine js_iconst (x := 3) rfl rfl ?_
        refine jw_icmp_ne 65 rfl rfl (fun _ => ?_) (fun z => absurd z (fun z => s3 ((nI_eq (b := 3) (by omega) (by omega)).mp z)))
        refine jw_iload_n rfl rfl ?_
        refine js_iconst (x := 5) rfl rfl ?_
        refine jw_icmp_ne 87 rfl rfl (fun _ => ?_) (fun z => absurd z (fun z => s5 ((nI_eq (b := 5) (by omega) (by omega)).mp z)))
        refine jw_aload_n rfl rfl ?_
        refine jw_gr rfl g_M_92 hm1.1 (mo_r hm1 19 rfl) ?_
        refine js_iconst (x := 2) rfl rfl ?_
        refine js_iald (2) rfl (mo_a hm1 19 rfl) (by decide) (by rfl) rfl (by omega) (by decide) ?_
        refine js_iconst (x := 1) rfl rfl ?_
        rcases v with _ | v | L | x
        · rw [show jh_I h1 (ar 538) 2 = -1 from v1]
          refine jw_icmp_le 115 rfl rfl (fun _ => ?_) (fun z => absurd (by decide) z)
          refine js_iconst (x := 0) rfl rfl ?_
          exact at116
        · rw [v1.1]
          refine jw_icmp_le 115 rfl rfl (fun _ => ?_) (fun z => absurd (by decide) z)
          refine js_iconst (x := 0) rfl rfl ?_
          exact at116
        · rw [v1.1]
          refine jw_icmp_le 115 rfl rfl (fun _ => ?_) (fun z => absurd (by decide) z)
          refine js_iconst (x := 0) rfl rfl ?_
          exact at116
        · obtain ⟨x1, x2, x3, x4⟩ := v1
          have := hk3 x x3
          obtain ⟨d1, d2, d3, d4, d5, d6, d7⟩ := hD1.2.1.2 x x3
          have d4 := d3.trans (d4 (by omega))
          have d6 := (d6 x4).1
          have n60 := hD1.2.1.1
          rw [x1]
          refine jw_icmp_le 115 rfl rfl (fun z => absurd z (fun z => absurd ((nI_leI (b := 1) (by omega) (by omega)).mp z) (by omega))) (fun _ => ?_)
          refine jw_aload_n rfl rfl ?_
          refine jw_gr rfl g_M_39 hm1.1 (mo_r hm1 2 rfl) ?_
          refine jw_aload_n rfl rfl ?_
          refine jw_gr rfl g_M_95 hm1.1 (mo_r hm1 20 rfl) ?_
          refine js_iconst (x := 2) rfl rfl ?_
          refine js_ialdV (2) rfl (mo_a hm1 20 rfl) (by decide) (by rfl) rfl (by omega) (by decide) (x2) ?_
          refine js_ialdV (x) rfl (mo_a hm1 2 rfl) (by decide) (by rfl) rfl (by omega) (by decide) (d4) ?_
          by_cases c0 : 0 < sd_c D x
          · rw [show decide (0 < rn_many D (some (.inr (.inr x)))) = true from decide_eq_true c0] at at116
            refine jw_if_le 115 rfl rfl (fun z => absurd z (nI_nle c0 (by omega))) (fun _ => ?_)
            refine js_iconst (x := 1) rfl rfl ?_
            refine jw_goto 116 rfl rfl ?_
            exact at116
          · rw [show decide (0 < rn_many D (some (.inr (.inr x)))) = false from decide_eq_false c0] at at116
            refine jw_if_le 115 rfl rfl (fun _ => ?_) (fun z => absurd (by rw [show sd_c D x = 0 by omega]; decide) z)
            refine js_iconst (x := 0) rfl rfl ?_
            exact at116
  have at25 : jw_J g 7 m_M_block jw_T0 25 [some (.inr (.inr (some mo))), some (.inl (nI (k * 50 + i))), some (.inl (nI s)), none] [.inl (nI (rn_xo s)), .inl (nI (tg_f (X.2.2.1 i) + k * 200)), .inr (.inr (some mo))] h 0 0 Q := by
    refine jw_iaddV rfl ((nI_add _ _).trans (congrArg nI (Nat.add_right_comm _ _ _))) ?_
    refine jw_aload_n rfl rfl ?_
    refine jw_gr rfl g_M_77 hm.1 (mo_r hm 14 rfl) ?_
    refine jw_iload_n rfl rfl ?_
    refine js_ialdV (k * 50 + i) rfl (mo_a hm 14 rfl) (by decide) (by rfl) rfl (by omega) (by decide) (g3) ?_
    refine js_call (As := [.inl (nI (tg_f (X.2.2.1 i) + rn_xo s + k * 200)), .inl (nI (tg_q (X.2.2.1 i) + k * 200))]) rfl l_M_expr c_M_364 i_M_expr s_M_expr jc_o8 rfl hm.1 rfl (cm_expr hg hm hDd hdp htx hcx hu hf0 (by omega) (by omega) (by omega) hixt (fun h1 f1 r1 => ?_)) (by decide) (Nat.le_of_ble_eq_true rfl) (by omega) (by omega) rfl
    rw [hex] at r1
    exact at35 h1 f1 r1
  refine jw_aload_n rfl rfl ?_
  refine jw_gr rfl g_M_80 hm.1 (mo_r hm 15 rfl) ?_
  refine jw_iload_n rfl rfl ?_
  refine js_ialdV (k * 50 + i) rfl (mo_a hm 15 rfl) (by decide) (by rfl) rfl (by omega) (by decide) (g5) ?_
  refine js_istore_n rfl rfl (by decide) rfl ?_
  refine jw_aload_n rfl rfl ?_
  refine jw_aload_n rfl rfl ?_
  refine jw_gr rfl g_M_74 hm.1 (mo_r hm 13 rfl) ?_
  refine jw_iload_n rfl rfl ?_
  refine js_ialdV (k * 50 + i) rfl (mo_a hm 13 rfl) (by decide) (by rfl) rfl (by omega) (by decide) (g2) ?_
  refine jw_iload_n rfl rfl ?_
  refine js_iconst (x := 3) rfl rfl ?_
  by_cases s3 : s = 3
  · rw [hxo, if_pos s3] at at25
    refine jw_icmp_ne 23 rfl rfl (fun z => absurd (by rw [s3]; rfl) z) (fun _ => ?_)
    refine js_iconst (x := 4) rfl rfl ?_
    refine jw_goto 25 rfl rfl ?_
    exact at25
  · rw [hxo, if_neg s3] at at25
    refine jw_icmp_ne 23 rfl rfl (fun _ => ?_) (fun z => absurd z (fun z => s3 ((nI_eq (b := 3) (by omega) (by omega)).mp z)))
    refine js_bipush (x := 6) rfl rfl ?_
    exact at25

