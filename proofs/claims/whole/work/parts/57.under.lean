/-! the model: what is under way -/
def pu_F (m k j : Nat) : Prop := (k = 552 ∨ k = 553 ∨ k = 554 ∨ k = 555 ∨ k = 558 ∨ k = 559) ∧ j = m
def pu_G (k : Nat) : Prop := k = 549
theorem pu_go {m k j : Nat} (h : pu_F m k j) : go_F k j := Or.inr (by have := h.1; omega)
theorem sp_b01 (b : Bool) : sp_b b = 0 ∨ sp_b b = 1 := by cases b; exact Or.inl rfl; exact Or.inr rfl
theorem un_at.fx {h h' h0 : jh_H} {mo : Nat} {ar : Nat → Nat} {m u : Nat} {f : fr_T} {G : Nat → Prop} (hm : mo_ok h0 mo ar) (hf : mo_fx h h' mo ar (pu_F m) G) (hu : u ≠ m) (hx : un_at h ar u f) : un_at h' ar u f := by
  obtain ⟨u1, u2, u3, u4, u5, u6, u7, u8, u8b, u9⟩ := hx
  have rd : ∀ (i : Nat) {K t nn : Nat}, mo_T[i]? = some (K, t, nn) → jh_I h' (ar K) u = jh_I h (ar K) u := fun i K t nn hi => mo_fx.rd hm hf i hi (fun k z => absurd z.2 hu)
  exact ⟨(rd 26 rfl).trans u1, (rd 27 rfl).trans u2, u3, (mo_fx.rd hm hf 15 rfl (fun k z => ⟨by have := z.1; omega, go_F_in (pu_go z)⟩)).trans u4, u5, (rd 33 rfl).trans u6, (rd 32 rfl).trans u7, (rd 28 rfl).trans u8, u8b, (rd 29 rfl).trans u9⟩
def pu_h (h : jh_H) (mo : Nat) (ar : Nat → Nat) (m tt gg : Nat) (pa ot : Bool) : jh_H := jh_si (jh_sI (jh_sI (jh_sI (jh_sI (jh_sI (jh_sI h (ar 552) m (nI tt)) (ar 553) m (nI gg)) (ar 559) m (sp_b pa)) (ar 558) m (sp_b ot)) (ar 554) m 0) (ar 555) m (-1)) mo 549 (nI (m + 1))
theorem pu_fx {h : jh_H} {mo : Nat} {ar : Nat → Nat} {m tt gg : Nat} {pa ot : Bool} : mo_fx h (pu_h h mo ar m tt gg pa ot) mo ar (pu_F m) pu_G := by
  have F : ∀ k, (k = 552 ∨ k = 553 ∨ k = 554 ∨ k = 555 ∨ k = 558 ∨ k = 559) → pu_F m k m := fun k hk => ⟨hk, rfl⟩
  exact mo_fx.si (mo_fx.sI (mo_fx.sI (mo_fx.sI (mo_fx.sI (mo_fx.sI (mo_fx.sI mo_fx.rf (F 552 (by decide))) (F 553 (by decide))) (F 559 (by decide))) (F 558 (by decide))) (F 554 (by decide))) (F 555 (by decide))) (show pu_G 549 from rfl)
theorem pu_I {h h0 : jh_H} {mo : Nat} {ar : Nat → Nat} {m tt gg : Nat} {pa ot : Bool} (hm : mo_ok h0 mo ar) : jh_I (pu_h h mo ar m tt gg pa ot) (ar 552) m = nI tt ∧ jh_I (pu_h h mo ar m tt gg pa ot) (ar 553) m = nI gg ∧ jh_I (pu_h h mo ar m tt gg pa ot) (ar 559) m = sp_b pa ∧ jh_I (pu_h h mo ar m tt gg pa ot) (ar 558) m = sp_b ot ∧ jh_I (pu_h h mo ar m tt gg pa ot) (ar 554) m = 0 ∧ jh_I (pu_h h mo ar m tt gg pa ot) (ar 555) m = -1 := by
  have e : jh_I (pu_h h mo ar m tt gg pa ot) = jh_u (jh_u (jh_u (jh_u (jh_u (jh_u (jh_I h) (ar 552) m (nI tt)) (ar 553) m (nI gg)) (ar 559) m (sp_b pa)) (ar 558) m (sp_b ot)) (ar 554) m 0) (ar 555) m (-1) := rfl
  rw [e]
  refine ⟨?_, ?_, ?_, ?_, ?_, ?_⟩
  · rw [jh_u_a _ _ _ _ (mo_ne hm 26 29 rfl rfl (by decide)), jh_u_a _ _ _ _ (mo_ne hm 26 28 rfl rfl (by decide)), jh_u_a _ _ _ _ (mo_ne hm 26 32 rfl rfl (by decide)), jh_u_a _ _ _ _ (mo_ne hm 26 33 rfl rfl (by decide)), jh_u_a _ _ _ _ (mo_ne hm 26 27 rfl rfl (by decide)), jh_u_s]
  · rw [jh_u_a _ _ _ _ (mo_ne hm 27 29 rfl rfl (by decide)), jh_u_a _ _ _ _ (mo_ne hm 27 28 rfl rfl (by decide)), jh_u_a _ _ _ _ (mo_ne hm 27 32 rfl rfl (by decide)), jh_u_a _ _ _ _ (mo_ne hm 27 33 rfl rfl (by decide)), jh_u_s]
  · rw [jh_u_a _ _ _ _ (mo_ne hm 33 29 rfl rfl (by decide)), jh_u_a _ _ _ _ (mo_ne hm 33 28 rfl rfl (by decide)), jh_u_a _ _ _ _ (mo_ne hm 33 32 rfl rfl (by decide)), jh_u_s]
  · rw [jh_u_a _ _ _ _ (mo_ne hm 32 29 rfl rfl (by decide)), jh_u_a _ _ _ _ (mo_ne hm 32 28 rfl rfl (by decide)), jh_u_s]
  · rw [jh_u_a _ _ _ _ (mo_ne hm 28 29 rfl rfl (by decide)), jh_u_s]
  · rw [jh_u_s]
theorem pu_un {h : jh_H} {mo : Nat} {ar : Nat → Nat} {m tt gg s : Nat} {pa ot : Bool} {Fr : Nat → fr_T} (hm : mo_ok h mo ar) (hu : un_ok h mo ar m Fr) (hgg : gg < 250) (hs : jh_I h (ar 534) gg = nI s) (hs10 : s ≤ 10) (u : Nat) (hlt : u < m + 1) : un_at (pu_h h mo ar m tt gg pa ot) ar u (va_up Fr m (tt, gg, s, pa, ot, 0, -1) u) := by
  by_cases e : u = m
  · subst e
    rw [va_up_self]
    obtain ⟨i1, i2, i3, i4, i5, i6⟩ := pu_I (h := h) (m := u) (tt := tt) (gg := gg) (pa := pa) (ot := ot) hm
    exact ⟨i1, i2, hgg, (mo_fx.rd hm (pu_fx (h := h) (mo := mo) (m := u)) 15 rfl (fun k z => ⟨by have := z.1; omega, go_F_in (pu_go z)⟩)).trans hs, hs10, i3, i4, i5.trans nI_0.symm, Nat.zero_le _, i6⟩
  · rw [va_up_ne _ _ e]
    exact un_at.fx hm pu_fx e (hu.2.2 u (by omega))
set_option maxHeartbeats 4000000 in
set_option maxRecDepth 100000 in
theorem cm_push {g : jg_G} (hg : (jg_l g).stackTraces = false) {h : jh_H} {mo : Nat} {ar : Nat → Nat} {m tt gg s : Nat} {pa ot : Bool} {Fr : Nat → fr_T} {Q : jw_O → jh_H → Prop} (hm : mo_ok h mo ar) (hu : un_ok h mo ar m Fr) (hm20 : m < 20) (hgg : gg < 250) (hs : jh_I h (ar 534) gg = nI s) (hs10 : s ≤ 10)
    (hq : ∀ h', mo_fx h h' mo ar (pu_F m) pu_G → un_ok h' mo ar (m + 1) (va_up Fr m (tt, gg, s, pa, ot, 0, -1)) → Q (.inl none) h') : jw_C g 0 0 0 m_M_push [.inr (.inr (some mo)), .inl (nI tt), .inl (nI gg), .inl (sp_b pa), .inl (sp_b ot)] h Q := by
  refine jw_intro (ls := [some (.inr (.inr (some mo))), some (.inl (nI tt)), some (.inl (nI gg)), some (.inl (sp_b pa)), some (.inl (sp_b ot))]) (by decide) k_M_push rfl (by simp [lo_fit, jv_c]) hg ?_
  refine jw_aload_n rfl rfl ?_
  refine jw_gr rfl g_M_134 hm.1 (mo_r hm 26 rfl) ?_
  refine jw_aload_n rfl rfl ?_
  refine jw_gi rfl g_M_125 hm.1 (hu.1) ?_
  refine jw_iload_n rfl rfl ?_
  refine js_iast (m) rfl (mo_a hm 26 rfl) (by decide) (by rfl) rfl (by omega) (by decide) ?_
  refine jw_aload_n rfl rfl ?_
  refine jw_gr rfl g_M_137 (mo_sI hm).1 (mo_r (mo_sI hm) 27 rfl) ?_
  refine jw_aload_n rfl rfl ?_
  refine jw_gi rfl g_M_125 (mo_sI hm).1 (hu.1) ?_
  refine jw_iload_n rfl rfl ?_
  refine js_iast (m) rfl (mo_a (mo_sI hm) 27 rfl) (by decide) (by rfl) rfl (by omega) (by decide) ?_
  refine jw_aload_n rfl rfl ?_
  refine jw_gr rfl g_M_155 (mo_sI (mo_sI hm)).1 (mo_r (mo_sI (mo_sI hm)) 33 rfl) ?_
  refine jw_aload_n rfl rfl ?_
  refine jw_gi rfl g_M_125 (mo_sI (mo_sI hm)).1 (hu.1) ?_
  refine jw_iload_n rfl rfl ?_
  refine js_zast (m) rfl (mo_a (mo_sI (mo_sI hm)) 33 rfl) (by decide) (by rfl) rfl (by omega) (by decide) (sp_b01 pa) ?_
  refine jw_aload_n rfl rfl ?_
  refine jw_gr rfl g_M_152 (mo_sI (mo_sI (mo_sI hm))).1 (mo_r (mo_sI (mo_sI (mo_sI hm))) 32 rfl) ?_
  refine jw_aload_n rfl rfl ?_
  refine jw_gi rfl g_M_125 (mo_sI (mo_sI (mo_sI hm))).1 (hu.1) ?_
  refine jw_iload rfl rfl ?_
  refine js_zast (m) rfl (mo_a (mo_sI (mo_sI (mo_sI hm))) 32 rfl) (by decide) (by rfl) rfl (by omega) (by decide) (sp_b01 ot) ?_
  refine jw_aload_n rfl rfl ?_
  refine jw_gr rfl g_M_140 (mo_sI (mo_sI (mo_sI (mo_sI hm)))).1 (mo_r (mo_sI (mo_sI (mo_sI (mo_sI hm)))) 28 rfl) ?_
  refine jw_aload_n rfl rfl ?_
  refine jw_gi rfl g_M_125 (mo_sI (mo_sI (mo_sI (mo_sI hm)))).1 (hu.1) ?_
  refine js_iconst (x := 0) rfl rfl ?_
  refine js_iast (m) rfl (mo_a (mo_sI (mo_sI (mo_sI (mo_sI hm)))) 28 rfl) (by decide) (by rfl) rfl (by omega) (by decide) ?_
  refine jw_aload_n rfl rfl ?_
  refine jw_gr rfl g_M_143 (mo_sI (mo_sI (mo_sI (mo_sI (mo_sI hm))))).1 (mo_r (mo_sI (mo_sI (mo_sI (mo_sI (mo_sI hm))))) 29 rfl) ?_
  refine jw_aload_n rfl rfl ?_
  refine jw_gi rfl g_M_125 (mo_sI (mo_sI (mo_sI (mo_sI (mo_sI hm))))).1 (hu.1) ?_
  refine js_iconst (x := (-1)) rfl rfl ?_
  refine js_iast (m) rfl (mo_a (mo_sI (mo_sI (mo_sI (mo_sI (mo_sI hm))))) 29 rfl) (by decide) (by rfl) rfl (by omega) (by decide) ?_
  refine jw_aload_n rfl rfl ?_
  refine jw_dup rfl rfl ?_
  refine jw_gi rfl g_M_125 (mo_sI (mo_sI (mo_sI (mo_sI (mo_sI (mo_sI hm)))))).1 (hu.1) ?_
  refine js_iconst (x := 1) rfl rfl ?_
  refine jw_iaddV rfl (nI_1 m) ?_
  refine jw_pi rfl p_M_push_125 (mo_sI (mo_sI (mo_sI (mo_sI (mo_sI (mo_sI hm)))))).1 ?_
  refine jw_return rfl rfl ?_
  exact hq (pu_h h mo ar m tt gg pa ot) pu_fx ⟨jh_u_s _ _ _ _, hm20, pu_un hm hu hgg hs hs10⟩
set_option maxHeartbeats 4000000 in
set_option maxRecDepth 100000 in
theorem cm_nextTurn {g : jg_G} (hg : (jg_l g).stackTraces = false) {h : jh_H} {mo : Nat} {ar : Nat → Nat} {n u l tu cn : Nat} {D : sd_D} {Q : jw_O → jh_H → Prop} (hm : mo_ok h mo ar) (hD : mo_D h ar n D) (hu20 : u < 20) (hov : jh_I h (ar 555) u = nI l) (hl : l < n) (hk : 2 ≤ sd_k D l) (htu : jh_I h (ar 554) u = nI tu) (htl : tu ≤ 20) (hcx : jh_i h mo 548 = nI cn) (hcn : cn ≤ 14)
    (q1 : sd_c D l ≤ tu → Q (.inl (some (.inl 0))) h) (q2 : tu < sd_c D l → ∀ h', mo_fx h h' mo ar (rg_F (2 + cn)) no_G → mo_R h' ar n D (2 + cn) (sv_of D (sd_p D l tu)) → Q (.inl (some (.inl 1))) h') : jw_C g 2 0 0 m_M_nextTurn [.inr (.inr (some mo)), .inl (nI u)] h Q := by
  refine jw_intro (ls := [some (.inr (.inr (some mo))), some (.inl (nI u)), none]) (by decide) k_M_nextTurn rfl (by simp [lo_fit, jv_c]) hg ?_
  have hn60 := hD.1
  obtain ⟨d1, d2, d3, d4, d5, d6, d7⟩ := hD.2 l hl
  have d6 := d6 hk
  have dv := d3.trans (d4 (by omega))
  refine jw_aload_n rfl rfl ?_
  refine jw_gr rfl g_M_143 hm.1 (mo_r hm 29 rfl) ?_
  refine jw_iload_n rfl rfl ?_
  refine js_ialdV (u) rfl (mo_a hm 29 rfl) (by decide) (by rfl) rfl (by omega) (by decide) (hov) ?_
  refine js_istore_n rfl rfl (by decide) rfl ?_
  refine jw_aload_n rfl rfl ?_
  refine jw_gr rfl g_M_140 hm.1 (mo_r hm 28 rfl) ?_
  refine jw_iload_n rfl rfl ?_
  refine js_ialdV (u) rfl (mo_a hm 28 rfl) (by decide) (by rfl) rfl (by omega) (by decide) (htu) ?_
  refine jw_aload_n rfl rfl ?_
  refine jw_gr rfl g_M_39 hm.1 (mo_r hm 2 rfl) ?_
  refine jw_iload_n rfl rfl ?_
  refine js_ialdV (l) rfl (mo_a hm 2 rfl) (by decide) (by rfl) rfl (by omega) (by decide) (dv) ?_
  refine jw_icmp_lt 24 rfl rfl (fun z => ?_) (fun z => ?_)
  · have hlt : tu < sd_c D l := (nI_ltI (by omega) (by omega)).mp z
    have dp := d6.2 tu hlt
    refine jw_aload_n rfl rfl ?_
    refine js_iconst (x := 2) rfl rfl ?_
    refine jw_aload_n rfl rfl ?_
    refine jw_gi rfl g_M_122 hm.1 (hcx) ?_
    refine jw_iaddV rfl (nI_add 2 cn) ?_
    refine jw_aload_n rfl rfl ?_
    refine jw_gr rfl g_M_45 hm.1 (mo_r hm 4 rfl) ?_
    refine jw_iload_n rfl rfl ?_
    refine js_bipush (x := 10) rfl rfl ?_
    refine jw_imulV rfl (pk_mul l 10) ?_
    refine jw_aload_n rfl rfl ?_
    refine jw_gr rfl g_M_140 hm.1 (mo_r hm 28 rfl) ?_
    refine jw_iload_n rfl rfl ?_
    refine js_ialdV (u) rfl (mo_a hm 28 rfl) (by decide) (by rfl) rfl (by omega) (by decide) (htu) ?_
    refine jw_iaddV rfl (nI_add (l * 10) tu) ?_
    refine js_ialdV (l * 10 + tu) rfl (mo_a hm 4 rfl) (by decide) (by rfl) rfl (by omega) (by decide) (dp.1) ?_
    refine js_call (As := [.inl (nI (2 + cn)), .inl (nI (sd_p D l tu))]) rfl l_M_load c_M_313 i_M_load s_M_load jc_o8 rfl hm.1 rfl (cm_load hg hm hD (by omega) dp.2 (fun h' f' v' => ?_)) (by decide) (Nat.le_of_ble_eq_true rfl) (by omega) (by omega) rfl
    refine js_iconst (x := 1) rfl rfl ?_
    refine jw_ireturn rfl rfl rfl ?_
    exact q2 hlt h' f' v'
  · refine js_iconst (x := 0) rfl rfl ?_
    refine jw_ireturn rfl rfl rfl ?_
    exact q1 (Nat.le_of_not_lt (fun q => z (nI_lt q (by omega))))
def fr_here (Fr : Nat → fr_T) (k0 : Nat) : Nat → Nat
  | 0 => k0
  | u + 1 => if (Fr u).2.2.2.1 then (Fr u).1 else fr_here Fr k0 u
def fr_uw (Fr : Nat → fr_T) : Nat → Nat
  | 0 => 1
  | u + 1 => if (Fr u).2.2.2.1 then fr_uw Fr u + 1 else fr_uw Fr u
theorem fr_uw_le (Fr : Nat → fr_T) : ∀ m, fr_uw Fr m ≤ m + 1 := by
  intro m
  induction m with
  | zero => exact Nat.le_refl _
  | succ m ih => rw [fr_uw]; split <;> omega
set_option maxHeartbeats 4000000 in
set_option maxRecDepth 100000 in
theorem cm_here {g : jg_G} (hg : (jg_l g).stackTraces = false) {h : jh_H} {mo : Nat} {ar : Nat → Nat} {m k0 : Nat} {Fr : Nat → fr_T} {Q : jw_O → jh_H → Prop} (hm : mo_ok h mo ar) (hu : un_ok h mo ar m Fr) (hq : Q (.inl (some (.inl (nI (fr_here Fr k0 m))))) h) : jw_C g 0 0 0 m_M_here [.inr (.inr (some mo)), .inl (nI k0)] h Q := by
  refine jw_intro (ls := [some (.inr (.inr (some mo))), some (.inl (nI k0)), none]) (by decide) k_M_here rfl (by simp [lo_fit, jv_c]) hg ?_
  have hm20 := hu.2.1
  have loop : ∀ u, u ≤ m → Q (.inl (some (.inl (nI (fr_here Fr k0 u))))) h → jw_J g 0 m_M_here jw_T0 7 [some (.inr (.inr (some mo))), some (.inl (nI k0)), some (.inl (nI u - 1))] [] h 0 0 Q := by
    intro u
    induction u with
    | zero =>
      intro _ hq
      refine jw_iload_n rfl rfl ?_
      refine jw_if_lt 33 rfl rfl (fun _ => ?_) (fun z => absurd (by decide) z)
      refine jw_iload_n rfl rfl ?_
      refine jw_ireturn rfl rfl rfl ?_
      exact hq
    | succ u ih =>
      intro hle hq
      obtain ⟨u1, u2, u3, u4, u5, u6, u7, u8, u8b, u9⟩ := hu.2.2 u (by omega)
      rw [show nI (u + 1) - 1 = nI u from nI_pred u]
      rw [fr_here] at hq
      refine jw_iload_n rfl rfl ?_
      refine jw_if_lt 33 rfl rfl (fun z => absurd z (nI_pos (by omega))) (fun _ => ?_)
      refine jw_aload_n rfl rfl ?_
      refine jw_gr rfl g_M_155 hm.1 (mo_r hm 33 rfl) ?_
      refine jw_iload_n rfl rfl ?_
      refine js_zaldV (u) rfl (mo_a hm 33 rfl) (by decide) (by rfl) rfl (by omega) (by decide) (u6) ?_
      cases hp : (Fr u).2.2.2.1 with
      | true =>
        rw [hp, if_pos rfl] at hq
        refine jw_if_eq 27 rfl rfl (fun z => absurd z (by decide)) (fun _ => ?_)
        refine jw_aload_n rfl rfl ?_
        refine jw_gr rfl g_M_134 hm.1 (mo_r hm 26 rfl) ?_
        refine jw_iload_n rfl rfl ?_
        refine js_ialdV (u) rfl (mo_a hm 26 rfl) (by decide) (by rfl) rfl (by omega) (by decide) (u1) ?_
        refine jw_ireturn rfl rfl rfl ?_
        exact hq
      | false =>
        rw [hp, if_neg (by decide)] at hq
        refine jw_if_eq 27 rfl rfl (fun _ => ?_) (fun z => absurd (rfl) z)
        refine js_iinc rfl rfl (nI_m1 _) rfl (by decide) rfl ?_
        refine jw_goto 7 rfl rfl ?_
        exact ih (by omega) hq
  refine jw_aload_n rfl rfl ?_
  refine jw_gi rfl g_M_125 hm.1 (hu.1) ?_
  refine js_iconst (x := 1) rfl rfl ?_
  refine jw_isub rfl ?_
  refine js_istore_n rfl rfl (by decide) rfl ?_
  exact loop m (Nat.le_refl _) hq
set_option maxHeartbeats 4000000 in
set_option maxRecDepth 100000 in
theorem cm_underTemplates {g : jg_G} (hg : (jg_l g).stackTraces = false) {h : jh_H} {mo : Nat} {ar : Nat → Nat} {m : Nat} {Fr : Nat → fr_T} {Q : jw_O → jh_H → Prop} (hm : mo_ok h mo ar) (hu : un_ok h mo ar m Fr) (hq : Q (.inl (some (.inl (nI (fr_uw Fr m))))) h) : jw_C g 0 0 0 m_M_underTemplates [.inr (.inr (some mo))] h Q := by
  refine jw_intro (ls := [some (.inr (.inr (some mo))), none, none]) (by decide) k_M_underTemplates rfl (by simp [lo_fit, jv_c]) hg ?_
  have hm20 := hu.2.1
  have loop : ∀ k u, u + k = m → jw_J g 0 m_M_underTemplates jw_T0 4 [some (.inr (.inr (some mo))), some (.inl (nI (fr_uw Fr u))), some (.inl (nI u))] [] h 0 0 Q := by
    intro k
    induction k with
    | zero =>
      intro u hk
      have : u = m := by omega
      subst this
      refine jw_iload_n rfl rfl ?_
      refine jw_aload_n rfl rfl ?_
      refine jw_gi rfl g_M_125 hm.1 (hu.1) ?_
      refine jw_icmp_ge 30 rfl rfl (fun _ => ?_) (fun z => absurd (Int32.le_refl _) z)
      refine jw_iload_n rfl rfl ?_
      refine jw_ireturn rfl rfl rfl ?_
      exact hq
    | succ k ih =>
      intro u hk
      obtain ⟨u1, u2, u3, u4, u5, u6, u7, u8, u8b, u9⟩ := hu.2.2 u (by omega)
      have ih := ih (u + 1) (by omega)
      rw [fr_uw] at ih
      refine jw_iload_n rfl rfl ?_
      refine jw_aload_n rfl rfl ?_
      refine jw_gi rfl g_M_125 hm.1 (hu.1) ?_
      refine jw_icmp_ge 30 rfl rfl (fun z => absurd z (fun z => absurd ((nI_leI (by omega) (by omega)).mp z) (by omega))) (fun _ => ?_)
      refine jw_aload_n rfl rfl ?_
      refine jw_gr rfl g_M_155 hm.1 (mo_r hm 33 rfl) ?_
      refine jw_iload_n rfl rfl ?_
      refine js_zaldV (u) rfl (mo_a hm 33 rfl) (by decide) (by rfl) rfl (by omega) (by decide) (u6) ?_
      cases hp : (Fr u).2.2.2.1 with
      | true =>
        rw [hp, if_pos rfl] at ih
        refine jw_if_eq 24 rfl rfl (fun z => absurd z (by decide)) (fun _ => ?_)
        refine js_iinc rfl rfl (nI_1 _) rfl (by decide) rfl ?_
        refine js_iinc rfl rfl (nI_1 _) rfl (by decide) rfl ?_
        refine jw_goto 4 rfl rfl ?_
        exact ih
      | false =>
        rw [hp, if_neg (by decide)] at ih
        refine jw_if_eq 24 rfl rfl (fun _ => ?_) (fun z => absurd (rfl) z)
        refine js_iinc rfl rfl (nI_1 _) rfl (by decide) rfl ?_
        refine jw_goto 4 rfl rfl ?_
        exact ih
  refine js_iconst (x := 1) rfl rfl ?_
  refine js_istore_n rfl rfl (by decide) rfl ?_
  refine js_iconst (x := 0) rfl rfl ?_
  refine js_istore_n rfl rfl (by decide) rfl ?_
  exact loop m 0 (by omega)
-- the first tag of the template k that begins at p or behind it
set_option maxHeartbeats 4000000 in
set_option maxRecDepth 100000 in
theorem cm_tagFrom {g : jg_G} (hg : (jg_l g).stackTraces = false) {h : jh_H} {mo : Nat} {ar : Nat → Nat} {k n i p : Nat} {B : Nat → Nat} {Q : jw_O → jh_H → Prop} (hm : mo_ok h mo ar) (hk : k < 4) (hn : n ≤ 50) (hi : i ≤ n) (hp : p < 2000) (htg : jh_I h (ar 528) k = nI n) (hB : ∀ j, j < n → jh_I h (ar 530) (k * 50 + j) = nI (B j) ∧ B j < 2000) (hlt : ∀ j, j < i → B j < p) (hge : i < n → p ≤ B i)
    (hq : Q (.inl (some (.inl (if i < n then nI (k * 50 + i) else -1)))) h) : jw_C g 0 0 0 m_M_tagFrom [.inr (.inr (some mo)), .inl (nI k), .inl (nI p)] h Q := by
  refine jw_intro (ls := [some (.inr (.inr (some mo))), some (.inl (nI k)), some (.inl (nI p)), none]) (by decide) k_M_tagFrom rfl (by simp [lo_fit, jv_c]) hg ?_
  have loop : ∀ r j, j + r = i → jw_J g 0 m_M_tagFrom jw_T0 5 [some (.inr (.inr (some mo))), some (.inl (nI k)), some (.inl (nI p)), some (.inl (nI (k * 50 + j)))] [] h 0 0 Q := by
    intro r
    induction r with
    | zero =>
      intro j hj
      have : j = i := by omega
      subst this
      by_cases hin : j < n
      · rw [if_pos hin] at hq
        have b := hB j hin
        have := hge hin
        refine jw_iload_n rfl rfl ?_
        refine jw_iload_n rfl rfl ?_
        refine js_bipush (x := 50) rfl rfl ?_
        refine jw_imulV rfl (pk_mul k 50) ?_
        refine jw_aload_n rfl rfl ?_
        refine jw_gr rfl g_M_62 hm.1 (mo_r hm 9 rfl) ?_
        refine jw_iload_n rfl rfl ?_
        refine js_ialdV (k) rfl (mo_a hm 9 rfl) (by decide) (by rfl) rfl (by omega) (by decide) (htg) ?_
        refine jw_iaddV rfl (nI_add _ _) ?_
        refine jw_icmp_ge 38 rfl rfl (fun z => absurd z (fun z => absurd ((nI_leI (by omega) (by omega)).mp z) (by omega))) (fun _ => ?_)
        refine jw_aload_n rfl rfl ?_
        refine jw_gr rfl g_M_68 hm.1 (mo_r hm 11 rfl) ?_
        refine jw_iload_n rfl rfl ?_
        refine js_ialdV (k * 50 + j) rfl (mo_a hm 11 rfl) (by decide) (by rfl) rfl (by omega) (by decide) (b.1) ?_
        refine jw_iload_n rfl rfl ?_
        refine jw_icmp_lt 32 rfl rfl (fun z => absurd z (nI_nlt this (by omega))) (fun _ => ?_)
        refine jw_iload_n rfl rfl ?_
        refine jw_ireturn rfl rfl rfl ?_
        exact hq
      · rw [if_neg hin] at hq
        refine jw_iload_n rfl rfl ?_
        refine jw_iload_n rfl rfl ?_
        refine js_bipush (x := 50) rfl rfl ?_
        refine jw_imulV rfl (pk_mul k 50) ?_
        refine jw_aload_n rfl rfl ?_
        refine jw_gr rfl g_M_62 hm.1 (mo_r hm 9 rfl) ?_
        refine jw_iload_n rfl rfl ?_
        refine js_ialdV (k) rfl (mo_a hm 9 rfl) (by decide) (by rfl) rfl (by omega) (by decide) (htg) ?_
        refine jw_iaddV rfl (nI_add _ _) ?_
        refine jw_icmp_ge 38 rfl rfl (fun _ => ?_) (fun z => absurd (nI_le (by omega) (by omega)) z)
        refine js_iconst (x := (-1)) rfl rfl ?_
        refine jw_ireturn rfl rfl rfl ?_
        exact hq
    | succ r ih =>
      intro j hj
      have b := hB j (by omega)
      have := hlt j (by omega)
      refine jw_iload_n rfl rfl ?_
      refine jw_iload_n rfl rfl ?_
      refine js_bipush (x := 50) rfl rfl ?_
      refine jw_imulV rfl (pk_mul k 50) ?_
      refine jw_aload_n rfl rfl ?_
      refine jw_gr rfl g_M_62 hm.1 (mo_r hm 9 rfl) ?_
      refine jw_iload_n rfl rfl ?_
      refine js_ialdV (k) rfl (mo_a hm 9 rfl) (by decide) (by rfl) rfl (by omega) (by decide) (htg) ?_
      refine jw_iaddV rfl (nI_add _ _) ?_
      refine jw_icmp_ge 38 rfl rfl (fun z => absurd z (fun z => absurd ((nI_leI (by omega) (by omega)).mp z) (by omega))) (fun _ => ?_)
      refine jw_aload_n rfl rfl ?_
      refine jw_gr rfl g_M_68 hm.1 (mo_r hm 11 rfl) ?_
      refine jw_iload_n rfl rfl ?_
      refine js_ialdV (k * 50 + j) rfl (mo_a hm 11 rfl) (by decide) (by rfl) rfl (by omega) (by decide) (b.1) ?_
      refine jw_iload_n rfl rfl ?_
      refine jw_icmp_lt 32 rfl rfl (fun _ => ?_) (fun z => absurd (nI_lt this (by omega)) z)
      refine js_iinc rfl rfl (nI_1 _) rfl (by decide) rfl ?_
      refine jw_goto 5 rfl rfl ?_
      exact ih (j + 1) (by omega)
  refine jw_iload_n rfl rfl ?_
  refine js_bipush (x := 50) rfl rfl ?_
  refine jw_imulV rfl (pk_mul k 50) ?_
  refine js_istore_n rfl rfl (by decide) rfl ?_
  exact loop i 0 (by omega)

