/-! the model: what is under way, paths -/
abbrev fr_T : Type := Nat × Nat × Nat × Bool × Bool × Nat × Int32
def un_at (h : jh_H) (ar : Nat → Nat) (u : Nat) (f : fr_T) : Prop := jh_I h (ar 552) u = nI f.1 ∧ jh_I h (ar 553) u = nI f.2.1 ∧ f.2.1 < 250 ∧ jh_I h (ar 534) f.2.1 = nI f.2.2.1 ∧ f.2.2.1 ≤ 10 ∧ jh_I h (ar 559) u = sp_b f.2.2.2.1 ∧ jh_I h (ar 558) u = sp_b f.2.2.2.2.1 ∧ jh_I h (ar 554) u = nI f.2.2.2.2.2.1 ∧ f.2.2.2.2.2.1 ≤ 20 ∧ jh_I h (ar 555) u = f.2.2.2.2.2.2
def un_ok (h : jh_H) (mo : Nat) (ar : Nat → Nat) (m : Nat) (Fr : Nat → fr_T) : Prop := jh_i h mo 549 = nI m ∧ m ≤ 20 ∧ ∀ u, u < m → un_at h ar u (Fr u)
def fr_loop (Fr : Nat → fr_T) : Nat → Option Nat
  | 0 => none
  | u + 1 => if (Fr u).2.2.2.1 then none else if (Fr u).2.2.1 = 4 ∧ (Fr u).2.2.2.2.1 = false then some u else fr_loop Fr u
theorem fr_loop_lt {Fr : Nat → fr_T} : ∀ m u, fr_loop Fr m = some u → u < m := by
  intro m
  induction m with
  | zero => intro u h; cases h
  | succ m ih =>
    intro u h
    rw [fr_loop] at h
    split at h
    · cases h
    · split at h
      · cases h; omega
      · have := ih u h; omega
theorem nI_m1 (x : Int32) : x + Int32.ofInt (-1) = x - 1 := by rw [Int32.sub_eq_add_neg]; rfl
set_option maxHeartbeats 4000000 in
set_option maxRecDepth 100000 in
theorem cm_loop {g : jg_G} (hg : (jg_l g).stackTraces = false) {h : jh_H} {mo : Nat} {ar : Nat → Nat} {m : Nat} {Fr : Nat → fr_T} {Q : jw_O → jh_H → Prop} (hm : mo_ok h mo ar) (hu : un_ok h mo ar m Fr) (hq : Q (.inl (some (.inl (sp_o (fr_loop Fr m))))) h) : jw_C g 0 0 0 m_M_loop [.inr (.inr (some mo))] h Q := by
  refine jw_intro (ls := [some (.inr (.inr (some mo))), none]) (by decide) k_M_loop rfl (by simp [lo_fit, jv_c]) hg ?_
  have hm20 := hu.2.1
  have loop : ∀ u, u ≤ m → Q (.inl (some (.inl (sp_o (fr_loop Fr u))))) h → jw_J g 0 m_M_loop jw_T0 7 [some (.inr (.inr (some mo))), some (.inl (nI u - 1))] [] h 0 0 Q := by
    intro u
    induction u with
    | zero =>
      intro _ hq
      refine jw_iload_n rfl rfl ?_
      refine jw_if_lt 54 rfl rfl (fun _ => ?_) (fun z => absurd (by decide) z)
      refine js_iconst (x := (-1)) rfl rfl ?_
      refine jw_ireturn rfl rfl rfl ?_
      exact hq
    | succ u ih =>
      intro hle hq
      obtain ⟨u1, u2, u3, u4, u5, u6, u7, u8, u8b, u9⟩ := hu.2.2 u (by omega)
      rw [show nI (u + 1) - 1 = nI u from nI_pred u]
      rw [fr_loop] at hq
      refine jw_iload_n rfl rfl ?_
      refine jw_if_lt 54 rfl rfl (fun z => absurd z (nI_pos (by omega))) (fun _ => ?_)
      refine jw_aload_n rfl rfl ?_
      refine jw_gr rfl g_M_155 hm.1 (mo_r hm 33 rfl) ?_
      refine jw_iload_n rfl rfl ?_
      refine js_zaldV (u) rfl (mo_a hm 33 rfl) (by decide) (by rfl) rfl (by omega) (by decide) (u6) ?_
      cases hp : (Fr u).2.2.2.1 with
      | true =>
        rw [hp, if_pos rfl] at hq
        refine jw_if_eq 22 rfl rfl (fun z => absurd z (by decide)) (fun _ => ?_)
        refine js_iconst (x := (-1)) rfl rfl ?_
        refine jw_ireturn rfl rfl rfl ?_
        exact hq
      | false =>
        rw [hp, if_neg (by decide)] at hq
        refine jw_if_eq 22 rfl rfl (fun _ => ?_) (fun z => absurd (rfl) z)
        refine jw_aload_n rfl rfl ?_
        refine jw_gr rfl g_M_80 hm.1 (mo_r hm 15 rfl) ?_
        refine jw_aload_n rfl rfl ?_
        refine jw_gr rfl g_M_137 hm.1 (mo_r hm 27 rfl) ?_
        refine jw_iload_n rfl rfl ?_
        refine js_ialdV (u) rfl (mo_a hm 27 rfl) (by decide) (by rfl) rfl (by omega) (by decide) (u2) ?_
        refine js_ialdV ((Fr u).2.1) rfl (mo_a hm 15 rfl) (by decide) (by rfl) rfl (by omega) (by decide) (u4) ?_
        refine js_iconst (x := 4) rfl rfl ?_
        have back : Q (.inl (some (.inl (sp_o (fr_loop Fr u))))) h → jw_J g 0 m_M_loop jw_T0 48 [some (.inr (.inr (some mo))), some (.inl (nI u))] [] h 0 0 Q := by
          intro hq
          refine js_iinc rfl rfl (nI_m1 _) rfl (by decide) rfl ?_
          refine jw_goto 7 rfl rfl ?_
          exact ih (by omega) hq
        refine jw_icmp_ne 48 rfl rfl (fun z => ?_) (fun z => ?_)
        · exact back (by rw [if_neg (fun q => z (by rw [q.1]; rfl))] at hq; exact hq)
        have h4 : (Fr u).2.2.1 = 4 := (nI_eq (b := 4) (by omega) (by omega)).mp z
        refine jw_aload_n rfl rfl ?_
        refine jw_gr rfl g_M_152 hm.1 (mo_r hm 32 rfl) ?_
        refine jw_iload_n rfl rfl ?_
        refine js_zaldV (u) rfl (mo_a hm 32 rfl) (by decide) (by rfl) rfl (by omega) (by decide) (u7) ?_
        cases ho : (Fr u).2.2.2.2.1 with
        | true =>
          rw [ho, if_neg (fun q => absurd q.2 (by decide))] at hq
          refine jw_if_ne 48 rfl rfl (fun _ => ?_) (fun z => absurd z (by decide))
          exact back hq
        | false =>
          rw [ho, if_pos ⟨h4, rfl⟩] at hq
          refine jw_if_ne 48 rfl rfl (fun z => absurd (rfl) z) (fun _ => ?_)
          refine jw_iload_n rfl rfl ?_
          refine jw_ireturn rfl rfl rfl ?_
          exact hq
  refine jw_aload_n rfl rfl ?_
  refine jw_gi rfl g_M_125 hm.1 (hu.1) ?_
  refine js_iconst (x := 1) rfl rfl ?_
  refine jw_isub rfl ?_
  refine js_istore_n rfl rfl (by decide) rfl ?_
  exact loop m (Nat.le_refl _) hq
/-- contexts and their number -/
def cx_ok (h : jh_H) (mo : Nat) (ar : Nat → Nat) (n : Nat) (D : sd_D) (cn : Nat) (C : Nat → sv_T) : Prop := jh_i h mo 548 = nI cn ∧ cn ≤ 14 ∧ ∀ i, i < cn → mo_R h ar n D (3 + i) (C i)
/-- the turn under way -/
def fr_turn (Fr : Nat → fr_T) (m : Nat) : Option Nat := match fr_loop Fr m with
  | none => none
  | some u => some (Fr u).2.2.2.2.2.1
theorem un_ok.rg {h h' h0 : jh_H} {mo : Nat} {ar : Nat → Nat} {r : Nat} {m : Nat} {Fr : Nat → fr_T} (hm : mo_ok h0 mo ar) (hf : mo_fx h h' mo ar (rg_F r) no_G) (hu : un_ok h mo ar m Fr) : un_ok h' mo ar m Fr := by
  refine ⟨by rw [mo_fx.rdi hf (fun z => z)]; exact hu.1, hu.2.1, fun u hlt => ?_⟩
  obtain ⟨u1, u2, u3, u4, u5, u6, u7, u8, u8b, u9⟩ := hu.2.2 u hlt
  have rd : ∀ (i : Nat) {K t nn j : Nat}, mo_T[i]? = some (K, t, nn) → (K < 538 ∨ 541 < K) → jh_I h' (ar K) j = jh_I h (ar K) j := fun i K t nn j hi hK => mo_fx.rd hm hf i hi (fun k z => ⟨by have := rg_F_k z; omega, rg_F_in z⟩)
  exact ⟨(rd 26 rfl (by decide)).trans u1, (rd 27 rfl (by decide)).trans u2, u3, (rd 15 rfl (by decide)).trans u4, u5, (rd 33 rfl (by decide)).trans u6, (rd 32 rfl (by decide)).trans u7, (rd 28 rfl (by decide)).trans u8, u8b, (rd 29 rfl (by decide)).trans u9⟩
set_option maxHeartbeats 4000000 in
set_option maxRecDepth 100000 in
theorem cx_ok.rg {h h' h0 : jh_H} {mo : Nat} {ar : Nat → Nat} {r : Nat} {n cn : Nat} {D : sd_D} {C : Nat → sv_T} (hm : mo_ok h0 mo ar) (hf : mo_fx h h' mo ar (rg_F r) no_G) (hr : r < 3) (hu : cx_ok h mo ar n D cn C) : cx_ok h' mo ar n D cn C := by
  refine ⟨by rw [mo_fx.rdi hf (fun z => z)]; exact hu.1, hu.2.1, fun i hi => ?_⟩
  have := hu.2.1
  exact mo_R.fx hm hf (fun k j z => ⟨rg_F_in z, fun z2 => by rcases z with ⟨_, e⟩ | ⟨_, e⟩ <;> rcases z2 with ⟨_, e2⟩ | ⟨_, e2⟩ <;> omega⟩) (by omega) (hu.2.2 i hi)
theorem sp_up_3 (t : Nat → Nat) (e : Nat) : ∀ n k b, ∃ c, sp_up t e n (k + 3 * b) = k + 3 * c := by
  intro n
  induction n with
  | zero => intro k b; exact ⟨b, rfl⟩
  | succ n ih =>
    intro k b
    rw [sp_up]
    split
    · obtain ⟨c, hc⟩ := ih k (b + 1)
      exact ⟨c, by rw [← hc]; rfl⟩
    · exact ⟨b, rfl⟩
set_option maxHeartbeats 4000000 in
set_option maxRecDepth 100000 in
theorem cm_path {g : jg_G} (hg : (jg_l g).stackTraces = false) {h : jh_H} {mo : Nat} {ar t : Nat → Nat} {n r p e cn m : Nat} {D : sd_D} {C : Nat → sv_T} {Fr : Nat → fr_T} {Q : jw_O → jh_H → Prop} (hm : mo_ok h mo ar) (hD : mo_D h ar n D) (ht : mo_tx h ar t) (hcx : cx_ok h mo ar n D cn C) (hu : un_ok h mo ar m Fr) (hr : r < 3) (hp : p ≤ e) (he : e ≤ 900)
    (hq : ∀ h', mo_fx h h' mo ar (rg_F r) no_G → mo_R h' ar n D r (ev_op D C cn (fr_turn Fr m) (if t p = 64 then .inr (.inr (.inl (decide (t (p + 1) = 105)))) else .inr (.inr (.inr (ex_path t p e))))) → Q (.inl none) h') : jw_C g 3 0 0 m_M_path [.inr (.inr (some mo)), .inl (nI r), .inl (nI p), .inl (nI e)] h Q := by
  refine jw_intro (ls := [some (.inr (.inr (some mo))), some (.inl (nI r)), some (.inl (nI p)), some (.inl (nI e)), none, none, none]) (by decide) k_M_path rfl (by simp [lo_fit, jv_c]) hg ?_
  have htp := ht p (by omega)
  have hcn := hcx.2.1
  have hn60 := hD.1
  by_cases h64 : t p = 64
  · rw [if_pos h64] at hq
    refine jw_aload_n rfl rfl ?_
    refine jw_gr rfl g_M_56 hm.1 (mo_r hm 7 rfl) ?_
    refine jw_iload_n rfl rfl ?_
    refine js_caldV (p) rfl (mo_a hm 7 rfl) (by decide) (by rfl) rfl (by omega) (by decide) (htp.1.trans (by rw [h64])) ?_
    refine js_bipush (x := 64) rfl rfl ?_
    refine jw_icmp_ne 74 rfl rfl (fun z => absurd (rfl) z) (fun _ => ?_)
    refine jw_aload_n rfl rfl ?_
    refine js_call (As := []) rfl l_M_loop c_M_317 i_M_loop s_M_loop jc_o8 rfl hm.1 rfl (cm_loop hg hm hu ?_) (by decide) (Nat.le_of_ble_eq_true rfl) (by omega) (by omega) rfl
    refine js_istore rfl rfl (by decide) rfl ?_
    have htp1 := ht (p + 1) (by omega)
    rw [fr_turn] at hq
    cases hl : fr_loop Fr m with
    | none =>
      rw [hl] at hq
      refine jw_iload rfl rfl ?_
      refine jw_if_ge 30 rfl rfl (fun z => absurd z (by decide)) (fun _ => ?_)
      refine jw_aload_n rfl rfl ?_
      refine jw_iload_n rfl rfl ?_
      refine js_call (As := [.inl (nI r)]) rfl l_M_nothing c_M_310 i_M_nothing s_M_nothing jc_o8 rfl hm.1 rfl (cm_nothing hg hm (by omega) ?_) (by decide) (Nat.le_of_ble_eq_true rfl) (by omega) (by omega) rfl
      refine jw_goto 73 rfl rfl ?_
      refine jw_return rfl rfl ?_
      exact hq _ rg_nonef rg_nonev
    | some u =>
      have hul := fr_loop_lt m u hl
      have hm20 := hu.2.1
      obtain ⟨u1, u2, u3, u4, u5, u6, u7, u8, u8b, u9⟩ := hu.2.2 u hul
      rw [hl] at hq
      refine jw_iload rfl rfl ?_
      refine jw_if_ge 30 rfl rfl (fun _ => ?_) (fun z => absurd (nI_pos' (by omega)) z)
      refine jw_aload_n rfl rfl ?_
      refine jw_iload_n rfl rfl ?_
      refine jw_aload_n rfl rfl ?_
      refine jw_gr rfl g_M_56 hm.1 (mo_r hm 7 rfl) ?_
      refine jw_iload_n rfl rfl ?_
      refine js_iconst (x := 1) rfl rfl ?_
      refine jw_iaddV rfl (nI_1 p) ?_
      refine js_caldV (p + 1) rfl (mo_a hm 7 rfl) (by decide) (by rfl) rfl (by omega) (by decide) (htp1.1) ?_
      refine js_bipush (x := 105) rfl rfl ?_
      refine jw_icmp_ne 55 rfl rfl (fun z => ?_) (fun z => ?_)
      · have h105 : t (p + 1) ≠ 105 := fun e => z (by rw [e]; rfl)
        rw [decide_eq_false h105] at hq
        refine jw_aload_n rfl rfl ?_
        refine jw_gr rfl g_M_140 hm.1 (mo_r hm 28 rfl) ?_
        refine jw_iload rfl rfl ?_
        refine js_ialdV (u) rfl (mo_a hm 28 rfl) (by decide) (by rfl) rfl (by omega) (by decide) (u8) ?_
        by_cases z0 : (Fr u).2.2.2.2.2.1 = 0
        · refine jw_if_ne 69 rfl rfl (fun z => absurd (by rw [z0]; rfl) z) (fun _ => ?_)
          refine js_iconst (x := 1) rfl rfl ?_
          refine jw_goto 70 rfl rfl ?_
          refine js_call (As := [.inl (nI r), .inl 1]) rfl l_M_setNumber c_M_320 i_M_setNumber s_M_setNumber jc_o8 rfl hm.1 rfl (cm_setNumber hg hm (by omega) ?_) (by decide) (Nat.le_of_ble_eq_true rfl) (by omega) (by omega) rfl
          refine jw_return rfl rfl ?_
          refine hq _ rg_numf ?_
          rw [show ev_op D C cn (some (Fr u).2.2.2.2.2.1) (.inr (.inr (.inl false))) = some (.inl 1) by simp [ev_op, z0]]
          exact rg_numv hm
        · refine jw_if_ne 69 rfl rfl (fun _ => ?_) (fun z => absurd z (nI_ne0 (by omega) (by omega)))
          refine js_iconst (x := 0) rfl rfl ?_
          refine js_call (As := [.inl (nI r), .inl 0]) rfl l_M_setNumber c_M_320 i_M_setNumber s_M_setNumber jc_o8 rfl hm.1 rfl (cm_setNumber hg hm (by omega) ?_) (by decide) (Nat.le_of_ble_eq_true rfl) (by omega) (by omega) rfl
          refine jw_return rfl rfl ?_
          refine hq _ rg_numf ?_
          rw [show ev_op D C cn (some (Fr u).2.2.2.2.2.1) (.inr (.inr (.inl false))) = some (.inl 0) by simp [ev_op, z0]]
          exact rg_numv hm
      · have h105 : t (p + 1) = 105 := (nI_eq (b := 105) (by omega) (by omega)).mp z
        rw [decide_eq_true h105] at hq
        refine jw_aload_n rfl rfl ?_
        refine jw_gr rfl g_M_140 hm.1 (mo_r hm 28 rfl) ?_
        refine jw_iload rfl rfl ?_
        refine js_ialdV (u) rfl (mo_a hm 28 rfl) (by decide) (by rfl) rfl (by omega) (by decide) (u8) ?_
        refine jw_goto 70 rfl rfl ?_
        refine js_call (As := [.inl (nI r), .inl (nI (Fr u).2.2.2.2.2.1)]) rfl l_M_setNumber c_M_320 i_M_setNumber s_M_setNumber jc_o8 rfl hm.1 rfl (cm_setNumber hg hm (by omega) ?_) (by decide) (Nat.le_of_ble_eq_true rfl) (by omega) (by omega) rfl
        refine jw_return rfl rfl ?_
        exact hq _ rg_numf (rg_numv hm)
  rw [if_neg h64] at hq
  generalize hK : sp_up t e (e - p) p = K at hq
  have hKe := sp_up_le t e (e - p) p hp
  obtain ⟨b, hb⟩ := sp_up_3 t e (e - p) p 0
  rw [show p + 3 * 0 = p from rfl, hK] at hb
  rw [hK] at hKe
  generalize hW : ev_op D C cn (fr_turn Fr m) (.inr (.inr (.inr (ex_path t p e)))) = W at hq
  have eb : (K - p) / 3 = b := by omega
  rw [ev_op, ex_path, hK, eb] at hW
  dsimp only at hW
  -- the steps
  have tail : ∀ f k h1 v, e ≤ k + f → k ≤ e + 1 → mo_fx h h1 mo ar (rg_F r) no_G → mo_R h1 ar n D r v → ev_steps D v (ex_tail t e f k) = W → jw_J g 3 m_M_path jw_T0 192 [some (.inr (.inr (some mo))), some (.inl (nI r)), some (.inl (nI p)), some (.inl (nI e)), none, some (.inl (nI k)), none] [] h1 0 0 Q := by
    intro f
    induction f with
    | zero =>
      intro k h1 v hf hk f1 v1 hs
      have hm1 := mo_fx.ok f1 hm
      have e0 : sp_at t k e = 0 := by simp [sp_at]; omega
      refine jw_aload_n rfl rfl ?_
      refine jw_iload rfl rfl ?_
      refine jw_iload_n rfl rfl ?_
      refine js_call (As := [.inl (nI k), .inl (nI e)]) rfl l_M_at0 c_M_194 i_M_at0 s_M_at0 jc_o8 rfl hm1.1 rfl (cm_at0 hg hm1 (mo_tx.rg hm f1 ht) (by omega) (by omega) ?_) (by decide) (Nat.le_of_ble_eq_true rfl) (by omega) (by omega) rfl
      rw [e0]
      refine js_bipush (x := 46) rfl rfl ?_
      refine jw_icmp_ne 266 rfl rfl (fun _ => ?_) (fun z => absurd z (by decide))
      refine jw_return rfl rfl ?_
      exact hq h1 f1 (by rw [← hs]; exact v1)
    | succ f ih =>
      intro k h1 v hf hk f1 v1 hs
      have hm1 := mo_fx.ok f1 hm
      have ht1 := mo_tx.rg hm f1 ht
      have hD1 := mo_D.rg hm f1 hD
      have hat := sp_at_lt (p := k) (e := e) ht (by omega)
      rw [ex_tail] at hs
      refine jw_aload_n rfl rfl ?_
      refine jw_iload rfl rfl ?_
      refine jw_iload_n rfl rfl ?_
      refine js_call (As := [.inl (nI k), .inl (nI e)]) rfl l_M_at0 c_M_194 i_M_at0 s_M_at0 jc_o8 rfl hm1.1 rfl (cm_at0 hg hm1 ht1 (by omega) (by omega) ?_) (by decide) (Nat.le_of_ble_eq_true rfl) (by omega) (by omega) rfl
      refine js_bipush (x := 46) rfl rfl ?_
      refine jw_icmp_ne 266 rfl rfl (fun z => ?_) (fun z => ?_)
      · rw [if_neg (fun q => z (by rw [q]; rfl))] at hs
        refine jw_return rfl rfl ?_
        exact hq h1 f1 (by rw [← hs]; exact v1)
      have h46 : sp_at t k e = 46 := (nI_eq (b := 46) (by omega) (by omega)).mp z
      have hke := sp_at_lt2 h46 (by decide)
      rw [if_pos h46] at hs
      refine jw_aload_n rfl rfl ?_
      refine jw_iload rfl rfl ?_
      refine js_iconst (x := 1) rfl rfl ?_
      refine jw_iaddV rfl (nI_1 k) ?_
      refine jw_iload_n rfl rfl ?_
      refine js_call (As := [.inl (nI (k + 1)), .inl (nI e)]) rfl l_M_letters c_M_207 i_M_letters s_M_letters jc_o8 rfl hm1.1 rfl (cm_letters hg hm1 ht1 (by omega) (by omega) ?_) (by decide) (Nat.le_of_ble_eq_true rfl) (by omega) (by omega) rfl
      refine js_istore rfl rfl (by decide) rfl ?_
      refine jw_iload rfl rfl ?_
      have hle := sp_letters_le t (show k + 1 ≤ e by omega)
      generalize hn : sp_letters t (k + 1) e = nn at hs hle
      refine jw_if_le 234 rfl rfl (fun z => ?_) (fun z => ?_)
      · have h0 : nn = 0 := by have := (nI_leI (b := 0) (by omega) (by omega)).mp z; omega
        subst h0
        rw [if_neg (by omega)] at hs
        have htk := ht1 (k + 1) (by omega)
        refine js_iconst (x := 1) rfl rfl ?_
        refine js_istore rfl rfl (by decide) rfl ?_
        refine jw_aload_n rfl rfl ?_
        refine jw_iload_n rfl rfl ?_
        refine jw_aload_n rfl rfl ?_
        refine jw_gr rfl g_M_56 hm1.1 (mo_r hm1 7 rfl) ?_
        refine jw_iload rfl rfl ?_
        refine js_iconst (x := 1) rfl rfl ?_
        refine jw_iaddV rfl (nI_1 k) ?_
        refine js_caldV (k + 1) rfl (mo_a hm1 7 rfl) (by decide) (by rfl) rfl (by omega) (by decide) (htk.1) ?_
        refine js_bipush (x := 48) rfl rfl ?_
        refine jw_isub rfl ?_
        refine js_call (As := [.inl (nI r), .inl (nI (t (k + 1)) - 48)]) rfl l_M_element c_M_330 i_M_element s_M_element jc_o8 rfl hm1.1 rfl (cm_element hg hm1 hD1 (by omega) v1 (fun h2 f2 v2 => ?_)) (by decide) (Nat.le_of_ble_eq_true rfl) (by omega) (by omega) rfl
        refine jw_iload rfl rfl ?_
        refine js_iconst (x := 1) rfl rfl ?_
        refine jw_iload rfl rfl ?_
        refine jw_iaddV rfl ((show (1 : Int32) + 1 = nI 2 from rfl)) ?_
        refine jw_iaddV rfl (nI_add _ _) ?_
        refine js_istore rfl rfl (by decide) rfl ?_
        refine jw_goto 192 rfl rfl ?_
        exact js_drop 6 rfl (ih (k + 2) h2 _ (by omega) (by omega) (mo_fx.tr f1 f2 (fun _ _ z => z) (fun _ z => z)) v2 hs)
      · have h0 : 0 < nn := Nat.pos_of_ne_zero (fun e => z (by rw [e]; decide))
        rw [if_pos h0] at hs
        refine jw_aload_n rfl rfl ?_
        refine jw_iload_n rfl rfl ?_
        refine jw_iload rfl rfl ?_
        refine js_iconst (x := 1) rfl rfl ?_
        refine jw_iaddV rfl (nI_1 k) ?_
        refine jw_iload rfl rfl ?_
        refine js_call (As := [.inl (nI r), .inl (nI (k + 1)), .inl (nI nn)]) rfl l_M_member c_M_326 i_M_member s_M_member jc_o8 rfl hm1.1 rfl (cm_member hg hm1 hD1 ht1 (by omega) (by omega) v1 (fun h2 f2 v2 => ?_)) (by decide) (Nat.le_of_ble_eq_true rfl) (by omega) (by omega) rfl
        refine jw_goto 254 rfl rfl ?_
        refine jw_iload rfl rfl ?_
        refine js_iconst (x := 1) rfl rfl ?_
        refine jw_iload rfl rfl ?_
        refine jw_iaddV rfl (nI_add 1 _) ?_
        refine jw_iaddV rfl (nI_add _ _) ?_
        refine js_istore rfl rfl (by decide) rfl ?_
        refine jw_goto 192 rfl rfl ?_
        exact js_drop 6 rfl (ih (k + (1 + nn)) h2 _ (by omega) (by omega) (mo_fx.tr f1 f2 (fun _ _ z => z) (fun _ z => z)) v2 hs)
  -- behind the context
  have at133 : ∀ h1, mo_fx h h1 mo ar (rg_F r) no_G → mo_R h1 ar n D r (if cn ≤ b then none else C (cn - 1 - b)) → jw_J g 3 m_M_path jw_T0 133 [some (.inr (.inr (some mo))), some (.inl (nI r)), some (.inl (nI p)), some (.inl (nI e)), none, some (.inl (nI K)), none] [] h1 0 0 Q := by
    intro h1 f1 v1
    have hm1 := mo_fx.ok f1 hm
    have ht1 := mo_tx.rg hm f1 ht
    have hD1 := mo_D.rg hm f1 hD
    have hle := sp_letters_le t (show K ≤ e by omega)
    have go : ex_this t K e = false → jw_J g 3 m_M_path jw_T0 176 [some (.inr (.inr (some mo))), some (.inl (nI r)), some (.inl (nI p)), some (.inl (nI e)), none, some (.inl (nI K)), some (.inl (nI (sp_letters t K e)))] [] h1 0 0 Q := by
      intro hth
      rw [hth, if_neg Bool.false_ne_true] at hW
      refine jw_aload_n rfl rfl ?_
      refine jw_iload_n rfl rfl ?_
      refine jw_iload rfl rfl ?_
      refine jw_iload rfl rfl ?_
      refine js_call (As := [.inl (nI r), .inl (nI K), .inl (nI (sp_letters t K e))]) rfl l_M_member c_M_326 i_M_member s_M_member jc_o8 rfl hm1.1 rfl (cm_member hg hm1 hD1 ht1 (by omega) (by omega) v1 (fun h2 f2 v2 => ?_)) (by decide) (Nat.le_of_ble_eq_true rfl) (by omega) (by omega) rfl
      refine jw_iload rfl rfl ?_
      refine jw_iload rfl rfl ?_
      refine jw_iaddV rfl (nI_add _ _) ?_
      refine js_istore rfl rfl (by decide) rfl ?_
      exact js_drop 6 rfl (tail (e - p) (K + sp_letters t K e) h2 _ (by omega) (by omega) (mo_fx.tr f1 f2 (fun _ _ z => z) (fun _ z => z)) v2 hW)
    refine jw_aload_n rfl rfl ?_
    refine jw_iload rfl rfl ?_
    refine jw_iload_n rfl rfl ?_
    refine js_call (As := [.inl (nI K), .inl (nI e)]) rfl l_M_letters c_M_207 i_M_letters s_M_letters jc_o8 rfl hm1.1 rfl (cm_letters hg hm1 ht1 (by omega) (by omega) ?_) (by decide) (Nat.le_of_ble_eq_true rfl) (by omega) (by omega) rfl
    refine js_istore rfl rfl (by decide) rfl ?_
    refine jw_iload rfl rfl ?_
    refine js_iconst (x := 4) rfl rfl ?_
    refine jw_icmp_ne 176 rfl rfl (fun z => ?_) (fun z => ?_)
    · exact go (by rw [ex_this, decide_eq_false (fun q => z (by rw [q]; rfl))]; rfl)
    have h4 : sp_letters t K e = 4 := (nI_eq (b := 4) (by omega) (by omega)).mp z
    refine jw_aload_n rfl rfl ?_
    refine jw_iload rfl rfl ?_
    refine jw_iload_n rfl rfl ?_
    refine jw_ldc2 rfl q_M_210 ?_
    refine js_call (As := [.inl (nI K), .inl (nI e), .inr (.inl _)]) rfl l_M_stands c_M_199 i_M_stands s_M_stands jc_o8 rfl hm1.1 rfl (cm_st hg sw_210 hm1 ht1 (by omega) (by omega) ?_) (by decide) (Nat.le_of_ble_eq_true rfl) (by omega) (by omega) rfl
    cases hs : sp_st t e K [116, 104, 105, 115] with
    | false =>
      refine jw_if_eq 176 rfl rfl (fun _ => ?_) (fun z => absurd (rfl) z)
      exact go (by rw [ex_this, hs, Bool.false_and, Bool.and_false])
    | true =>
      refine jw_if_eq 176 rfl rfl (fun z => absurd z (by decide)) (fun _ => ?_)
      refine jw_aload_n rfl rfl ?_
      refine jw_iload rfl rfl ?_
      refine js_iconst (x := 4) rfl rfl ?_
      refine jw_iaddV rfl (nI_add _ 4) ?_
      refine jw_iload_n rfl rfl ?_
      refine js_call (As := [.inl (nI (K + 4)), .inl (nI e)]) rfl l_M_at0 c_M_194 i_M_at0 s_M_at0 jc_o8 rfl hm1.1 rfl (cm_at0 hg hm1 ht1 (by omega) (by omega) ?_) (by decide) (Nat.le_of_ble_eq_true rfl) (by omega) (by omega) rfl
      refine js_bipush (x := 46) rfl rfl ?_
      have hat := sp_at_lt (p := K + 4) (e := e) ht (by omega)
      refine jw_icmp_eq 176 rfl rfl (fun z => ?_) (fun z => ?_)
      · exact go (by rw [ex_this, decide_eq_false (p := sp_at t (K + 4) e ≠ 46) (fun q => q ((nI_eq (b := 46) (by omega) (by omega)).mp z)), Bool.and_false, Bool.and_false])
      · refine jw_return rfl rfl ?_
        rw [ex_this, decide_eq_true h4, hs, decide_eq_true (p := sp_at t (K + 4) e ≠ 46) (fun q => z (by rw [q]; rfl)), Bool.and_self, Bool.and_self, if_pos rfl] at hW
        exact hq h1 f1 (by rw [← hW]; exact v1)
  have ups : ∀ f k c, e ≤ k + f → k = p + 3 * c → k ≤ e → sp_up t e f k = K → jw_J g 3 m_M_path jw_T0 80 [some (.inr (.inr (some mo))), some (.inl (nI r)), some (.inl (nI p)), some (.inl (nI e)), some (.inl (nI c)), some (.inl (nI k)), none] [] h 0 0 Q := by
    have done : jw_J g 3 m_M_path jw_T0 102 [some (.inr (.inr (some mo))), some (.inl (nI r)), some (.inl (nI p)), some (.inl (nI e)), some (.inl (nI b)), some (.inl (nI K)), none] [] h 0 0 Q := by
      refine jw_iload rfl rfl ?_
      refine jw_aload_n rfl rfl ?_
      refine jw_gi rfl g_M_122 hm.1 (hcx.1) ?_
      refine jw_icmp_lt 119 rfl rfl (fun z => ?_) (fun z => ?_)
      · have hbc : b < cn := (nI_ltI (by omega) (by omega)).mp z
        refine jw_aload_n rfl rfl ?_
        refine jw_iload_n rfl rfl ?_
        refine js_iconst (x := 2) rfl rfl ?_
        refine jw_aload_n rfl rfl ?_
        refine jw_gi rfl g_M_122 hm.1 (hcx.1) ?_
        refine jw_iaddV rfl (nI_add 2 _) ?_
        refine jw_iload rfl rfl ?_
        refine jw_isubV rfl (pk_sub (by omega)) ?_
        rw [show 2 + cn - b = 3 + (cn - 1 - b) by omega]
        refine js_call (As := [.inl (nI r), .inl (nI (3 + (cn - 1 - b)))]) rfl l_M_copy c_M_323 i_M_copy s_M_copy jc_o8 rfl hm.1 rfl (cm_copy hg hm (by omega) (by omega) (by omega) (fun x hx => (hD.2 x hx).2.1) (hcx.2.2 (cn - 1 - b) (by omega)) (fun h2 f2 v2 => ?_)) (by decide) (Nat.le_of_ble_eq_true rfl) (by omega) (by omega) rfl
        exact js_drop 4 rfl (at133 h2 f2 (by rw [if_neg (by omega)]; exact v2))
      · have hbc : cn ≤ b := Nat.le_of_not_lt (fun q => z ((nI_ltI (by omega) (by omega)).mpr q))
        refine jw_aload_n rfl rfl ?_
        refine jw_iload_n rfl rfl ?_
        refine js_call (As := [.inl (nI r)]) rfl l_M_nothing c_M_310 i_M_nothing s_M_nothing jc_o8 rfl hm.1 rfl (cm_nothing hg hm (by omega) ?_) (by decide) (Nat.le_of_ble_eq_true rfl) (by omega) (by omega) rfl
        refine jw_goto 133 rfl rfl ?_
        exact js_drop 4 rfl (at133 _ rg_nonef (by rw [if_pos hbc]; exact rg_nonev))
    intro f
    induction f with
    | zero =>
      intro k c hf hk hke hs
      have eK : k = K := hs
      have ec : c = b := by omega
      subst eK
      subst ec
      have hst : sp_st t e k [46, 46, 47] = false := by
        rw [sp_st, show sp_at t k e = 0 by simp [sp_at]; omega]; rfl
      refine jw_aload_n rfl rfl ?_
      refine jw_iload rfl rfl ?_
      refine jw_iload_n rfl rfl ?_
      refine jw_ldc2 rfl q_M_205 ?_
      refine js_call (As := [.inl (nI k), .inl (nI e), .inr (.inl _)]) rfl l_M_stands c_M_199 i_M_stands s_M_stands jc_o8 rfl hm.1 rfl (cm_st hg sw_205 hm ht (by omega) (by omega) ?_) (by decide) (Nat.le_of_ble_eq_true rfl) (by omega) (by omega) rfl
      rw [hst]
      refine jw_if_eq 102 rfl rfl (fun _ => ?_) (fun z => absurd (rfl) z)
      exact done
    | succ f ih =>
      intro k c hf hk hke hs
      rw [sp_up] at hs
      refine jw_aload_n rfl rfl ?_
      refine jw_iload rfl rfl ?_
      refine jw_iload_n rfl rfl ?_
      refine jw_ldc2 rfl q_M_205 ?_
      refine js_call (As := [.inl (nI k), .inl (nI e), .inr (.inl _)]) rfl l_M_stands c_M_199 i_M_stands s_M_stands jc_o8 rfl hm.1 rfl (cm_st hg sw_205 hm ht (by omega) (by omega) ?_) (by decide) (Nat.le_of_ble_eq_true rfl) (by omega) (by omega) rfl
      cases hst : sp_st t e k [46, 46, 47] with
      | false =>
        rw [hst, if_neg (by decide)] at hs
        have ec : c = b := by omega
        subst hs
        subst ec
        refine jw_if_eq 102 rfl rfl (fun _ => ?_) (fun z => absurd (rfl) z)
        exact done
      | true =>
        rw [hst, if_pos rfl] at hs
        have hlen := sp_st_len t (by decide) (by decide) hke hst
        refine jw_if_eq 102 rfl rfl (fun z => absurd z (by decide)) (fun _ => ?_)
        refine js_iinc rfl rfl (nI_add k 3) rfl (by decide) rfl ?_
        refine js_iinc rfl rfl (nI_1 c) rfl (by decide) rfl ?_
        refine jw_goto 80 rfl rfl ?_
        exact ih (k + 3) (c + 1) (by omega) (by omega) (by simpa using hlen) hs
  refine jw_aload_n rfl rfl ?_
  refine jw_gr rfl g_M_56 hm.1 (mo_r hm 7 rfl) ?_
  refine jw_iload_n rfl rfl ?_
  refine js_caldV (p) rfl (mo_a hm 7 rfl) (by decide) (by rfl) rfl (by omega) (by decide) (htp.1) ?_
  refine js_bipush (x := 64) rfl rfl ?_
  refine jw_icmp_ne 74 rfl rfl (fun _ => ?_) (fun z => absurd z (fun z => absurd ((nI_eq (b := 64) (by omega) (by omega)).mp z) h64))
  refine js_iconst (x := 0) rfl rfl ?_
  refine js_istore rfl rfl (by decide) rfl ?_
  refine jw_iload_n rfl rfl ?_
  refine js_istore rfl rfl (by decide) rfl ?_
  exact ups (e - p) p 0 (by omega) rfl hp hK

