/-! the model: render, size, count -/
set_option maxHeartbeats 4000000 in
set_option maxRecDepth 100000 in
theorem cm_go {g : jg_G} (hg : (jg_l g).stackTraces = false) {h : jh_H} {mo : Nat} {ar t : Nat → Nat} {n k : Nat} {D : sd_D} {TP : Nat → Option tp_X} {X : tp_X} {v : sv_T} {Q : jw_O → jh_H → Prop} (hD : go_D h mo ar n D TP t) (hk : k < 4) (hX : TP k = some X) (hun : jh_i h mo 549 = nI 0) (hcx : jh_i h mo 548 = nI 1) (hou : jh_i h mo 546 = nI 0) (hse : jh_i h mo 517 = nI 0) (hf0 : jh_i h mo 550 = 0) (hv : mo_R h ar n D 3 v)
    (hq : ∀ h', mo_fx h h' mo ar go_F go_G → (match rn D TP 153 X 0 (fun _ => v) 1 none 1 [] 0 with
      | .inl c => jh_i h' mo 550 = nI c → (c = 2 ∨ c = 3 ∨ c = 4) → Q (.inl none) h'
      | .inr (O, s) => jh_i h' mo 550 = 0 → ou_ok h' mo ar O → jh_i h' mo 517 = nI s → s ≤ 600 → Q (.inl none) h')) : jw_C g 9 0 0 m_M_go [.inr (.inr (some mo)), .inl (nI k)] h Q := by
  refine jw_intro (ls := [some (.inr (.inr (some mo))), some (.inl (nI k)), none, none, none, none]) (by decide) k_M_go rfl (by simp [lo_fit, jv_c]) hg ?_
  have htp := (gt_of hD hk hX).2.1
  obtain ⟨lv, hlv⟩ := tp_lv htp
  have hn50 := htp.2.2
  have sim := cm_go_sim (k0 := k) (Q := Q) hg hD 153 k X 0 0 0 (fun _ => (0, 0, 0, false, false, 0, 0)) 1 (fun _ => v) [] 0 lv ⟨hk, hX, hlv, Nat.zero_le _, hlv.1, by omega, rfl, by show 1 ≤ 3; omega, by omega, by omega, by omega, by show (3 - 1) * 51 + (X.2.1 - 0) + 1 ≤ 153; omega⟩ (fun c hc h' f' e' c' => ?_) (fun O' sn' hr => ?_)
  · refine jw_iload_n rfl rfl ?_
    refine js_sipush (x := 200) rfl rfl ?_
    refine jw_imulV rfl (pk_mul k 200) ?_
    refine js_istore_n rfl rfl (by decide) rfl ?_
    have := sim h none none none ⟨mo_fx.rf, ⟨hun, by omega, fun u hu => absurd hu (by omega)⟩, ⟨hcx, by omega, fun i hi => by rw [show i = 0 by omega]; exact hv⟩, ⟨hou, by decide, fun j hj => absurd hj (by show ¬ j < 0; omega)⟩, hse, by omega, hf0⟩
    rw [show tp_at X.2.2.1 0 + k * 200 = k * 200 from Nat.zero_add _] at this
    exact this
  · have hq := hq h' f'
    have hc : rn D TP 153 X 0 (fun _ => v) 1 none 1 [] 0 = .inl c := hc
    rw [hc] at hq
    exact hq e' c'
  · intro i h' hi hen S
    have hr : rn D TP 153 X 0 (fun _ => v) 1 none 1 [] 0 = .inr (O', sn') := hr
    have hen : i = X.2.1 := by
      rcases hen with z | z
      · exact z.2
      · exact absurd z.1 (by omega)
    subst hen
    obtain ⟨f1, u1, c1, O1, s1, sl1, e1⟩ := S
    have hm1 := mo_fx.ok f1 hD.1
    have hq := hq h' f1
    rw [hr] at hq
    rw [if_neg (Nat.lt_irrefl _)]
    refine jw_iload rfl rfl ?_
    refine jw_if_lt 108 rfl rfl (fun _ => ?_) (fun z => absurd (by decide) z)
    refine jw_aload_n rfl rfl ?_
    refine jw_gi rfl g_M_125 hm1.1 (u1.1) ?_
    refine jw_if_ne 116 rfl rfl (fun z => absurd (rfl) z) (fun _ => ?_)
    refine jw_return rfl rfl ?_
    exact hq e1 O1 s1 sl1
/-- what render may change -/
def re_F (k j : Nat) : Prop := go_F k j ∨ k = 544
def re_G (k : Nat) : Prop := go_G k ∨ k = 547 ∨ k = 518
/-- the result is X -/
def rs_is (h : jh_H) (mo : Nat) (ar : Nat → Nat) (X : List Nat) : Prop := jh_i h mo 547 = nI X.length ∧ X.length ≤ 400 ∧ ∀ j, j < X.length → jh_I h (ar 544) j = nI (X.getD j 0) ∧ X.getD j 0 < 128
set_option maxHeartbeats 4000000 in
set_option maxRecDepth 100000 in
theorem cm_render {g : jg_G} (hg : (jg_l g).stackTraces = false) {h : jh_H} {mo : Nat} {ar t : Nat → Nat} {n : Nat} {kk xx : Int32} {D : sd_D} {TP : Nat → Option tp_X} {Q : jw_O → jh_H → Prop} (hD : go_D h mo ar n D TP t) (hn : jh_i h mo 516 = nI n)
    (q1 : (kk < 0 ∨ 3 < kk) → Q (.inl (some (.inl 0))) (mo_rf h mo 1))
    (q2 : ∀ k, k < 4 → kk = nI k → (TP k = none ∨ xx < 0 ∨ nI n ≤ xx) → Q (.inl (some (.inl 0))) (mo_rf h mo 2))
    (q3 : ∀ k X x, k < 4 → kk = nI k → TP k = some X → x < n → xx = nI x → match rn D TP 153 X 0 (fun _ => sv_of D x) 1 none 1 [] 0 with
      | .inl c => ∀ h', mo_fx h h' mo ar re_F go_G → (c = 2 ∨ c = 3 ∨ c = 4) → Q (.inl (some (.inl 0))) (mo_rf h' mo (nI c))
      | .inr (O, s) => ∀ h', mo_fx h h' mo ar re_F re_G → rs_is h' mo ar O → jh_i h' mo 518 = nI s → Q (.inl (some (.inl (nI O.length)))) (jh_si h' mo 512 0)) : jw_C g 10 0 0 m_M_render [.inr (.inr (some mo)), .inl kk, .inl xx] h Q := by
  refine jw_intro (ls := [some (.inr (.inr (some mo))), some (.inl kk), some (.inl xx), none]) (by decide) k_M_render rfl (by simp [lo_fit, jv_c]) hg ?_
  obtain ⟨hm, hDd, hdp, htx, hTP⟩ := id hD
  have hn60 := hDd.1
  have at9 : (kk < 0 ∨ 3 < kk) → jw_J g 10 m_M_render jw_T0 9 [some (.inr (.inr (some mo))), some (.inl kk), some (.inl xx), none] [] h 0 0 Q := by
    intro hx
    refine jw_aload_n rfl rfl ?_
    refine js_iconst (x := 1) rfl rfl ?_
    refine js_call (As := [.inl 1]) rfl l_M_refuse c_M_158 i_M_refuse s_M_refuse jc_o8 rfl hm.1 rfl (cm_refuse hg hm.1 ?_) (by decide) (Nat.le_of_ble_eq_true rfl) (by omega) (by omega) rfl
    refine jw_ireturn rfl rfl rfl ?_
    exact q1 hx
  refine jw_iload_n rfl rfl ?_
  refine jw_if_lt 9 rfl rfl (fun z => at9 (Or.inl z)) (fun z1 => ?_)
  refine jw_iload_n rfl rfl ?_
  refine js_iconst (x := 3) rfl rfl ?_
  refine jw_icmp_le 15 rfl rfl (fun z2 => ?_) (fun z2 => at9 (Or.inr (Int32.not_le.mp z2)))
  obtain ⟨k, hk, rfl⟩ := nI_of2 (M := 3) (n := 3) (by decide) z1 z2
  have hk : k < 4 := by omega
  have q2 := q2 k hk rfl
  have at32 : (TP k = none ∨ xx < 0 ∨ nI n ≤ xx) → jw_J g 10 m_M_render jw_T0 32 [some (.inr (.inr (some mo))), some (.inl (nI k)), some (.inl xx), none] [] h 0 0 Q := by
    intro hx
    refine jw_aload_n rfl rfl ?_
    refine js_iconst (x := 2) rfl rfl ?_
    refine js_call (As := [.inl 2]) rfl l_M_refuse c_M_158 i_M_refuse s_M_refuse jc_o8 rfl hm.1 rfl (cm_refuse hg hm.1 ?_) (by decide) (Nat.le_of_ble_eq_true rfl) (by omega) (by omega) rfl
    refine jw_ireturn rfl rfl rfl ?_
    exact q2 hx
  have hT := hTP k hk
  cases hX : TP k with
  | none =>
    rw [hX] at hT
    have hT : jh_I h (ar 529) k = 0 := hT
    refine jw_aload_n rfl rfl ?_
    refine jw_gr rfl g_M_65 hm.1 (mo_r hm 10 rfl) ?_
    refine jw_iload_n rfl rfl ?_
    refine js_zaldV (k) rfl (mo_a hm 10 rfl) (by decide) (by rfl) rfl (by omega) (by decide) (hT) ?_
    refine jw_if_eq 32 rfl rfl (fun _ => ?_) (fun z => absurd (rfl) z)
    exact at32 (Or.inl hX)
  | some X =>
    rw [hX] at hT
    refine jw_aload_n rfl rfl ?_
    refine jw_gr rfl g_M_65 hm.1 (mo_r hm 10 rfl) ?_
    refine jw_iload_n rfl rfl ?_
    refine js_zaldV (k) rfl (mo_a hm 10 rfl) (by decide) (by rfl) rfl (by omega) (by decide) (hT.1) ?_
    refine jw_if_eq 32 rfl rfl (fun z => absurd z (by decide)) (fun _ => ?_)
    refine jw_aload_n rfl rfl ?_
    refine jw_iload_n rfl rfl ?_
    refine js_call (As := [.inl xx]) rfl l_M_no c_M_169 i_M_no s_M_no jc_o8 rfl hm.1 rfl (cm_no hg hm.1 hn hn60 (fun z => ?_) (fun x hx e => ?_)) (by decide) (Nat.le_of_ble_eq_true rfl) (by omega) (by omega) rfl
    · refine jw_if_eq 38 rfl rfl (fun z => absurd z (by decide)) (fun _ => ?_)
      exact at32 (Or.inr z)
    · subst e
      have q3 := q3 k X x hk rfl hX hx rfl
      have F : ∀ kk, go_G kk → go_G kk := fun _ z => z
      have f1 : mo_fx h (jh_si (jh_si (jh_si (jh_si (jh_si h mo 517 0) mo 549 0) mo 548 1) mo 546 0) mo 550 0) mo ar go_F go_G := mo_fx.si (mo_fx.si (mo_fx.si (mo_fx.si (mo_fx.si mo_fx.rf (F 517 (by unfold go_G; decide))) (F 549 (by unfold go_G; decide))) (F 548 (by unfold go_G; decide))) (F 546 (by unfold go_G; decide))) (F 550 (by unfold go_G; decide))
      have e1 : ∀ b kk, jh_i (jh_si (jh_si (jh_si (jh_si (jh_si h mo 517 0) mo 549 0) mo 548 1) mo 546 0) mo 550 0) b kk = jh_u (jh_u (jh_u (jh_u (jh_u (jh_i h) mo 517 0) mo 549 0) mo 548 1) mo 546 0) mo 550 0 b kk := fun _ _ => rfl
      have a517 := (e1 mo 517).trans ((jh_u_k _ _ _ _ (by decide)).trans ((jh_u_k _ _ _ _ (by decide)).trans ((jh_u_k _ _ _ _ (by decide)).trans ((jh_u_k _ _ _ _ (by decide)).trans (jh_u_s _ _ _ _)))))
      have a549 := (e1 mo 549).trans ((jh_u_k _ _ _ _ (by decide)).trans ((jh_u_k _ _ _ _ (by decide)).trans ((jh_u_k _ _ _ _ (by decide)).trans (jh_u_s _ _ _ _))))
      have a548 := (e1 mo 548).trans ((jh_u_k _ _ _ _ (by decide)).trans ((jh_u_k _ _ _ _ (by decide)).trans (jh_u_s _ _ _ _)))
      have a546 := (e1 mo 546).trans ((jh_u_k _ _ _ _ (by decide)).trans (jh_u_s _ _ _ _))
      have a550 := (e1 mo 550).trans (jh_u_s _ _ _ _)
      refine jw_if_eq 38 rfl rfl (fun _ => ?_) (fun z => absurd (rfl) z)
      refine jw_aload_n rfl rfl ?_
      refine js_iconst (x := 0) rfl rfl ?_
      refine jw_pi rfl p_M_render_25 hm.1 ?_
      refine jw_aload_n rfl rfl ?_
      refine js_iconst (x := 0) rfl rfl ?_
      refine jw_pi rfl p_M_render_125 (mo_si hm).1 ?_
      refine jw_aload_n rfl rfl ?_
      refine js_iconst (x := 1) rfl rfl ?_
      refine jw_pi rfl p_M_render_122 (mo_si (mo_si hm)).1 ?_
      refine jw_aload_n rfl rfl ?_
      refine js_iconst (x := 0) rfl rfl ?_
      refine jw_pi rfl p_M_render_116 (mo_si (mo_si (mo_si hm))).1 ?_
      refine jw_aload_n rfl rfl ?_
      refine js_iconst (x := 0) rfl rfl ?_
      refine jw_pi rfl p_M_render_128 (mo_si (mo_si (mo_si (mo_si hm)))).1 ?_
      generalize jh_si (jh_si (jh_si (jh_si (jh_si h mo 517 0) mo 549 0) mo 548 1) mo 546 0) mo 550 0 = h1 at *
      have hD1 := go_D.fx hD f1 (fun _ _ z => z)
      refine jw_aload_n rfl rfl ?_
      refine js_iconst (x := 3) rfl rfl ?_
      refine jw_iload_n rfl rfl ?_
      refine js_call (As := [.inl (nI 3), .inl (nI x)]) rfl l_M_load c_M_313 i_M_load s_M_load jc_o8 rfl hD1.1.1 rfl (cm_load hg hD1.1 hD1.2.1 (by decide) hx (fun h2 f2 v2 => ?_)) (by decide) (Nat.le_of_ble_eq_true rfl) (by omega) (by omega) rfl
      have F2 : mo_fx h1 h2 mo ar go_F go_G := mo_fx.mono f2 (fun _ _ z => go_F.rg z) (fun _ z => absurd z id)
      have hD2 := go_D.fx hD1 F2 (fun _ _ z => z)
      have r2 : ∀ kk, jh_i h2 mo kk = jh_i h1 mo kk := fun kk => mo_fx.rdi f2 (fun z => z)
      refine jw_aload_n rfl rfl ?_
      refine jw_iload_n rfl rfl ?_
      refine js_call (As := [.inl (nI k)]) rfl l_M_go c_M_399 i_M_go s_M_go jc_o8 rfl hD2.1.1 rfl (cm_go hg hD2 hk hX ((r2 549).trans a549) ((r2 548).trans a548) ((r2 546).trans a546) ((r2 517).trans a517) ((r2 550).trans a550) v2 (fun h3 f3 => ?_)) (by decide) (Nat.le_of_ble_eq_true rfl) (by omega) (by omega) rfl
      have F3 : mo_fx h h3 mo ar go_F go_G := go_tr f1 (go_tr F2 f3)
      have hD3 := go_D.fx hD F3 (fun _ _ z => z)
      cases hrn : rn D TP 153 X 0 (fun _ => sv_of D x) 1 none 1 [] 0 with
      | inl c =>
        rw [hrn] at q3
        intro e3 hc
        have hc0 : 0 < c ∧ c < 100 := by omega
        refine jw_aload_n rfl rfl ?_
        refine jw_gi rfl g_M_128 hD3.1.1 (e3) ?_
        refine jw_if_eq 90 rfl rfl (fun z => absurd z (nI_ne0 hc0.1 (by omega))) (fun _ => ?_)
        refine jw_aload_n rfl rfl ?_
        refine jw_aload_n rfl rfl ?_
        refine jw_gi rfl g_M_128 hD3.1.1 (e3) ?_
        refine js_call (As := [.inl (nI c)]) rfl l_M_refuse c_M_158 i_M_refuse s_M_refuse jc_o8 rfl hD3.1.1 rfl (cm_refuse hg hD3.1.1 ?_) (by decide) (Nat.le_of_ble_eq_true rfl) (by omega) (by omega) rfl
        refine jw_ireturn rfl rfl rfl ?_
        exact q3 h3 (mo_fx.mono F3 (fun _ _ z => Or.inl z) (fun _ z => z)) hc
      | inr r =>
        obtain ⟨O, s⟩ := r
        rw [hrn] at q3
        intro e3 O3 s3 sl3
        have h400 := O3.2.1
        have F4 : mo_fx h (jh_si h3 mo 547 (nI O.length)) mo ar re_F re_G := mo_fx.si (mo_fx.mono F3 (fun _ _ z => Or.inl z) (fun _ z => Or.inl z)) (Or.inr (Or.inl rfl))
        have loop : ∀ r j h4, j + r = O.length → mo_fx (jh_si h3 mo 547 (nI O.length)) h4 mo ar (fun k _ => k = 544) no_G → (∀ i, i < j → jh_I h4 (ar 544) i = nI (O.getD i 0)) → jw_J g 10 m_M_render jw_T0 100 [some (.inr (.inr (some mo))), some (.inl (nI k)), some (.inl (nI x)), some (.inl (nI j))] [] h4 0 0 Q := by
          intro r
          induction r with
          | zero =>
            intro j h4 hj f4 y4
            have ej : j = O.length := by omega
            subst ej
            have hm4 := mo_fx.ok f4 (mo_si hD3.1)
            have rd4 : ∀ kk, kk ≠ 547 → jh_i h4 mo kk = jh_i h3 mo kk := fun kk z => (mo_fx.rdi f4 (fun z => z)).trans (jh_u_k _ _ _ _ z)
            have z547 : jh_i h4 mo 547 = nI O.length := (mo_fx.rdi f4 (fun z => z)).trans (jh_u_s _ _ _ _)
            refine jw_iload_n rfl rfl ?_
            refine jw_aload_n rfl rfl ?_
            refine jw_gi rfl g_M_116 hm4.1 ((rd4 546 (by decide)).trans O3.1) ?_
            refine jw_icmp_ge 126 rfl rfl (fun _ => ?_) (fun z => absurd (Int32.le_refl _) z)
            refine jw_aload_n rfl rfl ?_
            refine jw_aload_n rfl rfl ?_
            refine jw_gi rfl g_M_25 hm4.1 ((rd4 517 (by decide)).trans s3) ?_
            refine jw_pi rfl p_M_render_28 hm4.1 ?_
            refine jw_aload_n rfl rfl ?_
            refine jw_aload_n rfl rfl ?_
            refine jw_gi rfl g_M_119 (mo_si hm4).1 ((jh_u_k _ _ _ _ (by decide)).trans z547) ?_
            refine js_call (As := [.inl (nI O.length)]) rfl l_M_fine c_M_162 i_M_fine s_M_fine jc_o8 rfl (mo_si hm4).1 rfl (cm_fine hg hm4.1 ?_) (by decide) (Nat.le_of_ble_eq_true rfl) (by omega) (by omega) rfl
            refine jw_ireturn rfl rfl rfl ?_
            refine q3 _ (mo_fx.si (mo_fx.tr F4 f4 (fun _ _ z => Or.inr z) (fun _ z => absurd z id)) (Or.inr (Or.inr rfl))) ⟨(jh_u_k _ _ _ _ (by decide)).trans z547, h400, fun j hj => ⟨y4 j hj, (O3.2.2 j hj).2⟩⟩ (jh_u_s _ _ _ _)
          | succ r ih =>
            intro j h4 hj f4 y4
            have hm4 := mo_fx.ok f4 (mo_si hD3.1)
            have rd4 : ∀ kk, kk ≠ 547 → jh_i h4 mo kk = jh_i h3 mo kk := fun kk z => (mo_fx.rdi f4 (fun z => z)).trans (jh_u_k _ _ _ _ z)
            have oj : jh_I h4 (ar 543) j = nI (O.getD j 0) := (mo_fx.rd hD3.1 f4 24 rfl (fun k z => ⟨by have : k = 544 := z; omega, (544, 0, 400), by decide, by have : k = 544 := z; exact this.symm⟩)).trans (O3.2.2 j (by omega)).1
            have o128 := (O3.2.2 j (by omega)).2
            refine jw_iload_n rfl rfl ?_
            refine jw_aload_n rfl rfl ?_
            refine jw_gi rfl g_M_116 hm4.1 ((rd4 546 (by decide)).trans O3.1) ?_
            refine jw_icmp_ge 126 rfl rfl (fun z => absurd z (fun z => absurd ((nI_leI (by omega) (by omega)).mp z) (by omega))) (fun _ => ?_)
            refine jw_aload_n rfl rfl ?_
            refine jw_gr rfl g_M_110 hm4.1 (mo_r hm4 25 rfl) ?_
            refine jw_iload_n rfl rfl ?_
            refine jw_aload_n rfl rfl ?_
            refine jw_gr rfl g_M_107 hm4.1 (mo_r hm4 24 rfl) ?_
            refine jw_iload_n rfl rfl ?_
            refine js_caldV (j) rfl (mo_a hm4 24 rfl) (by decide) (by rfl) rfl (by omega) (by decide) (oj) ?_
            refine js_cast (j) rfl (mo_a hm4 25 rfl) (by decide) (by rfl) rfl (by omega) (by decide) ?_
            refine js_iinc rfl rfl (nI_1 j) rfl (by decide) rfl ?_
            refine jw_goto 100 rfl rfl ?_
            refine ih (j + 1) _ (by omega) (mo_fx.sI f4 rfl) (fun i hi => ?_)
            by_cases e : i = j
            · subst e; exact (jh_u_s _ _ _ _).trans (nI_n (by omega))
            · exact (jh_u_k _ _ _ _ e).trans (y4 i (by omega))
        refine jw_aload_n rfl rfl ?_
        refine jw_gi rfl g_M_128 hD3.1.1 (e3) ?_
        refine jw_if_eq 90 rfl rfl (fun _ => ?_) (fun z => absurd (rfl) z)
        refine jw_aload_n rfl rfl ?_
        refine jw_aload_n rfl rfl ?_
        refine jw_gi rfl g_M_116 hD3.1.1 (O3.1) ?_
        refine jw_pi rfl p_M_render_119 hD3.1.1 ?_
        refine js_iconst (x := 0) rfl rfl ?_
        refine js_istore_n rfl rfl (by decide) rfl ?_
        exact loop O.length 0 _ (by omega) mo_fx.rf (fun i hi => absurd hi (by omega))
set_option maxHeartbeats 4000000 in
set_option maxRecDepth 100000 in
theorem cm_size {g : jg_G} (hg : (jg_l g).stackTraces = false) {h : jh_H} {mo : Nat} {ar : Nat → Nat} {n : Nat} {xx : Int32} {D : sd_D} {Q : jw_O → jh_H → Prop} (hm : mo_ok h mo ar) (hD : mo_D h ar n D) (hdp : ∀ x, x < n → sd_dp D 60 x) (hn : jh_i h mo 516 = nI n)
    (q1 : (xx < 0 ∨ nI n ≤ xx) → Q (.inl (some (.inl 0))) (mo_rf h mo 1)) (q2 : ∀ x, x < n → xx = nI x → ∀ h', mo_fx h h' mo ar go_F go_G → Q (.inl (some (.inl (nI (sv_len D (sv_of D x)))))) (jh_si h' mo 512 0)) : jw_C g 5 0 0 m_M_size [.inr (.inr (some mo)), .inl xx] h Q := by
  refine jw_intro (ls := [some (.inr (.inr (some mo))), some (.inl xx)]) (by decide) k_M_size rfl (by simp [lo_fit, jv_c]) hg ?_
  have hn60 := hD.1
  refine jw_aload_n rfl rfl ?_
  refine jw_iload_n rfl rfl ?_
  refine js_call (As := [.inl xx]) rfl l_M_no c_M_169 i_M_no s_M_no jc_o8 rfl hm.1 rfl (cm_no hg hm.1 hn hn60 (fun z => ?_) (fun x hx e => ?_)) (by decide) (Nat.le_of_ble_eq_true rfl) (by omega) (by omega) rfl
  · refine jw_if_eq 14 rfl rfl (fun z => absurd z (by decide)) (fun _ => ?_)
    refine jw_aload_n rfl rfl ?_
    refine js_iconst (x := 1) rfl rfl ?_
    refine js_call (As := [.inl 1]) rfl l_M_refuse c_M_158 i_M_refuse s_M_refuse jc_o8 rfl hm.1 rfl (cm_refuse hg hm.1 ?_) (by decide) (Nat.le_of_ble_eq_true rfl) (by omega) (by omega) rfl
    refine jw_ireturn rfl rfl rfl ?_
    exact q1 z
  · subst e
    refine jw_if_eq 14 rfl rfl (fun _ => ?_) (fun z => absurd (rfl) z)
    refine jw_aload_n rfl rfl ?_
    refine js_iconst (x := 0) rfl rfl ?_
    refine jw_iload_n rfl rfl ?_
    refine js_call (As := [.inl (nI 0), .inl (nI x)]) rfl l_M_load c_M_313 i_M_load s_M_load jc_o8 rfl hm.1 rfl (cm_load hg hm hD (by decide) hx (fun h2 f2 v2 => ?_)) (by decide) (Nat.le_of_ble_eq_true rfl) (by omega) (by omega) rfl
    have hm2 := mo_fx.ok f2 hm
    have hD2 := mo_D.rg hm f2 hD
    refine jw_aload_n rfl rfl ?_
    refine jw_aload_n rfl rfl ?_
    refine js_iconst (x := 0) rfl rfl ?_
    refine js_call (As := [.inl (nI 0)]) rfl l_M_lengthOf c_M_307 i_M_lengthOf s_M_lengthOf jc_o8 rfl hm2.1 rfl (cm_lengthOf hg hm2 hD2 hdp (by decide) v2 (fun h3 f3 => ?_)) (by decide) (Nat.le_of_ble_eq_true rfl) (by omega) (by omega) rfl
    refine js_call (As := [.inl (nI (sv_len D (sv_of D x)))]) rfl l_M_fine c_M_162 i_M_fine s_M_fine jc_o8 rfl (mo_fx.ok f3 hm2).1 rfl (cm_fine hg (mo_fx.ok f3 hm2).1 ?_) (by decide) (Nat.le_of_ble_eq_true rfl) (by omega) (by omega) rfl
    refine jw_ireturn rfl rfl rfl ?_
    exact q2 x hx rfl h3 (mo_fx.tr (mo_fx.mono f2 (fun _ _ z => go_F.rg z) (fun _ z => absurd z id)) f3 (fun _ _ z => go_F.rd z) (fun _ z => go_G.sr (Or.inl z)))
/-- how many templates are there -/
def tp_cnt (TP : Nat → Option tp_X) : Nat → Nat
  | 0 => 0
  | k + 1 => if (TP k).isSome then tp_cnt TP k + 1 else tp_cnt TP k
def ct_ans (d ty c r ls th w : Int32) : Int32 := if w = 0 then d else if w = 1 then ty else if w = 2 then c else if w = 3 then r else if w = 4 then ls else if w = 5 then th else -1
set_option maxHeartbeats 4000000 in
set_option maxRecDepth 100000 in
theorem cm_count {g : jg_G} (hg : (jg_l g).stackTraces = false) {h : jh_H} {mo : Nat} {ar t : Nat → Nat} {w : Int32} {TP : Nat → Option tp_X} {Q : jw_O → jh_H → Prop} (hm : mo_ok h mo ar) (hTP : ∀ k, k < 4 → go_T h ar t k (TP k))
    (hq : Q (.inl (some (.inl (ct_ans (jh_i h mo 516) (jh_i h mo 514) (nI (tp_cnt TP 4)) (jh_i h mo 547) (jh_i h mo 518) (jh_i h mo 513) w)))) (jh_si h mo 512 0)) : jw_C g 0 0 0 m_M_count [.inr (.inr (some mo)), .inl w] h Q := by
  refine jw_intro (ls := [some (.inr (.inr (some mo))), some (.inl w), none, none]) (by decide) k_M_count rfl (by simp [lo_fit, jv_c]) hg ?_
  have k_ : ∀ kk, kk ≠ 512 → jh_i (jh_si h mo 512 0) mo kk = jh_i h mo kk := fun kk z => jh_u_k _ _ _ _ z
  have hm1 : mo_ok (jh_si h mo 512 0) mo ar := mo_si hm
  have at32 : jw_J g 0 m_M_count jw_T0 32 [some (.inr (.inr (some mo))), some (.inl w), some (.inl (nI (tp_cnt TP 4))), some (.inl (nI 4))] [] (jh_si h mo 512 0) 0 0 Q := by
    rw [ct_ans] at hq
    refine jw_iload_n rfl rfl ?_
    refine jw_if_ne 43 rfl rfl (fun z0 => ?_) (fun z0 => ?_)
    rotate_left
    · rw [if_pos z0] at hq
      refine jw_aload_n rfl rfl ?_
      refine jw_gi rfl g_M_22 hm1.1 (k_ 516 (by decide)) ?_
      refine jw_goto 101 rfl rfl ?_
      refine jw_ireturn rfl rfl rfl ?_
      exact hq
    rw [if_neg z0] at hq
    refine jw_iload_n rfl rfl ?_
    refine js_iconst (x := 1) rfl rfl ?_
    refine jw_icmp_ne 55 rfl rfl (fun z0 => ?_) (fun z0 => ?_)
    rotate_left
    · rw [if_pos z0] at hq
      refine jw_aload_n rfl rfl ?_
      refine jw_gi rfl g_M_16 hm1.1 (k_ 514 (by decide)) ?_
      refine jw_goto 101 rfl rfl ?_
      refine jw_ireturn rfl rfl rfl ?_
      exact hq
    rw [if_neg z0] at hq
    refine jw_iload_n rfl rfl ?_
    refine js_iconst (x := 2) rfl rfl ?_
    refine jw_icmp_ne 64 rfl rfl (fun z0 => ?_) (fun z0 => ?_)
    rotate_left
    · rw [if_pos z0] at hq
      refine jw_iload_n rfl rfl ?_
      refine jw_goto 101 rfl rfl ?_
      refine jw_ireturn rfl rfl rfl ?_
      exact hq
    rw [if_neg z0] at hq
    refine jw_iload_n rfl rfl ?_
    refine js_iconst (x := 3) rfl rfl ?_
    refine jw_icmp_ne 76 rfl rfl (fun z0 => ?_) (fun z0 => ?_)
    rotate_left
    · rw [if_pos z0] at hq
      refine jw_aload_n rfl rfl ?_
      refine jw_gi rfl g_M_119 hm1.1 (k_ 547 (by decide)) ?_
      refine jw_goto 101 rfl rfl ?_
      refine jw_ireturn rfl rfl rfl ?_
      exact hq
    rw [if_neg z0] at hq
    refine jw_iload_n rfl rfl ?_
    refine js_iconst (x := 4) rfl rfl ?_
    refine jw_icmp_ne 88 rfl rfl (fun z0 => ?_) (fun z0 => ?_)
    rotate_left
    · rw [if_pos z0] at hq
      refine jw_aload_n rfl rfl ?_
      refine jw_gi rfl g_M_28 hm1.1 (k_ 518 (by decide)) ?_
      refine jw_goto 101 rfl rfl ?_
      refine jw_ireturn rfl rfl rfl ?_
      exact hq
    rw [if_neg z0] at hq
    refine jw_iload_n rfl rfl ?_
    refine js_iconst (x := 5) rfl rfl ?_
    refine jw_icmp_ne 100 rfl rfl (fun z0 => ?_) (fun z0 => ?_)
    rotate_left
    · rw [if_pos z0] at hq
      refine jw_aload_n rfl rfl ?_
      refine jw_gi rfl g_M_13 hm1.1 (k_ 513 (by decide)) ?_
      refine jw_goto 101 rfl rfl ?_
      refine jw_ireturn rfl rfl rfl ?_
      exact hq
    rw [if_neg z0] at hq
    refine js_iconst (x := (-1)) rfl rfl ?_
    refine jw_ireturn rfl rfl rfl ?_
    exact hq
  have loop : ∀ r k, k + r = 4 → jw_J g 0 m_M_count jw_T0 9 [some (.inr (.inr (some mo))), some (.inl w), some (.inl (nI (tp_cnt TP k))), some (.inl (nI k))] [] (jh_si h mo 512 0) 0 0 Q := by
    intro r
    induction r with
    | zero =>
      intro k hk
      have ek : k = 4 := by omega
      subst ek
      refine jw_iload_n rfl rfl ?_
      refine js_iconst (x := 4) rfl rfl ?_
      refine jw_icmp_ge 32 rfl rfl (fun _ => ?_) (fun z => absurd (by decide) z)
      exact at32
    | succ r ih =>
      intro k hk
      have ih := ih (k + 1) (by omega)
      rw [tp_cnt] at ih
      have hT := hTP k (by omega)
      refine jw_iload_n rfl rfl ?_
      refine js_iconst (x := 4) rfl rfl ?_
      refine jw_icmp_ge 32 rfl rfl (fun z => absurd z (fun z => absurd ((nI_leI (a := 4) (by omega) (by omega)).mp z) (by omega))) (fun _ => ?_)
      cases hX : TP k with
      | none =>
        rw [hX] at hT ih
        have hT : jh_I (jh_si h mo 512 0) (ar 529) k = 0 := hT
        refine jw_aload_n rfl rfl ?_
        refine jw_gr rfl g_M_65 hm1.1 (mo_r hm1 10 rfl) ?_
        refine jw_iload_n rfl rfl ?_
        refine js_zaldV (k) rfl (mo_a hm1 10 rfl) (by decide) (by rfl) rfl (by omega) (by decide) (hT) ?_
        refine jw_if_eq 26 rfl rfl (fun _ => ?_) (fun z => absurd (rfl) z)
        refine js_iinc rfl rfl (nI_1 k) rfl (by decide) rfl ?_
        refine jw_goto 9 rfl rfl ?_
        exact ih
      | some X =>
        rw [hX] at hT ih
        have hT : jh_I (jh_si h mo 512 0) (ar 529) k = 1 := hT.1
        refine jw_aload_n rfl rfl ?_
        refine jw_gr rfl g_M_65 hm1.1 (mo_r hm1 10 rfl) ?_
        refine jw_iload_n rfl rfl ?_
        refine js_zaldV (k) rfl (mo_a hm1 10 rfl) (by decide) (by rfl) rfl (by omega) (by decide) (hT) ?_
        refine jw_if_eq 26 rfl rfl (fun z => absurd z (by decide)) (fun _ => ?_)
        refine js_iinc rfl rfl (nI_1 _) rfl (by decide) rfl ?_
        refine js_iinc rfl rfl (nI_1 k) rfl (by decide) rfl ?_
        refine jw_goto 9 rfl rfl ?_
        exact ih
  refine jw_aload_n rfl rfl ?_
  refine js_iconst (x := 0) rfl rfl ?_
  refine jw_pi rfl p_M_count_7 hm.1 ?_
  refine js_iconst (x := 0) rfl rfl ?_
  refine js_istore_n rfl rfl (by decide) rfl ?_
  refine js_iconst (x := 0) rfl rfl ?_
  refine js_istore_n rfl rfl (by decide) rfl ?_
  exact loop 4 0 (by omega)

