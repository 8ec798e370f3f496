/-! the model: rendering goes on -/
def go_S (h0 h : jh_H) (mo : Nat) (ar : Nat → Nat) (n : Nat) (D : sd_D) (m : Nat) (Fr : Nat → fr_T) (cn : Nat) (C : Nat → sv_T) (O : List Nat) (sn : Nat) : Prop := mo_fx h0 h mo ar go_F go_G ∧ un_ok h mo ar m Fr ∧ cx_ok h mo ar n D cn C ∧ ou_ok h mo ar O ∧ jh_i h mo 517 = nI sn ∧ sn ≤ 600 ∧ jh_i h mo 550 = 0
theorem tp_mono {X : tp_X} (h : tp_ok X) : ∀ r j, j + 1 + r ≤ X.2.1 → tg_b (X.2.2.1 j) < tp_at X.2.2.1 (j + 1 + r) := by
  intro r
  induction r with
  | zero =>
    intro j hj
    obtain ⟨a1, a2, a3, a4, -⟩ := tp_tg h (i := j) (by omega)
    show tg_b (X.2.2.1 j) < tg_e (X.2.2.1 j)
    omega
  | succ r ih =>
    intro j hj
    have h1 := ih j (by omega)
    have := tp_tg h (i := j + 1 + r) (by omega)
    show tg_b (X.2.2.1 j) < tg_e (X.2.2.1 (j + 1 + r))
    obtain ⟨a1, a2, a3, a4, -⟩ := this
    omega
theorem tp_stop {X : tp_X} (h : tp_ok X) {i : Nat} (hi : i ≤ X.2.1) : tp_at X.2.2.1 i ≤ rn_stop X i ∧ rn_stop X i ≤ X.1.length := by
  rw [rn_stop]
  by_cases c : i < X.2.1
  · rw [if_pos c]
    obtain ⟨a1, a2, a3, a4, a5, -⟩ := tp_tg h c
    exact ⟨a1, by omega⟩
  · rw [if_neg c]
    refine ⟨?_, Nat.le_refl _⟩
    cases i with
    | zero => exact Nat.zero_le _
    | succ i => exact (tp_tg h (i := i) (by omega)).2.2.2.2.1
theorem sub_snoc (t : Nat → Nat) (p j : Nat) : sp_sub t p (j + 1) = sp_sub t p j ++ [t (p + j)] := by
  rw [sp_sub, sp_sub, List.range_succ, List.map_append]; rfl
set_option maxHeartbeats 4000000 in
set_option maxRecDepth 100000 in
theorem cm_go_pre {g : jg_G} (hg : (jg_l g).stackTraces = false) {h0 h : jh_H} {mo : Nat} {ar t : Nat → Nat} {n k0 k i m cn sn : Nat} {D : sd_D} {TP : Nat → Option tp_X} {X : tp_X} {Fr : Nat → fr_T} {C : Nat → sv_T} {O : List Nat} {Q : jw_O → jh_H → Prop} {l3 l4 l5 : Option jV} (hD0 : go_D h0 mo ar n D TP t) (hS : go_S h0 h mo ar n D m Fr cn C O sn) (hk : k < 4) (hX : TP k = some X) (hhe : fr_here Fr k0 m = k) (hi : i ≤ X.2.1)
    (q1 : 400 < O.length + (rn_text X i).length → ∀ h', mo_fx h0 h' mo ar go_F go_G → jh_i h' mo 550 = 4 → Q (.inl none) h')
    (q2 : O.length + (rn_text X i).length ≤ 400 → ∀ h', go_S h0 h' mo ar n D m Fr cn C (O ++ rn_text X i) sn → jw_J g 9 m_M_go jw_T0 93 [some (.inr (.inr (some mo))), some (.inl (nI k0)), some (.inl (nI (rn_stop X i + k * 200))), some (.inl (nI k)), some (.inl (if i < X.2.1 then nI (k * 50 + i) else -1)), some (.inl (nI (rn_stop X i + k * 200)))] [] h' 0 0 Q) :
    jw_J g 9 m_M_go jw_T0 6 [some (.inr (.inr (some mo))), some (.inl (nI k0)), some (.inl (nI (tp_at X.2.2.1 i + k * 200))), l3, l4, l5] [] h 0 0 Q := by
  obtain ⟨f0, hu, hcx, hO, hsn, hsl, hf0⟩ := id hS
  have hD := go_D.fx hD0 f0 (fun _ _ z => z)
  have hm := hD.1
  obtain ⟨-, htp, hsh, hlen, htg⟩ := gt_of hD hk hX
  have hn50 := htp.2.2
  have hl200 := htp.1
  have hst := tp_stop htp hi
  have htx := hD.2.2.2.1
  subst hhe
  generalize hK : fr_here Fr k0 m = k at *
  generalize hP : tp_at X.2.2.1 i = pos at *
  generalize hE : rn_stop X i = stop at *
  have etext : rn_text X i = sp_sub (tx X) pos (stop - pos) := by rw [rn_text, hP, hE]
  have hge : i < X.2.1 → pos ≤ tg_b (X.2.2.1 i) := fun z => by rw [← hP]; exact (tp_tg htp z).1
  have hlt : ∀ j, j < i → tg_b (X.2.2.1 j) < pos := fun j hj => by
    have := tp_mono htp (i - (j + 1)) j (by omega)
    rw [show j + 1 + (i - (j + 1)) = i by omega, hP] at this; exact this
  have hB : ∀ j, j < X.2.1 → jh_I h (ar 530) (k * 50 + j) = nI (tg_b (X.2.2.1 j) + k * 200) ∧ tg_b (X.2.2.1 j) + k * 200 < 2000 := fun j hj => by
    have h1 := tp_tg htp hj
    obtain ⟨a1, a2, a3, a4, a5, -⟩ := h1
    exact ⟨(ga_of hD hk hX hj).1, by omega⟩
  -- the text before the tag
  have loop : ∀ r j h', j + r = stop - pos → go_S h0 h' mo ar n D m Fr cn C (O ++ sp_sub (tx X) pos j) sn → jw_J g 9 m_M_go jw_T0 56 [some (.inr (.inr (some mo))), some (.inl (nI k0)), some (.inl (nI (pos + j + k * 200))), some (.inl (nI k)), some (.inl (if i < X.2.1 then nI (k * 50 + i) else -1)), some (.inl (nI (stop + k * 200)))] [] h' 0 0 Q := by
    intro r
    induction r with
    | zero =>
      intro j h' hj S'
      have e1 : pos + j = stop := by omega
      have hm' := mo_fx.ok S'.1 hD0.1
      have hl : (sp_sub (tx X) pos j).length = j := sub_len
      have hOl := S'.2.2.2.1.2.1
      rw [List.length_append, hl] at hOl
      rw [etext, show stop - pos = j by omega] at q2
      rw [e1]
      refine jw_iload_n rfl rfl ?_
      refine jw_iload rfl rfl ?_
      refine jw_icmp_ge 85 rfl rfl (fun _ => ?_) (fun z => absurd (Int32.le_refl _) z)
      refine jw_aload_n rfl rfl ?_
      refine jw_gi rfl g_M_128 hm'.1 (S'.2.2.2.2.2.2) ?_
      refine jw_if_eq 93 rfl rfl (fun _ => ?_) (fun z => absurd (rfl) z)
      exact q2 (by rw [hl]; exact hOl) h' S'
    | succ r ih =>
      intro j h' hj S'
      obtain ⟨f1, u1, c1, O1, s1, sl1, e1⟩ := id S'
      have hm' := mo_fx.ok f1 hD0.1
      have hD' := go_D.fx hD0 f1 (fun _ _ z => z)
      have hl : (sp_sub (tx X) pos j).length = j := sub_len
      have hOl := O1.2.1
      rw [List.length_append, hl] at hOl
      have hc := hD'.2.2.2.1 (pos + j + k * 200) (by omega)
      rw [hsh (pos + j) (by omega)] at hc
      refine jw_iload_n rfl rfl ?_
      refine jw_iload rfl rfl ?_
      refine jw_icmp_ge 85 rfl rfl (fun z => absurd z (fun z => absurd ((nI_leI (by omega) (by omega)).mp z) (by omega))) (fun _ => ?_)
      refine jw_aload_n rfl rfl ?_
      refine jw_gi rfl g_M_128 hm'.1 (e1) ?_
      refine jw_if_ne 85 rfl rfl (fun z => absurd (rfl) z) (fun _ => ?_)
      refine jw_aload_n rfl rfl ?_
      refine jw_aload_n rfl rfl ?_
      refine jw_gr rfl g_M_56 hm'.1 (mo_r hm' 7 rfl) ?_
      refine jw_iload_n rfl rfl ?_
      refine js_caldV (pos + j + k * 200) rfl (mo_a hm' 7 rfl) (by decide) (by rfl) rfl (by omega) (by decide) (hc.1) ?_
      refine js_call (As := [.inl (nI (tx X (pos + j)))]) rfl l_M_emit c_M_349 i_M_emit s_M_emit jc_o8 rfl hm'.1 rfl (cm_emit hg hm' O1 hc.2 (fun hfull => ?_) (fun hlt2 h2 f2 y2 => ?_)) (by decide) (Nat.le_of_ble_eq_true rfl) (by omega) (by omega) rfl
      · rw [List.length_append, hl] at hfull
        have q1 := q1 (by rw [etext, show (sp_sub (tx X) pos (stop - pos)).length = stop - pos from sub_len]; omega)
        have e4 : jh_i (jh_si h' mo 550 4) mo 550 = 4 := jh_u_s _ _ _ _
        have F4 : mo_fx h0 (jh_si h' mo 550 4) mo ar go_F go_G := mo_fx.si f1 (by unfold go_G; decide)
        have q1 := q1 _ F4 e4
        refine js_iinc rfl rfl ((nI_1 _).trans (congrArg nI (show pos + j + k * 200 + 1 = pos + (j + 1) + k * 200 by omega))) rfl (by decide) rfl ?_
        refine jw_goto 56 rfl rfl ?_
        refine jw_iload_n rfl rfl ?_
        refine jw_iload rfl rfl ?_
        by_cases hz : stop + k * 200 ≤ pos + (j + 1) + k * 200
        · refine jw_icmp_ge 85 rfl rfl (fun _ => ?_) (fun z => absurd (nI_le hz (by omega)) z)
          refine jw_aload_n rfl rfl ?_
          refine jw_gi rfl g_M_128 (mo_si hm').1 (e4) ?_
          refine jw_if_eq 93 rfl rfl (fun z => absurd z (by decide)) (fun _ => ?_)
          refine jw_return rfl rfl ?_
          exact q1
        · refine jw_icmp_ge 85 rfl rfl (fun z => absurd z (fun y => absurd ((nI_leI (by omega) (by omega)).mp y) hz)) (fun _ => ?_)
          refine jw_aload_n rfl rfl ?_
          refine jw_gi rfl g_M_128 (mo_si hm').1 (e4) ?_
          refine jw_if_ne 85 rfl rfl (fun _ => ?_) (fun z => absurd z (by decide))
          refine jw_aload_n rfl rfl ?_
          refine jw_gi rfl g_M_128 (mo_si hm').1 (e4) ?_
          refine jw_if_eq 93 rfl rfl (fun z => absurd z (by decide)) (fun _ => ?_)
          refine jw_return rfl rfl ?_
          exact q1
      · have F2 : mo_fx h' h2 mo ar go_F go_G := mo_fx.mono f2 (fun k j z => Or.inl (by have : k = 543 := z; omega)) (fun k z => by have : k = 546 := z; subst this; unfold go_G; decide)
        have emF : ∀ k j, em_F k j → (go_F k j ∧ (k < 552 ∨ k = 556 ∨ k = 557)) ∧ ∀ i, ¬ rg_F i k j := fun k j z => by
          have z : k = 543 := z
          exact ⟨⟨Or.inl (by omega), by omega⟩, fun i y => by have := rg_F_k y; omega⟩
        refine js_iinc rfl rfl ((nI_1 _).trans (congrArg nI (show pos + j + k * 200 + 1 = pos + (j + 1) + k * 200 by omega))) rfl (by decide) rfl ?_
        refine jw_goto 56 rfl rfl ?_
        refine ih (j + 1) h2 (by omega) ⟨go_tr f1 F2, un_ok.fx hm' f2 (fun k j z => (emF k j z).1) (by unfold em_G; decide) u1, cx_ok.fx hm' f2 (fun k j z => ⟨(emF k j z).1.1, fun i _ => (emF k j z).2 _⟩) (by unfold em_G; decide) c1, ?_, (mo_fx.rdi f2 (by unfold em_G; decide)).trans s1, sl1, (mo_fx.rdi f2 (by unfold em_G; decide)).trans e1⟩
        rw [sub_snoc, ← List.append_assoc]
        exact y2
  have loop := loop (stop - pos) 0 h (by omega) (by rw [show sp_sub (tx X) pos 0 = [] from rfl, List.append_nil]; exact hS)
  rw [Nat.add_zero] at loop
  refine jw_aload_n rfl rfl ?_
  refine jw_gi rfl g_M_128 hm.1 (hf0) ?_
  refine jw_if_ne 144 rfl rfl (fun z => absurd (rfl) z) (fun _ => ?_)
  refine jw_aload_n rfl rfl ?_
  refine jw_iload_n rfl rfl ?_
  refine js_call (As := [.inl (nI k0)]) rfl l_M_here c_M_390 i_M_here s_M_here jc_o8 rfl hm.1 rfl (cm_here hg hm hu ?_) (by decide) (Nat.le_of_ble_eq_true rfl) (by omega) (by omega) rfl
  rw [hK]
  refine js_istore_n rfl rfl (by decide) rfl ?_
  refine jw_aload_n rfl rfl ?_
  refine jw_iload_n rfl rfl ?_
  refine jw_iload_n rfl rfl ?_
  refine js_call (As := [.inl (nI k), .inl (nI (pos + k * 200))]) rfl l_M_tagFrom c_M_393 i_M_tagFrom s_M_tagFrom jc_o8 rfl hm.1 rfl (cm_tagFrom (B := fun j => tg_b (X.2.2.1 j) + k * 200) hg hm hk hn50 hi (by omega) htg hB (fun j hj => by have := hlt j hj; show tg_b (X.2.2.1 j) + k * 200 < _; omega) (fun z => by have := hge z; show _ ≤ tg_b (X.2.2.1 i) + k * 200; omega) ?_) (by decide) (Nat.le_of_ble_eq_true rfl) (by omega) (by omega) rfl
  refine js_istore rfl rfl (by decide) rfl ?_
  by_cases c : i < X.2.1
  · rw [if_pos c] at loop ⊢
    have hBi := (hB i c).1
    rw [rn_stop, if_pos c] at hE
    refine jw_iload rfl rfl ?_
    refine jw_if_ge 47 rfl rfl (fun _ => ?_) (fun z => absurd (nI_pos' (by omega)) z)
    refine jw_aload_n rfl rfl ?_
    refine jw_gr rfl g_M_68 hm.1 (mo_r hm 11 rfl) ?_
    refine jw_iload rfl rfl ?_
    refine js_ialdV (k * 50 + i) rfl (mo_a hm 11 rfl) (by decide) (by rfl) rfl (by omega) (by decide) (hBi.trans (congrArg nI (by rw [hE]))) ?_
    refine js_istore rfl rfl (by decide) rfl ?_
    exact loop
  · rw [if_neg c] at loop ⊢
    rw [rn_stop, if_neg c] at hE
    refine jw_iload rfl rfl ?_
    refine jw_if_ge 47 rfl rfl (fun z => absurd z (by decide)) (fun _ => ?_)
    refine jw_iload_n rfl rfl ?_
    refine js_sipush (x := 200) rfl rfl ?_
    refine jw_imulV rfl (pk_mul k 200) ?_
    refine jw_aload_n rfl rfl ?_
    refine jw_gr rfl g_M_59 hm.1 (mo_r hm 8 rfl) ?_
    refine jw_iload_n rfl rfl ?_
    refine js_ialdV (k) rfl (mo_a hm 8 rfl) (by decide) (by rfl) rfl (by omega) (by decide) (hlen) ?_
    refine jw_iaddV rfl ((nI_add (k * 200) X.1.length).trans (congrArg nI (show k * 200 + X.1.length = stop + k * 200 by omega))) ?_
    refine jw_goto 54 rfl rfl ?_
    refine js_istore rfl rfl (by decide) rfl ?_
    exact loop

