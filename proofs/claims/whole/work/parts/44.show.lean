/-! a register's value shown raw -/
abbrev sv_T : Type := Option (Int32 ⊕ List Nat ⊕ Nat)
def sv_raw (D : sd_D) (v : sv_T) : List Nat := match v with
  | none => []
  | some (.inl x) => sd_num x
  | some (.inr (.inl L)) => L
  | some (.inr (.inr x)) => sd_raw D 60 x
/-- register r holds v -/
def mo_R (h : jh_H) (ar : Nat → Nat) (n : Nat) (D : sd_D) (r : Nat) (v : sv_T) : Prop := match v with
  | none => jh_I h (ar 538) r = -1
  | some (.inl x) => jh_I h (ar 538) r = 0 ∧ jh_I h (ar 539) r = x
  | some (.inr (.inl L)) => jh_I h (ar 538) r = 1 ∧ jh_I h (ar 540) r = nI L.length ∧ L.length ≤ 400 ∧ ∀ j, j < L.length → jh_I h (ar 541) (r * 400 + j) = nI (L.getD j 0) ∧ L.getD j 0 < 128
  | some (.inr (.inr x)) => jh_I h (ar 538) r = nI (sd_k D x) ∧ jh_I h (ar 539) r = nI x ∧ x < n ∧ 2 ≤ sd_k D x
theorem rw_more {h : jh_H} {mo : Nat} {ar : Nat → Nat} {X Z : List Nat} (hx : rw_ok h mo ar X) (hl : 401 ≤ X.length) : rw_ok h mo ar (X ++ Z) := by
  have e : min (X ++ Z).length 401 = min X.length 401 := by simp; omega
  refine ⟨by rw [e]; exact hx.1, fun j hj => ?_⟩
  rw [e] at hj
  have hj2 : j < X.length := by omega
  rw [show (X ++ Z).getD j 0 = X.getD j 0 by simp [List.getD, List.getElem?_append_left hj2]]
  exact hx.2 j hj
/-- what is open: lists and their next elements -/
def rs_ok (h : jh_H) (mo : Nat) (ar : Nat → Nat) (d : Nat) (S : Nat → Nat × Nat) : Prop := jh_i h mo 551 = nI d ∧ ∀ k, k < d → jh_I h (ar 556) k = nI (S k).1 ∧ jh_I h (ar 557) k = nI (S k).2
theorem rs_fx {h h' h0 : jh_H} {mo : Nat} {ar : Nat → Nat} (hm : mo_ok h0 mo ar) (hf : mo_fx h h' mo ar rp_F rp_G) {d : Nat} {S : Nat → Nat × Nat} (hs : rs_ok h mo ar d S) : rs_ok h' mo ar d S := by
  refine ⟨by rw [mo_fx.rdi hf (show ¬ rp_G 551 from by unfold rp_G; decide)]; exact hs.1, fun k hk => ?_⟩
  have hin : ∀ k j, rp_F k j → ∃ x ∈ mo_T, x.1 = k := fun k j z => (rd_F_in (j := j) (Or.inl z)).2
  rw [mo_fx.rd hm hf 30 rfl (fun q z => ⟨by rw [show q = 542 from z]; decide, hin q _ z⟩), mo_fx.rd hm hf 31 rfl (fun q z => ⟨by rw [show q = 542 from z]; decide, hin q _ z⟩)]
  exact hs.2 k hk
theorem rs_lt {h : jh_H} {mo : Nat} {ar : Nat → Nat} {d : Nat} {S : Nat → Nat × Nat} (hs : rs_ok h mo ar (d + 1) S) {h' : jh_H} (e1 : jh_i h' mo 551 = nI d) (e2 : jh_I h' = jh_I h) : rs_ok h' mo ar d S := ⟨e1, fun k hk => by rw [e2]; exact hs.2 k (by omega)⟩
def sr_G (k : Nat) : Prop := rd_G k ∨ k = 550
set_option maxHeartbeats 4000000 in
set_option maxRecDepth 100000 in
theorem cm_showRaw {g : jg_G} (hg : (jg_l g).stackTraces = false) {h : jh_H} {mo : Nat} {ar : Nat → Nat} {n r : Nat} {D : sd_D} {v : sv_T} {Q : jw_O → jh_H → Prop} (hm : mo_ok h mo ar) (hD : mo_D h ar n D) (hdp : ∀ x, x < n → sd_dp D 60 x) (hr : r < 18) (hv : mo_R h ar n D r v)
    (hq : ∀ h', mo_fx h h' mo ar rd_F sr_G → rw_ok h' mo ar (sv_raw D v) → jh_i h' mo 550 = (if 400 < (sv_raw D v).length then 4 else jh_i h mo 550) → Q (.inl none) h') : jw_C g 3 0 0 m_M_showRaw [.inr (.inr (some mo)), .inl (nI r)] h Q := by
  refine jw_intro (ls := [some (.inr (.inr (some mo))), some (.inl (nI r)), none, none, none]) (by decide) k_M_showRaw rfl (by simp [lo_fit, jv_c]) hg ?_
  have hn60 := hD.1
  generalize hX : sv_raw D v = X at hq
  have keepD : ∀ h', mo_fx h h' mo ar rd_F rd_G → mo_D h' ar n D := fun h' hf => mo_D.fx hm hf (fun k j z => rd_F_in z) hD
  -- the end
  have at196 : ∀ h1, mo_fx h h1 mo ar rd_F rd_G → rw_ok h1 mo ar X → ∀ a b c, jw_J g 3 m_M_showRaw jw_T0 196 [some (.inr (.inr (some mo))), some (.inl (nI r)), a, b, c] [] h1 0 0 Q := by
    intro h1 hf hx a b c
    have hm1 := mo_fx.ok hf hm
    have hf2 : mo_fx h h1 mo ar rd_F sr_G := mo_fx.mono hf (fun _ _ z => z) (fun _ z => Or.inl z)
    have e550 : jh_i h1 mo 550 = jh_i h mo 550 := mo_fx.rdi hf (by unfold rd_G; decide)
    refine jw_aload_n rfl rfl ?_
    refine jw_gi rfl g_M_113 hm1.1 hx.1 ?_
    refine js_sipush (x := 400) rfl rfl ?_
    refine jw_icmp_le 211 rfl rfl (fun z => ?_) (fun z => ?_)
    · have h9 : min X.length 401 ≤ 400 := (nI_leI (b := 400) (by omega) (by omega)).mp z
      refine jw_return rfl rfl ?_
      exact hq h1 hf2 hx (by rw [if_neg (by omega)]; exact e550)
    · have h1' : ¬ min X.length 401 ≤ 400 := fun y => z ((nI_leI (b := 400) (by omega) (by omega)).mpr y)
      refine jw_aload_n rfl rfl ?_
      refine js_iconst (x := 4) rfl rfl ?_
      refine jw_pi rfl p_M_showRaw_128 hm1.1 ?_
      refine jw_return rfl rfl ?_
      refine hq _ (mo_fx.si (k := 550) hf2 (Or.inr rfl)) ⟨(jh_u_k _ _ _ _ (by decide)).trans hx.1, hx.2⟩ ?_
      rw [if_pos (by omega)]; exact jh_u_s _ _ _ _
  have full : ∀ h1 Y Z, mo_fx h h1 mo ar rd_F rd_G → rw_ok h1 mo ar Y → 401 ≤ Y.length → X = Y ++ Z → ∀ d, jh_i h1 mo 551 = nI d → d ≤ 60 → jw_J g 3 m_M_showRaw jw_T0 93 [some (.inr (.inr (some mo))), some (.inl (nI r)), none, none, none] [] h1 0 0 Q := by
    intro h1 Y Z hf hy hl hXY d hd hd60
    have hm1 := mo_fx.ok hf hm
    have hx : rw_ok h1 mo ar X := by rw [hXY]; exact rw_more hy hl
    refine jw_aload_n rfl rfl ?_
    refine jw_gi rfl g_M_131 hm1.1 hd ?_
    refine jw_if_le 196 rfl rfl (fun _ => at196 h1 hf hx _ _ _) (fun _ => ?_)
    refine jw_aload_n rfl rfl ?_
    refine jw_gi rfl g_M_113 hm1.1 hy.1 ?_
    refine js_sipush (x := 401) rfl rfl ?_
    refine jw_icmp_ge 196 rfl rfl (fun _ => at196 h1 hf hx _ _ _) (fun z => absurd ((nI_leI (a := 401) (by omega) (by omega)).mpr (by omega)) z)
  -- lists: f the depth below, m the elements to come
  have lst : ∀ f x, x < n → sd_k D x = 2 → (∀ j, j < sd_c D x → sd_dp D f (sd_p D x j)) → ∀ m i, i + m = sd_c D x → ∀ d S Y Z h1, d + 1 + f ≤ 60 → mo_fx h h1 mo ar rd_F rd_G → rw_ok h1 mo ar Y → rs_ok h1 mo ar (d + 1) S → S d = (x, i) → X = Y ++ sd_jn (fun j => sd_raw D f (sd_p D x j)) m i ++ Z →
      (∀ h2, mo_fx h h2 mo ar rd_F rd_G → rw_ok h2 mo ar (Y ++ sd_jn (fun j => sd_raw D f (sd_p D x j)) m i) → rs_ok h2 mo ar d S → jw_J g 3 m_M_showRaw jw_T0 93 [some (.inr (.inr (some mo))), some (.inl (nI r)), none, none, none] [] h2 0 0 Q) → jw_J g 3 m_M_showRaw jw_T0 93 [some (.inr (.inr (some mo))), some (.inl (nI r)), none, none, none] [] h1 0 0 Q := by
    intro f
    induction f with
    | zero =>
      intro x hx hk hdx m
      cases m with
      | zero => exact (by
        intro i hi d S Y Z h1 hdf hf hy hs hSd hXY kk
        rw [sd_jn, List.append_nil] at kk hXY
        have hXY : X = Y ++ Z := by rw [hXY]
        rcases Nat.lt_or_ge Y.length 401 with hl | hl
        rotate_left
        · exact full h1 Y Z hf hy hl hXY (d + 1) hs.1 (by omega)
        have hm1 := mo_fx.ok hf hm
        have hD1 := keepD h1 hf
        obtain ⟨d1, d2, d3, d4, d5, d6, d7⟩ := hD1.2 x hx
        have hc10 := (d6 (by omega)).1
        have hs1 := hs.2 d (by omega)
        rw [hSd] at hs1
        refine jw_aload_n rfl rfl ?_
        refine jw_gi rfl g_M_131 hm1.1 hs.1 ?_
        refine jw_if_le 196 rfl rfl (fun z => absurd ((nI_leI (b := 0) (by omega) (by omega)).mp z) (by omega)) (fun _ => ?_)
        refine jw_aload_n rfl rfl ?_
        refine jw_gi rfl g_M_113 hm1.1 hy.1 ?_
        refine js_sipush (x := 401) rfl rfl ?_
        refine jw_icmp_ge 196 rfl rfl (fun z => absurd ((nI_leI (a := 401) (by omega) (by omega)).mp z) (by omega)) (fun _ => ?_)
        refine jw_aload_n rfl rfl ?_
        refine jw_gi rfl g_M_131 hm1.1 hs.1 ?_
        refine js_iconst (x := 1) rfl rfl ?_
        refine jw_isub rfl ?_
        rw [show nI (d + 1) - 1 = nI d from nI_pred d]
        refine js_istore_n rfl rfl (by decide) rfl ?_
        refine jw_aload_n rfl rfl ?_
        refine jw_gr rfl g_M_146 hm1.1 (mo_r hm1 30 rfl) ?_
        refine jw_iload_n rfl rfl ?_
        refine js_iald (d) rfl (mo_a hm1 30 rfl) (by decide) (by rfl)  rfl (by omega) (by decide) ?_
        rw [hs1.1]
        refine js_istore_n rfl rfl (by decide) rfl ?_
        refine jw_aload_n rfl rfl ?_
        refine jw_gr rfl g_M_149 hm1.1 (mo_r hm1 31 rfl) ?_
        refine jw_iload_n rfl rfl ?_
        refine js_iald (d) rfl (mo_a hm1 31 rfl) (by decide) (by rfl)  rfl (by omega) (by decide) ?_
        rw [hs1.2]
        refine js_istore rfl rfl (by decide) rfl ?_
        refine jw_iload rfl rfl ?_
        refine jw_aload_n rfl rfl ?_
        refine jw_gr rfl g_M_39 hm1.1 (mo_r hm1 2 rfl) ?_
        refine jw_iload_n rfl rfl ?_
        refine js_iald (x) rfl (mo_a hm1 2 rfl) (by decide) (by rfl)  rfl (by omega) (by decide) ?_
        rw [d3, d4 (by omega)]
        refine jw_icmp_ne 156 rfl rfl (fun z => absurd (by show nI i = nI (sd_c D x); congr 1) z) (fun _ => ?_)
        refine jw_aload_n rfl rfl ?_
        refine jw_dup rfl rfl ?_
        refine jw_gi rfl g_M_131 hm1.1 hs.1 ?_
        refine js_iconst (x := 1) rfl rfl ?_
        refine jw_isub rfl ?_
        rw [show nI (d + 1) - 1 = nI d from nI_pred d]
        refine jw_pi rfl p_M_showRaw_131 hm1.1 ?_
        refine jw_goto 93 rfl rfl ?_
        refine js_drop 2 rfl (js_drop 3 rfl (js_drop 4 rfl (kk _ (mo_fx.si (k := 551) hf (Or.inr rfl)) ⟨(jh_u_k _ _ _ _ (by decide)).trans hy.1, hy.2⟩ (rs_lt hs (jh_u_s _ _ _ _) rfl)))))
      | succ m => intro i hi; exact absurd (hdx i (by omega)) id
    | succ f ihf =>
      intro x hx hk hdx m
      induction m with
      | zero => exact (by
        intro i hi d S Y Z h1 hdf hf hy hs hSd hXY kk
        rw [sd_jn, List.append_nil] at kk hXY
        have hXY : X = Y ++ Z := by rw [hXY]
        rcases Nat.lt_or_ge Y.length 401 with hl | hl
        rotate_left
        · exact full h1 Y Z hf hy hl hXY (d + 1) hs.1 (by omega)
        have hm1 := mo_fx.ok hf hm
        have hD1 := keepD h1 hf
        obtain ⟨d1, d2, d3, d4, d5, d6, d7⟩ := hD1.2 x hx
        have hc10 := (d6 (by omega)).1
        have hs1 := hs.2 d (by omega)
        rw [hSd] at hs1
        refine jw_aload_n rfl rfl ?_
        refine jw_gi rfl g_M_131 hm1.1 hs.1 ?_
        refine jw_if_le 196 rfl rfl (fun z => absurd ((nI_leI (b := 0) (by omega) (by omega)).mp z) (by omega)) (fun _ => ?_)
        refine jw_aload_n rfl rfl ?_
        refine jw_gi rfl g_M_113 hm1.1 hy.1 ?_
        refine js_sipush (x := 401) rfl rfl ?_
        refine jw_icmp_ge 196 rfl rfl (fun z => absurd ((nI_leI (a := 401) (by omega) (by omega)).mp z) (by omega)) (fun _ => ?_)
        refine jw_aload_n rfl rfl ?_
        refine jw_gi rfl g_M_131 hm1.1 hs.1 ?_
        refine js_iconst (x := 1) rfl rfl ?_
        refine jw_isub rfl ?_
        rw [show nI (d + 1) - 1 = nI d from nI_pred d]
        refine js_istore_n rfl rfl (by decide) rfl ?_
        refine jw_aload_n rfl rfl ?_
        refine jw_gr rfl g_M_146 hm1.1 (mo_r hm1 30 rfl) ?_
        refine jw_iload_n rfl rfl ?_
        refine js_iald (d) rfl (mo_a hm1 30 rfl) (by decide) (by rfl)  rfl (by omega) (by decide) ?_
        rw [hs1.1]
        refine js_istore_n rfl rfl (by decide) rfl ?_
        refine jw_aload_n rfl rfl ?_
        refine jw_gr rfl g_M_149 hm1.1 (mo_r hm1 31 rfl) ?_
        refine jw_iload_n rfl rfl ?_
        refine js_iald (d) rfl (mo_a hm1 31 rfl) (by decide) (by rfl)  rfl (by omega) (by decide) ?_
        rw [hs1.2]
        refine js_istore rfl rfl (by decide) rfl ?_
        refine jw_iload rfl rfl ?_
        refine jw_aload_n rfl rfl ?_
        refine jw_gr rfl g_M_39 hm1.1 (mo_r hm1 2 rfl) ?_
        refine jw_iload_n rfl rfl ?_
        refine js_iald (x) rfl (mo_a hm1 2 rfl) (by decide) (by rfl)  rfl (by omega) (by decide) ?_
        rw [d3, d4 (by omega)]
        refine jw_icmp_ne 156 rfl rfl (fun z => absurd (by show nI i = nI (sd_c D x); congr 1) z) (fun _ => ?_)
        refine jw_aload_n rfl rfl ?_
        refine jw_dup rfl rfl ?_
        refine jw_gi rfl g_M_131 hm1.1 hs.1 ?_
        refine js_iconst (x := 1) rfl rfl ?_
        refine jw_isub rfl ?_
        rw [show nI (d + 1) - 1 = nI d from nI_pred d]
        refine jw_pi rfl p_M_showRaw_131 hm1.1 ?_
        refine jw_goto 93 rfl rfl ?_
        refine js_drop 2 rfl (js_drop 3 rfl (js_drop 4 rfl (kk _ (mo_fx.si (k := 551) hf (Or.inr rfl)) ⟨(jh_u_k _ _ _ _ (by decide)).trans hy.1, hy.2⟩ (rs_lt hs (jh_u_s _ _ _ _) rfl)))))
      | succ m ihm =>
        intro i hi d S Y Z h1 hdf hf hy hs hSd hXY kk
        rcases Nat.lt_or_ge Y.length 401 with hl | hl
        rotate_left
        · exact full h1 Y _ hf hy hl (by rw [hXY, List.append_assoc]) (d + 1) hs.1 (by omega)
        have hm1 := mo_fx.ok hf hm
        have hD1 := keepD h1 hf
        obtain ⟨d1, d2, d3, d4, d5, d6, d7⟩ := hD1.2 x hx
        have hc10 := (d6 (by omega)).1
        have hpart := (d6 (by omega)).2 i (by omega)
        have hs1 := hs.2 d (by omega)
        rw [hSd] at hs1
        have e0 : min Y.length 401 = Y.length := by omega
        refine jw_aload_n rfl rfl ?_
        refine jw_gi rfl g_M_131 hm1.1 hs.1 ?_
        refine jw_if_le 196 rfl rfl (fun z => absurd ((nI_leI (b := 0) (by omega) (by omega)).mp z) (by omega)) (fun _ => ?_)
        refine jw_aload_n rfl rfl ?_
        refine jw_gi rfl g_M_113 hm1.1 hy.1 ?_
        refine js_sipush (x := 401) rfl rfl ?_
        refine jw_icmp_ge 196 rfl rfl (fun z => absurd ((nI_leI (a := 401) (by omega) (by omega)).mp z) (by omega)) (fun _ => ?_)
        refine jw_aload_n rfl rfl ?_
        refine jw_gi rfl g_M_131 hm1.1 hs.1 ?_
        refine js_iconst (x := 1) rfl rfl ?_
        refine jw_isub rfl ?_
        rw [show nI (d + 1) - 1 = nI d from nI_pred d]
        refine js_istore_n rfl rfl (by decide) rfl ?_
        refine jw_aload_n rfl rfl ?_
        refine jw_gr rfl g_M_146 hm1.1 (mo_r hm1 30 rfl) ?_
        refine jw_iload_n rfl rfl ?_
        refine js_iald (d) rfl (mo_a hm1 30 rfl) (by decide) (by rfl)  rfl (by omega) (by decide) ?_
        rw [hs1.1]
        refine js_istore_n rfl rfl (by decide) rfl ?_
        refine jw_aload_n rfl rfl ?_
        refine jw_gr rfl g_M_149 hm1.1 (mo_r hm1 31 rfl) ?_
        refine jw_iload_n rfl rfl ?_
        refine js_iald (d) rfl (mo_a hm1 31 rfl) (by decide) (by rfl)  rfl (by omega) (by decide) ?_
        rw [hs1.2]
        refine js_istore rfl rfl (by decide) rfl ?_
        refine jw_iload rfl rfl ?_
        refine jw_aload_n rfl rfl ?_
        refine jw_gr rfl g_M_39 hm1.1 (mo_r hm1 2 rfl) ?_
        refine jw_iload_n rfl rfl ?_
        refine js_iald (x) rfl (mo_a hm1 2 rfl) (by decide) (by rfl)  rfl (by omega) (by decide) ?_
        rw [d3, d4 (by omega)]
        refine jw_icmp_ne 156 rfl rfl (fun _ => ?_) (fun z => absurd ((nI_eq (by omega) (by omega)).mp z) (by show ¬ i = sd_c D x; omega))
        have behind : ∀ h2, mo_fx h1 h2 mo ar rp_F rp_G → rw_ok h2 mo ar (Y ++ (if 0 < i then [44] else [])) → jw_J g 3 m_M_showRaw jw_T0 167 [some (.inr (.inr (some mo))), some (.inl (nI r)), some (.inl (nI d)), some (.inl (nI x)), some (.inl (nI i))] [] h2 0 0 Q := by
          intro h2 f2 hy2
          have hm2 := mo_fx.ok f2 hm1
          have hs2 := rs_fx hm f2 hs
          have hf2 : mo_fx h h2 mo ar rd_F rd_G := mo_fx.tr hf f2 (fun _ _ z => Or.inl z) (fun _ z => Or.inl z)
          have hD2 := keepD h2 hf2
          have hp2 := (((hD2.2 x hx).2.2.2.2.2.1) (by omega)).2 i (by omega)
          have hs3 := hs2.2 d (by omega)
          rw [hSd] at hs3
          refine jw_aload_n rfl rfl ?_
          refine jw_gr rfl g_M_149 hm2.1 (mo_r hm2 31 rfl) ?_
          refine jw_iload_n rfl rfl ?_
          refine jw_dup2 rfl rfl rfl ?_
          refine js_iald (d) rfl (mo_a hm2 31 rfl) (by decide) (by rfl)  rfl (by omega) (by decide) ?_
          rw [hs3.2]
          refine js_iconst (x := 1) rfl rfl ?_
          refine jw_iadd rfl ?_
          rw [show nI i + 1 = nI (i + 1) from nI_1 i]
          refine js_iast (d) rfl (mo_a hm2 31 rfl) (by decide) (by rfl)  rfl (by omega) (by decide) ?_
          refine jw_aload_n rfl rfl ?_
          refine jw_aload_n rfl rfl ?_
          refine jw_gr rfl g_M_45 (mo_sI hm2).1 (mo_r (mo_sI hm2) 4 rfl) ?_
          refine jw_iload_n rfl rfl ?_
          refine js_bipush (x := 10) rfl rfl ?_
          refine jw_imul rfl ?_
          refine jw_iload rfl rfl ?_
          rw [show nI x * 10 = nI (x * 10) from pk_mul x 10]
          refine jw_iadd rfl ?_
          rw [nI_add]
          refine js_iald (x * 10 + i) rfl (mo_a (mo_sI hm2) 4 rfl) (by decide) (by rfl)  rfl (by omega) (by decide) ?_
          rw [show jh_I (jh_sI h2 (ar 557) d (nI (i + 1))) (ar 523) (x * 10 + i) = nI (sd_p D x i) from (jh_u_a _ _ _ _ (mo_ne hm 4 31 rfl rfl (by decide))).trans hp2.1]
          generalize hh3 : jh_sI h2 (ar 557) d (nI (i + 1)) = h3
          have f3 : mo_fx h h3 mo ar rd_F rd_G := by rw [← hh3]; exact mo_fx.sI hf2 (Or.inr (Or.inr rfl))
          have hm3 := mo_fx.ok f3 hm
          have hD3 := keepD h3 f3
          have hy3 : rw_ok h3 mo ar (Y ++ (if 0 < i then [44] else [])) := by
            rw [← hh3]; exact ⟨hy2.1, fun j hj => by have := hy2.2 j hj; exact ⟨(jh_u_a _ _ _ _ (mo_ne hm 23 31 rfl rfl (by decide))).trans this.1, this.2⟩⟩
          have hs4 : rs_ok h3 mo ar (d + 1) (va_up S d (x, i + 1)) := by
            rw [← hh3]
            refine ⟨hs2.1, fun k hk => ?_⟩
            by_cases z : k = d
            · subst z; rw [va_up_self]; exact ⟨(jh_u_a _ _ _ _ (mo_ne hm 30 31 rfl rfl (by decide))).trans hs3.1, jh_u_s _ _ _ _⟩
            · rw [va_up_ne _ _ z]
              have := hs2.2 k hk
              exact ⟨(jh_u_a _ _ _ _ (mo_ne hm 30 31 rfl rfl (by decide))).trans this.1, (jh_u_k _ _ _ _ z).trans this.2⟩
          -- behind the element
          have next : ∀ h4, mo_fx h h4 mo ar rd_F rd_G → rw_ok h4 mo ar (Y ++ (if 0 < i then [44] else []) ++ sd_raw D (f + 1) (sd_p D x i)) → rs_ok h4 mo ar (d + 1) (va_up S d (x, i + 1)) → jw_J g 3 m_M_showRaw jw_T0 93 [some (.inr (.inr (some mo))), some (.inl (nI r)), none, none, none] [] h4 0 0 Q := by
            intro h4 f4 hy4 hs5
            refine ihm (i + 1) (by omega) d (va_up S d (x, i + 1)) _ Z h4 hdf f4 hy4 hs5 (va_up_self _ _ _) ?_ (fun h5 f5 hy5 hs6 => kk h5 f5 ?_ ⟨hs6.1, fun k hk => ?_⟩)
            · rw [hXY, sd_jn]; simp only [List.append_assoc]
            · rw [sd_jn]; simp only [List.append_assoc] at hy5 ⊢; exact hy5
            · have := hs6.2 k hk
              rw [va_up_ne _ _ (by omega)] at this
              exact this
          have dpy := hdx i (by omega)
          refine js_call (As := [.inl (nI (sd_p D x i))]) rfl l_M_rawData c_M_301 i_M_rawData s_M_rawData jc_o8 rfl hm3.1 rfl (cm_rawData hg hm3 hD3 hp2.2 hy3 hs4.1 (fun _ => by omega) (fun hk2 h4 f4 hy4 => ?_) (fun hk2 => ?_)) (by decide) (Nat.le_of_ble_eq_true rfl) (by omega) (by omega) rfl
          · refine jw_goto 93 rfl rfl ?_
            refine js_drop 2 rfl (js_drop 3 rfl (js_drop 4 rfl (next h4 (mo_fx.tr f3 f4 (fun _ _ z => Or.inl z) (fun _ z => Or.inl z)) ?_ (rs_fx hm f4 hs4))))
            have e : sd_raw D (f + 1) (sd_p D x i) = sd_now D (sd_p D x i) := by
              rw [sd_raw, sd_now]
              by_cases a0 : sd_k D (sd_p D x i) = 0
              · rw [if_pos a0, if_pos a0]
              · rw [if_neg a0, if_neg a0]
                by_cases a1 : sd_k D (sd_p D x i) = 1
                · rw [if_pos a1, if_pos a1]
                · rw [if_neg a1, if_neg a1]
                  have := (hD3.2 (sd_p D x i) hp2.2).2.1
                  rw [if_pos (by omega), if_pos (by omega)]
            rw [e]; exact hy4
          · refine jw_goto 93 rfl rfl ?_
            have eraw : sd_raw D (f + 1) (sd_p D x i) = sd_jn (fun j => sd_raw D f (sd_p D (sd_p D x i) j)) (sd_c D (sd_p D x i)) 0 := by
              rw [sd_raw, if_neg (by omega), if_neg (by omega), if_neg (by omega)]
            refine js_drop 2 rfl (js_drop 3 rfl (js_drop 4 rfl (ihf (sd_p D x i) hp2.2 hk2 (dpy (by omega)) (sd_c D (sd_p D x i)) 0 (by omega) (d + 1) (va_up (va_up S d (x, i + 1)) (d + 1) (sd_p D x i, 0)) (Y ++ (if 0 < i then [44] else [])) (sd_jn (fun j => sd_raw D (f + 1) (sd_p D x j)) m (i + 1) ++ Z) _ (by omega) (mo_fx.si (k := 551) (mo_fx.sI (k := 557) (mo_fx.sI (k := 556) f3 (Or.inr (Or.inl rfl))) (Or.inr (Or.inr rfl))) (Or.inr rfl)) ?_ ?_ (va_up_self _ _ _) ?_ (fun h5 f5 hy5 hs6 => next h5 f5 (by rw [eraw]; exact hy5) ⟨hs6.1, fun k hk => ?_⟩))))
            · exact ⟨(jh_u_k _ _ _ _ (by decide)).trans hy3.1, fun j hj => by have := hy3.2 j hj; exact ⟨(jh_u_a _ _ _ _ (mo_ne hm 23 31 rfl rfl (by decide))).trans ((jh_u_a _ _ _ _ (mo_ne hm 23 30 rfl rfl (by decide))).trans this.1), this.2⟩⟩
            · refine ⟨jh_u_s _ _ _ _, fun k hk => ?_⟩
              by_cases z : k = d + 1
              · subst z; rw [va_up_self]; exact ⟨(jh_u_a _ _ _ _ (mo_ne hm 30 31 rfl rfl (by decide))).trans (jh_u_s _ _ _ _), jh_u_s _ _ _ _⟩
              · rw [va_up_ne _ _ z]
                have := hs4.2 k (by omega)
                exact ⟨(jh_u_a _ _ _ _ (mo_ne hm 30 31 rfl rfl (by decide))).trans ((jh_u_k _ _ _ _ z).trans this.1), (jh_u_k _ _ _ _ z).trans ((jh_u_a _ _ _ _ (mo_ne hm 31 30 rfl rfl (by decide))).trans this.2)⟩
            · rw [hXY, sd_jn, eraw]; simp only [List.append_assoc]
            · have := hs6.2 k hk
              rw [va_up_ne _ _ (by omega)] at this
              exact this
        refine jw_iload rfl rfl ?_
        refine jw_if_le 167 rfl rfl (fun z => ?_) (fun z => ?_)
        · have h0 : i = 0 := by have := (nI_leI (b := 0) (by omega) (by omega)).mp z; omega
          exact behind h1 mo_fx.rf (by rw [if_neg (by omega), List.append_nil]; exact hy)
        · have h0 : 0 < i := Nat.pos_of_ne_zero (fun e => z (by show nI i ≤ 0; rw [e]; decide))
          refine jw_aload_n rfl rfl ?_
          refine js_bipush (x := 44) rfl rfl ?_
          refine js_call (As := [.inl 44]) rfl l_M_rawPut c_M_285 i_M_rawPut s_M_rawPut jc_o8 rfl hm1.1 rfl (cm_rawPut hg hm1 (c := 44) (by decide) hy (fun h2 f2 x2 => ?_)) (by decide) (Nat.le_of_ble_eq_true rfl) (by omega) (by omega) rfl
          exact behind h2 f2 (by rw [if_pos h0]; exact x2)
  have zero : ∀ h1, mo_fx h h1 mo ar rd_F rd_G → rw_ok h1 mo ar X → jh_i h1 mo 551 = nI 0 → ∀ a, jw_J g 3 m_M_showRaw jw_T0 93 [some (.inr (.inr (some mo))), some (.inl (nI r)), a, none, none] [] h1 0 0 Q := by
    intro h1 hf hx hd a
    have hm1 := mo_fx.ok hf hm
    refine jw_aload_n rfl rfl ?_
    refine jw_gi rfl g_M_131 hm1.1 hd ?_
    refine jw_if_le 196 rfl rfl (fun _ => at196 h1 hf hx _ _ _) (fun z => absurd (by decide) z)
  have f0 : mo_fx h (jh_si (jh_si h mo 545 0) mo 551 0) mo ar rd_F rd_G := mo_fx.si (k := 551) (mo_fx.si (k := 545) mo_fx.rf (Or.inl rfl)) (Or.inr rfl)
  have x0 : rw_ok (jh_si (jh_si h mo 545 0) mo 551 0) mo ar [] := ⟨(jh_u_k _ _ _ _ (by decide)).trans (jh_u_s _ _ _ _), fun j hj => absurd hj (by simp)⟩
  have s0 : jh_i (jh_si (jh_si h mo 545 0) mo 551 0) mo 551 = nI 0 := jh_u_s _ _ _ _
  refine jw_aload_n rfl rfl ?_
  refine js_iconst (x := 0) rfl rfl ?_
  refine jw_pi rfl p_M_showRaw_113 hm.1 ?_
  refine jw_aload_n rfl rfl ?_
  refine js_iconst (x := 0) rfl rfl ?_
  refine jw_pi rfl p_M_showRaw_131 (mo_si hm).1 ?_
  generalize hh0 : jh_si (jh_si h mo 545 0) mo 551 0 = h0 at f0 x0 s0
  have eI : jh_I h0 = jh_I h := by rw [← hh0]; rfl
  have hm0 := mo_fx.ok f0 hm
  have rdI : ∀ h1, mo_fx h0 h1 mo ar rp_F rp_G → ∀ (i : Nat) {K t nn j : Nat}, mo_T[i]? = some (K, t, nn) → K ≠ 542 → jh_I h1 (ar K) j = jh_I h (ar K) j := by
    intro h1 hf i K t nn j hi hK
    rw [mo_fx.rd hm hf i hi (fun q z => ⟨fun e => hK (e ▸ z), (rd_F_in (j := j) (Or.inl z)).2⟩), eI]
  have rd551 : ∀ h1, mo_fx h0 h1 mo ar rp_F rp_G → jh_i h1 mo 551 = nI 0 := fun h1 hf => by rw [mo_fx.rdi hf (by unfold rp_G; decide)]; exact s0
  have fr : ∀ h1, mo_fx h0 h1 mo ar rp_F rp_G → mo_fx h h1 mo ar rd_F rd_G := fun h1 hf => mo_fx.tr f0 hf (fun _ _ z => Or.inl z) (fun _ z => Or.inl z)
  -- from 29 on, neither a TEXT nor DATA
  have at73 : ∀ h1 w a, mo_fx h0 h1 mo ar rp_F rp_G → jh_I h (ar 538) r = w → w ≤ 1 → rw_ok h1 mo ar X → jw_J g 3 m_M_showRaw jw_T0 73 [some (.inr (.inr (some mo))), some (.inl (nI r)), a, none, none] [] h1 0 0 Q := by
    intro h1 w a hf hw hw1 hx
    have hm1 := mo_fx.ok hf hm0
    refine jw_aload_n rfl rfl ?_
    refine jw_gr rfl g_M_92 hm1.1 (mo_r hm1 19 rfl) ?_
    refine jw_iload_n rfl rfl ?_
    refine js_iald (r) rfl (mo_a hm1 19 rfl) (by decide) (by rfl)  rfl (by omega) (by decide) ?_
    rw [rdI h1 hf 19 rfl (by decide), hw]
    refine js_iconst (x := 1) rfl rfl ?_
    refine jw_icmp_le 93 rfl rfl (fun _ => zero h1 (fr h1 hf) hx (rd551 h1 hf) a) (fun z => absurd hw1 z)
  have at29 : ∀ h1 w, mo_fx h0 h1 mo ar rp_F rp_G → jh_I h (ar 538) r = w → w ≤ 0 → rw_ok h1 mo ar X → jw_J g 3 m_M_showRaw jw_T0 29 [some (.inr (.inr (some mo))), some (.inl (nI r)), none, none, none] [] h1 0 0 Q := by
    intro h1 w hf hw hw1 hx
    have hm1 := mo_fx.ok hf hm0
    refine jw_aload_n rfl rfl ?_
    refine jw_gr rfl g_M_92 hm1.1 (mo_r hm1 19 rfl) ?_
    refine jw_iload_n rfl rfl ?_
    refine js_iald (r) rfl (mo_a hm1 19 rfl) (by decide) (by rfl)  rfl (by omega) (by decide) ?_
    rw [rdI h1 hf 19 rfl (by decide), hw]
    refine js_iconst (x := 1) rfl rfl ?_
    refine jw_icmp_ne 73 rfl rfl (fun _ => at73 h1 w none hf hw (Int32.le_trans hw1 (by decide)) hx) (fun z => absurd (z ▸ hw1) (by decide))
  refine jw_aload_n rfl rfl ?_
  refine jw_gr rfl g_M_92 hm0.1 (mo_r hm0 19 rfl) ?_
  refine jw_iload_n rfl rfl ?_
  refine js_iald (r) rfl (mo_a hm0 19 rfl) (by decide) (by rfl)  rfl (by omega) (by decide) ?_
  rw [eI]
  rcases v with _ | v | L | x
  · have hw : jh_I h (ar 538) r = -1 := hv
    rw [hw]
    refine jw_if_ne 29 rfl rfl (fun _ => ?_) (fun z => absurd z (by decide))
    exact at29 h0 (-1) mo_fx.rf hw (by decide) (by rw [← hX]; exact x0)
  · obtain ⟨hw, hnum⟩ : jh_I h (ar 538) r = 0 ∧ jh_I h (ar 539) r = v := hv
    rw [hw]
    refine jw_if_ne 29 rfl rfl (fun z => absurd rfl z) (fun _ => ?_)
    refine jw_aload_n rfl rfl ?_
    refine jw_aload_n rfl rfl ?_
    refine jw_gr rfl g_M_95 hm0.1 (mo_r hm0 20 rfl) ?_
    refine jw_iload_n rfl rfl ?_
    refine js_iald (r) rfl (mo_a hm0 20 rfl) (by decide) (by rfl)  rfl (by omega) (by decide) ?_
    rw [eI, hnum]
    refine js_call (As := [.inl v]) rfl l_M_rawNumber c_M_295 i_M_rawNumber s_M_rawNumber jc_o8 rfl hm0.1 rfl (cm_rawNumber hg hm0 x0 (fun h1 f1 x1 => ?_)) (by decide) (Nat.le_of_ble_eq_true rfl) (by omega) (by omega) rfl
    exact at29 h1 0 f1 hw (by decide) (by rw [← hX]; exact x1)
  · obtain ⟨hw, hsz, hL, hch⟩ : jh_I h (ar 538) r = 1 ∧ jh_I h (ar 540) r = nI L.length ∧ L.length ≤ 400 ∧ ∀ j, j < L.length → jh_I h (ar 541) (r * 400 + j) = nI (L.getD j 0) ∧ L.getD j 0 < 128 := hv
    have eX : X = L := hX.symm
    rw [hw]
    refine jw_if_ne 29 rfl rfl (fun _ => ?_) (fun z => absurd z (by decide))
    refine jw_aload_n rfl rfl ?_
    refine jw_gr rfl g_M_92 hm0.1 (mo_r hm0 19 rfl) ?_
    refine jw_iload_n rfl rfl ?_
    refine js_iald (r) rfl (mo_a hm0 19 rfl) (by decide) (by rfl)  rfl (by omega) (by decide) ?_
    rw [eI, hw]
    refine js_iconst (x := 1) rfl rfl ?_
    refine jw_icmp_ne 73 rfl rfl (fun z => absurd rfl z) (fun _ => ?_)
    have loop : ∀ m j h1, j + m = L.length → mo_fx h0 h1 mo ar rp_F rp_G → rw_ok h1 mo ar (L.take j) → jw_J g 3 m_M_showRaw jw_T0 41 [some (.inr (.inr (some mo))), some (.inl (nI r)), some (.inl (nI j)), none, none] [] h1 0 0 Q := by
      intro m
      induction m with
      | zero =>
        intro j h1 hj hf hx
        have hm1 := mo_fx.ok hf hm0
        refine jw_iload_n rfl rfl ?_
        refine jw_aload_n rfl rfl ?_
        refine jw_gr rfl g_M_98 hm1.1 (mo_r hm1 21 rfl) ?_
        refine jw_iload_n rfl rfl ?_
        refine js_iald (r) rfl (mo_a hm1 21 rfl) (by decide) (by rfl)  rfl (by omega) (by decide) ?_
        rw [rdI h1 hf 21 rfl (by decide), hsz]
        refine jw_icmp_ge 73 rfl rfl (fun _ => ?_) (fun z => absurd ((nI_leI (by omega) (by omega)).mpr (by omega)) z)
        exact at73 h1 1 _ hf hw (by decide) (by rw [eX, ← List.take_of_length_le (show L.length ≤ j by omega)]; exact hx)
      | succ m ih =>
        intro j h1 hj hf hx
        have hm1 := mo_fx.ok hf hm0
        have hc := hch j (by omega)
        refine jw_iload_n rfl rfl ?_
        refine jw_aload_n rfl rfl ?_
        refine jw_gr rfl g_M_98 hm1.1 (mo_r hm1 21 rfl) ?_
        refine jw_iload_n rfl rfl ?_
        refine js_iald (r) rfl (mo_a hm1 21 rfl) (by decide) (by rfl)  rfl (by omega) (by decide) ?_
        rw [rdI h1 hf 21 rfl (by decide), hsz]
        refine jw_icmp_ge 73 rfl rfl (fun z => absurd ((nI_leI (by omega) (by omega)).mp z) (by omega)) (fun _ => ?_)
        refine jw_aload_n rfl rfl ?_
        refine jw_aload_n rfl rfl ?_
        refine jw_gr rfl g_M_101 hm1.1 (mo_r hm1 22 rfl) ?_
        refine jw_iload_n rfl rfl ?_
        refine js_sipush (x := 400) rfl rfl ?_
        refine jw_imul rfl ?_
        refine jw_iload_n rfl rfl ?_
        rw [show nI r * 400 = nI (r * 400) from pk_mul r 400]
        refine jw_iadd rfl ?_
        rw [nI_add]
        refine js_cald (r * 400 + j) rfl (mo_a hm1 22 rfl) (by decide) (by rfl)  rfl (by omega) (by decide) ?_
        rw [rdI h1 hf 22 rfl (by decide), hc.1]
        refine js_call (As := [.inl (nI (L.getD j 0))]) rfl l_M_rawPut c_M_285 i_M_rawPut s_M_rawPut jc_o8 rfl hm1.1 rfl (cm_rawPut hg hm1 hc.2 hx (fun h2 f2 x2 => ?_)) (by decide) (Nat.le_of_ble_eq_true rfl) (by omega) (by omega) rfl
        refine js_iinc rfl rfl (nI_1 j) rfl (by decide) rfl ?_
        refine jw_goto 41 rfl rfl ?_
        refine ih (j + 1) h2 (by omega) (mo_fx.tr hf f2 (fun _ _ z => z) (fun _ z => z)) ?_
        rw [List.take_add_one, List.getElem?_eq_getElem (show j < L.length by omega)]
        rw [List.getD_eq_getElem?_getD, List.getElem?_eq_getElem (show j < L.length by omega)] at x2
        exact x2
    refine js_iconst (x := 0) rfl rfl ?_
    refine js_istore_n rfl rfl (by decide) rfl ?_
    exact loop L.length 0 h0 (by omega) mo_fx.rf x0
  · obtain ⟨hw, hnum, hxn, hk2⟩ : jh_I h (ar 538) r = nI (sd_k D x) ∧ jh_I h (ar 539) r = nI x ∧ x < n ∧ 2 ≤ sd_k D x := hv
    have hD0 := keepD h0 f0
    have hk3 := (hD0.2 x hxn).2.1
    have eX : X = sd_raw D 60 x := hX.symm
    rw [hw]
    refine jw_if_ne 29 rfl rfl (fun _ => ?_) (fun z => absurd ((nI_eq (b := 0) (by omega) (by omega)).mp z) (by omega))
    refine jw_aload_n rfl rfl ?_
    refine jw_gr rfl g_M_92 hm0.1 (mo_r hm0 19 rfl) ?_
    refine jw_iload_n rfl rfl ?_
    refine js_iald (r) rfl (mo_a hm0 19 rfl) (by decide) (by rfl)  rfl (by omega) (by decide) ?_
    rw [eI, hw]
    refine js_iconst (x := 1) rfl rfl ?_
    refine jw_icmp_ne 73 rfl rfl (fun _ => ?_) (fun z => absurd ((nI_eq (b := 1) (by omega) (by omega)).mp z) (by omega))
    refine jw_aload_n rfl rfl ?_
    refine jw_gr rfl g_M_92 hm0.1 (mo_r hm0 19 rfl) ?_
    refine jw_iload_n rfl rfl ?_
    refine js_iald (r) rfl (mo_a hm0 19 rfl) (by decide) (by rfl)  rfl (by omega) (by decide) ?_
    rw [eI, hw]
    refine js_iconst (x := 1) rfl rfl ?_
    refine jw_icmp_le 93 rfl rfl (fun z => absurd ((nI_leI (b := 1) (by omega) (by omega)).mp z) (by omega)) (fun _ => ?_)
    refine jw_aload_n rfl rfl ?_
    refine jw_aload_n rfl rfl ?_
    refine jw_gr rfl g_M_95 hm0.1 (mo_r hm0 20 rfl) ?_
    refine jw_iload_n rfl rfl ?_
    refine js_iald (r) rfl (mo_a hm0 20 rfl) (by decide) (by rfl)  rfl (by omega) (by decide) ?_
    rw [eI, hnum]
    refine js_call (As := [.inl (nI x)]) rfl l_M_rawData c_M_301 i_M_rawData s_M_rawData jc_o8 rfl hm0.1 rfl (cm_rawData hg hm0 hD0 hxn x0 s0 (fun _ => by omega) (fun hk h1 f1 x1 => ?_) (fun hk => ?_)) (by decide) (Nat.le_of_ble_eq_true rfl) (by omega) (by omega) rfl
    · refine zero h1 (fr h1 f1) ?_ (rd551 h1 f1) none
      rw [eX, sd_raw, if_neg (by omega), if_neg (by omega), if_pos (by omega)]
      rw [sd_now, if_neg (by omega), if_neg (by omega), if_pos (by omega)] at x1
      exact x1
    · refine lst 59 x hxn hk (hdp x hxn (by omega)) (sd_c D x) 0 (by omega) 0 (fun _ => (x, 0)) [] [] _ (by omega) (mo_fx.si (k := 551) (mo_fx.sI (k := 557) (mo_fx.sI (k := 556) f0 (Or.inr (Or.inl rfl))) (Or.inr (Or.inr rfl))) (Or.inr rfl)) ?_ ?_ rfl ?_ (fun h2 f2 x2 s2 => zero h2 f2 ?_ s2.1 none)
      · exact ⟨(jh_u_k _ _ _ _ (by decide)).trans x0.1, fun j hj => absurd hj (by simp)⟩
      · refine ⟨jh_u_s _ _ _ _, fun k hk => ?_⟩
        have ek : k = 0 := by omega
        subst ek
        exact ⟨(jh_u_a _ _ _ _ (mo_ne hm 30 31 rfl rfl (by decide))).trans (jh_u_s _ _ _ _), jh_u_s _ _ _ _⟩
      · rw [eX, sd_raw, if_neg (by omega), if_neg (by omega), if_neg (by omega), List.append_nil, List.nil_append]
      · rw [eX, sd_raw, if_neg (by omega), if_neg (by omega), if_neg (by omega)]; exact x2

