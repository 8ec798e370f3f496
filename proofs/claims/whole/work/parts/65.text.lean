/-! the model: texts, four characters to a number -/
def pw_1 (ln : Nat → Nat) (k j : Nat) : Nat := if j < k then ln j else 0
def pw (ln : Nat → Nat) (k q : Nat) : Nat := pw_1 ln k (4 * q) + pw_1 ln k (4 * q + 1) * 256 + pw_1 ln k (4 * q + 2) * 65536 + pw_1 ln k (4 * q + 3) * 16777216
theorem pw_1_lt {ln : Nat → Nat} {k : Nat} (h : ∀ i, i < k → ln i < 128) (j : Nat) : pw_1 ln k j < 128 := by
  rw [pw_1]
  by_cases c : j < k
  · rw [if_pos c]; exact h j c
  · rw [if_neg c]; decide
theorem pw_lt {ln : Nat → Nat} {k : Nat} (h : ∀ i, i < k → ln i < 128) (q : Nat) : pw ln k q < 2 ^ 31 := by
  have h0 := pw_1_lt h (4 * q)
  have h1 := pw_1_lt h (4 * q + 1)
  have h2 := pw_1_lt h (4 * q + 2)
  have h3 := pw_1_lt h (4 * q + 3)
  rw [pw]; omega
theorem pw_or {a b : Nat} (r : Nat) (ha : a < 2 ^ r) (h : b * 2 ^ r + a < 2 ^ 32) : nI a ||| nI (b * 2 ^ r) = nI (a + b * 2 ^ r) := by
  apply Int32.toBitVec_inj.mp
  apply BitVec.eq_of_toNat_eq
  show ((nI a).toBitVec ||| (nI (b * 2 ^ r)).toBitVec).toNat = _
  rw [BitVec.toNat_or, pk_tn (by omega), pk_tn (by omega), pk_tn (by omega)]
  have := Nat.shiftLeft_add_eq_or_of_lt ha b
  rw [Nat.shiftLeft_eq] at this
  rw [Nat.or_comm, ← this, Nat.add_comm]
theorem pw_shl {c : Nat} (hc : c < 128) (r : Nat) (hr : r < 4) : nI c <<< (nI (8 * r) &&& 31) = nI (c * 2 ^ (8 * r)) := by
  have h4 : r = 0 ∨ r = 1 ∨ r = 2 ∨ r = 3 := by omega
  rcases h4 with rfl | rfl | rfl | rfl
  · exact pk_shlN _ 0 (by decide) (by omega)
  · exact pk_shlN _ 8 (by decide) (by omega)
  · exact pk_shlN _ 16 (by decide) (by omega)
  · exact pk_shlN _ 24 (by decide) (by omega)
theorem pw_dl {w : Nat} (hw : w < 2 ^ 31) (j : Nat) : mo_dl (nI w) j = nI (w / 2 ^ (8 * (j % 4)) % 256) := by
  have hr : j % 4 < 4 := Nat.mod_lt _ (by decide)
  rw [mo_dl]
  generalize j % 4 = r at *
  have h4 : r = 0 ∨ r = 1 ∨ r = 2 ∨ r = 3 := by omega
  rcases h4 with rfl | rfl | rfl | rfl
  · rw [pk_shrN hw _ 0 (by decide), pk_andN (by omega) 8 (by decide)]
  · rw [pk_shrN hw _ 8 (by decide), pk_andN (by omega) 8 (by decide)]
  · rw [pk_shrN hw _ 16 (by decide), pk_andN (by omega) 8 (by decide)]
  · rw [pk_shrN hw _ 24 (by decide), pk_andN (by omega) 8 (by decide)]
theorem pw_rd {ln : Nat → Nat} {k j : Nat} (h : ∀ i, i < k → ln i < 128) (hj : j < k) : mo_dl (nI (pw ln k (j / 4))) j = nI (ln j) := by
  rw [pw_dl (pw_lt h _)]
  congr 1
  have h0 := pw_1_lt h (4 * (j / 4))
  have h1 := pw_1_lt h (4 * (j / 4) + 1)
  have h2 := pw_1_lt h (4 * (j / 4) + 2)
  have h3 := pw_1_lt h (4 * (j / 4) + 3)
  have hr : j % 4 < 4 := Nat.mod_lt _ (by decide)
  have ej : j = 4 * (j / 4) + j % 4 := by omega
  have e : pw_1 ln k j = ln j := by rw [pw_1, if_pos hj]
  rw [← e, pw]
  generalize j / 4 = q at *
  generalize j % 4 = r at *
  subst ej
  have h4 : r = 0 ∨ r = 1 ∨ r = 2 ∨ r = 3 := by omega
  rcases h4 with rfl | rfl | rfl | rfl
  · show _ / 1 % 256 = pw_1 ln k (4 * q); rw [Nat.div_one]; omega
  · show _ / 256 % 256 = _; omega
  · show _ / 65536 % 256 = _; omega
  · show _ / 16777216 % 256 = _; omega
theorem pw_st {ln : Nat → Nat} {k : Nat} (h : ∀ i, i < k + 1 → ln i < 128) : nI (pw ln k (k / 4)) ||| nI (ln k * 2 ^ (8 * (k % 4))) = nI (pw ln (k + 1) (k / 4)) := by
  have hk : ∀ i, i < k → ln i < 128 := fun i hi => h i (by omega)
  have h0 := pw_1_lt hk (4 * (k / 4))
  have h1 := pw_1_lt hk (4 * (k / 4) + 1)
  have h2 := pw_1_lt hk (4 * (k / 4) + 2)
  have h3 := pw_1_lt hk (4 * (k / 4) + 3)
  have hc := h k (by omega)
  have hr : k % 4 < 4 := Nat.mod_lt _ (by decide)
  have ek : k = 4 * (k / 4) + k % 4 := by omega
  have new : pw_1 ln (k + 1) k = ln k := by rw [pw_1, if_pos (by omega)]
  have old : ∀ j, j < k → pw_1 ln (k + 1) j = pw_1 ln k j := fun j hj => by rw [pw_1, pw_1, if_pos hj, if_pos (by omega)]
  have non : ∀ j, k < j → pw_1 ln (k + 1) j = 0 := fun j hj => by rw [pw_1, if_neg (by omega)]
  have nok : ∀ j, k ≤ j → pw_1 ln k j = 0 := fun j hj => by rw [pw_1, if_neg (by omega)]
  have key : pw ln (k + 1) (k / 4) = pw ln k (k / 4) + ln k * 2 ^ (8 * (k % 4)) ∧ pw ln k (k / 4) < 2 ^ (8 * (k % 4)) ∧ ln k * 2 ^ (8 * (k % 4)) + pw ln k (k / 4) < 2 ^ 32 := by
    rw [pw, pw]
    generalize k / 4 = q at *
    generalize k % 4 = r at *
    have h4 : r = 0 ∨ r = 1 ∨ r = 2 ∨ r = 3 := by omega
    rcases h4 with rfl | rfl | rfl | rfl
    · rw [Nat.add_zero] at ek
      rw [← ek, new, non (k + 1) (by omega), non (k + 2) (by omega), non (k + 3) (by omega), nok k (by omega), nok (k + 1) (by omega), nok (k + 2) (by omega), nok (k + 3) (by omega)]
      refine ⟨?_, ?_, ?_⟩ <;> omega
    · rw [old (4 * q) (by omega), ← ek, new, non (4 * q + 2) (by omega), non (4 * q + 3) (by omega), nok k (by omega), nok (4 * q + 2) (by omega), nok (4 * q + 3) (by omega)]
      refine ⟨?_, ?_, ?_⟩ <;> omega
    · rw [old (4 * q) (by omega), old (4 * q + 1) (by omega), ← ek, new, non (4 * q + 3) (by omega), nok k (by omega), nok (4 * q + 3) (by omega)]
      refine ⟨?_, ?_, ?_⟩ <;> omega
    · rw [old (4 * q) (by omega), old (4 * q + 1) (by omega), old (4 * q + 2) (by omega), ← ek, new, nok k (by omega)]
      refine ⟨?_, ?_, ?_⟩ <;> omega
  rw [key.1]
  exact pw_or _ key.2.1 key.2.2
theorem pw_ne {ln : Nat → Nat} {k q : Nat} (h : k / 4 ≠ q) : pw ln (k + 1) q = pw ln k q := by
  have e : ∀ r, r < 4 → pw_1 ln (k + 1) (4 * q + r) = pw_1 ln k (4 * q + r) := by
    intro r hr
    rw [pw_1, pw_1]
    by_cases c : 4 * q + r < k
    · rw [if_pos c, if_pos (by omega)]
    · rw [if_neg c, if_neg (by omega)]
  rw [pw, pw, e 1 (by decide), e 2 (by decide), e 3 (by decide), show pw_1 ln (k + 1) (4 * q) = pw_1 ln k (4 * q) from e 0 (by decide)]
def tt_F (n k j : Nat) : Prop := k = 522 ∧ n * 50 ≤ j ∧ j < n * 50 + 50
set_option maxHeartbeats 4000000 in
set_option maxRecDepth 100000 in
theorem cm_text {g : jg_G} (hg : (jg_l g).stackTraces = false) {h : jh_H} {mo : Nat} {ar ln : Nat → Nat} {n ty : Nat} {Q : jw_O → jh_H → Prop} (hm : mo_ok h mo ar) (hd : jh_i h mo 516 = nI n) (hn : n ≤ 60) (hty : jh_i h mo 514 = nI ty) (ht2 : ty ≤ 200) (hln : ∀ i, i < ty → jh_I h (ar 519) i = nI (ln i) ∧ ln i < 128)
    (q1 : n = 60 → Q (.inl (some (.inl 0))) (mo_rf h mo 1)) (q2 : n < 60 → ∀ h', mo_fx h h' mo ar (tt_F n) (fun k => k = 514) → jh_i h' mo 514 = 0 → (∀ j, j < ty → mo_dl (jh_I h' (ar 522) (n * 50 + j / 4)) j = nI (ln j)) → Q (.inl (some (.inl (nI n)))) (mo_mk h' mo ar n 1 (nI ty))) : jw_C g 2 0 0 m_M_text [.inr (.inr (some mo))] h Q := by
  refine jw_intro (ls := [some (.inr (.inr (some mo))), none]) (by decide) k_M_text rfl (by simp [lo_fit, jv_c]) hg ?_
  refine jw_aload_n rfl rfl ?_
  refine jw_gi rfl g_M_22 hm.1 (hd) ?_
  refine js_bipush (x := 60) rfl rfl ?_
  refine jw_icmp_ne 15 rfl rfl (fun z => ?_) (fun z => ?_)
  rotate_left
  · have hn60 : n = 60 := (nI_eq (b := 60) (by omega) (by omega)).mp z
    refine jw_aload_n rfl rfl ?_
    refine js_iconst (x := 1) rfl rfl ?_
    refine js_call (As := [.inl 1]) rfl l_M_refuse c_M_158 i_M_refuse s_M_refuse jc_o8 rfl hm.1 rfl (cm_refuse hg hm.1 ?_) (by decide) (Nat.le_of_ble_eq_true rfl) (by omega) (by omega) rfl
    refine jw_ireturn rfl rfl rfl ?_
    exact q1 hn60
  have hn60 : n < 60 := Nat.lt_of_le_of_ne hn (fun e => z (by rw [e]; rfl))
  have q2 := q2 hn60
  have hin : ∀ k j, tt_F n k j → ∃ x ∈ mo_T, x.1 = k := fun k j z => ⟨(522, 1, 3000), by decide, z.1.symm⟩
  -- the characters
  have pack : ∀ r k h1, k + r = ty → mo_fx h h1 mo ar (tt_F n) no_G → (∀ q, q < 50 → jh_I h1 (ar 522) (n * 50 + q) = nI (pw ln k q)) → jw_J g 2 m_M_text jw_T0 46 [some (.inr (.inr (some mo))), some (.inl (nI k))] [] h1 0 0 Q := by
    intro r
    induction r with
    | zero =>
      intro k h1 hk f1 y1
      have ek : k = ty := by omega
      subst ek
      have hm1 := mo_fx.ok f1 hm
      have i1 : ∀ kk, jh_i h1 mo kk = jh_i h mo kk := fun kk => mo_fx.rdi f1 (fun z => z)
      refine jw_iload_n rfl rfl ?_
      refine jw_aload_n rfl rfl ?_
      refine jw_gi rfl g_M_16 hm1.1 ((i1 514).trans hty) ?_
      refine jw_icmp_ge 92 rfl rfl (fun _ => ?_) (fun z => absurd (Int32.le_refl _) z)
      refine jw_aload_n rfl rfl ?_
      refine jw_gi rfl g_M_16 hm1.1 ((i1 514).trans hty) ?_
      refine js_istore_n rfl rfl (by decide) rfl ?_
      refine jw_aload_n rfl rfl ?_
      refine js_iconst (x := 0) rfl rfl ?_
      refine jw_pi rfl p_M_text_16 hm1.1 ?_
      refine jw_aload_n rfl rfl ?_
      refine js_iconst (x := 1) rfl rfl ?_
      refine jw_iload_n rfl rfl ?_
      refine js_call (As := [.inl 1, .inl (nI k)]) rfl l_M_make c_M_165 i_M_make s_M_make jc_o8 rfl (mo_si hm1).1 rfl (cm_make hg hm1 ((jh_u_k _ _ _ _ (by decide)).trans ((i1 516).trans hd)) hn (fun z => absurd z (by omega)) (fun _ => ?_)) (by decide) (Nat.le_of_ble_eq_true rfl) (by omega) (by omega) rfl
      refine jw_ireturn rfl rfl rfl ?_
      refine q2 _ (mo_fx.si (mo_fx.mono f1 (fun _ _ z => z) (fun _ z => absurd z id)) rfl) (jh_u_s _ _ _ _) (fun j hj => ?_)
      have := y1 (j / 4) (by omega)
      rw [show jh_I (jh_si h1 mo 514 0) (ar 522) (n * 50 + j / 4) = nI (pw ln k (j / 4)) from this]
      exact pw_rd (fun i hi => (hln i hi).2) hj
    | succ r ih =>
      intro k h1 hk f1 y1
      have hm1 := mo_fx.ok f1 hm
      have i1 : ∀ kk, jh_i h1 mo kk = jh_i h mo kk := fun kk => mo_fx.rdi f1 (fun z => z)
      have l1 : jh_I h1 (ar 519) k = nI (ln k) := (mo_fx.rd hm f1 0 rfl (fun kk z => ⟨by have := z.1; omega, hin kk _ z⟩)).trans (hln k (by omega)).1
      have yk := y1 (k / 4) (by omega)
      refine jw_iload_n rfl rfl ?_
      refine jw_aload_n rfl rfl ?_
      refine jw_gi rfl g_M_16 hm1.1 ((i1 514).trans hty) ?_
      refine jw_icmp_ge 92 rfl rfl (fun z => absurd z (fun z => absurd ((nI_leI (by omega) (by omega)).mp z) (by omega))) (fun _ => ?_)
      refine jw_aload_n rfl rfl ?_
      refine jw_gr rfl g_M_42 hm1.1 (mo_r hm1 3 rfl) ?_
      refine jw_aload_n rfl rfl ?_
      refine jw_gi rfl g_M_22 hm1.1 ((i1 516).trans hd) ?_
      refine js_bipush (x := 50) rfl rfl ?_
      refine jw_imulV rfl (pk_mul n 50) ?_
      refine jw_iload_n rfl rfl ?_
      refine js_iconst (x := 4) rfl rfl ?_
      refine jw_idivV rfl (by decide) (pk_div (d := 4) (by omega) (by decide) (by decide)) ?_
      refine jw_iaddV rfl (nI_add (n * 50) (k / 4)) ?_
      refine jw_dup2 rfl rfl rfl ?_
      refine js_ialdV (n * 50 + k / 4) rfl (mo_a hm1 3 rfl) (by decide) (by rfl) rfl (by omega) (by decide) (yk) ?_
      refine jw_aload_n rfl rfl ?_
      refine jw_gr rfl g_M_31 hm1.1 (mo_r hm1 0 rfl) ?_
      refine jw_iload_n rfl rfl ?_
      refine js_caldV (k) rfl (mo_a hm1 0 rfl) (by decide) (by rfl) rfl (by omega) (by decide) (l1) ?_
      refine js_bipush (x := 8) rfl rfl ?_
      refine jw_iload_n rfl rfl ?_
      refine js_iconst (x := 4) rfl rfl ?_
      refine jw_iremV rfl (by decide) (pk_rem (d := 4) (by omega) (by decide) (by decide)) ?_
      refine jw_imulV rfl (pk_mul 8 (k % 4)) ?_
      refine jw_ishl rfl ?_
      rw [pw_shl (hln k (by omega)).2 (k % 4) (Nat.mod_lt _ (by decide))]
      refine jw_ior rfl ?_
      rw [pw_st (fun i hi => (hln i (by omega)).2)]
      refine js_iast (n * 50 + k / 4) rfl (mo_a hm1 3 rfl) (by decide) (by rfl) rfl (by omega) (by decide) ?_
      refine js_iinc rfl rfl (nI_1 k) rfl (by decide) rfl ?_
      refine jw_goto 46 rfl rfl ?_
      refine ih (k + 1) _ (by omega) (mo_fx.sI f1 ⟨rfl, by omega, by omega⟩) (fun q hq => ?_)
      by_cases e : q = k / 4
      · subst e; exact jh_u_s _ _ _ _
      · rw [pw_ne (fun z => e z.symm)]
        exact (jh_u_k _ _ _ _ (by omega)).trans (y1 q hq)
  -- first the row is cleared
  have clear : ∀ r k h1, k + r = 50 → mo_fx h h1 mo ar (tt_F n) no_G → (∀ q, q < k → jh_I h1 (ar 522) (n * 50 + q) = 0) → jw_J g 2 m_M_text jw_T0 17 [some (.inr (.inr (some mo))), some (.inl (nI k))] [] h1 0 0 Q := by
    intro r
    induction r with
    | zero =>
      intro k h1 hk f1 y1
      have ek : k = 50 := by omega
      subst ek
      refine jw_iload_n rfl rfl ?_
      refine js_bipush (x := 50) rfl rfl ?_
      refine jw_icmp_ge 44 rfl rfl (fun _ => ?_) (fun z => absurd (by decide) z)
      refine js_iconst (x := 0) rfl rfl ?_
      refine js_istore_n rfl rfl (by decide) rfl ?_
      refine pack ty 0 h1 (by omega) f1 (fun q hq => (y1 q hq).trans ?_)
      rw [pw, pw_1, pw_1, pw_1, pw_1, if_neg (by omega), if_neg (by omega), if_neg (by omega), if_neg (by omega)]; rfl
    | succ r ih =>
      intro k h1 hk f1 y1
      have hm1 := mo_fx.ok f1 hm
      have i1 : ∀ kk, jh_i h1 mo kk = jh_i h mo kk := fun kk => mo_fx.rdi f1 (fun z => z)
      refine jw_iload_n rfl rfl ?_
      refine js_bipush (x := 50) rfl rfl ?_
      refine jw_icmp_ge 44 rfl rfl (fun z => absurd z (fun z => absurd ((nI_leI (a := 50) (by omega) (by omega)).mp z) (by omega))) (fun _ => ?_)
      refine jw_aload_n rfl rfl ?_
      refine jw_gr rfl g_M_42 hm1.1 (mo_r hm1 3 rfl) ?_
      refine jw_aload_n rfl rfl ?_
      refine jw_gi rfl g_M_22 hm1.1 ((i1 516).trans hd) ?_
      refine js_bipush (x := 50) rfl rfl ?_
      refine jw_imulV rfl (pk_mul n 50) ?_
      refine jw_iload_n rfl rfl ?_
      refine jw_iaddV rfl (nI_add (n * 50) k) ?_
      refine js_iconst (x := 0) rfl rfl ?_
      refine js_iast (n * 50 + k) rfl (mo_a hm1 3 rfl) (by decide) (by rfl) rfl (by omega) (by decide) ?_
      refine js_iinc rfl rfl (nI_1 k) rfl (by decide) rfl ?_
      refine jw_goto 17 rfl rfl ?_
      refine ih (k + 1) _ (by omega) (mo_fx.sI f1 ⟨rfl, by omega, by omega⟩) (fun q hq => ?_)
      by_cases e : q = k
      · subst e; exact jh_u_s _ _ _ _
      · exact (jh_u_k _ _ _ _ (by omega)).trans (y1 q (by omega))
  refine js_iconst (x := 0) rfl rfl ?_
  refine js_istore_n rfl rfl (by decide) rfl ?_
  exact clear 50 0 h (by omega) mo_fx.rf (fun q hq => absurd hq (by omega))
/-- the NAME that the characters are, or 0 -/
def ln_nm (ln : Nat → Nat) (ty : Nat) : Int64 := if ty ≤ 8 ∧ ∀ i, i < ty → sp_lt (ln i) = true then nm_c ((List.range ty).map ln) 0 else 0
theorem nm_c_app (L : List Nat) (c : Nat) : ∀ w, nm_c (L ++ [c]) w = nm_c L w * 32 + (nI c).toInt64 - 96 := by
  induction L with
  | nil => intro w; rfl
  | cons a r ih => intro w; exact ih _
set_option maxHeartbeats 4000000 in
set_option maxRecDepth 100000 in
theorem cm_lineName {g : jg_G} (hg : (jg_l g).stackTraces = false) {h : jh_H} {mo : Nat} {ar ln : Nat → Nat} {ty : Nat} {Q : jw_O → jh_H → Prop} (hm : mo_ok h mo ar) (hty : jh_i h mo 514 = nI ty) (ht2 : ty ≤ 200) (hln : ∀ i, i < ty → jh_I h (ar 519) i = nI (ln i) ∧ ln i < 128)
    (hq : Q (.inl (some (.inr (.inl (ln_nm ln ty))))) h) : jw_C g 1 0 0 m_M_lineName [.inr (.inr (some mo))] h Q := by
  refine jw_intro (ls := [some (.inr (.inr (some mo))), none, none, none]) (by decide) k_M_lineName rfl (by simp [lo_fit, jv_c]) hg ?_
  have loop : ∀ r k, k + r = ty → (k = 0 ∨ ty ≤ 8) → (∀ i, i < k → sp_lt (ln i) = true) → jw_J g 1 m_M_lineName jw_T0 4 [some (.inr (.inr (some mo))), some (.inr (.inl (nm_c ((List.range k).map ln) 0))), none, some (.inl (nI k))] [] h 0 0 Q := by
    intro r
    induction r with
    | zero =>
      intro k hk h8 hl
      have ek : k = ty := by omega
      subst ek
      rw [ln_nm, if_pos ⟨by omega, hl⟩] at hq
      refine jw_iload_n rfl rfl ?_
      refine jw_aload_n rfl rfl ?_
      refine jw_gi rfl g_M_16 hm.1 (hty) ?_
      refine jw_icmp_ge 60 rfl rfl (fun _ => ?_) (fun z => absurd (Int32.le_refl _) z)
      refine jw_lload_n rfl rfl ?_
      refine jw_lreturn rfl rfl ?_
      exact hq
    | succ r ih =>
      intro k hk h8 hl
      have hlk := hln k (by omega)
      have no : ¬ (ty ≤ 8 ∧ ∀ i, i < ty → sp_lt (ln i) = true) → jw_J g 1 m_M_lineName jw_T0 34 [some (.inr (.inr (some mo))), some (.inr (.inl (nm_c ((List.range k).map ln) 0))), none, some (.inl (nI k))] [] h 0 0 Q := by
        intro hne
        rw [ln_nm, if_neg hne] at hq
        refine jw_lconst rfl ?_
        refine jw_lreturn rfl rfl ?_
        exact hq
      refine jw_iload_n rfl rfl ?_
      refine jw_aload_n rfl rfl ?_
      refine jw_gi rfl g_M_16 hm.1 (hty) ?_
      refine jw_icmp_ge 60 rfl rfl (fun z => absurd z (fun z => absurd ((nI_leI (by omega) (by omega)).mp z) (by omega))) (fun _ => ?_)
      refine jw_aload_n rfl rfl ?_
      refine jw_aload_n rfl rfl ?_
      refine jw_gr rfl g_M_31 hm.1 (mo_r hm 0 rfl) ?_
      refine jw_iload_n rfl rfl ?_
      refine js_caldV (k) rfl (mo_a hm 0 rfl) (by decide) (by rfl) rfl (by omega) (by decide) (hlk.1) ?_
      refine js_call (As := [.inl (nI (ln k))]) rfl l_M_letter c_M_177 i_M_letter s_M_letter jc_o8 rfl hm.1 rfl (cm_letter hg (by omega) ?_) (by decide) (Nat.le_of_ble_eq_true rfl) (by omega) (by omega) rfl
      cases hlt : sp_lt (ln k) with
      | false =>
        refine jw_if_eq 34 rfl rfl (fun _ => ?_) (fun z => absurd (rfl) z)
        exact no (fun z => by have := z.2 k (by omega); rw [hlt] at this; cases this)
      | true =>
        refine jw_if_eq 34 rfl rfl (fun z => absurd z (by decide)) (fun _ => ?_)
        refine jw_aload_n rfl rfl ?_
        refine jw_gi rfl g_M_16 hm.1 (hty) ?_
        refine js_bipush (x := 8) rfl rfl ?_
        refine jw_icmp_le 36 rfl rfl (fun z => ?_) (fun z => ?_)
        · have h8 : ty ≤ 8 := (nI_leI (b := 8) (by omega) (by omega)).mp z
          refine jw_lload_n rfl rfl ?_
          refine jw_ldc2 rfl q_M_180 ?_
          refine jw_lmul rfl ?_
          refine jw_aload_n rfl rfl ?_
          refine jw_gr rfl g_M_31 hm.1 (mo_r hm 0 rfl) ?_
          refine jw_iload_n rfl rfl ?_
          refine js_caldV (k) rfl (mo_a hm 0 rfl) (by decide) (by rfl) rfl (by omega) (by decide) (hlk.1) ?_
          refine jw_i2l rfl ?_
          refine jw_ladd rfl ?_
          refine jw_ldc2 rfl q_M_182 ?_
          refine jw_lsub rfl ?_
          refine js_lstore_n rfl rfl (by decide) rfl ?_
          refine js_iinc rfl rfl (nI_1 k) rfl (by decide) rfl ?_
          refine jw_goto 4 rfl rfl ?_
          have ih := ih (k + 1) (by omega) (Or.inr h8) (fun i hi => by
            by_cases e : i = k
            · subst e; exact hlt
            · exact hl i (by omega))
          rw [List.range_succ, List.map_append, show [k].map ln = [ln k] from rfl, nm_c_app] at ih
          exact ih
        · exact no (fun y => z (nI_le (b := 8) y.1 (by omega)))
  refine jw_lconst rfl ?_
  refine js_lstore_n rfl rfl (by decide) rfl ?_
  refine js_iconst (x := 0) rfl rfl ?_
  refine js_istore_n rfl rfl (by decide) rfl ?_
  exact loop ty 0 (by omega) (Or.inl rfl) (fun i hi => absurd hi (by omega))

