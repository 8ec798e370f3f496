/-! the model: does a DATA hold another; add, put -/
def sd_re (D : sd_D) : Nat → Nat → Nat → Prop
  | 0, x, y => x = y
  | k + 1, x, y => ∃ z j, sd_re D k x z ∧ 2 ≤ sd_k D z ∧ j < sd_c D z ∧ sd_p D z j = y
def sd_in (D : sd_D) (x y : Nat) : Prop := ∃ k, sd_re D k x y
def ho_c (M : Nat → Bool) : Nat → Nat
  | 0 => 0
  | k + 1 => if M k then ho_c M k else ho_c M k + 1
theorem ho_c_le {M0 M : Nat → Bool} (h : ∀ i, M0 i = true → M i = true) : ∀ n, ho_c M n ≤ ho_c M0 n := by
  intro n
  induction n with
  | zero => exact Nat.le_refl _
  | succ n ih =>
    rw [ho_c, ho_c]
    cases h0 : M0 n with
    | true => rw [h n h0]; exact ih
    | false =>
      cases M n with
      | true => show ho_c M n ≤ ho_c M0 n + 1; omega
      | false => show ho_c M n + 1 ≤ ho_c M0 n + 1; omega
theorem ho_c_lt {M0 M : Nat → Bool} (h : ∀ i, M0 i = true → M i = true) {i : Nat} (h1 : M i = true) (h0 : M0 i = false) : ∀ n, i < n → ho_c M n < ho_c M0 n := by
  intro n
  induction n with
  | zero => intro hi; exact absurd hi (by omega)
  | succ n ih =>
    intro hi
    rw [ho_c, ho_c]
    by_cases e : i = n
    · subst e
      rw [h1, h0]
      have := ho_c_le h i
      show ho_c M i < ho_c M0 i + 1; omega
    · have := ih (by omega)
      cases h0 : M0 n with
      | true => rw [h n h0]; exact this
      | false =>
        cases M n with
        | true => show ho_c M n < ho_c M0 n + 1; omega
        | false => show ho_c M n + 1 < ho_c M0 n + 1; omega
def ho_I (D : sd_D) (n x : Nat) (M0 M : Nat → Bool) (b : Bool) : Prop := (∀ i, M0 i = true → M i = true) ∧ (b = false → ∀ i, i < n → M i = M0 i) ∧ (b = true → ∃ i, i < n ∧ M i = true ∧ M0 i = false) ∧ (∀ i, i < n → M i = true → sd_in D x i) ∧ M x = true
theorem ho_I.up {D : sd_D} {n x p : Nat} {M0 M : Nat → Bool} {b : Bool} (h : ho_I D n x M0 M b) (hp : p < n) (hr : sd_in D x p) : ho_I D n x M0 (va_up M p true) (if M p then b else true) := by
  obtain ⟨h1, h2, h3, h4, h5⟩ := h
  have up : ∀ i, M i = true → va_up M p true i = true := fun i hi => by
    by_cases e : i = p
    · subst e; exact va_up_self _ _ _
    · rw [va_up_ne _ _ e]; exact hi
  refine ⟨fun i hi => up i (h1 i hi), fun hb i hi => ?_, fun hb => ?_, fun i hi hM => ?_, up x h5⟩
  · cases hp2 : M p with
    | true =>
      rw [hp2, if_pos rfl] at hb
      by_cases e : i = p
      · subst e; rw [va_up_self, ← h2 hb i hi, hp2]
      · rw [va_up_ne _ _ e]; exact h2 hb i hi
    | false => rw [hp2] at hb; cases hb
  · cases hp2 : M p with
    | true =>
      rw [hp2, if_pos rfl] at hb
      obtain ⟨i, a1, a2, a3⟩ := h3 hb
      exact ⟨i, a1, up i a2, a3⟩
    | false =>
      refine ⟨p, hp, va_up_self _ _ _, ?_⟩
      cases hp0 : M0 p with
      | false => rfl
      | true => rw [h1 p hp0] at hp2; cases hp2
  · by_cases e : i = p
    · subst e; exact hr
    · rw [va_up_ne _ _ e] at hM; exact h4 i hi hM
def ho_F (k _j : Nat) : Prop := k = 525
set_option maxHeartbeats 4000000 in
set_option maxRecDepth 100000 in
theorem cm_holds {g : jg_G} (hg : (jg_l g).stackTraces = false) {h : jh_H} {mo : Nat} {ar : Nat → Nat} {n x y : Nat} {D : sd_D} {Q : jw_O → jh_H → Prop} (hm : mo_ok h mo ar) (hD : mo_D h ar n D) (hn : jh_i h mo 516 = nI n) (hx : x < n) (hy : y < n)
    (hq : ∀ h', mo_fx h h' mo ar ho_F no_G → ∀ b, (b = true ↔ sd_in D x y) → Q (.inl (some (.inl (sp_b b)))) h') : jw_C g 0 0 0 m_M_holds [.inr (.inr (some mo)), .inl (nI x), .inl (nI y)] h Q := by
  refine jw_intro (ls := [some (.inr (.inr (some mo))), some (.inl (nI x)), some (.inl (nI y)), none, none, none, none]) (by decide) k_M_holds rfl (by simp [lo_fit, jv_c]) hg ?_
  have hn60 := hD.1
  have hin : ∀ k j, ho_F k j → (k < 520 ∨ 524 < k) ∧ ∃ x ∈ mo_T, x.1 = k := fun k j z => ⟨Or.inr (by have : k = 525 := z; omega), (525, 3, 60), by decide, by have : k = 525 := z; exact this.symm⟩
  have st : ∀ h1, mo_fx h h1 mo ar ho_F no_G → mo_ok h1 mo ar ∧ mo_D h1 ar n D ∧ jh_i h1 mo 516 = nI n := fun h1 f1 => ⟨mo_fx.ok f1 hm, mo_D.fx hm f1 hin hD, (mo_fx.rdi f1 (fun z => z)).trans hn⟩
  have wr : ∀ h1 p v, mo_fx h h1 mo ar ho_F no_G → mo_fx h (jh_sI h1 (ar 525) p v) mo ar ho_F no_G := fun h1 p v f1 => mo_fx.sI f1 rfl
  -- the end
  have fin : ∀ h1 M l4 l5 l6, mo_fx h h1 mo ar ho_F no_G → (∀ i, i < n → jh_I h1 (ar 525) i = sp_b (M i)) → (∀ i, i < n → M i = true → sd_in D x i) → M x = true → (∀ i, i < n → M i = true → 2 ≤ sd_k D i → ∀ j, j < sd_c D i → M (sd_p D i j) = true) → jw_J g 0 m_M_holds jw_T0 34 [some (.inr (.inr (some mo))), some (.inl (nI x)), some (.inl (nI y)), some (.inl 0), l4, l5, l6] [] h1 0 0 Q := by
    intro h1 M l4 l5 l6 f1 m1 a1 a2 a3
    have re : ∀ k z, sd_re D k x z → z < n ∧ M z = true := by
      intro k
      induction k with
      | zero => intro z hz; have hz : x = z := hz; subst hz; exact ⟨hx, a2⟩
      | succ k ih =>
        intro z hz
        obtain ⟨w, j, r1, r2, r3, r4⟩ := hz
        have := ih w r1
        refine ⟨?_, ?_⟩
        · rw [← r4]; exact (((hD.2 w this.1).2.2.2.2.2.1 r2).2 j r3).2
        · rw [← r4]; exact a3 w this.1 this.2 r2 j r3
    refine jw_iload_n rfl rfl ?_
    refine jw_if_eq 141 rfl rfl (fun _ => ?_) (fun z => absurd (rfl) z)
    refine jw_aload_n rfl rfl ?_
    refine jw_gr rfl g_M_52 (st h1 f1).1.1 (mo_r (st h1 f1).1 6 rfl) ?_
    refine jw_iload_n rfl rfl ?_
    refine js_zaldV (y) rfl (mo_a (st h1 f1).1 6 rfl) (by decide) (by rfl) rfl (by omega) (by decide) (m1 y hy) ?_
    refine jw_ireturn rfl rfl rfl ?_
    exact hq h1 f1 (M y) ⟨fun z => a1 y hy z, fun ⟨k, z⟩ => (re k y z).2⟩
  -- the rounds
  have rounds : ∀ c M0 h0 l4 l5 l6, ho_c M0 n ≤ c → mo_fx h h0 mo ar ho_F no_G → (∀ i, i < n → jh_I h0 (ar 525) i = sp_b (M0 i)) → (∀ i, i < n → M0 i = true → sd_in D x i) → M0 x = true → jw_J g 0 m_M_holds jw_T0 34 [some (.inr (.inr (some mo))), some (.inl (nI x)), some (.inl (nI y)), some (.inl 1), l4, l5, l6] [] h0 0 0 Q := by
    intro c
    induction c with
    | zero =>
      intro M0 h0 l4 l5 l6 hc f0 m0 a1 a2
      sorry
    | succ c ihc =>
      sorry
  sorry

