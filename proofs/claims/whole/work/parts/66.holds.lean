/-! the model: does a DATA hold another; add, put -/
def sd_re (D : sd_D) : Nat → Nat → Nat → Prop
  | 0, x, y => x = y
  | k + 1, x, y => ∃ z j, sd_re D k x z ∧ 2 ≤ sd_k D z ∧ j < sd_c D z ∧ sd_p D z j = y
def sd_in (D : sd_D) (x y : Nat) : Prop := ∃ k, sd_re D k x y
def ho_c (M : Nat → Bool) : Nat → Nat
  | 0 => 0
  | k + 1 => if M k then ho_c M k else ho_c M k + 1
theorem ho_c_le {M0 M : Nat → Bool} (h : ∀ i, M0 i = true → M i = true) : ∀ n, ho_c M n ≤ ho_c M0 n := by
  intro n
  induction n with
  | zero => exact Nat.le_refl _
  | succ n ih =>
    rw [ho_c, ho_c]
    cases h0 : M0 n with
    | true => rw [h n h0]; exact ih
    | false =>
      cases M n with
      | true => show ho_c M n ≤ ho_c M0 n + 1; omega
      | false => show ho_c M n + 1 ≤ ho_c M0 n + 1; omega
theorem ho_c_lt {M0 M : Nat → Bool} (h : ∀ i, M0 i = true → M i = true) {i : Nat} (h1 : M i = true) (h0 : M0 i = false) : ∀ n, i < n → ho_c M n < ho_c M0 n := by
  intro n
  induction n with
  | zero => intro hi; exact absurd hi (by omega)
  | succ n ih =>
    intro hi
    rw [ho_c, ho_c]
    by_cases e : i = n
    · subst e
      rw [h1, h0]
      have := ho_c_le h i
      show ho_c M i < ho_c M0 i + 1; omega
    · have := ih (by omega)
      cases h0 : M0 n with
      | true => rw [h n h0]; exact this
      | false =>
        cases M n with
        | true => show ho_c M n < ho_c M0 n + 1; omega
        | false => show ho_c M n + 1 < ho_c M0 n + 1; omega
def ho_I (D : sd_D) (n x : Nat) (M0 M : Nat → Bool) (b : Bool) : Prop := (∀ i, M0 i = true → M i = true) ∧ (b = false → ∀ i, i < n → M i = M0 i) ∧ (b = true → ∃ i, i < n ∧ M i = true ∧ M0 i = false) ∧ (∀ i, i < n → M i = true → sd_in D x i) ∧ M x = true
theorem ho_I.up {D : sd_D} {n x p : Nat} {M0 M : Nat → Bool} {b : Bool} (h : ho_I D n x M0 M b) (hp : p < n) (hr : sd_in D x p) : ho_I D n x M0 (va_up M p true) (if M p then b else true) := by
  obtain ⟨h1, h2, h3, h4, h5⟩ := h
  have up : ∀ i, M i = true → va_up M p true i = true := fun i hi => by
    by_cases e : i = p
    · subst e; exact va_up_self _ _ _
    · rw [va_up_ne _ _ e]; exact hi
  refine ⟨fun i hi => up i (h1 i hi), fun hb i hi => ?_, fun hb => ?_, fun i hi hM => ?_, up x h5⟩
  · cases hp2 : M p with
    | true =>
      rw [hp2, if_pos rfl] at hb
      by_cases e : i = p
      · subst e; rw [va_up_self, ← h2 hb i hi, hp2]
      · rw [va_up_ne _ _ e]; exact h2 hb i hi
    | false => rw [hp2] at hb; cases hb
  · cases hp2 : M p with
    | true =>
      rw [hp2, if_pos rfl] at hb
      obtain ⟨i, a1, a2, a3⟩ := h3 hb
      exact ⟨i, a1, up i a2, a3⟩
    | false =>
      refine ⟨p, hp, va_up_self _ _ _, ?_⟩
      cases hp0 : M0 p with
      | false => rfl
      | true => rw [h1 p hp0] at hp2; cases hp2
  · by_cases e : i = p
    · subst e; exact hr
    · rw [va_up_ne _ _ e] at hM; exact h4 i hi hM
def ho_F (k _j : Nat) : Prop := k = 525
set_option maxHeartbeats 4000000 in
set_option maxRecDepth 100000 in
theorem cm_holds {g : jg_G} (hg : (jg_l g).stackTraces = false) {h : jh_H} {mo : Nat} {ar : Nat → Nat} {n x y : Nat} {D : sd_D} {Q : jw_O → jh_H → Prop} (hm : mo_ok h mo ar) (hD : mo_D h ar n D) (hn : jh_i h mo 516 = nI n) (hx : x < n) (hy : y < n)
    (hq : ∀ h', mo_fx h h' mo ar ho_F no_G → ∀ b, (b = true ↔ sd_in D x y) → Q (.inl (some (.inl (sp_b b)))) h') : jw_C g 0 0 0 m_M_holds [.inr (.inr (some mo)), .inl (nI x), .inl (nI y)] h Q := by
  refine jw_intro (ls := [some (.inr (.inr (some mo))), some (.inl (nI x)), some (.inl (nI y)), none, none, none, none]) (by decide) k_M_holds rfl (by simp [lo_fit, jv_c]) hg ?_
  have hn60 := hD.1
  have hin : ∀ k j, ho_F k j → (k < 520 ∨ 524 < k) ∧ ∃ x ∈ mo_T, x.1 = k := fun k j z => ⟨Or.inr (by have : k = 525 := z; omega), (525, 3, 60), by decide, by have : k = 525 := z; exact this.symm⟩
  have st : ∀ h1, mo_fx h h1 mo ar ho_F no_G → mo_ok h1 mo ar ∧ mo_D h1 ar n D ∧ jh_i h1 mo 516 = nI n := fun h1 f1 => ⟨mo_fx.ok f1 hm, mo_D.fx hm f1 hin hD, (mo_fx.rdi f1 (fun z => z)).trans hn⟩
  have wr : ∀ h1 p v, mo_fx h h1 mo ar ho_F no_G → mo_fx h (jh_sI h1 (ar 525) p v) mo ar ho_F no_G := fun h1 p v f1 => mo_fx.sI f1 rfl
  -- the end
  have fin : ∀ h1 (M : Nat → Bool) l4 l5 l6, mo_fx h h1 mo ar ho_F no_G → (∀ i, i < n → jh_I h1 (ar 525) i = sp_b (M i)) → (∀ i, i < n → M i = true → sd_in D x i) → M x = true → (∀ i, i < n → M i = true → 2 ≤ sd_k D i → ∀ j, j < sd_c D i → M (sd_p D i j) = true) → jw_J g 0 m_M_holds jw_T0 34 [some (.inr (.inr (some mo))), some (.inl (nI x)), some (.inl (nI y)), some (.inl 0), l4, l5, l6] [] h1 0 0 Q := by
    intro h1 M l4 l5 l6 f1 m1 a1 a2 a3
    have re : ∀ k z, sd_re D k x z → z < n ∧ M z = true := by
      intro k
      induction k with
      | zero => intro z hz; have hz : x = z := hz; subst hz; exact ⟨hx, a2⟩
      | succ k ih =>
        intro z hz
        obtain ⟨w, j, r1, r2, r3, r4⟩ := hz
        have := ih w r1
        refine ⟨?_, ?_⟩
        · rw [← r4]; exact (((hD.2 w this.1).2.2.2.2.2.1 r2).2 j r3).2
        · rw [← r4]; exact a3 w this.1 this.2 r2 j r3
    refine jw_iload_n rfl rfl ?_
    refine jw_if_eq 141 rfl rfl (fun _ => ?_) (fun z => absurd (rfl) z)
    refine jw_aload_n rfl rfl ?_
    refine jw_gr rfl g_M_52 (st h1 f1).1.1 (mo_r (st h1 f1).1 6 rfl) ?_
    refine jw_iload_n rfl rfl ?_
    refine js_zaldV (y) rfl (mo_a (st h1 f1).1 6 rfl) (by decide) (by rfl) rfl (by omega) (by decide) (m1 y hy) ?_
    refine jw_ireturn rfl rfl (by cases M y <;> rfl) ?_
    exact hq h1 f1 (M y) ⟨fun z => a1 y hy z, fun ⟨k, z⟩ => (re k y z).2⟩
  -- the rounds
  have rounds : ∀ c (M0 : Nat → Bool) h0 l4 l5 l6, ho_c M0 n < c → mo_fx h h0 mo ar ho_F no_G → (∀ i, i < n → jh_I h0 (ar 525) i = sp_b (M0 i)) → (∀ i, i < n → M0 i = true → sd_in D x i) → M0 x = true → jw_J g 0 m_M_holds jw_T0 34 [some (.inr (.inr (some mo))), some (.inl (nI x)), some (.inl (nI y)), some (.inl 1), l4, l5, l6] [] h0 0 0 Q := by
    intro c
    induction c with
    | zero => intro M0 h0 l4 l5 l6 hc; exact absurd hc (by omega)
    | succ c ihc =>
      intro M0 h0 l4 l5 l6 hc f0 m0 a1 a2
      have kl : ∀ r k (M : Nat → Bool) b h1 l5 l6, k + r = n → ho_I D n x M0 M b → mo_fx h h1 mo ar ho_F no_G → (∀ i, i < n → jh_I h1 (ar 525) i = sp_b (M i)) → (∀ i, i < k → M0 i = true → 2 ≤ sd_k D i → ∀ j, j < sd_c D i → M (sd_p D i j) = true) → jw_J g 0 m_M_holds jw_T0 43 [some (.inr (.inr (some mo))), some (.inl (nI x)), some (.inl (nI y)), some (.inl (sp_b b)), some (.inl (nI k)), l5, l6] [] h1 0 0 Q := by
        intro r
        induction r with
        | zero =>
          intro k M b h1 l5 l6 hk I f1 m1 d1
          have ek : k = n := by omega
          subst ek
          refine jw_iload rfl rfl ?_
          refine jw_aload_n rfl rfl ?_
          refine jw_gi rfl g_M_22 (st h1 f1).1.1 ((st h1 f1).2.2) ?_
          refine jw_icmp_ge 138 rfl rfl (fun _ => ?_) (fun z => absurd (Int32.le_refl _) z)
          refine jw_goto 34 rfl rfl ?_
          cases b with
          | false =>
            refine fin h1 M _ _ _ f1 m1 I.2.2.2.1 I.2.2.2.2 (fun i hi hM hk2 j hj => d1 i hi ?_ hk2 j hj)
            rw [← I.2.1 rfl i hi]; exact hM
          | true =>
            obtain ⟨i, z1, z2, z3⟩ := I.2.2.1 rfl
            have := ho_c_lt I.1 z2 z3 k z1
            exact ihc M h1 _ _ _ (by omega) f1 m1 I.2.2.2.1 I.2.2.2.2
        | succ r ih =>
          intro k M b h1 l5 l6 hk I f1 m1 d1
          have hkn : k < n := by omega
          have next : ∀ (M' : Nat → Bool) b' h2 l5 l6, ho_I D n x M0 M' b' → mo_fx h h2 mo ar ho_F no_G → (∀ i, i < n → jh_I h2 (ar 525) i = sp_b (M' i)) → (∀ i, i < k + 1 → M0 i = true → 2 ≤ sd_k D i → ∀ j, j < sd_c D i → M' (sd_p D i j) = true) → jw_J g 0 m_M_holds jw_T0 132 [some (.inr (.inr (some mo))), some (.inl (nI x)), some (.inl (nI y)), some (.inl (sp_b b')), some (.inl (nI k)), l5, l6] [] h2 0 0 Q := by
            intro M' b' h2 l5 l6 I2 f2 m2 d2
            refine js_iinc rfl rfl (nI_1 k) rfl (by decide) rfl ?_
            refine jw_goto 43 rfl rfl ?_
            exact ih (k + 1) M' b' h2 _ _ (by omega) I2 f2 m2 d2
          obtain ⟨e1, e2, e3, e4, e5, e6, e7⟩ := (st h1 f1).2.1.2 k hkn
          refine jw_iload rfl rfl ?_
          refine jw_aload_n rfl rfl ?_
          refine jw_gi rfl g_M_22 (st h1 f1).1.1 ((st h1 f1).2.2) ?_
          refine jw_icmp_ge 138 rfl rfl (fun z => absurd z (fun z => absurd ((nI_leI (by omega) (by omega)).mp z) (by omega))) (fun _ => ?_)
          refine jw_aload_n rfl rfl ?_
          refine jw_gr rfl g_M_52 (st h1 f1).1.1 (mo_r (st h1 f1).1 6 rfl) ?_
          refine jw_iload rfl rfl ?_
          refine js_zaldV (k) rfl (mo_a (st h1 f1).1 6 rfl) (by decide) (by rfl) rfl (by omega) (by decide) (m1 k hkn) ?_
          cases hMk : M k with
          | false =>
            refine jw_if_eq 132 rfl rfl (fun _ => ?_) (fun z => absurd (rfl) z)
            refine next M b h1 _ _ I f1 m1 (fun i hi hM => ?_)
            by_cases e : i = k
            · subst e; rw [I.1 i hM] at hMk; cases hMk
            · exact d1 i (by omega) hM
          | true =>
            refine jw_if_eq 132 rfl rfl (fun z => absurd z (by decide)) (fun _ => ?_)
            refine jw_aload_n rfl rfl ?_
            refine jw_gr rfl g_M_35 (st h1 f1).1.1 (mo_r (st h1 f1).1 1 rfl) ?_
            refine jw_iload rfl rfl ?_
            refine js_ialdV (k) rfl (mo_a (st h1 f1).1 1 rfl) (by decide) (by rfl) rfl (by omega) (by decide) (e1) ?_
            refine js_iconst (x := 2) rfl rfl ?_
            by_cases hk2 : 2 ≤ sd_k D k
            rotate_left
            · refine jw_icmp_ge 76 rfl rfl (fun z => absurd z (fun z => absurd ((nI_leI (a := 2) (by omega) (by omega)).mp z) hk2)) (fun _ => ?_)
              refine jw_goto 132 rfl rfl ?_
              refine next M b h1 _ _ I f1 m1 (fun i hi hM => ?_)
              by_cases e : i = k
              · subst e; intro z; exact absurd z hk2
              · exact d1 i (by omega) hM
            have e6 := e6 hk2
            have inner : ∀ r5 i (M : Nat → Bool) b h1 l6, i + r5 = sd_c D k → ho_I D n x M0 M b → mo_fx h h1 mo ar ho_F no_G → (∀ i, i < n → jh_I h1 (ar 525) i = sp_b (M i)) → M k = true → (∀ i, i < k → M0 i = true → 2 ≤ sd_k D i → ∀ j, j < sd_c D i → M (sd_p D i j) = true) → (∀ j, j < i → M (sd_p D k j) = true) → jw_J g 0 m_M_holds jw_T0 79 [some (.inr (.inr (some mo))), some (.inl (nI x)), some (.inl (nI y)), some (.inl (sp_b b)), some (.inl (nI k)), some (.inl (nI i)), l6] [] h1 0 0 Q := by
              intro r5
              induction r5 with
              | zero =>
                intro i M b h1 l6 hi I f1 m1 hMk d1 d2
                have ei : i = sd_c D k := by omega
                subst ei
                obtain ⟨w1, w2, w3, w4, w5, w6, w7⟩ := (st h1 f1).2.1.2 k hkn
                refine jw_iload rfl rfl ?_
                refine jw_aload_n rfl rfl ?_
                refine jw_gr rfl g_M_39 (st h1 f1).1.1 (mo_r (st h1 f1).1 2 rfl) ?_
                refine jw_iload rfl rfl ?_
                refine js_ialdV (k) rfl (mo_a (st h1 f1).1 2 rfl) (by decide) (by rfl) rfl (by omega) (by decide) (w3.trans (w4 (by omega))) ?_
                refine jw_icmp_ge 132 rfl rfl (fun _ => ?_) (fun z => absurd (Int32.le_refl _) z)
                refine next M b h1 _ _ I f1 m1 (fun i hi hM hk3 j hj => ?_)
                by_cases e : i = k
                · subst e; exact d2 j hj
                · exact d1 i (by omega) hM hk3 j hj
              | succ r5 ih5 =>
                intro i M b h1 l6 hi I f1 m1 hMk d1 d2
                obtain ⟨w1, w2, w3, w4, w5, w6, w7⟩ := (st h1 f1).2.1.2 k hkn
                obtain ⟨p1, p2⟩ := (w6 hk2).2 i (by omega)
                have c10 := (w6 hk2).1
                have hre : sd_in D x (sd_p D k i) := by
                  obtain ⟨s, hs⟩ := I.2.2.2.1 k hkn hMk
                  exact ⟨s + 1, k, i, hs, hk2, by omega, rfl⟩
                have I2 := ho_I.up I p2 hre
                generalize hp : sd_p D k i = p at *
                have m2 : ∀ i, i < n → jh_I (jh_sI h1 (ar 525) p 1) (ar 525) i = sp_b (va_up M p true i) := by
                  intro q hq
                  by_cases e : q = p
                  · subst e; rw [va_up_self]; exact jh_u_s _ _ _ _
                  · rw [va_up_ne _ _ e]; exact (jh_u_k _ _ _ _ e).trans (m1 q hq)
                have up : ∀ i, M i = true → va_up M p true i = true := fun i hi => by
                  by_cases e : i = p
                  · subst e; exact va_up_self _ _ _
                  · rw [va_up_ne _ _ e]; exact hi
                have ih5 := fun l6 => ih5 (i + 1) (va_up M p true) (if M p then b else true) (jh_sI h1 (ar 525) p 1) l6 (by omega) I2 (wr h1 p 1 f1) m2 (up k hMk) (fun i hi hM hk3 j hj => up _ (d1 i hi hM hk3 j hj)) (fun j hj => by
                  by_cases e : j = i
                  · subst e; rw [hp]; exact va_up_self _ _ _
                  · exact up _ (d2 j (by omega)))
                refine jw_iload rfl rfl ?_
                refine jw_aload_n rfl rfl ?_
                refine jw_gr rfl g_M_39 (st h1 f1).1.1 (mo_r (st h1 f1).1 2 rfl) ?_
                refine jw_iload rfl rfl ?_
                refine js_ialdV (k) rfl (mo_a (st h1 f1).1 2 rfl) (by decide) (by rfl) rfl (by omega) (by decide) (w3.trans (w4 (by omega))) ?_
                refine jw_icmp_ge 132 rfl rfl (fun z => absurd z (fun z => absurd ((nI_leI (by omega) (by omega)).mp z) (by omega))) (fun _ => ?_)
                refine jw_aload_n rfl rfl ?_
                refine jw_gr rfl g_M_45 (st h1 f1).1.1 (mo_r (st h1 f1).1 4 rfl) ?_
                refine jw_iload rfl rfl ?_
                refine js_bipush (x := 10) rfl rfl ?_
                refine jw_imulV rfl (pk_mul k 10) ?_
                refine jw_iload rfl rfl ?_
                refine jw_iaddV rfl (nI_add (k * 10) i) ?_
                refine js_ialdV (k * 10 + i) rfl (mo_a (st h1 f1).1 4 rfl) (by decide) (by rfl) rfl (by omega) (by decide) (p1) ?_
                refine js_istore rfl rfl (by decide) rfl ?_
                refine jw_aload_n rfl rfl ?_
                refine jw_gr rfl g_M_52 (st h1 f1).1.1 (mo_r (st h1 f1).1 6 rfl) ?_
                refine jw_iload rfl rfl ?_
                refine js_zaldV (p) rfl (mo_a (st h1 f1).1 6 rfl) (by decide) (by rfl) rfl (by omega) (by decide) (m1 p p2) ?_
                cases hMp : M p with
                | true =>
                  rw [hMp] at ih5
                  refine jw_if_ne 118 rfl rfl (fun _ => ?_) (fun z => absurd z (by decide))
                  refine jw_aload_n rfl rfl ?_
                  refine jw_gr rfl g_M_52 (st h1 f1).1.1 (mo_r (st h1 f1).1 6 rfl) ?_
                  refine jw_iload rfl rfl ?_
                  refine js_iconst (x := 1) rfl rfl ?_
                  refine js_zast (p) rfl (mo_a (st h1 f1).1 6 rfl) (by decide) (by rfl) rfl (by omega) (by decide) (by first | exact Or.inl rfl | exact Or.inr rfl) ?_
                  refine js_iinc rfl rfl (nI_1 i) rfl (by decide) rfl ?_
                  refine jw_goto 79 rfl rfl ?_
                  exact ih5 _
                | false =>
                  rw [hMp] at ih5
                  refine jw_if_ne 118 rfl rfl (fun z => absurd (rfl) z) (fun _ => ?_)
                  refine js_iconst (x := 1) rfl rfl ?_
                  refine js_istore_n rfl rfl (by decide) rfl ?_
                  refine jw_aload_n rfl rfl ?_
                  refine jw_gr rfl g_M_52 (st h1 f1).1.1 (mo_r (st h1 f1).1 6 rfl) ?_
                  refine jw_iload rfl rfl ?_
                  refine js_iconst (x := 1) rfl rfl ?_
                  refine js_zast (p) rfl (mo_a (st h1 f1).1 6 rfl) (by decide) (by rfl) rfl (by omega) (by decide) (by first | exact Or.inl rfl | exact Or.inr rfl) ?_
                  refine js_iinc rfl rfl (nI_1 i) rfl (by decide) rfl ?_
                  refine jw_goto 79 rfl rfl ?_
                  exact ih5 _
            refine jw_icmp_ge 76 rfl rfl (fun _ => ?_) (fun z => absurd (nI_le (a := 2) hk2 (by omega)) z)
            refine js_iconst (x := 0) rfl rfl ?_
            refine js_istore rfl rfl (by decide) rfl ?_
            exact inner (sd_c D k) 0 M b h1 _ (by omega) I f1 m1 hMk d1 (fun j hj => absurd hj (by omega))
      refine jw_iload_n rfl rfl ?_
      refine jw_if_eq 141 rfl rfl (fun z => absurd z (by decide)) (fun _ => ?_)
      refine js_iconst (x := 0) rfl rfl ?_
      refine js_istore_n rfl rfl (by decide) rfl ?_
      refine js_iconst (x := 0) rfl rfl ?_
      refine js_istore rfl rfl (by decide) rfl ?_
      exact kl n 0 M0 false h0 _ _ (by omega) ⟨fun _ z => z, fun _ _ _ => rfl, fun z => (by cases z), a1, a2⟩ f0 m0 (fun i hi => absurd hi (by omega))
  -- only x is marked
  have first : ∀ r k h1, k + r = n → mo_fx h h1 mo ar ho_F no_G → (∀ i, i < k → jh_I h1 (ar 525) i = sp_b (decide (i = x))) → jw_J g 0 m_M_holds jw_T0 2 [some (.inr (.inr (some mo))), some (.inl (nI x)), some (.inl (nI y)), some (.inl (nI k)), none, none, none] [] h1 0 0 Q := by
    intro r
    induction r with
    | zero =>
      intro k h1 hk f1 m1
      have ek : k = n := by omega
      subst ek
      refine jw_iload_n rfl rfl ?_
      refine jw_aload_n rfl rfl ?_
      refine jw_gi rfl g_M_22 (st h1 f1).1.1 ((st h1 f1).2.2) ?_
      refine jw_icmp_ge 32 rfl rfl (fun _ => ?_) (fun z => absurd (Int32.le_refl _) z)
      refine js_iconst (x := 1) rfl rfl ?_
      refine js_istore_n rfl rfl (by decide) rfl ?_
      exact rounds (ho_c (fun i => decide (i = x)) k + 1) (fun i => decide (i = x)) h1 _ _ _ (by omega) f1 m1 (fun i _ hi => ⟨0, (of_decide_eq_true hi).symm⟩) (decide_eq_true rfl)
    | succ r ih =>
      intro k h1 hk f1 m1
      have m2 : ∀ v, v = sp_b (decide (k = x)) → ∀ i, i < k + 1 → jh_I (jh_sI h1 (ar 525) k v) (ar 525) i = sp_b (decide (i = x)) := by
        intro v hv i hi
        by_cases e : i = k
        · subst e; exact (jh_u_s _ _ _ _).trans hv
        · exact (jh_u_k _ _ _ _ e).trans (m1 i (by omega))
      refine jw_iload_n rfl rfl ?_
      refine jw_aload_n rfl rfl ?_
      refine jw_gi rfl g_M_22 (st h1 f1).1.1 ((st h1 f1).2.2) ?_
      refine jw_icmp_ge 32 rfl rfl (fun z => absurd z (fun z => absurd ((nI_leI (by omega) (by omega)).mp z) (by omega))) (fun _ => ?_)
      refine jw_aload_n rfl rfl ?_
      refine jw_gr rfl g_M_52 (st h1 f1).1.1 (mo_r (st h1 f1).1 6 rfl) ?_
      refine jw_iload_n rfl rfl ?_
      refine jw_iload_n rfl rfl ?_
      refine jw_iload_n rfl rfl ?_
      by_cases e : k = x
      · refine jw_icmp_ne 24 rfl rfl (fun z => absurd (by rw [e]) z) (fun _ => ?_)
        refine js_iconst (x := 1) rfl rfl ?_
        refine jw_goto 25 rfl rfl ?_
        refine js_zast (k) rfl (mo_a (st h1 f1).1 6 rfl) (by decide) (by rfl) rfl (by omega) (by decide) (by first | exact Or.inl rfl | exact Or.inr rfl) ?_
        refine js_iinc rfl rfl (nI_1 k) rfl (by decide) rfl ?_
        refine jw_goto 2 rfl rfl ?_
        exact ih (k + 1) _ (by omega) (wr h1 k 1 f1) (m2 1 (by rw [decide_eq_true e]; rfl))
      · refine jw_icmp_ne 24 rfl rfl (fun _ => ?_) (fun z => absurd z (fun z => e ((nI_eq (by omega) (by omega)).mp z)))
        refine js_iconst (x := 0) rfl rfl ?_
        refine js_zast (k) rfl (mo_a (st h1 f1).1 6 rfl) (by decide) (by rfl) rfl (by omega) (by decide) (by first | exact Or.inl rfl | exact Or.inr rfl) ?_
        refine js_iinc rfl rfl (nI_1 k) rfl (by decide) rfl ?_
        refine jw_goto 2 rfl rfl ?_
        exact ih (k + 1) _ (by omega) (wr h1 k 0 f1) (m2 0 (by rw [decide_eq_false e]; rfl))
  refine js_iconst (x := 0) rfl rfl ?_
  refine js_istore_n rfl rfl (by decide) rfl ?_
  exact first n 0 h (by omega) mo_fx.rf (fun i hi => absurd hi (by omega))
set_option maxHeartbeats 4000000 in
set_option maxRecDepth 100000 in
theorem cm_add {g : jg_G} (hg : (jg_l g).stackTraces = false) {h : jh_H} {mo : Nat} {ar : Nat → Nat} {n : Nat} {ll xx : Int32} {D : sd_D} {Q : jw_O → jh_H → Prop} (hm : mo_ok h mo ar) (hD : mo_D h ar n D) (hn : jh_i h mo 516 = nI n)
    (q1 : (ll < 0 ∨ nI n ≤ ll) ∨ (xx < 0 ∨ nI n ≤ xx) → Q (.inl (some (.inl 0))) (mo_rf h mo 1))
    (q2 : ∀ l x, l < n → x < n → ll = nI l → xx = nI x → (sd_k D l ≠ 2 ∨ sd_in D x l) → ∀ h', mo_fx h h' mo ar ho_F no_G → Q (.inl (some (.inl 0))) (mo_rf h' mo 2))
    (q3 : ∀ l x, l < n → x < n → ll = nI l → xx = nI x → sd_k D l = 2 → ¬ sd_in D x l → ∀ h', mo_fx h h' mo ar ho_F no_G → (sd_c D l = 10 → Q (.inl (some (.inl 0))) (mo_rf h' mo 3)) ∧ (sd_c D l < 10 → Q (.inl (some (.inl (nI (sd_c D l + 1))))) (jh_si (jh_sI (jh_sI h' (ar 523) (l * 10 + sd_c D l) (nI x)) (ar 521) l (nI (sd_c D l + 1))) mo 512 0))) : jw_C g 1 0 0 m_M_add [.inr (.inr (some mo)), .inl ll, .inl xx] h Q := by
  refine jw_intro (ls := [some (.inr (.inr (some mo))), some (.inl ll), some (.inl xx)]) (by decide) k_M_add rfl (by simp [lo_fit, jv_c]) hg ?_
  have hn60 := hD.1
  have at16 : (ll < 0 ∨ nI n ≤ ll) ∨ (xx < 0 ∨ nI n ≤ xx) → jw_J g 1 m_M_add jw_T0 16 [some (.inr (.inr (some mo))), some (.inl ll), some (.inl xx)] [] h 0 0 Q := by
    intro z
    refine jw_aload_n rfl rfl ?_
    refine js_iconst (x := 1) rfl rfl ?_
    refine js_call (As := [.inl 1]) rfl l_M_refuse c_M_158 i_M_refuse s_M_refuse jc_o8 rfl hm.1 rfl (cm_refuse hg hm.1 ?_) (by decide) (Nat.le_of_ble_eq_true rfl) (by omega) (by omega) rfl
    refine jw_ireturn rfl rfl rfl ?_
    exact q1 z
  refine jw_aload_n rfl rfl ?_
  refine jw_iload_n rfl rfl ?_
  refine js_call (As := [.inl ll]) rfl l_M_no c_M_169 i_M_no s_M_no jc_o8 rfl hm.1 rfl (cm_no hg hm.1 hn hn60 (fun z => ?_) (fun l hl el => ?_)) (by decide) (Nat.le_of_ble_eq_true rfl) (by omega) (by omega) rfl
  · refine jw_if_ne 16 rfl rfl (fun _ => ?_) (fun z => absurd z (by decide))
    exact at16 (Or.inl z)
  refine jw_if_ne 16 rfl rfl (fun z => absurd (rfl) z) (fun _ => ?_)
  refine jw_aload_n rfl rfl ?_
  refine jw_iload_n rfl rfl ?_
  refine js_call (As := [.inl xx]) rfl l_M_no c_M_169 i_M_no s_M_no jc_o8 rfl hm.1 rfl (cm_no hg hm.1 hn hn60 (fun z => ?_) (fun x hx ex => ?_)) (by decide) (Nat.le_of_ble_eq_true rfl) (by omega) (by omega) rfl
  · refine jw_if_eq 22 rfl rfl (fun z => absurd z (by decide)) (fun _ => ?_)
    exact at16 (Or.inr z)
  subst el ex
  have q2 := q2 l x hl hx rfl rfl
  have q3 := q3 l x hl hx rfl rfl
  obtain ⟨e1, e2, e3, e4, e5, e6, e7⟩ := hD.2 l hl
  have at41 : ∀ h1, mo_fx h h1 mo ar ho_F no_G → (sd_k D l ≠ 2 ∨ sd_in D x l) → jw_J g 1 m_M_add jw_T0 41 [some (.inr (.inr (some mo))), some (.inl (nI l)), some (.inl (nI x))] [] h1 0 0 Q := by
    intro h1 f1 z
    refine jw_aload_n rfl rfl ?_
    refine js_iconst (x := 2) rfl rfl ?_
    refine js_call (As := [.inl 2]) rfl l_M_refuse c_M_158 i_M_refuse s_M_refuse jc_o8 rfl (mo_fx.ok f1 hm).1 rfl (cm_refuse hg (mo_fx.ok f1 hm).1 ?_) (by decide) (Nat.le_of_ble_eq_true rfl) (by omega) (by omega) rfl
    refine jw_ireturn rfl rfl rfl ?_
    exact q2 z h1 f1
  refine jw_if_eq 22 rfl rfl (fun _ => ?_) (fun z => absurd (rfl) z)
  refine jw_aload_n rfl rfl ?_
  refine jw_gr rfl g_M_35 hm.1 (mo_r hm 1 rfl) ?_
  refine jw_iload_n rfl rfl ?_
  refine js_ialdV (l) rfl (mo_a hm 1 rfl) (by decide) (by rfl) rfl (by omega) (by decide) (e1) ?_
  refine js_iconst (x := 2) rfl rfl ?_
  by_cases k2 : sd_k D l = 2
  rotate_left
  · refine jw_icmp_ne 41 rfl rfl (fun _ => ?_) (fun z => absurd z (fun z => k2 ((nI_eq (b := 2) (by omega) (by omega)).mp z)))
    exact at41 h mo_fx.rf (Or.inl k2)
  have e6 := e6 (by omega)
  have hin : ∀ k j, ho_F k j → (k < 520 ∨ 524 < k) ∧ ∃ x ∈ mo_T, x.1 = k := fun k j z => ⟨Or.inr (by have : k = 525 := z; omega), (525, 3, 60), by decide, by have : k = 525 := z; exact this.symm⟩
  refine jw_icmp_ne 41 rfl rfl (fun z => absurd (by rw [k2]; rfl) z) (fun _ => ?_)
  refine jw_aload_n rfl rfl ?_
  refine jw_iload_n rfl rfl ?_
  refine jw_iload_n rfl rfl ?_
  refine js_call (As := [.inl (nI x), .inl (nI l)]) rfl l_M_holds c_M_173 i_M_holds s_M_holds jc_o8 rfl hm.1 rfl (cm_holds hg hm hD hn hx hl (fun h1 f1 b hb => ?_)) (by decide) (Nat.le_of_ble_eq_true rfl) (by omega) (by omega) rfl
  cases b with
  | true =>
    refine jw_if_eq 47 rfl rfl (fun z => absurd z (by decide)) (fun _ => ?_)
    exact at41 h1 f1 (Or.inr (hb.mp rfl))
  | false =>
    have q3 := q3 k2 (fun z => by have := hb.mpr z; cases this) h1 f1
    have hm1 := mo_fx.ok f1 hm
    have w3 : jh_I h1 (ar 521) l = nI (sd_c D l) := by
      obtain ⟨w1, w2, w3, w4, -⟩ := (mo_D.fx hm f1 hin hD).2 l hl
      exact w3.trans (w4 (by omega))
    refine jw_if_eq 47 rfl rfl (fun _ => ?_) (fun z => absurd (rfl) z)
    refine jw_aload_n rfl rfl ?_
    refine jw_gr rfl g_M_39 hm1.1 (mo_r hm1 2 rfl) ?_
    refine jw_iload_n rfl rfl ?_
    refine js_ialdV (l) rfl (mo_a hm1 2 rfl) (by decide) (by rfl) rfl (by omega) (by decide) (w3) ?_
    refine js_bipush (x := 10) rfl rfl ?_
    by_cases c10 : sd_c D l = 10
    · refine jw_icmp_ne 64 rfl rfl (fun z => absurd (by rw [c10]; rfl) z) (fun _ => ?_)
      refine jw_aload_n rfl rfl ?_
      refine js_iconst (x := 3) rfl rfl ?_
      refine js_call (As := [.inl 3]) rfl l_M_refuse c_M_158 i_M_refuse s_M_refuse jc_o8 rfl hm1.1 rfl (cm_refuse hg hm1.1 ?_) (by decide) (Nat.le_of_ble_eq_true rfl) (by omega) (by omega) rfl
      refine jw_ireturn rfl rfl rfl ?_
      exact q3.1 c10
    · have c9 : sd_c D l < 10 := by omega
      have v3 : jh_I (jh_sI h1 (ar 523) (l * 10 + sd_c D l) (nI x)) (ar 521) l = nI (sd_c D l) := (mo_rs hm 2 4 rfl rfl (by decide)).trans w3
      refine jw_icmp_ne 64 rfl rfl (fun _ => ?_) (fun z => absurd z (fun z => c10 ((nI_eq (b := 10) (by omega) (by omega)).mp z)))
      refine jw_aload_n rfl rfl ?_
      refine jw_gr rfl g_M_45 hm1.1 (mo_r hm1 4 rfl) ?_
      refine jw_iload_n rfl rfl ?_
      refine js_bipush (x := 10) rfl rfl ?_
      refine jw_imulV rfl (pk_mul l 10) ?_
      refine jw_aload_n rfl rfl ?_
      refine jw_gr rfl g_M_39 hm1.1 (mo_r hm1 2 rfl) ?_
      refine jw_iload_n rfl rfl ?_
      refine js_ialdV (l) rfl (mo_a hm1 2 rfl) (by decide) (by rfl) rfl (by omega) (by decide) (w3) ?_
      refine jw_iaddV rfl (nI_add (l * 10) (sd_c D l)) ?_
      refine jw_iload_n rfl rfl ?_
      refine js_iast (l * 10 + sd_c D l) rfl (mo_a hm1 4 rfl) (by decide) (by rfl) rfl (by omega) (by decide) ?_
      refine jw_aload_n rfl rfl ?_
      refine jw_gr rfl g_M_39 (mo_sI hm1).1 (mo_r (mo_sI hm1) 2 rfl) ?_
      refine jw_iload_n rfl rfl ?_
      refine jw_dup2 rfl rfl rfl ?_
      refine js_ialdV (l) rfl (mo_a (mo_sI hm1) 2 rfl) (by decide) (by rfl) rfl (by omega) (by decide) (v3) ?_
      refine js_iconst (x := 1) rfl rfl ?_
      refine jw_iaddV rfl (nI_1 _) ?_
      refine js_iast (l) rfl (mo_a (mo_sI hm1) 2 rfl) (by decide) (by rfl) rfl (by omega) (by decide) ?_
      refine jw_aload_n rfl rfl ?_
      refine jw_aload_n rfl rfl ?_
      refine jw_gr rfl g_M_39 (mo_sI (mo_sI hm1)).1 (mo_r (mo_sI (mo_sI hm1)) 2 rfl) ?_
      refine jw_iload_n rfl rfl ?_
      refine js_ialdV (l) rfl (mo_a (mo_sI (mo_sI hm1)) 2 rfl) (by decide) (by rfl) rfl (by omega) (by decide) (jh_u_s _ _ _ _) ?_
      refine js_call (As := [.inl (nI (sd_c D l + 1))]) rfl l_M_fine c_M_162 i_M_fine s_M_fine jc_o8 rfl (mo_sI (mo_sI hm1)).1 rfl (cm_fine hg hm1.1 ?_) (by decide) (Nat.le_of_ble_eq_true rfl) (by omega) (by omega) rfl
      refine jw_ireturn rfl rfl rfl ?_
      exact q3.2 c9
set_option maxHeartbeats 4000000 in
set_option maxRecDepth 100000 in
theorem cm_put {g : jg_G} (hg : (jg_l g).stackTraces = false) {h : jh_H} {mo : Nat} {ar ln : Nat → Nat} {n ty : Nat} {mm xx : Int32} {D : sd_D} {Q : jw_O → jh_H → Prop} (hm : mo_ok h mo ar) (hD : mo_D h ar n D) (hn : jh_i h mo 516 = nI n) (hty : jh_i h mo 514 = nI ty) (ht2 : ty ≤ 200) (hln : ∀ i, i < ty → jh_I h (ar 519) i = nI (ln i) ∧ ln i < 128)
    (q1 : (mm < 0 ∨ nI n ≤ mm) ∨ (xx < 0 ∨ nI n ≤ xx) → Q (.inl (some (.inl 0))) (mo_rf h mo 1))
    (q2 : ∀ m x, m < n → x < n → mm = nI m → xx = nI x → (sd_k D m ≠ 3 ∨ sd_in D x m ∨ ln_nm ln ty = 0) → ∀ h', mo_fx h h' mo ar ho_F no_G → Q (.inl (some (.inl 0))) (mo_rf h' mo 2))
    (q3 : ∀ m x, m < n → x < n → mm = nI m → xx = nI x → sd_k D m = 3 → ¬ sd_in D x m → ln_nm ln ty ≠ 0 → ∀ h', mo_fx h h' mo ar ho_F no_G →
      ((∀ i, i < sd_c D m → sd_n D m i ≠ ln_nm ln ty) → (sd_c D m = 10 → Q (.inl (some (.inl 0))) (mo_rf h' mo 3)) ∧ (sd_c D m < 10 → Q (.inl (some (.inl (nI (sd_c D m + 1))))) (jh_si (jh_sI (jh_sG (jh_sI (jh_si h' mo 514 0) (ar 521) m (nI (sd_c D m + 1))) (ar 524) (m * 10 + sd_c D m) (ln_nm ln ty)) (ar 523) (m * 10 + sd_c D m) (nI x)) mo 512 0)))
      ∧ ∀ i, i < sd_c D m → sd_n D m i = ln_nm ln ty → (∀ j, j < i → sd_n D m j ≠ ln_nm ln ty) → Q (.inl (some (.inl (nI (sd_c D m))))) (jh_si (jh_sI (jh_si h' mo 514 0) (ar 523) (m * 10 + i) (nI x)) mo 512 0)) : jw_C g 2 0 0 m_M_put [.inr (.inr (some mo)), .inl mm, .inl xx] h Q := by
  refine jw_intro (ls := [some (.inr (.inr (some mo))), some (.inl mm), some (.inl xx), none, none, none]) (by decide) k_M_put rfl (by simp [lo_fit, jv_c]) hg ?_
  have hn60 := hD.1
  have at16 : (mm < 0 ∨ nI n ≤ mm) ∨ (xx < 0 ∨ nI n ≤ xx) → jw_J g 2 m_M_put jw_T0 16 [some (.inr (.inr (some mo))), some (.inl mm), some (.inl xx), none, none, none] [] h 0 0 Q := by
    intro z
    refine jw_aload_n rfl rfl ?_
    refine js_iconst (x := 1) rfl rfl ?_
    refine js_call (As := [.inl 1]) rfl l_M_refuse c_M_158 i_M_refuse s_M_refuse jc_o8 rfl hm.1 rfl (cm_refuse hg hm.1 ?_) (by decide) (Nat.le_of_ble_eq_true rfl) (by omega) (by omega) rfl
    refine jw_ireturn rfl rfl rfl ?_
    exact q1 z
  refine jw_aload_n rfl rfl ?_
  refine jw_iload_n rfl rfl ?_
  refine js_call (As := [.inl mm]) rfl l_M_no c_M_169 i_M_no s_M_no jc_o8 rfl hm.1 rfl (cm_no hg hm.1 hn hn60 (fun z => ?_) (fun m hl el => ?_)) (by decide) (Nat.le_of_ble_eq_true rfl) (by omega) (by omega) rfl
  · refine jw_if_ne 16 rfl rfl (fun _ => ?_) (fun z => absurd z (by decide))
    exact at16 (Or.inl z)
  refine jw_if_ne 16 rfl rfl (fun z => absurd (rfl) z) (fun _ => ?_)
  refine jw_aload_n rfl rfl ?_
  refine jw_iload_n rfl rfl ?_
  refine js_call (As := [.inl xx]) rfl l_M_no c_M_169 i_M_no s_M_no jc_o8 rfl hm.1 rfl (cm_no hg hm.1 hn hn60 (fun z => ?_) (fun x hx ex => ?_)) (by decide) (Nat.le_of_ble_eq_true rfl) (by omega) (by omega) rfl
  · refine jw_if_eq 22 rfl rfl (fun z => absurd z (by decide)) (fun _ => ?_)
    exact at16 (Or.inr z)
  subst el ex
  have q2 := q2 m x hl hx rfl rfl
  have q3 := q3 m x hl hx rfl rfl
  obtain ⟨e1, e2, e3, e4, e5, e6, e7⟩ := hD.2 m hl
  refine jw_if_eq 22 rfl rfl (fun _ => ?_) (fun z => absurd (rfl) z)
  refine jw_aload_n rfl rfl ?_
  refine js_call (As := []) rfl l_M_lineName c_M_184 i_M_lineName s_M_lineName jc_o8 rfl hm.1 rfl (cm_lineName hg hm hty ht2 hln ?_) (by decide) (Nat.le_of_ble_eq_true rfl) (by omega) (by omega) rfl
  generalize hw : ln_nm ln ty = w at *
  have at52 : ∀ h1, mo_fx h h1 mo ar ho_F no_G → (sd_k D m ≠ 3 ∨ sd_in D x m ∨ w = 0) → jw_J g 2 m_M_put jw_T0 52 [some (.inr (.inr (some mo))), some (.inl (nI m)), some (.inl (nI x)), some (.inr (.inl w)), none, none] [] h1 0 0 Q := by
    intro h1 f1 z
    refine jw_aload_n rfl rfl ?_
    refine js_iconst (x := 2) rfl rfl ?_
    refine js_call (As := [.inl 2]) rfl l_M_refuse c_M_158 i_M_refuse s_M_refuse jc_o8 rfl (mo_fx.ok f1 hm).1 rfl (cm_refuse hg (mo_fx.ok f1 hm).1 ?_) (by decide) (Nat.le_of_ble_eq_true rfl) (by omega) (by omega) rfl
    refine jw_ireturn rfl rfl rfl ?_
    exact q2 z h1 f1
  refine js_lstore_n rfl rfl (by decide) rfl ?_
  refine jw_aload_n rfl rfl ?_
  refine jw_gr rfl g_M_35 hm.1 (mo_r hm 1 rfl) ?_
  refine jw_iload_n rfl rfl ?_
  refine js_ialdV (m) rfl (mo_a hm 1 rfl) (by decide) (by rfl) rfl (by omega) (by decide) (e1) ?_
  refine js_iconst (x := 3) rfl rfl ?_
  by_cases k3 : sd_k D m = 3
  rotate_left
  · refine jw_icmp_ne 52 rfl rfl (fun _ => ?_) (fun z => absurd z (fun z => k3 ((nI_eq (b := 3) (by omega) (by omega)).mp z)))
    exact at52 h mo_fx.rf (Or.inl k3)
  have e6 := e6 (by omega)
  have hin : ∀ k j, ho_F k j → (k < 520 ∨ 524 < k) ∧ ∃ x ∈ mo_T, x.1 = k := fun k j z => ⟨Or.inr (by have : k = 525 := z; omega), (525, 3, 60), by decide, by have : k = 525 := z; exact this.symm⟩
  refine jw_icmp_ne 52 rfl rfl (fun z => absurd (by rw [k3]; rfl) z) (fun _ => ?_)
  refine jw_aload_n rfl rfl ?_
  refine jw_iload_n rfl rfl ?_
  refine jw_iload_n rfl rfl ?_
  refine js_call (As := [.inl (nI x), .inl (nI m)]) rfl l_M_holds c_M_173 i_M_holds s_M_holds jc_o8 rfl hm.1 rfl (cm_holds hg hm hD hn hx hl (fun h1 f1 b hb => ?_)) (by decide) (Nat.le_of_ble_eq_true rfl) (by omega) (by omega) rfl
  cases b with
  | true =>
    refine jw_if_ne 52 rfl rfl (fun _ => ?_) (fun z => absurd z (by decide))
    exact at52 h1 f1 (Or.inr (Or.inl (hb.mp rfl)))
  | false =>
    have hni : ¬ sd_in D x m := fun z => by have := hb.mpr z; cases this
    refine jw_if_ne 52 rfl rfl (fun z => absurd (rfl) z) (fun _ => ?_)
    refine jw_lload_n rfl rfl ?_
    refine jw_lconst rfl ?_
    refine jw_lcmp rfl ?_
    by_cases w0 : w = 0
    · refine jw_if_ne 58 rfl rfl (fun z => absurd ((lg_cmp_eq _ _).mpr w0) z) (fun _ => ?_)
      exact at52 h1 f1 (Or.inr (Or.inr w0))
    have q3 := q3 k3 hni w0 h1 f1
    have hm1 := mo_fx.ok f1 hm
    obtain ⟨w1, w2, w3, w4, w5, w6, w7⟩ := (mo_D.fx hm f1 hin hD).2 m hl
    have w3 := w3.trans (w4 (by omega))
    have w7 := w7 k3
    have v3 : jh_I (jh_si h1 mo 514 0) (ar 521) m = nI (sd_c D m) := w3
    refine jw_if_ne 58 rfl rfl (fun _ => ?_) (fun z => absurd z (fun z => w0 ((lg_cmp_eq _ _).mp z)))
    refine jw_aload_n rfl rfl ?_
    refine jw_iload_n rfl rfl ?_
    refine jw_lload_n rfl rfl ?_
    refine js_call (As := [.inl (nI m), .inr (.inl w)]) rfl l_M_find c_M_188 i_M_find s_M_find jc_o8 rfl hm1.1 rfl (cm_find hg hm1 (by omega) w3 e6.1 (fun z => ?_) (fun i hi z1 z2 => ?_)) (by decide) (Nat.le_of_ble_eq_true rfl) (by omega) (by omega) rfl
    · have q3 := q3.1 (fun i hi => by rw [← w7 i hi]; exact z i hi)
      refine js_istore rfl rfl (by decide) rfl ?_
      refine jw_iload rfl rfl ?_
      refine jw_if_ge 88 rfl rfl (fun z => absurd z (by decide)) (fun _ => ?_)
      refine jw_aload_n rfl rfl ?_
      refine jw_gr rfl g_M_39 hm1.1 (mo_r hm1 2 rfl) ?_
      refine jw_iload_n rfl rfl ?_
      refine js_ialdV (m) rfl (mo_a hm1 2 rfl) (by decide) (by rfl) rfl (by omega) (by decide) (w3) ?_
      refine js_bipush (x := 10) rfl rfl ?_
      by_cases c10 : sd_c D m = 10
      · refine jw_icmp_ne 88 rfl rfl (fun z => absurd (by rw [c10]; rfl) z) (fun _ => ?_)
        refine jw_aload_n rfl rfl ?_
        refine js_iconst (x := 3) rfl rfl ?_
        refine js_call (As := [.inl 3]) rfl l_M_refuse c_M_158 i_M_refuse s_M_refuse jc_o8 rfl hm1.1 rfl (cm_refuse hg hm1.1 ?_) (by decide) (Nat.le_of_ble_eq_true rfl) (by omega) (by omega) rfl
        refine jw_ireturn rfl rfl rfl ?_
        exact q3.1 c10
      · have c9 : sd_c D m < 10 := by omega
        refine jw_icmp_ne 88 rfl rfl (fun _ => ?_) (fun z => absurd z (fun z => c10 ((nI_eq (b := 10) (by omega) (by omega)).mp z)))
        refine jw_aload_n rfl rfl ?_
        refine js_iconst (x := 0) rfl rfl ?_
        refine jw_pi rfl p_M_put_16 hm1.1 ?_
        refine jw_iload rfl rfl ?_
        refine jw_if_ge 129 rfl rfl (fun z => absurd z (by decide)) (fun _ => ?_)
        refine jw_aload_n rfl rfl ?_
        refine jw_gr rfl g_M_39 (mo_si hm1).1 (mo_r (mo_si hm1) 2 rfl) ?_
        refine jw_iload_n rfl rfl ?_
        refine js_ialdV (m) rfl (mo_a (mo_si hm1) 2 rfl) (by decide) (by rfl) rfl (by omega) (by decide) (v3) ?_
        refine js_istore rfl rfl (by decide) rfl ?_
        refine jw_aload_n rfl rfl ?_
        refine jw_gr rfl g_M_39 (mo_si hm1).1 (mo_r (mo_si hm1) 2 rfl) ?_
        refine jw_iload_n rfl rfl ?_
        refine jw_dup2 rfl rfl rfl ?_
        refine js_ialdV (m) rfl (mo_a (mo_si hm1) 2 rfl) (by decide) (by rfl) rfl (by omega) (by decide) (v3) ?_
        refine js_iconst (x := 1) rfl rfl ?_
        refine jw_iaddV rfl (nI_1 _) ?_
        refine js_iast (m) rfl (mo_a (mo_si hm1) 2 rfl) (by decide) (by rfl) rfl (by omega) (by decide) ?_
        refine jw_aload_n rfl rfl ?_
        refine jw_gr rfl g_M_48 (mo_sI (mo_si hm1)).1 (mo_r (mo_sI (mo_si hm1)) 5 rfl) ?_
        refine jw_iload_n rfl rfl ?_
        refine js_bipush (x := 10) rfl rfl ?_
        refine jw_imulV rfl (pk_mul m 10) ?_
        refine jw_iload rfl rfl ?_
        refine jw_iaddV rfl (nI_add (m * 10) (sd_c D m)) ?_
        refine jw_lload_n rfl rfl ?_
        refine js_last (m * 10 + sd_c D m) rfl (mo_a (mo_sI (mo_si hm1)) 5 rfl) (by decide) (by rfl) rfl (by omega) (by decide) ?_
        refine jw_aload_n rfl rfl ?_
        refine jw_gr rfl g_M_45 (mo_sG (mo_sI (mo_si hm1))).1 (mo_r (mo_sG (mo_sI (mo_si hm1))) 4 rfl) ?_
        refine jw_iload_n rfl rfl ?_
        refine js_bipush (x := 10) rfl rfl ?_
        refine jw_imulV rfl (pk_mul m 10) ?_
        refine jw_iload rfl rfl ?_
        refine jw_iaddV rfl (nI_add (m * 10) (sd_c D m)) ?_
        refine jw_iload_n rfl rfl ?_
        refine js_iast (m * 10 + sd_c D m) rfl (mo_a (mo_sG (mo_sI (mo_si hm1))) 4 rfl) (by decide) (by rfl) rfl (by omega) (by decide) ?_
        refine jw_aload_n rfl rfl ?_
        refine jw_aload_n rfl rfl ?_
        refine jw_gr rfl g_M_39 (mo_sI (mo_sG (mo_sI (mo_si hm1)))).1 (mo_r (mo_sI (mo_sG (mo_sI (mo_si hm1)))) 2 rfl) ?_
        refine jw_iload_n rfl rfl ?_
        refine js_ialdV (m) rfl (mo_a (mo_sI (mo_sG (mo_sI (mo_si hm1)))) 2 rfl) (by decide) (by rfl) rfl (by omega) (by decide) ((mo_rs hm 2 4 rfl rfl (by decide)).trans (jh_u_s _ _ _ _)) ?_
        refine js_call (As := [.inl (nI (sd_c D m + 1))]) rfl l_M_fine c_M_162 i_M_fine s_M_fine jc_o8 rfl (mo_sI (mo_sG (mo_sI (mo_si hm1)))).1 rfl (cm_fine hg hm1.1 ?_) (by decide) (Nat.le_of_ble_eq_true rfl) (by omega) (by omega) rfl
        refine jw_ireturn rfl rfl rfl ?_
        exact q3.2 c9
    · have q3 := q3.2 i hi (by rw [← w7 i hi]; exact z1) (fun j hj => by rw [← w7 j (by omega)]; exact z2 j hj)
      refine js_istore rfl rfl (by decide) rfl ?_
      refine jw_iload rfl rfl ?_
      refine jw_if_ge 88 rfl rfl (fun _ => ?_) (fun z => absurd (nI_pos' (by omega)) z)
      refine jw_aload_n rfl rfl ?_
      refine js_iconst (x := 0) rfl rfl ?_
      refine jw_pi rfl p_M_put_16 hm1.1 ?_
      refine jw_iload rfl rfl ?_
      refine jw_if_ge 129 rfl rfl (fun _ => ?_) (fun z => absurd (nI_pos' (by omega)) z)
      refine jw_aload_n rfl rfl ?_
      refine jw_gr rfl g_M_45 (mo_si hm1).1 (mo_r (mo_si hm1) 4 rfl) ?_
      refine jw_iload_n rfl rfl ?_
      refine js_bipush (x := 10) rfl rfl ?_
      refine jw_imulV rfl (pk_mul m 10) ?_
      refine jw_iload rfl rfl ?_
      refine jw_iaddV rfl (nI_add (m * 10) i) ?_
      refine jw_iload_n rfl rfl ?_
      refine js_iast (m * 10 + i) rfl (mo_a (mo_si hm1) 4 rfl) (by decide) (by rfl) rfl (by omega) (by decide) ?_
      refine jw_aload_n rfl rfl ?_
      refine jw_aload_n rfl rfl ?_
      refine jw_gr rfl g_M_39 (mo_sI (mo_si hm1)).1 (mo_r (mo_sI (mo_si hm1)) 2 rfl) ?_
      refine jw_iload_n rfl rfl ?_
      refine js_ialdV (m) rfl (mo_a (mo_sI (mo_si hm1)) 2 rfl) (by decide) (by rfl) rfl (by omega) (by decide) ((mo_rs hm 2 4 rfl rfl (by decide)).trans v3) ?_
      refine js_call (As := [.inl (nI (sd_c D m))]) rfl l_M_fine c_M_162 i_M_fine s_M_fine jc_o8 rfl (mo_sI (mo_si hm1)).1 rfl (cm_fine hg hm1.1 ?_) (by decide) (Nat.le_of_ble_eq_true rfl) (by omega) (by omega) rfl
      refine jw_ireturn rfl rfl rfl ?_
      exact q3

