/-! ENGINE: does a DATA hold another -/
def sw_f (n se : Nat) (E : cd_E) (h h' : jh_H) : Prop := jh_L h' = jh_L h ∧ jh_K h' = jh_K h ∧ jh_g h' = jh_g h ∧ jh_r h' = jh_r h ∧ jh_I h' = jh_I h ∧ jh_G h' = jh_G h ∧ jh_R h' = jh_R h ∧ (∀ b k, (k = 134 → ∀ y, y < n → b ≠ E.1 y) → jh_i h' b k = jh_i h b k) ∧ ∀ b, jh_i h' b 134 = jh_i h b 134 ∨ jh_i h' b 134 = nI se
theorem sw_f.rf {n se : Nat} {E : cd_E} {h : jh_H} : sw_f n se E h h := ⟨rfl, rfl, rfl, rfl, rfl, rfl, rfl, fun _ _ _ => rfl, fun _ => Or.inl rfl⟩
theorem sw_f.tr {n se : Nat} {E : cd_E} {h h1 h2 : jh_H} (a : sw_f n se E h h1) (b : sw_f n se E h1 h2) : sw_f n se E h h2 := by
  obtain ⟨a1, a2, a3, a4, a5, a6, a7, a8, a9⟩ := a
  obtain ⟨b1, b2, b3, b4, b5, b6, b7, b8, b9⟩ := b
  refine ⟨b1.trans a1, b2.trans a2, b3.trans a3, b4.trans a4, b5.trans a5, b6.trans a6, b7.trans a7, fun x k z => (b8 x k z).trans (a8 x k z), fun x => ?_⟩
  rcases b9 x with e | e
  · rw [e]; exact a9 x
  · exact Or.inr e
theorem sw_f.up {n se y : Nat} {E : cd_E} {h h1 : jh_H} (a : sw_f n se E h h1) (hy : y < n) : sw_f n se E h (jh_si h1 (E.1 y) 134 (nI se)) := by
  refine a.tr ⟨rfl, rfl, rfl, rfl, rfl, rfl, rfl, fun b k z => ?_, fun b => ?_⟩
  · by_cases c : k = 134
    · exact jh_u_a _ _ _ _ (z c y hy)
    · exact jh_u_k _ _ _ _ c
  · by_cases c : b = E.1 y
    · rw [c]; exact Or.inr (jh_u_s _ _ _ _)
    · exact Or.inl (jh_u_a _ _ _ _ c)
theorem sw_f.i {n se : Nat} {E : cd_E} {h h1 : jh_H} (a : sw_f n se E h h1) (b k : Nat) (hk : k ≠ 134) : jh_i h1 b k = jh_i h b k := a.2.2.2.2.2.2.2.1 b k (fun z => absurd z hk)
theorem sw_f.O {n se : Nat} {E : cd_E} {h h1 : jh_H} (a : sw_f n se E h h1) {b ci : Nat} (ho : jh_O h b ci) : jh_O h1 b ci := ⟨by rw [a.1]; exact ho.1, by rw [a.2.1]; exact ho.2⟩
set_option maxHeartbeats 4000000 in
set_option maxRecDepth 100000 in
theorem cd_ok.sw {n se : Nat} {D : sd_D} {E E' : cd_E} {P : Nat → Prop} {h h' : jh_H} (hc : cd_ok h n D E P) (f : sw_f n se E' h h') : cd_ok h' n D E P := by
  obtain ⟨e1, e2, e3, e4, e5, e6, e7, -, -⟩ := id f
  refine ⟨hc.1, fun x hx => ?_⟩
  have hx := hc.2 x hx
  unfold cd_1 vl_num vl_txt tx_is tx_at jh_O jh_A at hx ⊢
  simp only [e1, e2, e4, e5, e6, e7, f.i _ 128 (by decide), f.i _ 129 (by decide), f.i _ 133 (by decide), f.i _ 65 (by decide)]
  exact hx
theorem sd_in_rf {D : sd_D} {x : Nat} : sd_in D x x := ⟨0, rfl⟩
theorem sd_re_tr {D : sd_D} {x y : Nat} {k : Nat} (h : sd_re D k x y) : ∀ m z, sd_re D m y z → sd_in D x z := by
  intro m
  induction m with
  | zero => intro z e; have e : y = z := e; exact ⟨k, e ▸ h⟩
  | succ m ih =>
    intro z e
    obtain ⟨w, j, e1, e2, e3, e4⟩ := e
    obtain ⟨k', h'⟩ := ih w e1
    exact ⟨k' + 1, w, j, h', e2, e3, e4⟩
theorem sd_in_tr {D : sd_D} {x y z : Nat} (h1 : sd_in D x y) (h2 : sd_in D y z) : sd_in D x z := by
  obtain ⟨k, h1⟩ := h1
  obtain ⟨m, h2⟩ := h2
  exact sd_re_tr h1 m z h2
theorem sd_re_first {D : sd_D} {x : Nat} : ∀ k l, sd_re D (k + 1) x l → ∃ j, 2 ≤ sd_k D x ∧ j < sd_c D x ∧ sd_in D (sd_p D x j) l := by
  intro k
  induction k with
  | zero =>
    intro l h
    obtain ⟨z, j, h1, h2, h3, h4⟩ := h
    have h1 : x = z := h1
    subst h1
    exact ⟨j, h2, h3, 0, h4⟩
  | succ k ih =>
    intro l h
    obtain ⟨z, j, h1, h2, h3, h4⟩ := h
    obtain ⟨i, i1, i2, m, i3⟩ := ih z h1
    exact ⟨i, i1, i2, m + 1, z, j, i3, h2, h3, h4⟩
theorem rk_in {n : Nat} {D : sd_D} {rk : Nat → Nat} (hr : ∀ x, x < n → 2 ≤ sd_k D x → ∀ j, j < sd_c D x → sd_p D x j < n ∧ rk (sd_p D x j) < rk x) {u v : Nat} (hu : u < n) (h : sd_in D u v) : v < n ∧ rk v ≤ rk u := by
  obtain ⟨k, h⟩ := h
  revert v
  induction k with
  | zero => intro v h; have h : u = v := h; subst h; exact ⟨hu, Nat.le_refl _⟩
  | succ k ih =>
    intro v h
    obtain ⟨z, j, h1, h2, h3, h4⟩ := h
    obtain ⟨i1, i2⟩ := ih h1
    obtain ⟨i3, i4⟩ := hr z i1 h2 j h3
    rw [h4] at i3 i4
    exact ⟨i3, by omega⟩
set_option maxHeartbeats 4000000 in
set_option maxRecDepth 100000 in
theorem cd_size {h : jh_H} {n : Nat} {D : sd_D} {E : cd_E} {P : Nat → Prop} {x : Nat} (hc : cd_1 h n D E P x) : jh_O h (E.1 x) 2 ∧ jh_i h (E.1 x) 133 = nI (if 2 ≤ sd_k D x then sd_c D x else 0) ∧ jh_i h (E.1 x) 128 = nI (sd_k D x) := by
  obtain ⟨h1, h2, h3, h4, h5⟩ := hc
  by_cases c : 2 ≤ sd_k D x
  · rw [if_pos c]
    obtain ⟨a1, a2, a3, a4, a5, a6, a7, a8, a9, a10, a11⟩ := h5 c
    exact ⟨a3, a9, a4⟩
  · rw [if_neg c]
    by_cases c0 : sd_k D x = 0
    · have := h3 c0
      exact ⟨this.1, this.2.2.2, by rw [c0]; exact this.2.1⟩
    · have c1 : sd_k D x = 1 := by omega
      obtain ⟨tb, ch, cap, -, -, t⟩ := h4 c1
      exact ⟨t.1, t.2.2.2.2, by rw [c1]; exact t.2.1⟩
set_option maxHeartbeats 4000000 in
set_option maxRecDepth 100000 in
theorem cw_within {g : jg_G} (hg : (jg_l g).stackTraces = false) {n l se a : Nat} {D : sd_D} {E : cd_E} {P : Nat → Prop} (hrk : sd_rk n D) (hl : l < n) (hse : se < 2 ^ 31) (hinj : ∀ x y, x < n → y < n → E.1 x = E.1 y → x = y) :
    ∀ f x dep h d mc ms (Q : jw_O → jh_H → Prop), f + dep = 60 → sd_dp D f x → x < n → cd_ok h n D E P → jh_O h a 0 → jh_i h a 3 = nI se → (∀ y, y < n → jh_i h (E.1 y) 134 = nI se → sd_in D x y → ¬ sd_in D y l) → f ≤ d →
    (sd_in D x l → ∀ h', sw_f n se E h h' → Q (.inl (some (.inl 1))) h') → (¬ sd_in D x l → ∀ h', sw_f n se E h h' → (∀ y, y < n → jh_i h' (E.1 y) 134 = nI se → jh_i h (E.1 y) 134 = nI se ∨ ¬ sd_in D y l) → Q (.inl (some (.inl 0))) h') → jw_C g d mc ms m_E_isWithin [.inr (.inr (some a)), .inr (.inr (some (E.1 l))), .inr (.inr (some (E.1 x))), .inl (nI dep)] h Q := by
  obtain ⟨rk, hr⟩ := hrk
  intro f
  induction f with
  | zero => intro x dep h d mc ms Q _ z; exact absurd z id
  | succ f ih =>
    intro x dep h d mc ms Q hfd hdp hx hc ho h3 hmk hd q1 q2
    refine jw_intro (ls := [some (.inr (.inr (some a))), some (.inr (.inr (some (E.1 l)))), some (.inr (.inr (some (E.1 x)))), some (.inl (nI dep)), none]) (by decide) k_E_isWithin rfl (by simp [lo_fit, jv_c]) hg ?_
    obtain ⟨s1, s2, s3⟩ := cd_size (hc.2 x hx)
    refine jw_aload_n rfl rfl ?_
    refine jw_aload_n rfl rfl ?_
    by_cases cxl : x = l
    · refine jw_acmp_ne 7 rfl rfl (fun z => absurd (by rw [cxl]) z) (fun _ => ?_)
      refine js_iconst (x := 1) rfl rfl ?_
      refine jw_ireturn rfl rfl rfl ?_
      exact q1 (by rw [cxl]; exact sd_in_rf) h sw_f.rf
    · refine jw_acmp_ne 7 rfl rfl (fun _ => ?_) (fun z => absurd z (fun e => cxl (hinj x l hx hl (Option.some.inj e))))
      refine jw_aload_n rfl rfl ?_
      refine jw_gi rfl g_E_184 (s1) (rfl) ?_
      refine jw_aload_n rfl rfl ?_
      refine jw_gi rfl g_E_177 (ho) (h3) ?_
      by_cases cmk : jh_i h (E.1 x) 134 = nI se
      · refine jw_icmp_eq 24 rfl rfl (fun _ => ?_) (fun z => absurd (cmk) z)
        refine js_iconst (x := 0) rfl rfl ?_
        refine jw_ireturn rfl rfl rfl ?_
        exact q2 (hmk x hx cmk sd_in_rf) h sw_f.rf (fun y _ e => Or.inl e)
      · refine jw_icmp_eq 24 rfl rfl (fun z => absurd z (cmk)) (fun _ => ?_)
        refine jw_iload_n rfl rfl ?_
        refine js_bipush (x := 60) rfl rfl ?_
        refine jw_icmp_lt 26 rfl rfl (fun _ => ?_) (fun z => absurd ((nI_ltI (b := 60) (by omega) (by decide)).mpr (by omega)) z)
        refine jw_aload_n rfl rfl ?_
        refine jw_aload_n rfl rfl ?_
        refine jw_gi rfl g_E_177 (ho) (h3) ?_
        refine jw_pi rfl p_E_isWithin_184 (s1) ?_
        refine js_iconst (x := 0) rfl rfl ?_
        refine js_istore rfl rfl (by decide) rfl ?_
        obtain ⟨cx, ecx⟩ : ∃ z, z = (if 2 ≤ sd_k D x then sd_c D x else 0) := ⟨_, rfl⟩
        rw [← ecx] at s2
        have hcx : cx ≤ 10 := by
          rw [ecx]
          by_cases c : 2 ≤ sd_k D x
          · rw [if_pos c]
            obtain ⟨a1, a2, a3, a4, a5, a6, a7, a8, a9, a10, a11⟩ := (hc.2 x hx).2.2.2.2 c
            exact a10
          · rw [if_neg c]; omega
        -- the loop
        have loop : ∀ m i h1 ic is, i + m = cx → sw_f n se E h h1 → (∀ y, y < n → jh_i h1 (E.1 y) 134 = nI se → jh_i h (E.1 y) 134 = nI se ∨ y = x ∨ ¬ sd_in D y l) → (∀ j, j < i → ¬ sd_in D (sd_p D x j) l) → jw_J g d m_E_isWithin jw_T0 37 [some (.inr (.inr (some a))), some (.inr (.inr (some (E.1 l)))), some (.inr (.inr (some (E.1 x)))), some (.inl (nI dep)), some (.inl (nI i))] [] h1 ic is Q := by
          intro m
          induction m with
          | zero =>
            intro i h1 ic is him f1 m1 hno
            have ei : i = cx := by omega
            subst ei
            have hc1 := hc.sw f1
            refine jw_iload rfl rfl ?_
            refine jw_aload_n rfl rfl ?_
            refine jw_gi rfl g_E_108 (f1.O s1) ((f1.i _ 133 (by decide)).trans s2) ?_
            refine jw_icmp_ge 72 rfl rfl (fun _ => ?_) (fun z => absurd ((nI_leI (by omega) (by omega)).mpr (Nat.le_refl _)) z)
            refine js_iconst (x := 0) rfl rfl ?_
            refine jw_ireturn rfl rfl rfl ?_
            have nx : ¬ sd_in D x l := by
              intro hin
              obtain ⟨k, hk⟩ := hin
              cases k with
              | zero => exact cxl hk
              | succ k =>
                obtain ⟨j, j1, j2, j3⟩ := sd_re_first k l hk
                rw [if_pos j1] at ecx
                exact hno j (by omega) j3
            refine q2 nx h1 f1 (fun y hy e => ?_)
            rcases m1 y hy e with z | z | z
            · exact Or.inl z
            · exact Or.inr (by rw [z]; exact nx)
            · exact Or.inr z
          | succ m ihm =>
            intro i h1 ic is him f1 m1 hno
            have hk2 : 2 ≤ sd_k D x := by
              by_cases c : 2 ≤ sd_k D x
              · exact c
              · rw [if_neg c] at ecx; omega
            rw [if_pos hk2] at ecx
            have hc1 := hc.sw f1
            obtain ⟨a1, a2, a3, a4, a5, a6, a7, a8, a9, a10, a11⟩ := (hc1.2 x hx).2.2.2.2 hk2
            obtain ⟨b1, b2, -⟩ := a11 i (by omega)
            have hrx := hr x hx hk2 i (by omega)
            refine jw_iload rfl rfl ?_
            refine jw_aload_n rfl rfl ?_
            refine jw_gi rfl g_E_108 (f1.O s1) ((f1.i _ 133 (by decide)).trans s2) ?_
            refine jw_icmp_ge 72 rfl rfl (fun z => absurd z (fun z => absurd ((nI_leI (by omega) (by omega)).mp z) (by omega))) (fun _ => ?_)
            refine jw_aload_n rfl rfl ?_
            refine jw_aload_n rfl rfl ?_
            refine jw_aload_n rfl rfl ?_
            refine jw_gr rfl g_E_187 (a3) (a5) ?_
            refine jw_iload rfl rfl ?_
            refine js_aald (i) rfl (a7) (by decide) (by rfl) rfl (by omega) (by omega) (b1) ?_
            refine jw_iload_n rfl rfl ?_
            refine js_iconst (x := 1) rfl rfl ?_
            refine jw_iaddV rfl (nI_1 dep) ?_
            refine js_call (As := [.inr (.inr (some (E.1 l))), .inr (.inr (some (E.1 (sd_p D x i)))), .inl (nI (dep + 1))]) rfl l_E_isWithin c_E_180 i_E_isWithin s_E_isWithin jc_o0 rfl (f1.O ho) rfl (ih (sd_p D x i) (dep + 1) h1 (d - 1) 0 0 _ (by omega) (hdp hk2 i (by omega)) b2 hc1 (f1.O ho) ((f1.i _ 3 (by decide)).trans h3) (fun y hy e hin => ?_) (by omega) (fun hin h2 f2 => ?_) (fun hin h2 f2 m2 => ?_)) (by omega) (Nat.le_of_ble_eq_true rfl) (by omega) (by omega) rfl
            · rcases m1 y hy e with z | z | z
              · exact hmk y hy z (sd_in_tr ⟨1, x, i, rfl, hk2, by omega, rfl⟩ hin)
              · exfalso
                have := (rk_in hr b2 hin).2
                rw [z] at this
                omega
              · exact z
            · refine jw_if_eq 66 rfl rfl (fun z => absurd z (by decide)) (fun _ => ?_)
              refine js_iconst (x := 1) rfl rfl ?_
              refine jw_ireturn rfl rfl rfl ?_
              exact q1 (sd_in_tr ⟨1, x, i, rfl, hk2, by omega, rfl⟩ hin) h2 (f1.tr f2)
            · refine jw_if_eq 66 rfl rfl (fun _ => ?_) (fun z => absurd (rfl) z)
              refine js_iinc rfl rfl (nI_1 i) rfl (by decide) rfl ?_
              refine jw_goto 37 rfl rfl ?_
              refine ihm (i + 1) h2 _ _ (by omega) (f1.tr f2) (fun y hy e => ?_) (fun j hj => ?_)
              · rcases m2 y hy e with z | z
                · exact m1 y hy z
                · exact Or.inr (Or.inr z)
              · by_cases c : j = i
                · rw [c]; exact hin
                · exact hno j (by omega)
        refine loop cx 0 _ _ _ (by omega) (sw_f.rf.up hx) (fun y hy e => ?_) (fun j hj => absurd hj (Nat.not_lt_zero _))
        by_cases c : y = x
        · exact Or.inr (Or.inl c)
        · exact Or.inl ((jh_u_a _ _ _ _ (fun z => c (hinj y x hy hx z))).symm.trans e)
set_option maxHeartbeats 4000000 in
set_option maxRecDepth 100000 in
theorem cw_would {g : jg_G} (hg : (jg_l g).stackTraces = false) {n l x se a d mc ms : Nat} {D : sd_D} {E : cd_E} {P : Nat → Prop} {h : jh_H} {Q : jw_O → jh_H → Prop} (hrk : sd_rk n D) (hl : l < n) (hx : x < n) (hse : se < 1000000) (hinj : ∀ x y, x < n → y < n → E.1 x = E.1 y → x = y) (hc : cd_ok h n D E P) (ho : jh_O h a 0) (h3 : jh_i h a 3 = nI se) (hmk : ∀ y, y < n → ∃ s, s ≤ se ∧ jh_i h (E.1 y) 134 = nI s) (hd : 61 ≤ d)
    (q1 : sd_in D x l → ∀ h', sw_f n (se + 1) E (jh_si h a 3 (nI (se + 1))) h' → Q (.inl (some (.inl 1))) h') (q2 : ¬ sd_in D x l → ∀ h', sw_f n (se + 1) E (jh_si h a 3 (nI (se + 1))) h' → Q (.inl (some (.inl 0))) h') : jw_C g d mc ms m_E_wouldHoldItself [.inr (.inr (some a)), .inr (.inr (some (E.1 l))), .inr (.inr (some (E.1 x)))] h Q := by
  refine jw_intro (ls := [some (.inr (.inr (some a))), some (.inr (.inr (some (E.1 l)))), some (.inr (.inr (some (E.1 x))))]) (by decide) k_E_wouldHoldItself rfl (by simp [lo_fit, jv_c]) hg ?_
  have f0 : fr (fun b => b = a) h (jh_si h a 3 (nI (se + 1))) := fr.si fr.rf rfl
  have hc0 : cd_ok (jh_si h a 3 (nI (se + 1))) n D E P := by
    refine ⟨hc.1, fun x hx => ?_⟩
    have hx := hc.2 x hx
    have ei : ∀ b k, k ≠ 3 → jh_i (jh_si h a 3 (nI (se + 1))) b k = jh_i h b k := fun b k hk => jh_u_k _ _ _ _ hk
    unfold cd_1 vl_num vl_txt tx_is tx_at at hx ⊢
    simp only [ei _ 128 (by decide), ei _ 129 (by decide), ei _ 133 (by decide), ei _ 65 (by decide)]
    exact hx
  have mk0 : ∀ y, y < n → jh_i (jh_si h a 3 (nI (se + 1))) (E.1 y) 134 = nI (se + 1) → False := by
    intro y hy e
    obtain ⟨s, s1, s2⟩ := hmk y hy
    have e : jh_i h (E.1 y) 134 = nI (se + 1) := (jh_u_k _ _ _ _ (by decide)).symm.trans e
    rw [s2] at e
    have := (nI_eq (by omega) (by omega)).mp e
    omega
  refine jw_aload_n rfl rfl ?_
  refine jw_dup rfl rfl ?_
  refine jw_gi rfl g_E_177 (ho) (h3) ?_
  refine js_iconst (x := 1) rfl rfl ?_
  refine jw_iaddV rfl (nI_1 se) ?_
  refine jw_pi rfl p_E_wouldHoldItself_177 (ho) ?_
  refine jw_aload_n rfl rfl ?_
  refine jw_aload_n rfl rfl ?_
  refine jw_aload_n rfl rfl ?_
  refine js_iconst (x := 0) rfl rfl ?_
  refine js_call (As := [.inr (.inr (some (E.1 l))), .inr (.inr (some (E.1 x))), .inl (nI 0)]) rfl l_E_isWithin c_E_180 i_E_isWithin s_E_isWithin jc_o0 rfl (ho) rfl (cw_within hg hrk hl (by omega) hinj 60 x 0 _ (d - 1) 0 0 _ rfl (rk_dp hc.1 hrk x hx) hx hc0 ho (jh_u_s _ _ _ _) (fun y hy e => (mk0 y hy e).elim) (by omega) (fun hin h' f' => ?_) (fun hin h' f' _ => ?_)) (by omega) (Nat.le_of_ble_eq_true rfl) (by omega) (by omega) rfl
  · refine jw_ireturn rfl rfl rfl ?_
    exact q1 hin h' f'
  · refine jw_ireturn rfl rfl rfl ?_
    exact q2 hin h' f'

