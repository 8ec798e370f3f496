/-! the model: compile -/
theorem pp_fit_os {i s : Nat} {so : Nat → Nat} {d d' : Nat} {os os' : Nat → Nat} {ot la ot' la' : pp_O} (h : pp_fit i s so d os ot la = some (d', os', ot', la')) (ho : ∀ j, j < d → os j < i) : ∀ j, j < d' → os' j < i + 1 := by
  have key : ∀ dd oo, (d', os') = (dd, oo) → (∀ j, j < dd → oo j < i + 1) → ∀ j, j < d' → os' j < i + 1 := by
    intro dd oo e h; cases e; exact h
  have old : ∀ j, j < d → os j < i + 1 := fun j hj => by have := ho j hj; omega
  rw [pp_fit] at h
  by_cases c1 : 2 < s ∧ s < 6
  · rw [if_pos c1] at h
    by_cases c2 : d = 4
    · rw [if_pos c2] at h; cases h
    · rw [if_neg c2] at h; cases h
      intro j hj
      by_cases z : j = d
      · rw [z, va_up_self]; omega
      · rw [va_up_ne _ _ z]; exact old j (by omega)
  rw [if_neg c1] at h
  by_cases c2 : s ≤ 2 ∨ s = 10
  · rw [if_pos c2] at h; cases h; exact old
  rw [if_neg c2] at h
  by_cases c3 : d = 0
  · rw [if_pos c3] at h; cases h
  rw [if_neg c3] at h
  by_cases c4 : s = 6
  · rw [if_pos c4] at h
    by_cases c5 : (ot (os (d - 1))).isSome = true
    · rw [if_pos c5] at h; cases h
    · rw [if_neg c5] at h; cases h; exact old
  rw [if_neg c4] at h
  by_cases c5 : so (os (d - 1)) ≠ s - 4
  · rw [if_pos c5] at h; cases h
  · rw [if_neg c5] at h; cases h
    exact fun j hj => old j (by omega)
theorem pp_inl (t : Nat → Nat) (e : Nat) : ∀ f p n T d os ot la, p ≤ e → (∀ i, i < n → (T i).1 ≤ e) → (∀ j, j < d → os j < n) → ∀ r, pp t e f p n T d os ot la = .inl r → r ≤ e := by
  intro f
  induction f with
  | zero => intro p n T d os ot la hp _ _ r h; cases h; exact hp
  | succ f ih =>
    intro p n T d os ot la hp hT ho r h
    rw [pp] at h
    have hke := (sp_fd_le t e [123, 123] (e - p) p hp).1
    have hke2 : sp_k t p e ≤ e := hke
    by_cases hk : e ≤ sp_k t p e
    · rw [if_pos hk] at h
      by_cases hd : 0 < d
      · rw [if_pos hd] at h; cases h; exact hT _ (ho _ (by omega))
      · rw [if_neg hd] at h; cases h
    · rw [if_neg hk] at h
      by_cases hq : e ≤ sp_q t p e
      · rw [if_pos hq] at h; cases h; exact hke2
      · rw [if_neg hq] at h
        have hb := sp_q_le t hp (by omega) (by omega)
        cases hs : sp_sort t (sp_f t p e) (sp_q t p e) (sp_th t p e) with
        | none => rw [hs] at h; cases h; exact hke2
        | some s =>
          simp only [hs] at h
          revert h
          cases hfit : pp_fit n s (fun x => (va_up T n (pp_new t p e s) x).2.2.2.2) d os (va_up ot n none) (va_up la n none) with
          | none => intro h; cases h; exact hke2
          | some z =>
            obtain ⟨d', os', ot', la'⟩ := z
            intro h
            refine ih _ _ _ d' os' ot' la' hb.2.2.2 (fun i hi => ?_) (pp_fit_os hfit ho) r h
            by_cases z : i = n
            · subst z; rw [va_up_self]; exact hke2
            · rw [va_up_ne _ _ z]; exact hT i (by omega)
/-- whose else and end is where: places of the table -/
theorem pp_fit_ix {i s : Nat} {so : Nat → Nat} {d d' : Nat} {os os' : Nat → Nat} {ot la ot' la' : pp_O} (h : pp_fit i s so d os ot la = some (d', os', ot', la')) (ho : ∀ j, j < d → os j < i) (hx : ∀ j, j < i + 1 → (∀ x, ot j = some x → x < i + 1) ∧ ∀ x, la j = some x → x < i + 1) : ∀ j, j < i + 1 → (∀ x, ot' j = some x → x < i + 1) ∧ ∀ x, la' j = some x → x < i + 1 := by
  have up : ∀ (f : pp_O) (a b : Nat), (∀ j, j < i + 1 → ∀ x, f j = some x → x < i + 1) → b < i + 1 → ∀ j, j < i + 1 → ∀ x, va_up f a (some b) j = some x → x < i + 1 := by
    intro f a b hf hb j hj x hx
    by_cases z : j = a
    · rw [z, va_up_self] at hx; cases hx; exact hb
    · rw [va_up_ne _ _ z] at hx; exact hf j hj x hx
  rw [pp_fit] at h
  by_cases c1 : 2 < s ∧ s < 6
  · rw [if_pos c1] at h
    by_cases c2 : d = 4
    · rw [if_pos c2] at h; cases h
    · rw [if_neg c2] at h; cases h; exact hx
  rw [if_neg c1] at h
  by_cases c2 : s ≤ 2 ∨ s = 10
  · rw [if_pos c2] at h; cases h; exact hx
  rw [if_neg c2] at h
  by_cases c3 : d = 0
  · rw [if_pos c3] at h; cases h
  rw [if_neg c3] at h
  have hb := ho (d - 1) (by omega)
  by_cases c4 : s = 6
  · rw [if_pos c4] at h
    by_cases c5 : (ot (os (d - 1))).isSome = true
    · rw [if_pos c5] at h; cases h
    · rw [if_neg c5] at h; cases h
      exact fun j hj => ⟨up ot _ i (fun j hj => (hx j hj).1) (by omega) j hj, up la _ _ (fun j hj => (hx j hj).2) (by omega) j hj⟩
  rw [if_neg c4] at h
  by_cases c5 : so (os (d - 1)) ≠ s - 4
  · rw [if_pos c5] at h; cases h
  · rw [if_neg c5] at h; cases h
    exact fun j hj => ⟨(hx j hj).1, up _ _ i (up la _ _ (fun j hj => (hx j hj).2) (by omega)) (by omega) j hj⟩
theorem pp_ix (t : Nat → Nat) (e : Nat) : ∀ f p n T d os ot la, (∀ i, i < n → (∀ x, ot i = some x → x < n) ∧ ∀ x, la i = some x → x < n) → (∀ j, j < d → os j < n) → ∀ r : Nat × pp_T × pp_O × pp_O, pp t e f p n T d os ot la = .inr r → ∀ i, i < r.1 → (∀ x, r.2.2.1 i = some x → x < r.1) ∧ ∀ x, r.2.2.2 i = some x → x < r.1 := by
  intro f
  induction f with
  | zero => intro p n T d os ot la _ _ r h; cases h
  | succ f ih =>
    intro p n T d os ot la hx ho r h
    rw [pp] at h
    by_cases hk : e ≤ sp_k t p e
    · rw [if_pos hk] at h
      by_cases hd : 0 < d
      · rw [if_pos hd] at h; cases h
      · rw [if_neg hd] at h; cases h; exact hx
    · rw [if_neg hk] at h
      by_cases hq : e ≤ sp_q t p e
      · rw [if_pos hq] at h; cases h
      · rw [if_neg hq] at h
        cases hs : sp_sort t (sp_f t p e) (sp_q t p e) (sp_th t p e) with
        | none => rw [hs] at h; cases h
        | some s =>
          simp only [hs] at h
          revert h
          cases hfit : pp_fit n s (fun x => (va_up T n (pp_new t p e s) x).2.2.2.2) d os (va_up ot n none) (va_up la n none) with
          | none => intro h; cases h
          | some z =>
            obtain ⟨d', os', ot', la'⟩ := z
            intro h
            refine ih _ _ _ d' os' ot' la' (pp_fit_ix hfit ho (fun j hj => ?_)) (pp_fit_os hfit ho) r h
            by_cases z : j = n
            · subst z; rw [va_up_self, va_up_self]; exact ⟨(fun x hx => by cases hx), (fun x hx => by cases hx)⟩
            · rw [va_up_ne _ _ z, va_up_ne _ _ z]
              have := hx j (by omega)
              exact ⟨fun x h => by have := this.1 x h; omega, fun x h => by have := this.2 x h; omega⟩
def cp_F (k : Nat) (key j : Nat) : Prop := (key = 526 ∧ k * 200 ≤ j ∧ j < k * 200 + 200) ∨ (530 ≤ key ∧ key ≤ 536 ∧ k * 50 ≤ j ∧ j < k * 50 + 50) ∨ ((key = 527 ∨ key = 528 ∨ key = 529) ∧ j = k)
set_option maxHeartbeats 4000000 in
set_option maxRecDepth 100000 in
theorem cp_F_in {k key j : Nat} (h : cp_F k key j) : ∃ x ∈ mo_T, x.1 = key := by
  rcases h with h | h | h
  · exact ⟨(526, 0, 1000), by decide, h.1.symm⟩
  · have h3 : key = 530 ∨ key = 531 ∨ key = 532 ∨ key = 533 ∨ key = 534 ∨ key = 535 ∨ key = 536 := by omega
    rcases h3 with rfl | rfl | rfl | rfl | rfl | rfl | rfl
    all_goals first | exact ⟨(530, 1, 250), by decide, rfl⟩ | exact ⟨(531, 1, 250), by decide, rfl⟩ | exact ⟨(532, 1, 250), by decide, rfl⟩ | exact ⟨(533, 1, 250), by decide, rfl⟩ | exact ⟨(534, 1, 250), by decide, rfl⟩ | exact ⟨(535, 1, 250), by decide, rfl⟩ | exact ⟨(536, 1, 250), by decide, rfl⟩
  · rcases h.1 with rfl | rfl | rfl
    · exact ⟨(527, 1, 5), by decide, rfl⟩
    · exact ⟨(528, 1, 5), by decide, rfl⟩
    · exact ⟨(529, 3, 4), by decide, rfl⟩
def cp_sh (k : Nat) (x : Nat × Nat × Nat × Nat × Nat) : Nat × Nat × Nat × Nat × Nat := (x.1 + k * 200 - 800, x.2.1 + k * 200 - 800, x.2.2.1 + k * 200 - 800, x.2.2.2.1 + k * 200 - 800, x.2.2.2.2)
theorem mt_mv {k : Nat} {r : Option Nat} (hr : ∀ x, r = some x → x < 50) (hk : k ≤ 3) : (if mt_o 200 r < 0 then (-1 : Int32) else mt_o 200 r + (nI (k * 50) - 200)) = mt_o (k * 50) r := by
  cases r with
  | none => exact if_pos (show mt_o 200 none < 0 by decide)
  | some x =>
    have := hr x rfl
    have h1 : ¬ mt_o 200 (some x) < 0 := nI_pos (by omega)
    rw [if_neg h1]
    show nI (200 + x) + (nI (k * 50) - 200) = nI (k * 50 + x)
    have e : 200 + x + k * 50 - 200 = k * 50 + x := by omega
    rw [nI_mv2 (by omega), e]
set_option maxHeartbeats 4000000 in
set_option maxRecDepth 100000 in
theorem cm_compile {g : jg_G} (hg : (jg_l g).stackTraces = false) {h : jh_H} {mo : Nat} {n0 : Nat} {ar ln t0 : Nat → Nat} {kk : Int32} {Q : jw_O → jh_H → Prop} (hm : mo_ok h mo ar) (hn0 : n0 ≤ 200) (hty : jh_i h mo 514 = nI n0) (hln : ∀ i, i < n0 → jh_I h (ar 519) i = nI (ln i) ∧ ln i < 128) (ht0 : mo_tx h ar t0)
    (q1 : (kk < 0 ∨ 3 < kk) → Q (.inl (some (.inl 0))) (mo_rf h mo 1))
    (q2 : ∀ k, k ≤ 3 → kk = nI k → ∀ h1 t, (∀ i, t i = if 800 ≤ i ∧ i < 800 + n0 then ln (i - 800) else t0 i) → mo_fr h h1 ar ta_F → mo_tx h1 ar t → match pp_all t 800 (800 + n0) with
      | .inl p => Q (.inl (some (.inl 0))) (mo_rf (jh_si (jh_si h1 mo 515 (nI (p - 800))) mo 514 0) mo 2)
      | .inr (n, T, ot, la) => n ≤ 50 → (∀ i, i < n → pp_B 800 (800 + n0) (T i)) → ∀ h3, mo_fr (jh_si (jh_si h1 mo 515 (-1)) mo 514 0) h3 ar (cp_F k) → mo_tx h3 ar (fun j => if k * 200 ≤ j ∧ j < k * 200 + n0 then t (800 + (j - k * 200)) else t j) → mt_ok h3 ar (k * 50) n (fun i => cp_sh k (T i)) ot la → jh_I h3 (ar 527) k = nI n0 → jh_I h3 (ar 528) k = nI n → jh_I h3 (ar 529) k = 1 → Q (.inl (some (.inl (nI n)))) (jh_si h3 mo 512 0)) :
    jw_C g 9 0 0 m_M_compile [.inr (.inr (some mo)), .inl kk] h Q := by
  refine jw_intro (ls := [some (.inr (.inr (some mo))), some (.inl kk), none, none, none, none, none]) (by decide) k_M_compile rfl (by simp [lo_fit, jv_c]) hg ?_
  have at9 : (kk < 0 ∨ 3 < kk) → jw_J g 9 m_M_compile jw_T0 9 [some (.inr (.inr (some mo))), some (.inl kk), none, none, none, none, none] [] h 0 0 Q := by
    intro hx
    refine jw_aload_n rfl rfl ?_
    refine js_iconst (x := 1) rfl rfl ?_
    refine js_call (As := [.inl 1]) rfl l_M_refuse c_M_158 i_M_refuse s_M_refuse jc_o8 rfl (hm.1) rfl (cm_refuse hg hm.1 ?_) (by decide) (Nat.le_of_ble_eq_true rfl) (by omega) (by omega) rfl
    refine jw_ireturn rfl rfl rfl ?_
    exact q1 hx
  refine jw_iload_n rfl rfl ?_
  refine jw_if_lt 9 rfl rfl (fun z => at9 (Or.inl z)) (fun z1 => ?_)
  refine jw_iload_n rfl rfl ?_
  refine js_iconst (x := 3) rfl rfl ?_
  refine jw_icmp_le 15 rfl rfl (fun z2 => ?_) (fun z2 => at9 (Or.inr (Int32.not_le.mp z2)))
  obtain ⟨k, hk, rfl⟩ := nI_of2 (M := 3) (n := 3) (by decide) z1 z2
  have q2 := q2 k hk rfl
  refine jw_aload_n rfl rfl ?_
  refine jw_gi rfl g_M_16 hm.1 hty ?_
  refine js_istore_n rfl rfl (by decide) rfl ?_
  refine jw_aload_n rfl rfl ?_
  refine jw_aload_n rfl rfl ?_
  refine js_call (As := []) rfl l_M_takeApart c_M_275 i_M_takeApart s_M_takeApart jc_o8 rfl hm.1 rfl (cm_takeApart hg hm hn0 hty hln ht0 (fun h1 t ht hfr htx => ?_)) (by decide) (Nat.le_of_ble_eq_true rfl) (by omega) (by omega) rfl
  have q2 := q2 h1 t ht hfr htx
  have hm1 : mo_ok h1 mo ar := mo_fr.ok hfr hm
  cases hpp : pp_all t 800 (800 + n0) with
  | inl p =>
    simp only [hpp] at q2
    have hp : p ≤ 1000 := by
      have := pp_inl t (800 + n0) _ 800 0 _ 0 _ _ _ (by omega) (fun i hi => absurd hi (by omega)) (fun j hj => absurd hj (by omega)) p hpp
      omega
    show jw_J _ _ _ _ _ _ _ _ _ _ _
    refine jw_pi rfl p_M_compile_19 hm1.1 ?_
    refine jw_aload_n rfl rfl ?_
    refine js_iconst (x := 0) rfl rfl ?_
    refine jw_pi rfl p_M_compile_16 (mo_si hm1).1 ?_
    refine jw_aload_n rfl rfl ?_
    refine jw_gi rfl g_M_19 (mo_si (mo_si hm1)).1 ((jh_u_k _ _ _ _ (by decide)).trans (jh_u_s _ _ _ _)) ?_
    refine jw_if_lt 46 rfl rfl (fun z => absurd z (nI_pos (by omega))) (fun _ => ?_)
    refine jw_aload_n rfl rfl ?_
    refine js_iconst (x := 2) rfl rfl ?_
    refine js_call (As := [.inl 2]) rfl l_M_refuse c_M_158 i_M_refuse s_M_refuse jc_o8 rfl ((mo_si (mo_si hm1)).1) rfl (cm_refuse hg (mo_si (mo_si hm1)).1 ?_) (by decide) (Nat.le_of_ble_eq_true rfl) (by omega) (by omega) rfl
    refine jw_ireturn rfl rfl rfl ?_
    exact q2
  | inr r =>
    obtain ⟨n, T, ot, la⟩ := r
    simp only [hpp] at q2
    intro hmt htg hn50
    have hB : ∀ i, i < n → pp_B 800 (800 + n0) (T i) := pp_inv t (800 + n0) 800 _ 800 0 _ 0 _ _ _ (by omega) (by omega) (fun i hi => absurd hi (by omega)) (n, T, ot, la) hpp
    have q2 := q2 hn50 hB
    have hol : ∀ i, i < n → (∀ x, ot i = some x → x < 50) ∧ ∀ x, la i = some x → x < 50 := fun i hi => ⟨fun x hx => by have := (pp_ix t (800 + n0) _ 800 0 _ 0 _ _ _ (fun i hi => absurd hi (by omega)) (fun j hj => absurd hj (by omega)) (n, T, ot, la) hpp i hi).1 x hx; have : x < n := this; omega, fun x hx => by have := (pp_ix t (800 + n0) _ 800 0 _ 0 _ _ _ (fun i hi => absurd hi (by omega)) (fun j hj => absurd hj (by omega)) (n, T, ot, la) hpp i hi).2 x hx; have : x < n := this; omega⟩
    show jw_J _ _ _ _ _ _ _ _ _ _ _
    refine jw_pi rfl p_M_compile_19 hm1.1 ?_
    refine jw_aload_n rfl rfl ?_
    refine js_iconst (x := 0) rfl rfl ?_
    refine jw_pi rfl p_M_compile_16 (mo_si hm1).1 ?_
    refine jw_aload_n rfl rfl ?_
    refine jw_gi rfl g_M_19 (mo_si (mo_si hm1)).1 ((jh_u_k _ _ _ _ (by decide)).trans (jh_u_s _ _ _ _)) ?_
    refine jw_if_lt 46 rfl rfl (fun _ => ?_) (fun z => absurd (by decide) z)
    generalize hh2 : jh_si (jh_si h1 mo 515 (-1)) mo 514 0 = h2 at q2
    have hm2 : mo_ok h2 mo ar := by rw [← hh2]; exact mo_si (mo_si hm1)
    have eI : jh_I h2 = jh_I h1 := by rw [← hh2]; rfl
    have htx2 : mo_tx h2 ar t := fun i hi => by rw [eI]; exact htx i hi
    have hmt2 : mt_ok h2 ar 200 n T ot la := fun i hi => by rw [mt_at, eI]; exact hmt i hi
    have htg2 : jh_I h2 (ar 528) 4 = nI n := by rw [eI]; exact htg
    refine jw_iload_n rfl rfl ?_
    refine js_sipush (x := 200) rfl rfl ?_
    refine jw_imul rfl ?_
    rw [show nI k * 200 = nI (k * 200) from pk_mul k 200]
    refine js_sipush (x := 800) rfl rfl ?_
    refine jw_isub rfl ?_
    refine js_istore_n rfl rfl (by decide) rfl ?_
    refine jw_iload_n rfl rfl ?_
    refine js_bipush (x := 50) rfl rfl ?_
    refine jw_imul rfl ?_
    rw [show nI k * 50 = nI (k * 50) from pk_mul k 50]
    refine js_sipush (x := 200) rfl rfl ?_
    refine jw_isub rfl ?_
    refine js_istore rfl rfl (by decide) rfl ?_
    refine js_iconst (x := 0) rfl rfl ?_
    refine js_istore rfl rfl (by decide) rfl ?_
    -- the tags' loop
    have tagl : ∀ m i h3, i + m = n → mo_fr h2 h3 ar (cp_F k) → mo_tx h3 ar (fun j => if k * 200 ≤ j ∧ j < k * 200 + n0 then t (800 + (j - k * 200)) else t j) → mt_ok h3 ar (k * 50) i (fun i => cp_sh k (T i)) ot la → ∀ six, jw_J g 9 m_M_compile jw_T0 110 [some (.inr (.inr (some mo))), some (.inl (nI k)), some (.inl (nI n0)), some (.inl (nI (k * 200) - 800)), some (.inl (nI (k * 50) - 200)), some (.inl (nI (200 + i))), six] [] h3 0 0 Q := by
      intro m
      induction m with
      | zero =>
        intro i h3 hi hfr3 htx3 hmt3 six
        have hm3 : mo_ok h3 mo ar := mo_fr.ok hfr3 hm2
        have e4 : jh_I h3 (ar 528) 4 = nI n := by
          rw [mo_fr.rd hm2 hfr3 9 rfl (fun key hk => ⟨fun e => by subst e; rcases hk with hk | hk | hk <;> omega, cp_F_in hk⟩)]; exact htg2
        have ei : i = n := by omega
        subst ei
        refine jw_iload rfl rfl ?_
        refine js_sipush (x := 200) rfl rfl ?_
        refine jw_aload_n rfl rfl ?_
        refine jw_gr rfl g_M_62 hm3.1 (mo_r hm3 9 rfl) ?_
        refine js_iconst (x := 4) rfl rfl ?_
        refine js_iald (4) rfl (mo_a hm3 9 rfl) (by decide) (by rfl)  rfl (by decide) (by decide) ?_
        rw [e4]
        refine jw_iadd rfl ?_
        rw [show (200 : Int32) + nI i = nI (200 + i) from nI_add 200 i]
        refine jw_icmp_ge 256 rfl rfl (fun _ => ?_) (fun z => absurd ((nI_leI (by omega) (by omega)).mpr (by omega)) z)
        have f1 : mo_fr h2 (jh_sI h3 (ar 527) k (nI n0)) ar (cp_F k) := mo_fr.sI hfr3 (Or.inr (Or.inr ⟨Or.inl rfl, rfl⟩))
        have f2 : mo_fr h2 (jh_sI (jh_sI h3 (ar 527) k (nI n0)) (ar 528) k (nI i)) ar (cp_F k) := mo_fr.sI f1 (Or.inr (Or.inr ⟨Or.inr (Or.inl rfl), rfl⟩))
        have f3 : mo_fr h2 (jh_sI (jh_sI (jh_sI h3 (ar 527) k (nI n0)) (ar 528) k (nI i)) (ar 529) k 1) ar (cp_F k) := mo_fr.sI f2 (Or.inr (Or.inr ⟨Or.inr (Or.inr rfl), rfl⟩))
        have x3 : mo_tx (jh_sI (jh_sI (jh_sI h3 (ar 527) k (nI n0)) (ar 528) k (nI i)) (ar 529) k 1) ar (fun j => if k * 200 ≤ j ∧ j < k * 200 + n0 then t (800 + (j - k * 200)) else t j) := mo_tx_s hm (mo_tx_s hm (mo_tx_s hm htx3 8 rfl (by decide) _ _) 9 rfl (by decide) _ _) 10 rfl (by decide) _ _
        have m3 : mt_ok (jh_sI (jh_sI (jh_sI h3 (ar 527) k (nI n0)) (ar 528) k (nI i)) (ar 529) k 1) ar (k * 50) i (fun i => cp_sh k (T i)) ot la := by
          intro j hj
          have m1 := hmt3 j hj
          exact ⟨((jh_u_a _ _ _ _ (mo_ne hm 11 10 rfl rfl (by decide))).trans ((jh_u_a _ _ _ _ (mo_ne hm 11 9 rfl rfl (by decide))).trans ((jh_u_a _ _ _ _ (mo_ne hm 11 8 rfl rfl (by decide))).trans m1.1))), ((jh_u_a _ _ _ _ (mo_ne hm 13 10 rfl rfl (by decide))).trans ((jh_u_a _ _ _ _ (mo_ne hm 13 9 rfl rfl (by decide))).trans ((jh_u_a _ _ _ _ (mo_ne hm 13 8 rfl rfl (by decide))).trans m1.2.1))), ((jh_u_a _ _ _ _ (mo_ne hm 14 10 rfl rfl (by decide))).trans ((jh_u_a _ _ _ _ (mo_ne hm 14 9 rfl rfl (by decide))).trans ((jh_u_a _ _ _ _ (mo_ne hm 14 8 rfl rfl (by decide))).trans m1.2.2.1))), ((jh_u_a _ _ _ _ (mo_ne hm 12 10 rfl rfl (by decide))).trans ((jh_u_a _ _ _ _ (mo_ne hm 12 9 rfl rfl (by decide))).trans ((jh_u_a _ _ _ _ (mo_ne hm 12 8 rfl rfl (by decide))).trans m1.2.2.2.1))), ((jh_u_a _ _ _ _ (mo_ne hm 15 10 rfl rfl (by decide))).trans ((jh_u_a _ _ _ _ (mo_ne hm 15 9 rfl rfl (by decide))).trans ((jh_u_a _ _ _ _ (mo_ne hm 15 8 rfl rfl (by decide))).trans m1.2.2.2.2.1))), ((jh_u_a _ _ _ _ (mo_ne hm 16 10 rfl rfl (by decide))).trans ((jh_u_a _ _ _ _ (mo_ne hm 16 9 rfl rfl (by decide))).trans ((jh_u_a _ _ _ _ (mo_ne hm 16 8 rfl rfl (by decide))).trans m1.2.2.2.2.2.1))), ((jh_u_a _ _ _ _ (mo_ne hm 17 10 rfl rfl (by decide))).trans ((jh_u_a _ _ _ _ (mo_ne hm 17 9 rfl rfl (by decide))).trans ((jh_u_a _ _ _ _ (mo_ne hm 17 8 rfl rfl (by decide))).trans m1.2.2.2.2.2.2)))⟩
        refine jw_aload_n rfl rfl ?_
        refine jw_gr rfl g_M_59 hm3.1 (mo_r hm3 8 rfl) ?_
        refine jw_iload_n rfl rfl ?_
        refine jw_iload_n rfl rfl ?_
        refine js_iast (k) rfl (mo_a hm3 8 rfl) (by decide) (by rfl)  rfl (by omega) (by decide) ?_
        refine jw_aload_n rfl rfl ?_
        refine jw_gr rfl g_M_62 (mo_sI hm3).1 (mo_r (mo_sI hm3) 9 rfl) ?_
        refine jw_iload_n rfl rfl ?_
        refine jw_aload_n rfl rfl ?_
        refine jw_gr rfl g_M_62 (mo_sI hm3).1 (mo_r (mo_sI hm3) 9 rfl) ?_
        refine js_iconst (x := 4) rfl rfl ?_
        refine js_iald (4) rfl (mo_a (mo_sI hm3) 9 rfl) (by decide) (by rfl)  rfl (by decide) (by decide) ?_
        rw [show jh_I (jh_sI h3 (ar 527) k (nI n0)) (ar 528) 4 = nI i from (jh_u_a _ _ _ _ (mo_ne hm 9 8 rfl rfl (by decide))).trans e4]
        refine js_iast (k) rfl (mo_a (mo_sI hm3) 9 rfl) (by decide) (by rfl)  rfl (by omega) (by decide) ?_
        refine jw_aload_n rfl rfl ?_
        refine jw_gr rfl g_M_65 (mo_sI (mo_sI hm3)).1 (mo_r (mo_sI (mo_sI hm3)) 10 rfl) ?_
        refine jw_iload_n rfl rfl ?_
        refine js_iconst (x := 1) rfl rfl ?_
        refine js_zast (k) rfl (mo_a (mo_sI (mo_sI hm3)) 10 rfl) (by decide) (by rfl)  rfl (by omega) (by decide) (Or.inr rfl) ?_
        refine jw_aload_n rfl rfl ?_
        refine jw_aload_n rfl rfl ?_
        refine jw_gr rfl g_M_62 (mo_sI (mo_sI (mo_sI hm3))).1 (mo_r (mo_sI (mo_sI (mo_sI hm3))) 9 rfl) ?_
        refine jw_iload_n rfl rfl ?_
        refine js_iald (k) rfl (mo_a (mo_sI (mo_sI (mo_sI hm3))) 9 rfl) (by decide) (by rfl)  rfl (by omega) (by decide) ?_
        rw [show jh_I (jh_sI (jh_sI (jh_sI h3 (ar 527) k (nI n0)) (ar 528) k (nI i)) (ar 529) k 1) (ar 528) k = nI i from (jh_u_a _ _ _ _ (mo_ne hm 9 10 rfl rfl (by decide))).trans (jh_u_s _ _ _ _)]
        refine js_call (As := [.inl (nI i)]) rfl l_M_fine c_M_162 i_M_fine s_M_fine jc_o8 rfl ((mo_sI (mo_sI (mo_sI hm3))).1) rfl (cm_fine hg (mo_sI (mo_sI (mo_sI hm3))).1 ?_) (by decide) (Nat.le_of_ble_eq_true rfl) (by omega) (by omega) rfl
        refine jw_ireturn rfl rfl rfl ?_
        exact q2 _ f3 x3 m3 ((jh_u_a _ _ _ _ (mo_ne hm 8 10 rfl rfl (by decide))).trans ((jh_u_a _ _ _ _ (mo_ne hm 8 9 rfl rfl (by decide))).trans (jh_u_s _ _ _ _))) ((jh_u_a _ _ _ _ (mo_ne hm 9 10 rfl rfl (by decide))).trans (jh_u_s _ _ _ _)) (jh_u_s _ _ _ _)
      | succ m ih =>
        intro i h3 hi hfr3 htx3 hmt3 six
        have hm3 : mo_ok h3 mo ar := mo_fr.ok hfr3 hm2
        have e4 : jh_I h3 (ar 528) 4 = nI n := by
          rw [mo_fr.rd hm2 hfr3 9 rfl (fun key hk => ⟨fun e => by subst e; rcases hk with hk | hk | hk <;> omega, cp_F_in hk⟩)]; exact htg2
        have b1 := hB i (by omega)
        have o1 := hol i (by omega)
        have r1 := hmt2 i (by omega)
        have rd : ∀ (x : Nat) {K tt nn : Nat}, mo_T[x]? = some (K, tt, nn) → 530 ≤ K → K ≤ 536 → jh_I h3 (ar K) (200 + i) = jh_I h2 (ar K) (200 + i) := fun x K tt nn hx h1 h2 => mo_fr.rd hm2 hfr3 x hx (fun key hk => ⟨fun e => by subst e; rcases hk with hk | hk | hk <;> omega, cp_F_in hk⟩)
        refine jw_iload rfl rfl ?_
        refine js_sipush (x := 200) rfl rfl ?_
        refine jw_aload_n rfl rfl ?_
        refine jw_gr rfl g_M_62 hm3.1 (mo_r hm3 9 rfl) ?_
        refine js_iconst (x := 4) rfl rfl ?_
        refine js_iald (4) rfl (mo_a hm3 9 rfl) (by decide) (by rfl)  rfl (by decide) (by decide) ?_
        rw [e4]
        refine jw_iadd rfl ?_
        rw [show (200 : Int32) + nI n = nI (200 + n) from nI_add 200 n]
        refine jw_icmp_ge 256 rfl rfl (fun z => absurd ((nI_leI (by omega) (by omega)).mp z) (by omega)) (fun _ => ?_)
        refine jw_iload rfl rfl ?_
        refine jw_iload rfl rfl ?_
        refine jw_iadd rfl ?_
        rw [nI_mv2 (by omega), show 200 + i + k * 50 - 200 = k * 50 + i by omega]
        refine js_istore rfl rfl (by decide) rfl ?_
        refine jw_aload_n rfl rfl ?_
        refine jw_gr rfl g_M_68 hm3.1 (mo_r hm3 11 rfl) ?_
        refine jw_iload rfl rfl ?_
        refine jw_aload_n rfl rfl ?_
        refine jw_gr rfl g_M_68 hm3.1 (mo_r hm3 11 rfl) ?_
        refine jw_iload rfl rfl ?_
        refine js_iald (200 + i) rfl (mo_a hm3 11 rfl) (by decide) (by rfl)  rfl (by omega) (by decide) ?_
        rw [show jh_I h3 (ar 530) (200 + i) = nI (T i).1 from (rd 11 rfl (by decide) (by decide)).trans r1.1]
        refine jw_iload_n rfl rfl ?_
        refine jw_iadd rfl ?_
        rw [nI_mv (by have := b1.1; omega)]
        refine js_iast (k * 50 + i) rfl (mo_a hm3 11 rfl) (by decide) (by rfl)  rfl (by omega) (by decide) ?_
        refine jw_aload_n rfl rfl ?_
        refine jw_gr rfl g_M_71 (mo_sI hm3).1 (mo_r (mo_sI hm3) 12 rfl) ?_
        refine jw_iload rfl rfl ?_
        refine jw_aload_n rfl rfl ?_
        refine jw_gr rfl g_M_71 (mo_sI hm3).1 (mo_r (mo_sI hm3) 12 rfl) ?_
        refine jw_iload rfl rfl ?_
        refine js_iald (200 + i) rfl (mo_a (mo_sI hm3) 12 rfl) (by decide) (by rfl)  rfl (by omega) (by decide) ?_
        rw [show jh_I (jh_sI h3 (ar 530) (k * 50 + i) (nI ((T i).1 + k * 200 - 800))) (ar 531) (200 + i) = nI (T i).2.2.2.1 from (((jh_u_a _ _ _ _ (mo_ne hm 12 11 rfl rfl (by decide)))).trans (rd 12 rfl (by decide) (by decide))).trans r1.2.2.2.1]
        refine jw_iload_n rfl rfl ?_
        refine jw_iadd rfl ?_
        rw [nI_mv (by have := (Nat.le_trans b1.1 (Nat.le_trans b1.2.1 (Nat.le_trans b1.2.2.1 b1.2.2.2.1))); omega)]
        refine js_iast (k * 50 + i) rfl (mo_a (mo_sI hm3) 12 rfl) (by decide) (by rfl)  rfl (by omega) (by decide) ?_
        refine jw_aload_n rfl rfl ?_
        refine jw_gr rfl g_M_74 (mo_sI (mo_sI hm3)).1 (mo_r (mo_sI (mo_sI hm3)) 13 rfl) ?_
        refine jw_iload rfl rfl ?_
        refine jw_aload_n rfl rfl ?_
        refine jw_gr rfl g_M_74 (mo_sI (mo_sI hm3)).1 (mo_r (mo_sI (mo_sI hm3)) 13 rfl) ?_
        refine jw_iload rfl rfl ?_
        refine js_iald (200 + i) rfl (mo_a (mo_sI (mo_sI hm3)) 13 rfl) (by decide) (by rfl)  rfl (by omega) (by decide) ?_
        rw [show jh_I (jh_sI (jh_sI h3 (ar 530) (k * 50 + i) (nI ((T i).1 + k * 200 - 800))) (ar 531) (k * 50 + i) (nI ((T i).2.2.2.1 + k * 200 - 800))) (ar 532) (200 + i) = nI (T i).2.1 from (((jh_u_a _ _ _ _ (mo_ne hm 13 12 rfl rfl (by decide)))).trans (((jh_u_a _ _ _ _ (mo_ne hm 13 11 rfl rfl (by decide)))).trans (rd 13 rfl (by decide) (by decide)))).trans r1.2.1]
        refine jw_iload_n rfl rfl ?_
        refine jw_iadd rfl ?_
        rw [nI_mv (by have := (Nat.le_trans b1.1 b1.2.1); omega)]
        refine js_iast (k * 50 + i) rfl (mo_a (mo_sI (mo_sI hm3)) 13 rfl) (by decide) (by rfl)  rfl (by omega) (by decide) ?_
        refine jw_aload_n rfl rfl ?_
        refine jw_gr rfl g_M_77 (mo_sI (mo_sI (mo_sI hm3))).1 (mo_r (mo_sI (mo_sI (mo_sI hm3))) 14 rfl) ?_
        refine jw_iload rfl rfl ?_
        refine jw_aload_n rfl rfl ?_
        refine jw_gr rfl g_M_77 (mo_sI (mo_sI (mo_sI hm3))).1 (mo_r (mo_sI (mo_sI (mo_sI hm3))) 14 rfl) ?_
        refine jw_iload rfl rfl ?_
        refine js_iald (200 + i) rfl (mo_a (mo_sI (mo_sI (mo_sI hm3))) 14 rfl) (by decide) (by rfl)  rfl (by omega) (by decide) ?_
        rw [show jh_I (jh_sI (jh_sI (jh_sI h3 (ar 530) (k * 50 + i) (nI ((T i).1 + k * 200 - 800))) (ar 531) (k * 50 + i) (nI ((T i).2.2.2.1 + k * 200 - 800))) (ar 532) (k * 50 + i) (nI ((T i).2.1 + k * 200 - 800))) (ar 533) (200 + i) = nI (T i).2.2.1 from (((jh_u_a _ _ _ _ (mo_ne hm 14 13 rfl rfl (by decide)))).trans (((jh_u_a _ _ _ _ (mo_ne hm 14 12 rfl rfl (by decide)))).trans (((jh_u_a _ _ _ _ (mo_ne hm 14 11 rfl rfl (by decide)))).trans (rd 14 rfl (by decide) (by decide))))).trans r1.2.2.1]
        refine jw_iload_n rfl rfl ?_
        refine jw_iadd rfl ?_
        rw [nI_mv (by have := (Nat.le_trans b1.1 (Nat.le_trans b1.2.1 b1.2.2.1)); omega)]
        refine js_iast (k * 50 + i) rfl (mo_a (mo_sI (mo_sI (mo_sI hm3))) 14 rfl) (by decide) (by rfl)  rfl (by omega) (by decide) ?_
        refine jw_aload_n rfl rfl ?_
        refine jw_gr rfl g_M_80 (mo_sI (mo_sI (mo_sI (mo_sI hm3)))).1 (mo_r (mo_sI (mo_sI (mo_sI (mo_sI hm3)))) 15 rfl) ?_
        refine jw_iload rfl rfl ?_
        refine jw_aload_n rfl rfl ?_
        refine jw_gr rfl g_M_80 (mo_sI (mo_sI (mo_sI (mo_sI hm3)))).1 (mo_r (mo_sI (mo_sI (mo_sI (mo_sI hm3)))) 15 rfl) ?_
        refine jw_iload rfl rfl ?_
        refine js_iald (200 + i) rfl (mo_a (mo_sI (mo_sI (mo_sI (mo_sI hm3)))) 15 rfl) (by decide) (by rfl)  rfl (by omega) (by decide) ?_
        rw [show jh_I (jh_sI (jh_sI (jh_sI (jh_sI h3 (ar 530) (k * 50 + i) (nI ((T i).1 + k * 200 - 800))) (ar 531) (k * 50 + i) (nI ((T i).2.2.2.1 + k * 200 - 800))) (ar 532) (k * 50 + i) (nI ((T i).2.1 + k * 200 - 800))) (ar 533) (k * 50 + i) (nI ((T i).2.2.1 + k * 200 - 800))) (ar 534) (200 + i) = nI (T i).2.2.2.2 from (((jh_u_a _ _ _ _ (mo_ne hm 15 14 rfl rfl (by decide)))).trans (((jh_u_a _ _ _ _ (mo_ne hm 15 13 rfl rfl (by decide)))).trans (((jh_u_a _ _ _ _ (mo_ne hm 15 12 rfl rfl (by decide)))).trans (((jh_u_a _ _ _ _ (mo_ne hm 15 11 rfl rfl (by decide)))).trans (rd 15 rfl (by decide) (by decide)))))).trans r1.2.2.2.2.1]
        refine js_iast (k * 50 + i) rfl (mo_a (mo_sI (mo_sI (mo_sI (mo_sI hm3)))) 15 rfl) (by decide) (by rfl)  rfl (by omega) (by decide) ?_
        refine jw_aload_n rfl rfl ?_
        refine jw_gr rfl g_M_83 (mo_sI (mo_sI (mo_sI (mo_sI (mo_sI hm3))))).1 (mo_r (mo_sI (mo_sI (mo_sI (mo_sI (mo_sI hm3))))) 16 rfl) ?_
        refine jw_iload rfl rfl ?_
        refine jw_aload_n rfl rfl ?_
        refine jw_aload_n rfl rfl ?_
        refine jw_gr rfl g_M_83 (mo_sI (mo_sI (mo_sI (mo_sI (mo_sI hm3))))).1 (mo_r (mo_sI (mo_sI (mo_sI (mo_sI (mo_sI hm3))))) 16 rfl) ?_
        refine jw_iload rfl rfl ?_
        refine js_iald (200 + i) rfl (mo_a (mo_sI (mo_sI (mo_sI (mo_sI (mo_sI hm3))))) 16 rfl) (by decide) (by rfl)  rfl (by omega) (by decide) ?_
        rw [show jh_I (jh_sI (jh_sI (jh_sI (jh_sI (jh_sI h3 (ar 530) (k * 50 + i) (nI ((T i).1 + k * 200 - 800))) (ar 531) (k * 50 + i) (nI ((T i).2.2.2.1 + k * 200 - 800))) (ar 532) (k * 50 + i) (nI ((T i).2.1 + k * 200 - 800))) (ar 533) (k * 50 + i) (nI ((T i).2.2.1 + k * 200 - 800))) (ar 534) (k * 50 + i) (nI (T i).2.2.2.2)) (ar 535) (200 + i) = mt_o 200 (ot i) from (((jh_u_a _ _ _ _ (mo_ne hm 16 15 rfl rfl (by decide)))).trans (((jh_u_a _ _ _ _ (mo_ne hm 16 14 rfl rfl (by decide)))).trans (((jh_u_a _ _ _ _ (mo_ne hm 16 13 rfl rfl (by decide)))).trans (((jh_u_a _ _ _ _ (mo_ne hm 16 12 rfl rfl (by decide)))).trans (((jh_u_a _ _ _ _ (mo_ne hm 16 11 rfl rfl (by decide)))).trans (rd 16 rfl (by decide) (by decide))))))).trans r1.2.2.2.2.2.1]
        refine jw_iload rfl rfl ?_
        refine js_call (As := [.inl (mt_o 200 (ot i)), .inl (nI (k * 50) - 200)]) rfl l_M_moved c_M_279 i_M_moved s_M_moved jc_o8 rfl ((mo_sI (mo_sI (mo_sI (mo_sI (mo_sI hm3))))).1) rfl (cm_moved hg ?_) (by decide) (Nat.le_of_ble_eq_true rfl) (by omega) (by omega) rfl
        rw [mt_mv o1.1 hk]
        refine js_iast (k * 50 + i) rfl (mo_a (mo_sI (mo_sI (mo_sI (mo_sI (mo_sI hm3))))) 16 rfl) (by decide) (by rfl)  rfl (by omega) (by decide) ?_
        refine jw_aload_n rfl rfl ?_
        refine jw_gr rfl g_M_86 (mo_sI (mo_sI (mo_sI (mo_sI (mo_sI (mo_sI hm3)))))).1 (mo_r (mo_sI (mo_sI (mo_sI (mo_sI (mo_sI (mo_sI hm3)))))) 17 rfl) ?_
        refine jw_iload rfl rfl ?_
        refine jw_aload_n rfl rfl ?_
        refine jw_aload_n rfl rfl ?_
        refine jw_gr rfl g_M_86 (mo_sI (mo_sI (mo_sI (mo_sI (mo_sI (mo_sI hm3)))))).1 (mo_r (mo_sI (mo_sI (mo_sI (mo_sI (mo_sI (mo_sI hm3)))))) 17 rfl) ?_
        refine jw_iload rfl rfl ?_
        refine js_iald (200 + i) rfl (mo_a (mo_sI (mo_sI (mo_sI (mo_sI (mo_sI (mo_sI hm3)))))) 17 rfl) (by decide) (by rfl)  rfl (by omega) (by decide) ?_
        rw [show jh_I (jh_sI (jh_sI (jh_sI (jh_sI (jh_sI (jh_sI h3 (ar 530) (k * 50 + i) (nI ((T i).1 + k * 200 - 800))) (ar 531) (k * 50 + i) (nI ((T i).2.2.2.1 + k * 200 - 800))) (ar 532) (k * 50 + i) (nI ((T i).2.1 + k * 200 - 800))) (ar 533) (k * 50 + i) (nI ((T i).2.2.1 + k * 200 - 800))) (ar 534) (k * 50 + i) (nI (T i).2.2.2.2)) (ar 535) (k * 50 + i) (mt_o (k * 50) (ot i))) (ar 536) (200 + i) = mt_o 200 (la i) from (((jh_u_a _ _ _ _ (mo_ne hm 17 16 rfl rfl (by decide)))).trans (((jh_u_a _ _ _ _ (mo_ne hm 17 15 rfl rfl (by decide)))).trans (((jh_u_a _ _ _ _ (mo_ne hm 17 14 rfl rfl (by decide)))).trans (((jh_u_a _ _ _ _ (mo_ne hm 17 13 rfl rfl (by decide)))).trans (((jh_u_a _ _ _ _ (mo_ne hm 17 12 rfl rfl (by decide)))).trans (((jh_u_a _ _ _ _ (mo_ne hm 17 11 rfl rfl (by decide)))).trans (rd 17 rfl (by decide) (by decide)))))))).trans r1.2.2.2.2.2.2]
        refine jw_iload rfl rfl ?_
        refine js_call (As := [.inl (mt_o 200 (la i)), .inl (nI (k * 50) - 200)]) rfl l_M_moved c_M_279 i_M_moved s_M_moved jc_o8 rfl ((mo_sI (mo_sI (mo_sI (mo_sI (mo_sI (mo_sI hm3)))))).1) rfl (cm_moved hg ?_) (by decide) (Nat.le_of_ble_eq_true rfl) (by omega) (by omega) rfl
        rw [mt_mv o1.2 hk]
        refine js_iast (k * 50 + i) rfl (mo_a (mo_sI (mo_sI (mo_sI (mo_sI (mo_sI (mo_sI hm3)))))) 17 rfl) (by decide) (by rfl)  rfl (by omega) (by decide) ?_
        refine js_iinc rfl rfl (nI_1 (200 + i)) rfl (by decide) rfl ?_
        refine jw_goto 110 rfl rfl ?_
        rw [show 200 + i + 1 = 200 + (i + 1) by omega]
        refine ih (i + 1) _ (by omega) (mo_fr.sI (mo_fr.sI (mo_fr.sI (mo_fr.sI (mo_fr.sI (mo_fr.sI (mo_fr.sI hfr3 (Or.inr (Or.inl ⟨by decide, by decide, by omega, by omega⟩))) (Or.inr (Or.inl ⟨by decide, by decide, by omega, by omega⟩))) (Or.inr (Or.inl ⟨by decide, by decide, by omega, by omega⟩))) (Or.inr (Or.inl ⟨by decide, by decide, by omega, by omega⟩))) (Or.inr (Or.inl ⟨by decide, by decide, by omega, by omega⟩))) (Or.inr (Or.inl ⟨by decide, by decide, by omega, by omega⟩))) (Or.inr (Or.inl ⟨by decide, by decide, by omega, by omega⟩))) (mo_tx_s hm (mo_tx_s hm (mo_tx_s hm (mo_tx_s hm (mo_tx_s hm (mo_tx_s hm (mo_tx_s hm htx3 11 rfl (by decide) _ _) 12 rfl (by decide) _ _) 13 rfl (by decide) _ _) 14 rfl (by decide) _ _) 15 rfl (by decide) _ _) 16 rfl (by decide) _ _) 17 rfl (by decide) _ _) (fun j hj => ?_) _
        by_cases z : j = i
        · subst z
          exact ⟨((jh_u_a _ _ _ _ (mo_ne hm 11 17 rfl rfl (by decide))).trans ((jh_u_a _ _ _ _ (mo_ne hm 11 16 rfl rfl (by decide))).trans ((jh_u_a _ _ _ _ (mo_ne hm 11 15 rfl rfl (by decide))).trans ((jh_u_a _ _ _ _ (mo_ne hm 11 14 rfl rfl (by decide))).trans ((jh_u_a _ _ _ _ (mo_ne hm 11 13 rfl rfl (by decide))).trans ((jh_u_a _ _ _ _ (mo_ne hm 11 12 rfl rfl (by decide))).trans (jh_u_s _ _ _ _))))))), ((jh_u_a _ _ _ _ (mo_ne hm 13 17 rfl rfl (by decide))).trans ((jh_u_a _ _ _ _ (mo_ne hm 13 16 rfl rfl (by decide))).trans ((jh_u_a _ _ _ _ (mo_ne hm 13 15 rfl rfl (by decide))).trans ((jh_u_a _ _ _ _ (mo_ne hm 13 14 rfl rfl (by decide))).trans (jh_u_s _ _ _ _))))), ((jh_u_a _ _ _ _ (mo_ne hm 14 17 rfl rfl (by decide))).trans ((jh_u_a _ _ _ _ (mo_ne hm 14 16 rfl rfl (by decide))).trans ((jh_u_a _ _ _ _ (mo_ne hm 14 15 rfl rfl (by decide))).trans (jh_u_s _ _ _ _)))), ((jh_u_a _ _ _ _ (mo_ne hm 12 17 rfl rfl (by decide))).trans ((jh_u_a _ _ _ _ (mo_ne hm 12 16 rfl rfl (by decide))).trans ((jh_u_a _ _ _ _ (mo_ne hm 12 15 rfl rfl (by decide))).trans ((jh_u_a _ _ _ _ (mo_ne hm 12 14 rfl rfl (by decide))).trans ((jh_u_a _ _ _ _ (mo_ne hm 12 13 rfl rfl (by decide))).trans (jh_u_s _ _ _ _)))))), ((jh_u_a _ _ _ _ (mo_ne hm 15 17 rfl rfl (by decide))).trans ((jh_u_a _ _ _ _ (mo_ne hm 15 16 rfl rfl (by decide))).trans (jh_u_s _ _ _ _))), ((jh_u_a _ _ _ _ (mo_ne hm 16 17 rfl rfl (by decide))).trans (jh_u_s _ _ _ _)), (jh_u_s _ _ _ _)⟩
        · have m1 := hmt3 j (by omega)
          exact ⟨((jh_u_a _ _ _ _ (mo_ne hm 11 17 rfl rfl (by decide))).trans ((jh_u_a _ _ _ _ (mo_ne hm 11 16 rfl rfl (by decide))).trans ((jh_u_a _ _ _ _ (mo_ne hm 11 15 rfl rfl (by decide))).trans ((jh_u_a _ _ _ _ (mo_ne hm 11 14 rfl rfl (by decide))).trans ((jh_u_a _ _ _ _ (mo_ne hm 11 13 rfl rfl (by decide))).trans ((jh_u_a _ _ _ _ (mo_ne hm 11 12 rfl rfl (by decide))).trans ((jh_u_k _ _ _ _ (by omega)).trans m1.1))))))), ((jh_u_a _ _ _ _ (mo_ne hm 13 17 rfl rfl (by decide))).trans ((jh_u_a _ _ _ _ (mo_ne hm 13 16 rfl rfl (by decide))).trans ((jh_u_a _ _ _ _ (mo_ne hm 13 15 rfl rfl (by decide))).trans ((jh_u_a _ _ _ _ (mo_ne hm 13 14 rfl rfl (by decide))).trans ((jh_u_k _ _ _ _ (by omega)).trans ((jh_u_a _ _ _ _ (mo_ne hm 13 12 rfl rfl (by decide))).trans ((jh_u_a _ _ _ _ (mo_ne hm 13 11 rfl rfl (by decide))).trans m1.2.1))))))), ((jh_u_a _ _ _ _ (mo_ne hm 14 17 rfl rfl (by decide))).trans ((jh_u_a _ _ _ _ (mo_ne hm 14 16 rfl rfl (by decide))).trans ((jh_u_a _ _ _ _ (mo_ne hm 14 15 rfl rfl (by decide))).trans ((jh_u_k _ _ _ _ (by omega)).trans ((jh_u_a _ _ _ _ (mo_ne hm 14 13 rfl rfl (by decide))).trans ((jh_u_a _ _ _ _ (mo_ne hm 14 12 rfl rfl (by decide))).trans ((jh_u_a _ _ _ _ (mo_ne hm 14 11 rfl rfl (by decide))).trans m1.2.2.1))))))), ((jh_u_a _ _ _ _ (mo_ne hm 12 17 rfl rfl (by decide))).trans ((jh_u_a _ _ _ _ (mo_ne hm 12 16 rfl rfl (by decide))).trans ((jh_u_a _ _ _ _ (mo_ne hm 12 15 rfl rfl (by decide))).trans ((jh_u_a _ _ _ _ (mo_ne hm 12 14 rfl rfl (by decide))).trans ((jh_u_a _ _ _ _ (mo_ne hm 12 13 rfl rfl (by decide))).trans ((jh_u_k _ _ _ _ (by omega)).trans ((jh_u_a _ _ _ _ (mo_ne hm 12 11 rfl rfl (by decide))).trans m1.2.2.2.1))))))), ((jh_u_a _ _ _ _ (mo_ne hm 15 17 rfl rfl (by decide))).trans ((jh_u_a _ _ _ _ (mo_ne hm 15 16 rfl rfl (by decide))).trans ((jh_u_k _ _ _ _ (by omega)).trans ((jh_u_a _ _ _ _ (mo_ne hm 15 14 rfl rfl (by decide))).trans ((jh_u_a _ _ _ _ (mo_ne hm 15 13 rfl rfl (by decide))).trans ((jh_u_a _ _ _ _ (mo_ne hm 15 12 rfl rfl (by decide))).trans ((jh_u_a _ _ _ _ (mo_ne hm 15 11 rfl rfl (by decide))).trans m1.2.2.2.2.1))))))), ((jh_u_a _ _ _ _ (mo_ne hm 16 17 rfl rfl (by decide))).trans ((jh_u_k _ _ _ _ (by omega)).trans ((jh_u_a _ _ _ _ (mo_ne hm 16 15 rfl rfl (by decide))).trans ((jh_u_a _ _ _ _ (mo_ne hm 16 14 rfl rfl (by decide))).trans ((jh_u_a _ _ _ _ (mo_ne hm 16 13 rfl rfl (by decide))).trans ((jh_u_a _ _ _ _ (mo_ne hm 16 12 rfl rfl (by decide))).trans ((jh_u_a _ _ _ _ (mo_ne hm 16 11 rfl rfl (by decide))).trans m1.2.2.2.2.2.1))))))), ((jh_u_k _ _ _ _ (by omega)).trans ((jh_u_a _ _ _ _ (mo_ne hm 17 16 rfl rfl (by decide))).trans ((jh_u_a _ _ _ _ (mo_ne hm 17 15 rfl rfl (by decide))).trans ((jh_u_a _ _ _ _ (mo_ne hm 17 14 rfl rfl (by decide))).trans ((jh_u_a _ _ _ _ (mo_ne hm 17 13 rfl rfl (by decide))).trans ((jh_u_a _ _ _ _ (mo_ne hm 17 12 rfl rfl (by decide))).trans ((jh_u_a _ _ _ _ (mo_ne hm 17 11 rfl rfl (by decide))).trans m1.2.2.2.2.2.2)))))))⟩
    have copyl : ∀ m i h3, i + m = n0 → mo_fr h2 h3 ar (cp_F k) → mo_tx h3 ar (fun j => if k * 200 ≤ j ∧ j < k * 200 + i then t (800 + (j - k * 200)) else t j) → jw_J g 9 m_M_compile jw_T0 69 [some (.inr (.inr (some mo))), some (.inl (nI k)), some (.inl (nI n0)), some (.inl (nI (k * 200) - 800)), some (.inl (nI (k * 50) - 200)), some (.inl (nI i)), none] [] h3 0 0 Q := by
      intro m
      induction m with
      | zero =>
        intro i h3 hi hfr3 htx3
        have ei : i = n0 := by omega
        subst ei
        refine jw_iload rfl rfl ?_
        refine jw_iload_n rfl rfl ?_
        refine jw_icmp_ge 105 rfl rfl (fun _ => ?_) (fun z => absurd ((nI_leI (by omega) (by omega)).mpr (by omega)) z)
        refine js_sipush (x := 200) rfl rfl ?_
        refine js_istore rfl rfl (by decide) rfl ?_
        exact tagl n 0 h3 (by omega) hfr3 htx3 (fun j hj => absurd hj (by omega)) _
      | succ m ih =>
        intro i h3 hi hfr3 htx3
        have hm3 : mo_ok h3 mo ar := mo_fr.ok hfr3 hm2
        have et := htx3 (800 + i) (by omega)
        simp only [if_neg (show ¬ (k * 200 ≤ 800 + i ∧ 800 + i < k * 200 + i) by omega)] at et
        refine jw_iload rfl rfl ?_
        refine jw_iload_n rfl rfl ?_
        refine jw_icmp_ge 105 rfl rfl (fun z => absurd ((nI_leI (by omega) (by omega)).mp z) (by omega)) (fun _ => ?_)
        refine jw_aload_n rfl rfl ?_
        refine jw_gr rfl g_M_56 hm3.1 (mo_r hm3 7 rfl) ?_
        refine jw_iload_n rfl rfl ?_
        refine js_sipush (x := 200) rfl rfl ?_
        refine jw_imul rfl ?_
        refine jw_iload rfl rfl ?_
        rw [show nI k * 200 = nI (k * 200) from pk_mul k 200]
        refine jw_iadd rfl ?_
        rw [nI_add]
        refine jw_aload_n rfl rfl ?_
        refine jw_gr rfl g_M_56 hm3.1 (mo_r hm3 7 rfl) ?_
        refine js_sipush (x := 800) rfl rfl ?_
        refine jw_iload rfl rfl ?_
        refine jw_iadd rfl ?_
        rw [show (800 : Int32) + nI i = nI (800 + i) from nI_add 800 i]
        refine js_cald (800 + i) rfl (mo_a hm3 7 rfl) (by decide) (by rfl)  rfl (by omega) (by decide) ?_
        rw [et.1]
        refine js_cast (k * 200 + i) rfl (mo_a hm3 7 rfl) (by decide) (by rfl)  rfl (by omega) (by decide) ?_
        refine js_iinc rfl rfl (nI_1 i) rfl (by decide) rfl ?_
        refine jw_goto 69 rfl rfl ?_
        have hnar : vp_nar .char (nI (t (800 + i))) = nI (t (800 + i)) := by simp only [vp_nar, (pk_charN (q := t (800 + i)) (by omega)).1]
        rw [hnar]
        refine ih (i + 1) _ (by omega) (mo_fr.sI hfr3 (Or.inl ⟨rfl, by omega, by omega⟩)) (fun x hx => ?_)
        have hx3 := htx3 x hx
        dsimp only at hx3 ⊢
        by_cases z : x = k * 200 + i
        · rw [if_pos (by omega), show 800 + (x - k * 200) = 800 + i by omega, z]
          exact ⟨jh_u_s _ _ _ _, et.2⟩
        · have e1 : (if k * 200 ≤ x ∧ x < k * 200 + (i + 1) then t (800 + (x - k * 200)) else t x) = (if k * 200 ≤ x ∧ x < k * 200 + i then t (800 + (x - k * 200)) else t x) := by
            by_cases z2 : k * 200 ≤ x ∧ x < k * 200 + i
            · rw [if_pos z2, if_pos (by omega)]
            · rw [if_neg z2, if_neg (by omega)]
          rw [e1]
          exact ⟨(jh_u_k _ _ _ _ z).trans hx3.1, hx3.2⟩
    exact copyl n0 0 h2 (by omega) mo_fr.rf (fun x hx => by dsimp only; rw [if_neg (by omega)]; exact htx2 x hx)

