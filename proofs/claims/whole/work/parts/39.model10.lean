/-! the model: compile, count, find -/
set_option maxHeartbeats 4000000 in
set_option maxRecDepth 100000 in
theorem cm_moved {g : jg_G} (hg : (jg_l g).stackTraces = false) {h : jh_H} {mo : Nat} {by0 v : Int32} {Q : jw_O → jh_H → Prop} (hq : Q (.inl (some (.inl (if v < 0 then -1 else v + by0)))) h) : jw_C g 0 0 0 m_M_moved [.inr (.inr (some mo)), .inl v, .inl by0] h Q := by
  refine jw_intro (ls := [some (.inr (.inr (some mo))), some (.inl v), some (.inl by0)]) (by decide) k_M_moved rfl (by simp [lo_fit, jv_c]) hg ?_
  refine jw_iload_n rfl rfl ?_
  refine jw_if_ge 8 rfl rfl (fun c => ?_) (fun c => ?_)
  · rw [if_neg (Int32.not_lt.mpr c)] at hq
    refine jw_iload_n rfl rfl ?_
    refine jw_iload_n rfl rfl ?_
    refine jw_iadd rfl ?_
    refine jw_ireturn rfl rfl rfl ?_
    exact hq
  · rw [if_pos (Int32.not_le.mp c)] at hq
    refine js_iconst (x := (-1)) rfl rfl ?_
    refine jw_goto 11 rfl rfl ?_
    refine jw_ireturn rfl rfl rfl ?_
    exact hq
def pp_B (p0 e : Nat) (x : Nat × Nat × Nat × Nat × Nat) : Prop := p0 ≤ x.1 ∧ x.1 ≤ x.2.1 ∧ x.2.1 ≤ x.2.2.1 ∧ x.2.2.1 ≤ x.2.2.2.1 ∧ x.2.2.2.1 ≤ e ∧ x.2.2.2.2 ≤ 10
theorem sp_q_le (t : Nat → Nat) {p e : Nat} (hp : p ≤ e) (hk : sp_k t p e < e) (hq : sp_q t p e < e) : p ≤ sp_k t p e ∧ sp_k t p e + 2 ≤ sp_f t p e ∧ sp_f t p e ≤ sp_q t p e ∧ sp_q t p e + sp_n (sp_th t p e) ≤ e := by
  have hpk : p ≤ sp_k t p e := (sp_fd_le t e [123, 123] (e - p) p hp).2
  have hff := sp_f_le t hp hk
  have hfq : sp_f t p e ≤ sp_q t p e := (sp_fd_le t e _ _ _ hff).2
  have hkf : sp_k t p e + 2 ≤ sp_f t p e := by
    rw [sp_f]; cases sp_th t p e <;> simp [sp_n]
  have h1 := sp_fd_at t e (sp_cl (sp_th t p e)) (e - sp_f t p e) (sp_f t p e) hff (by omega) hq
  have h2 := sp_st_len t (by cases sp_th t p e <;> simp [sp_cl]) (by cases sp_th t p e <;> simp [sp_cl]) (show sp_q t p e ≤ e by omega) h1
  have h3 : (sp_cl (sp_th t p e)).length = sp_n (sp_th t p e) := by cases sp_th t p e <;> rfl
  have h4 : sp_q t p e + (sp_cl (sp_th t p e)).length ≤ e := h2
  exact ⟨hpk, hkf, hfq, by omega⟩
theorem pp_inv (t : Nat → Nat) (e p0 : Nat) : ∀ f p n T d os ot la, p0 ≤ p → p ≤ e → (∀ i, i < n → pp_B p0 e (T i)) → ∀ r, pp t e f p n T d os ot la = .inr r → ∀ i, i < r.1 → pp_B p0 e (r.2.1 i) := by
  intro f
  induction f with
  | zero => intro p n T d os ot la _ _ _ r h; cases h
  | succ f ih =>
    intro p n T d os ot la hp0 hp hT r h
    rw [pp] at h
    by_cases hk : e ≤ sp_k t p e
    · rw [if_pos hk] at h
      by_cases hd : 0 < d
      · rw [if_pos hd] at h; cases h
      · rw [if_neg hd] at h; cases h; exact hT
    · rw [if_neg hk] at h
      by_cases hq : e ≤ sp_q t p e
      · rw [if_pos hq] at h; cases h
      · rw [if_neg hq] at h
        have hb := sp_q_le t hp (by omega) (by omega)
        cases hs : sp_sort t (sp_f t p e) (sp_q t p e) (sp_th t p e) with
        | none => rw [hs] at h; cases h
        | some s =>
          simp only [hs] at h
          have hs10 := sp_sort_le hs
          revert h
          cases pp_fit n s (fun x => (va_up T n (pp_new t p e s) x).2.2.2.2) d os (va_up ot n none) (va_up la n none) with
          | none => intro h; cases h
          | some z =>
            obtain ⟨d', os', ot', la'⟩ := z
            intro h
            refine ih _ _ _ d' os' ot' la' (by omega) hb.2.2.2 (fun i hi => ?_) r h
            by_cases z : i = n
            · subst z; rw [va_up_self]
              exact ⟨by show p0 ≤ sp_k t p e; omega, by show sp_k t p e ≤ sp_f t p e; omega, hb.2.2.1, by show sp_q t p e ≤ sp_q t p e + sp_n (sp_th t p e); omega, hb.2.2.2, hs10⟩
            · rw [va_up_ne _ _ z]; exact hT i (by omega)
theorem mo_fr.rd {h h' : jh_H} {h0 : jh_H} {mo : Nat} {ar : Nat → Nat} {F : Nat → Nat → Prop} (hm : mo_ok h0 mo ar) (hf : mo_fr h h' ar F) (i : Nat) {K t n j : Nat} (hi : mo_T[i]? = some (K, t, n)) (hF : ∀ k, F k j → k ≠ K ∧ ∃ x ∈ mo_T, x.1 = k) : jh_I h' (ar K) j = jh_I h (ar K) j := by
  refine hf.2.2.2.2.2.2.2 (ar K) j (fun k hk z => ?_)
  obtain ⟨h1, x, hx, rfl⟩ := hF k hk
  exact h1 (hm.2.2 x hx _ (List.mem_of_getElem? hi) z.symm)
theorem nI_mv {b c : Nat} (h : 800 ≤ b + c) : nI b + (nI c - 800) = nI (b + c - 800) := by
  rw [show (800 : Int32) = nI 800 from rfl, Int32.sub_eq_add_neg, ← Int32.add_assoc, nI_add, ← Int32.sub_eq_add_neg, pk_sub h]
theorem nI_mv2 {b c : Nat} (h : 200 ≤ b + c) : nI b + (nI c - 200) = nI (b + c - 200) := by
  rw [show (200 : Int32) = nI 200 from rfl, Int32.sub_eq_add_neg, ← Int32.add_assoc, nI_add, ← Int32.sub_eq_add_neg, pk_sub h]
set_option maxHeartbeats 4000000 in
set_option maxRecDepth 100000 in
theorem cm_find {g : jg_G} (hg : (jg_l g).stackTraces = false) {h : jh_H} {mo : Nat} {ar : Nat → Nat} {m c : Nat} {w : Int64} {Q : jw_O → jh_H → Prop} (hm : mo_ok h mo ar) (hm60 : m < 60) (hc : jh_I h (ar 521) m = nI c) (hc10 : c ≤ 10) (q1 : (∀ i, i < c → jh_G h (ar 524) (m * 10 + i) ≠ w) → Q (.inl (some (.inl (-1)))) h) (q2 : ∀ i, i < c → jh_G h (ar 524) (m * 10 + i) = w → (∀ j, j < i → jh_G h (ar 524) (m * 10 + j) ≠ w) → Q (.inl (some (.inl (nI i)))) h) : jw_C g 0 0 0 m_M_find [.inr (.inr (some mo)), .inl (nI m), .inr (.inl w)] h Q := by
  refine jw_intro (ls := [some (.inr (.inr (some mo))), some (.inl (nI m)), some (.inr (.inl w)), none, none]) (by decide) k_M_find rfl (by simp [lo_fit, jv_c]) hg ?_
  have loop : ∀ n i, i + n = c → (∀ j, j < i → jh_G h (ar 524) (m * 10 + j) ≠ w) → jw_J g 0 m_M_find jw_T0 3 [some (.inr (.inr (some mo))), some (.inl (nI m)), some (.inr (.inl w)), none, some (.inl (nI i))] [] h 0 0 Q := by
    intro n
    induction n with
    | zero =>
      intro i hi hb
      refine jw_iload rfl rfl ?_
      refine jw_aload_n rfl rfl ?_
      refine jw_gr rfl g_M_39 hm.1 (mo_r hm 2 rfl) ?_
      refine jw_iload_n rfl rfl ?_
      refine js_iald (m) rfl (mo_a hm 2 rfl) (by decide) (by rfl)  rfl (by omega) (by decide) ?_
      rw [hc]
      refine jw_icmp_ge 40 rfl rfl (fun _ => ?_) (fun z => absurd ((nI_leI (by omega) (by omega)).mpr (by omega)) z)
      refine js_iconst (x := (-1)) rfl rfl ?_
      refine jw_ireturn rfl rfl rfl ?_
      exact q1 (fun j hj => hb j (by omega))
    | succ n ih =>
      intro i hi hb
      refine jw_iload rfl rfl ?_
      refine jw_aload_n rfl rfl ?_
      refine jw_gr rfl g_M_39 hm.1 (mo_r hm 2 rfl) ?_
      refine jw_iload_n rfl rfl ?_
      refine js_iald (m) rfl (mo_a hm 2 rfl) (by decide) (by rfl)  rfl (by omega) (by decide) ?_
      rw [hc]
      refine jw_icmp_ge 40 rfl rfl (fun z => absurd ((nI_leI (by omega) (by omega)).mp z) (by omega)) (fun _ => ?_)
      refine jw_aload_n rfl rfl ?_
      refine jw_gr rfl g_M_48 hm.1 (mo_r hm 5 rfl) ?_
      refine jw_iload_n rfl rfl ?_
      refine js_bipush (x := 10) rfl rfl ?_
      refine jw_imul rfl ?_
      refine jw_iload rfl rfl ?_
      rw [show nI m * 10 = nI (m * 10) from pk_mul m 10]
      refine jw_iadd rfl ?_
      rw [nI_add]
      refine js_lald (m * 10 + i) rfl (mo_a hm 5 rfl) (by decide) (by rfl)  rfl (by omega) (by decide) ?_
      refine jw_lload_n rfl rfl ?_
      refine jw_lcmp rfl ?_
      refine jw_if_ne 34 rfl rfl (fun z => ?_) (fun z => ?_)
      · have h1 : jh_G h (ar 524) (m * 10 + i) ≠ w := fun e => z ((lg_cmp_eq _ _).mpr e)
        refine js_iinc rfl rfl (nI_1 i) rfl (by decide) rfl ?_
        refine jw_goto 3 rfl rfl ?_
        refine ih (i + 1) (by omega) (fun j hj => ?_)
        by_cases e : j = i
        · rw [e]; exact h1
        · exact hb j (by omega)
      · have h1 := (lg_cmp_eq _ _).mp z
        refine jw_iload rfl rfl ?_
        refine jw_ireturn rfl rfl rfl ?_
        exact q2 i (by omega) h1 hb
  refine js_iconst (x := 0) rfl rfl ?_
  refine js_istore rfl rfl (by decide) rfl ?_
  exact loop c 0 (by omega) (fun j hj => absurd hj (by omega))

