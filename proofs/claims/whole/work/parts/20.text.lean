/-! TEXT: rows of characters -/
theorem jw_nc {c : Code} (hT : jw_T0 c) (pc : Nat) : ∀ x ∈ c.exceptionTable.toList, covers x pc = false := fun x hx => absurd (hT x hx) id
/-- a Text at a, its row at ch, room for cap, n there -/
def tx_at (h : jh_H) (a ch cap n : Nat) : Prop := jh_O h a 1 ∧ jh_A h ch 0 cap ∧ jh_r h a 64 = some ch ∧ jh_i h a 65 = nI n ∧ n ≤ cap ∧ cap ≤ 400
theorem jn_ch {x : Int32} (h0 : ¬ x < 0) (h1 : x ≤ 65535) : vp_nar .char x = x := by
  obtain ⟨j, hj, rfl⟩ := nI_of2 (M := 65535) (n := 65535) (by decide) h0 h1
  have := (pk_charN (q := j) (by omega)).1
  simp only [vp_nar, this]
/-- clear -/
theorem ct_clear {g : jg_G} (hg : (jg_l g).stackTraces = false) {h : jh_H} {a : Nat} {Q : jw_O → jh_H → Prop} (ho : jh_O h a 1) (hq : Q (.inl none) (jh_si h a 65 0)) : jw_C g 0 0 0 m_T_clear [.inr (.inr (some a))] h Q := by
  refine jw_intro (ls := [some (.inr (.inr (some a)))]) (by decide) k_T_clear rfl (by simp [lo_fit, jv_c]) hg ?_
  refine jw_aload_n rfl rfl ?_
  refine js_iconst (x := 0) rfl rfl ?_
  refine jw_pi rfl p_T_clear_15 (by assumption) ?_
  refine jw_return rfl rfl ?_
  exact hq
/-- append -/
theorem ct_append {g : jg_G} (hg : (jg_l g).stackTraces = false) {h : jh_H} {a ch cap n : Nat} {c : Int32} {Q : jw_O → jh_H → Prop} (ht : tx_at h a ch cap n)
    (hq : n < cap → Q (.inl none) (jh_si (jh_sI h ch n (vp_nar .char c)) a 65 (nI (n + 1)))) (hx : n = cap → Q (.inr "java/lang/IllegalStateException") h) : jw_C g 10 1 6 m_T_append [.inr (.inr (some a)), .inl c] h Q := by
  obtain ⟨ho, hA, hr, hn, hle, hcap⟩ := ht
  refine jw_intro (ls := [some (.inr (.inr (some a))), some (.inl c)]) (by decide) k_T_append rfl (by simp [lo_fit, jv_c]) hg ?_
  refine jw_aload_n rfl rfl ?_
  refine jw_gi rfl g_T_15 (by assumption) (by assumption) ?_
  refine jw_aload_n rfl rfl ?_
  refine jw_gr rfl g_T_9 (by assumption) (by assumption) ?_
  refine js_alen rfl (by assumption) (by decide) ?_
  refine jw_icmp_lt 22 rfl rfl (fun c1 => ?_) (fun c1 => ?_)
  · have hlt : n < cap := (nI_ltI (by omega) (by omega)).mp c1
    refine jw_aload_n rfl rfl ?_
    refine jw_gr rfl g_T_9 (by assumption) (by assumption) ?_
    refine jw_aload_n rfl rfl ?_
    refine jw_gi rfl g_T_15 (by assumption) (by assumption) ?_
    refine jw_iload_n rfl rfl ?_
    refine js_cast (n) rfl (by assumption) (by decide) (by rfl)  rfl hlt (by omega) ?_
    refine jw_aload_n rfl rfl ?_
    refine jw_dup rfl rfl ?_
    refine jw_gi rfl g_T_15 (by assumption) (by assumption) ?_
    refine js_iconst (x := 1) rfl rfl ?_
    refine jw_iadd rfl ?_
    refine jw_pi rfl p_T_append_15 (by assumption) ?_
    rw [nI_1]
    refine jw_return rfl rfl ?_
    exact hq hlt
  · have hge : n = cap := by
      have : ¬ n < cap := fun q => c1 ((nI_ltI (by omega) (by omega)).mpr q)
      omega
    exact jw_throw (E := "java/lang/IllegalStateException") ts_T_append_12 (by decide) (by decide) (by decide) (by decide) (fun c hc => jw_nc hc _) (hx hge)

