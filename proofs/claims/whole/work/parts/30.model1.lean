/-! THE MODEL: its object mo with its rows at ar. mo_T: a row's key, its type, its length -/
def mo_T : List (Nat × Nat × Nat) := [(519, 0, 200), (520, 1, 60), (521, 1, 60), (522, 1, 3000), (523, 1, 600), (524, 2, 600), (525, 3, 60), (526, 0, 1000), (527, 1, 5), (528, 1, 5), (529, 3, 4), (530, 1, 250), (531, 1, 250), (532, 1, 250), (533, 1, 250), (534, 1, 250), (535, 1, 250), (536, 1, 250), (537, 1, 4), (538, 1, 18), (539, 1, 18), (540, 1, 18), (541, 0, 7200), (542, 0, 401), (543, 0, 400), (544, 0, 400), (552, 1, 20), (553, 1, 20), (554, 1, 20), (555, 1, 20), (556, 1, 60), (557, 1, 60), (558, 3, 20), (559, 3, 20)]
def mo_ok (h : jh_H) (mo : Nat) (ar : Nat → Nat) : Prop := jh_O h mo 8 ∧ (∀ x ∈ mo_T, jh_r h mo x.1 = some (ar x.1) ∧ jh_A h (ar x.1) x.2.1 x.2.2) ∧ ∀ x ∈ mo_T, ∀ y ∈ mo_T, ar x.1 = ar y.1 → x.1 = y.1
theorem mo_r {h : jh_H} {mo : Nat} {ar : Nat → Nat} (hm : mo_ok h mo ar) (i : Nat) {k t n : Nat} (hx : mo_T[i]? = some (k, t, n)) : jh_r h mo k = some (ar k) := (hm.2.1 _ (List.mem_of_getElem? hx)).1
theorem mo_a {h : jh_H} {mo : Nat} {ar : Nat → Nat} (hm : mo_ok h mo ar) (i : Nat) {k t n : Nat} (hx : mo_T[i]? = some (k, t, n)) : jh_A h (ar k) t n := (hm.2.1 _ (List.mem_of_getElem? hx)).2
/-- the text that the model has: t -/
def mo_tx (h : jh_H) (ar : Nat → Nat) (t : Nat → Nat) : Prop := ∀ i, i < 1000 → jh_I h (ar 526) i = nI (t i) ∧ t i < 128
def sp_b (b : Bool) : Int32 := if b then 1 else 0
theorem cm_thrown {g : jg_G} (hg : (jg_l g).stackTraces = false) {h : jh_H} {mo : Nat} {Q : jw_O → jh_H → Prop} (ho : jh_O h mo 8) (hq : Q (.inl (some (.inl (jh_i h mo 512)))) h) : jw_C g 0 0 0 m_M_thrown [.inr (.inr (some mo))] h Q := by
  refine jw_intro (ls := [some (.inr (.inr (some mo)))]) (by decide) k_M_thrown rfl (by simp [lo_fit, jv_c]) hg ?_
  refine jw_aload_n rfl rfl ?_
  refine jw_gi rfl g_M_7 ho rfl ?_
  refine jw_ireturn rfl rfl rfl ?_
  exact hq
theorem cm_letter {g : jg_G} (hg : (jg_l g).stackTraces = false) {h : jh_H} {mo c : Nat} {Q : jw_O → jh_H → Prop} (hc : c < 65536) (hq : Q (.inl (some (.inl (sp_b (sp_lt c))))) h) : jw_C g 0 0 0 m_M_letter [.inr (.inr (some mo)), .inl (nI c)] h Q := by
  refine jw_intro (ls := [some (.inr (.inr (some mo))), some (.inl (nI c))]) (by decide) k_M_letter rfl (by simp [lo_fit, jv_c]) hg ?_
  refine jw_iload_n rfl rfl ?_
  refine js_bipush (x := 97) rfl rfl ?_
  refine jw_icmp_lt 16 rfl rfl (fun c1 => ?_) (fun c1 => ?_)
  · have h1 : c < 97 := (nI_ltI (b := 97) (by omega) (by omega)).mp c1
    have e : sp_lt c = false := by simp [sp_lt]; omega
    rw [e] at hq
    refine js_iconst (x := 0) rfl rfl ?_
    refine jw_ireturn rfl rfl rfl ?_
    exact hq
  · have h1 : ¬ c < 97 := fun z => c1 ((nI_ltI (b := 97) (by omega) (by omega)).mpr z)
    refine jw_iload_n rfl rfl ?_
    refine js_bipush (x := 122) rfl rfl ?_
    refine jw_icmp_gt 16 rfl rfl (fun c2 => ?_) (fun c2 => ?_)
    · have h2 : 122 < c := (nI_ltI (a := 122) (by omega) (by omega)).mp c2
      have e : sp_lt c = false := by simp [sp_lt]; omega
      rw [e] at hq
      refine js_iconst (x := 0) rfl rfl ?_
      refine jw_ireturn rfl rfl rfl ?_
      exact hq
    · have h2 : ¬ 122 < c := fun z => c2 ((nI_ltI (a := 122) (by omega) (by omega)).mpr z)
      have e : sp_lt c = true := by simp [sp_lt]; omega
      rw [e] at hq
      refine js_iconst (x := 1) rfl rfl ?_
      refine jw_goto 17 rfl rfl ?_
      refine jw_ireturn rfl rfl rfl ?_
      exact hq
theorem cm_at0 {g : jg_G} (hg : (jg_l g).stackTraces = false) {h : jh_H} {mo p e : Nat} {ar t : Nat → Nat} {Q : jw_O → jh_H → Prop} (hm : mo_ok h mo ar) (ht : mo_tx h ar t) (hp : p < 2 ^ 30) (he : e ≤ 1000) (hq : Q (.inl (some (.inl (nI (sp_at t p e))))) h) : jw_C g 0 0 0 m_M_at0 [.inr (.inr (some mo)), .inl (nI p), .inl (nI e)] h Q := by
  refine jw_intro (ls := [some (.inr (.inr (some mo))), some (.inl (nI p)), some (.inl (nI e))]) (by decide) k_M_at0 rfl (by simp [lo_fit, jv_c]) hg ?_
  refine jw_iload_n rfl rfl ?_
  refine jw_iload_n rfl rfl ?_
  refine jw_icmp_ge 14 rfl rfl (fun c1 => ?_) (fun c1 => ?_)
  · have h1 : e ≤ p := (nI_leI (by omega) (by omega)).mp c1
    have e1 : sp_at t p e = 0 := by simp [sp_at]; omega
    rw [e1] at hq
    refine js_iconst (x := 0) rfl rfl ?_
    refine jw_ireturn rfl rfl rfl ?_
    exact hq
  · have h1 : p < e := Nat.lt_of_not_le (fun z => c1 ((nI_leI (by omega) (by omega)).mpr z))
    have e1 : sp_at t p e = t p := by simp [sp_at, h1]
    rw [e1] at hq
    refine jw_aload_n rfl rfl ?_
    refine jw_gr rfl g_M_56 hm.1 (mo_r hm 7 rfl) ?_
    refine jw_iload_n rfl rfl ?_
    refine js_cald (p) rfl (mo_a hm 7 rfl) (by decide) (by rfl)  rfl (by omega) (by decide) ?_
    refine jw_goto 15 rfl rfl ?_
    rw [(ht p (by omega)).1]
    refine jw_ireturn rfl rfl rfl ?_
    exact hq
theorem cm_digit {g : jg_G} (hg : (jg_l g).stackTraces = false) {h : jh_H} {mo c : Nat} {Q : jw_O → jh_H → Prop} (hc : c < 65536) (hq : Q (.inl (some (.inl (sp_b (sp_dg c))))) h) : jw_C g 0 0 0 m_M_digit [.inr (.inr (some mo)), .inl (nI c)] h Q := by
  refine jw_intro (ls := [some (.inr (.inr (some mo))), some (.inl (nI c))]) (by decide) k_M_digit rfl (by simp [lo_fit, jv_c]) hg ?_
  refine jw_iload_n rfl rfl ?_
  refine js_bipush (x := 48) rfl rfl ?_
  refine jw_icmp_lt 16 rfl rfl (fun c1 => ?_) (fun c1 => ?_)
  · have h1 : c < 48 := (nI_ltI (b := 48) (by omega) (by omega)).mp c1
    have e : sp_dg c = false := by simp [sp_dg]; omega
    rw [e] at hq
    refine js_iconst (x := 0) rfl rfl ?_
    refine jw_ireturn rfl rfl rfl ?_
    exact hq
  · have h1 : ¬ c < 48 := fun z => c1 ((nI_ltI (b := 48) (by omega) (by omega)).mpr z)
    refine jw_iload_n rfl rfl ?_
    refine js_bipush (x := 57) rfl rfl ?_
    refine jw_icmp_gt 16 rfl rfl (fun c2 => ?_) (fun c2 => ?_)
    · have h2 : 57 < c := (nI_ltI (a := 57) (by omega) (by omega)).mp c2
      have e : sp_dg c = false := by simp [sp_dg]; omega
      rw [e] at hq
      refine js_iconst (x := 0) rfl rfl ?_
      refine jw_ireturn rfl rfl rfl ?_
      exact hq
    · have h2 : ¬ 57 < c := fun z => c2 ((nI_ltI (a := 57) (by omega) (by omega)).mpr z)
      have e : sp_dg c = true := by simp [sp_dg]; omega
      rw [e] at hq
      refine js_iconst (x := 1) rfl rfl ?_
      refine jw_goto 17 rfl rfl ?_
      refine jw_ireturn rfl rfl rfl ?_
      exact hq
theorem sp_at_lt {h : jh_H} {ar t : Nat → Nat} (ht : mo_tx h ar t) {p e : Nat} (he : e ≤ 1000) : sp_at t p e < 128 := by
  rw [sp_at]
  split
  · exact (ht p (by omega)).2
  · omega
theorem cm_letters {g : jg_G} (hg : (jg_l g).stackTraces = false) {h : jh_H} {mo p e : Nat} {ar t : Nat → Nat} {Q : jw_O → jh_H → Prop} (hm : mo_ok h mo ar) (ht : mo_tx h ar t) (hp : p ≤ e + 2) (he : e ≤ 1000) (hq : Q (.inl (some (.inl (nI (sp_letters t p e))))) h) : jw_C g 1 0 0 m_M_letters [.inr (.inr (some mo)), .inl (nI p), .inl (nI e)] h Q := by
  refine jw_intro (ls := [some (.inr (.inr (some mo))), some (.inl (nI p)), some (.inl (nI e)), none]) (by decide) k_M_letters rfl (by simp [lo_fit, jv_c]) hg ?_
  have loop : ∀ n k, n = e - k → p ≤ k → k ≤ e + 2 → Q (.inl (some (.inl (nI (k - p + sp_ln t e n k))))) h → jw_J g 1 m_M_letters jw_T0 2 [some (.inr (.inr (some mo))), some (.inl (nI p)), some (.inl (nI e)), some (.inl (nI k))] [] h 0 0 Q := by
    intro n
    induction n with
    | zero =>
      intro k hn hk hk2 hq
      have e0 : sp_at t k e = 0 := by simp [sp_at]; omega
      refine jw_aload_n rfl rfl ?_
      refine jw_aload_n rfl rfl ?_
      refine jw_iload_n rfl rfl ?_
      refine jw_iload_n rfl rfl ?_
      refine js_call (As := [.inl (nI k), .inl (nI e)]) rfl l_M_at0 c_M_194 i_M_at0 s_M_at0 jc_o8 rfl (hm.1) rfl (cm_at0 hg hm ht (by omega) he ?_) (by decide) (Nat.le_of_ble_eq_true rfl) (by omega) (by omega) rfl
      rw [e0]
      refine js_call (As := [.inl (nI 0)]) rfl l_M_letter c_M_177 i_M_letter s_M_letter jc_o8 rfl (hm.1) rfl (cm_letter hg (by omega) ?_) (by decide) (Nat.le_of_ble_eq_true rfl) (by omega) (by omega) rfl
      refine jw_if_eq 21 rfl rfl (fun c1 => ?_) (fun c1 => absurd rfl c1)
      refine jw_iload_n rfl rfl ?_
      refine jw_iload_n rfl rfl ?_
      refine jw_isub rfl ?_
      rw [pk_sub hk]
      refine jw_ireturn rfl rfl rfl ?_
      exact hq
    | succ n ih =>
      intro k hn hk hk2 hq
      have hlt := sp_at_lt (p := k) ht he
      refine jw_aload_n rfl rfl ?_
      refine jw_aload_n rfl rfl ?_
      refine jw_iload_n rfl rfl ?_
      refine jw_iload_n rfl rfl ?_
      refine js_call (As := [.inl (nI k), .inl (nI e)]) rfl l_M_at0 c_M_194 i_M_at0 s_M_at0 jc_o8 rfl (hm.1) rfl (cm_at0 hg hm ht (by omega) he ?_) (by decide) (Nat.le_of_ble_eq_true rfl) (by omega) (by omega) rfl
      refine js_call (As := [.inl (nI (sp_at t k e))]) rfl l_M_letter c_M_177 i_M_letter s_M_letter jc_o8 rfl (hm.1) rfl (cm_letter hg (by omega) ?_) (by decide) (Nat.le_of_ble_eq_true rfl) (by omega) (by omega) rfl
      rw [sp_ln] at hq
      cases hs : sp_lt (sp_at t k e) with
      | true =>
        rw [hs, if_pos rfl] at hq
        refine jw_if_eq 21 rfl rfl (fun c1 => absurd c1 (by decide)) (fun c1 => ?_)
        refine js_iinc rfl rfl (nI_1 k) rfl (by decide) rfl ?_
        refine jw_goto 2 rfl rfl ?_
        exact ih (k + 1) (by omega) (by omega) (by omega) (by have e1 : k + 1 - p + sp_ln t e n (k + 1) = k - p + (sp_ln t e n (k + 1) + 1) := by omega
                                                              rw [e1]; exact hq)
      | false =>
        rw [hs] at hq
        refine jw_if_eq 21 rfl rfl (fun c1 => ?_) (fun c1 => absurd rfl c1)
        refine jw_iload_n rfl rfl ?_
        refine jw_iload_n rfl rfl ?_
        refine jw_isub rfl ?_
        rw [pk_sub hk]
        refine jw_ireturn rfl rfl rfl ?_
        exact hq
  refine jw_iload_n rfl rfl ?_
  refine js_istore_n rfl rfl (by decide) rfl ?_
  exact loop (e - p) p rfl (Nat.le_refl _) hp (by rw [Nat.sub_self, Nat.zero_add]; exact hq)
theorem cm_stands {g : jg_G} (hg : (jg_l g).stackTraces = false) {h : jh_H} {mo p e : Nat} {ar t : Nat → Nat} {w : Int64} {Q : jw_O → jh_H → Prop} (bl : List Nat) (hb : ∀ i, i < 8 → ((w >>> ((nI (8 * i)).toInt64 &&& 63)) &&& 255).toInt32 = nI (bl.getD i 0)) (hbl : ∀ i, i < 8 → bl.getD i 0 < 128) (hm : mo_ok h mo ar) (ht : mo_tx h ar t) (hp : p ≤ 1010) (he : e ≤ 1000) (hq : Q (.inl (some (.inl (sp_b (sp_st t e p (sp_wd bl 8)))))) h) : jw_C g 1 0 0 m_M_stands [.inr (.inr (some mo)), .inl (nI p), .inl (nI e), .inr (.inl w)] h Q := by
  refine jw_intro (ls := [some (.inr (.inr (some mo))), some (.inl (nI p)), some (.inl (nI e)), some (.inr (.inl w)), none, none, none, none]) (by decide) k_M_stands rfl (by simp [lo_fit, jv_c]) hg ?_
  have loop : ∀ n k, n ≤ 8 → k + n ≤ 1018 → Q (.inl (some (.inl (sp_b (sp_st t e k (sp_wd bl n)))))) h → jw_J g 1 m_M_stands jw_T0 7 [some (.inr (.inr (some mo))), some (.inl (nI p)), some (.inl (nI e)), some (.inr (.inl w)), none, some (.inl (nI k)), some (.inl (nI (8 * n) - 8)), none] [] h 0 0 Q := by
    intro n
    induction n with
    | zero =>
      intro k hn hk hq
      refine jw_iload rfl rfl ?_
      refine jw_if_lt 54 rfl rfl (fun c1 => ?_) (fun c1 => absurd (by decide) c1)
      refine js_iconst (x := 1) rfl rfl ?_
      refine jw_ireturn rfl rfl rfl ?_
      exact hq
    | succ n ih =>
      intro k hn hk hq
      have ei : nI (8 * (n + 1)) - 8 = nI (8 * n) := by
        have : nI (8 * (n + 1)) - nI 8 = nI (8 * (n + 1) - 8) := pk_sub (by omega)
        rw [show (8 : Int32) = nI 8 from rfl, this]; congr 1
      rw [ei]
      have hback : ∀ k', k' + n ≤ 1018 → Q (.inl (some (.inl (sp_b (sp_st t e k' (sp_wd bl n)))))) h → ∀ c : Int32, jw_J g 1 m_M_stands jw_T0 48 [some (.inr (.inr (some mo))), some (.inl (nI p)), some (.inl (nI e)), some (.inr (.inl w)), none, some (.inl (nI k')), some (.inl (nI (8 * n))), some (.inl c)] [] h 0 0 Q := by
        intro k' hk' hq' c
        refine js_iinc rfl rfl (show nI (8 * n) + Int32.ofInt (-8) = nI (8 * n) - 8 from by rw [Int32.sub_eq_add_neg]; rfl) rfl (by decide) rfl ?_
        refine jw_goto 7 rfl rfl ?_
        exact js_drop 7 rfl (ih k' (by omega) hk' hq')
      refine jw_iload rfl rfl ?_
      refine jw_if_lt 54 rfl rfl (fun c1 => absurd c1 (nI_pos (by omega))) (fun c1 => ?_)
      refine jw_lload_n rfl rfl ?_
      refine jw_iload rfl rfl ?_
      refine jw_lshr rfl ?_
      refine jw_ldc2 rfl q_M_192 ?_
      refine jw_land rfl ?_
      refine jw_l2i rfl ?_
      rw [hb n (by omega)]
      refine js_istore rfl rfl (by decide) rfl ?_
      refine jw_iload rfl rfl ?_
      rw [sp_wd] at hq
      have h128 := hbl n (by omega)
      refine jw_if_ne 31 rfl rfl (fun c2 => ?_) (fun c2 => ?_)
      · have hne : ¬ bl.getD n 0 = 0 := fun z => c2 (by rw [z]; rfl)
        rw [if_neg hne, sp_st] at hq
        refine jw_aload_n rfl rfl ?_
        refine jw_iload rfl rfl ?_
        refine jw_iload_n rfl rfl ?_
        refine js_call (As := [.inl (nI k), .inl (nI e)]) rfl l_M_at0 c_M_194 i_M_at0 s_M_at0 jc_o8 rfl (hm.1) rfl (cm_at0 hg hm ht (by omega) he ?_) (by decide) (Nat.le_of_ble_eq_true rfl) (by omega) (by omega) rfl
        refine jw_iload rfl rfl ?_
        have hat := sp_at_lt (p := k) ht he
        refine jw_icmp_eq 45 rfl rfl (fun c3 => ?_) (fun c3 => ?_)
        · have e3 : sp_at t k e = bl.getD n 0 := (nI_eq (by omega) (by omega)).mp c3
          rw [if_pos e3] at hq
          refine js_iinc rfl rfl (nI_1 k) rfl (by decide) rfl ?_
          exact hback (k + 1) (by omega) hq _
        · have e3 : ¬ sp_at t k e = bl.getD n 0 := fun z => c3 (by rw [z])
          rw [if_neg e3] at hq
          refine js_iconst (x := 0) rfl rfl ?_
          refine jw_ireturn rfl rfl rfl ?_
          exact hq
      · have hz : bl.getD n 0 = 0 := (nI_eq (b := 0) (by omega) (by omega)).mp c2
        rw [if_pos hz] at hq
        refine jw_goto 48 rfl rfl ?_
        exact hback k (by omega) hq _
  refine jw_iload_n rfl rfl ?_
  refine js_istore rfl rfl (by decide) rfl ?_
  refine js_bipush (x := 56) rfl rfl ?_
  refine js_istore rfl rfl (by decide) rfl ?_
  exact loop 8 p (Nat.le_refl _) (by omega) hq

