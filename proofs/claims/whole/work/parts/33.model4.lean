/-! operands, expressions -/
theorem sp_digits_cnt (t : Nat → Nat) (e : Nat) : ∀ n k, sp_digits t e n k ≤ k + n := by
  intro n
  induction n with
  | zero => intro k; exact Nat.le_refl _
  | succ n ih =>
    intro k
    rw [sp_digits]
    split
    · have := ih (k + 1); omega
    · omega
set_option maxHeartbeats 4000000 in
set_option maxRecDepth 100000 in
theorem cm_operandEnd {g : jg_G} (hg : (jg_l g).stackTraces = false) {h : jh_H} {mo p e : Nat} {ar t : Nat → Nat} {Q : jw_O → jh_H → Prop} (hm : mo_ok h mo ar) (ht : mo_tx h ar t) (hp : p ≤ e) (he : e ≤ 1000) (hq : Q (.inl (some (.inl (sp_o (sp_operandEnd t p e))))) h) : jw_C g 4 0 0 m_M_operandEnd [.inr (.inr (some mo)), .inl (nI p), .inl (nI e)] h Q := by
  refine jw_intro (ls := [some (.inr (.inr (some mo))), some (.inl (nI p)), some (.inl (nI e)), none, none]) (by decide) k_M_operandEnd rfl (by simp [lo_fit, jv_c]) hg ?_
  rw [sp_operandEnd] at hq
  have hat := sp_at_lt (p := p) ht he
  refine jw_aload_n rfl rfl ?_
  refine jw_iload_n rfl rfl ?_
  refine jw_iload_n rfl rfl ?_
  refine js_call (As := [.inl (nI p), .inl (nI e)]) rfl l_M_at0 c_M_194 i_M_at0 s_M_at0 jc_o8 rfl (hm.1) rfl (cm_at0 hg hm ht (by omega) he ?_) (by decide) (Nat.le_of_ble_eq_true rfl) (by omega) (by omega) rfl
  refine js_istore_n rfl rfl (by decide) rfl ?_
  refine jw_iload_n rfl rfl ?_
  refine js_istore rfl rfl (by decide) rfl ?_
  refine jw_iload_n rfl rfl ?_
  refine js_bipush (x := 34) rfl rfl ?_
  refine jw_icmp_ne 76 rfl rfl (fun c1 => ?_) (fun c1 => ?_)
  · have h1 : ¬ sp_at t p e = 34 := fun z => c1 (by rw [z]; rfl)
    rw [if_neg h1] at hq
    refine jw_aload_n rfl rfl ?_
    refine jw_iload_n rfl rfl ?_
    refine js_call (As := [.inl (nI (sp_at t p e))]) rfl l_M_digit c_M_212 i_M_digit s_M_digit jc_o8 rfl (hm.1) rfl (cm_digit hg (by omega) ?_) (by decide) (Nat.le_of_ble_eq_true rfl) (by omega) (by omega) rfl
    refine jw_if_ne 91 rfl rfl (fun c2 => ?_) (fun c2 => ?_)
    · rw [if_pos (sp_b1 c2)] at hq
      have loop : ∀ n k, n ≤ 5 → p ≤ k → k + n = p + 5 → k ≤ e → Q (.inl (some (.inl (nI (sp_digits t e n k))))) h → jw_J g 4 m_M_operandEnd jw_T0 91 [some (.inr (.inr (some mo))), some (.inl (nI p)), some (.inl (nI e)), some (.inl (nI (sp_at t p e))), some (.inl (nI k))] [] h 0 0 Q := by
        intro n
        induction n with
        | zero =>
          intro k _ hpk hkn hk hq
          have hat := sp_at_lt (p := k) ht he
          refine jw_aload_n rfl rfl ?_
          refine jw_aload_n rfl rfl ?_
          refine jw_iload rfl rfl ?_
          refine jw_iload_n rfl rfl ?_
          refine js_call (As := [.inl (nI k), .inl (nI e)]) rfl l_M_at0 c_M_194 i_M_at0 s_M_at0 jc_o8 rfl (hm.1) rfl (cm_at0 hg hm ht (by omega) he ?_) (by decide) (Nat.le_of_ble_eq_true rfl) (by omega) (by omega) rfl
          refine js_call (As := [.inl (nI (sp_at t k e))]) rfl l_M_digit c_M_212 i_M_digit s_M_digit jc_o8 rfl (hm.1) rfl (cm_digit hg (by omega) ?_) (by decide) (Nat.le_of_ble_eq_true rfl) (by omega) (by omega) rfl
          refine jw_if_eq 119 rfl rfl (fun c3 => ?_) (fun c3 => ?_)
          · refine jw_iload rfl rfl ?_
            refine jw_ireturn rfl rfl rfl ?_
            exact hq
          · refine jw_iload rfl rfl ?_
            refine jw_iload_n rfl rfl ?_
            refine jw_isub rfl ?_
            rw [pk_sub hpk, show k - p = 5 by omega]
            refine js_iconst (x := 5) rfl rfl ?_
            refine jw_icmp_ge 119 rfl rfl (fun c4 => ?_) (fun c4 => absurd (by decide) c4)
            refine jw_iload rfl rfl ?_
            refine jw_ireturn rfl rfl rfl ?_
            exact hq
        | succ n ih =>
          intro k _ hpk hkn hk hq
          have hat := sp_at_lt (p := k) ht he
          rw [sp_digits] at hq
          refine jw_aload_n rfl rfl ?_
          refine jw_aload_n rfl rfl ?_
          refine jw_iload rfl rfl ?_
          refine jw_iload_n rfl rfl ?_
          refine js_call (As := [.inl (nI k), .inl (nI e)]) rfl l_M_at0 c_M_194 i_M_at0 s_M_at0 jc_o8 rfl (hm.1) rfl (cm_at0 hg hm ht (by omega) he ?_) (by decide) (Nat.le_of_ble_eq_true rfl) (by omega) (by omega) rfl
          refine js_call (As := [.inl (nI (sp_at t k e))]) rfl l_M_digit c_M_212 i_M_digit s_M_digit jc_o8 rfl (hm.1) rfl (cm_digit hg (by omega) ?_) (by decide) (Nat.le_of_ble_eq_true rfl) (by omega) (by omega) rfl
          refine jw_if_eq 119 rfl rfl (fun c3 => ?_) (fun c3 => ?_)
          · rw [if_neg (by rw [sp_b0 c3]; decide)] at hq
            refine jw_iload rfl rfl ?_
            refine jw_ireturn rfl rfl rfl ?_
            exact hq
          · have h3 := sp_b1 c3
            rw [if_pos h3] at hq
            have hke : k < e := by
              rcases Nat.lt_or_ge k e with q | q
              · exact q
              · have e0 : sp_at t k e = 0 := by simp [sp_at, Nat.not_lt.mpr q]
                rw [e0] at h3; exact absurd h3 (by decide)
            refine jw_iload rfl rfl ?_
            refine jw_iload_n rfl rfl ?_
            refine jw_isub rfl ?_
            rw [pk_sub hpk]
            refine js_iconst (x := 5) rfl rfl ?_
            refine jw_icmp_ge 119 rfl rfl (fun c4 => absurd ((nI_leI (a := 5) (by omega) (by omega)).mp c4) (by omega)) (fun c4 => ?_)
            refine js_iinc rfl rfl (nI_1 k) rfl (by decide) rfl ?_
            refine jw_goto 91 rfl rfl ?_
            exact ih (k + 1) (by omega) (by omega) (by omega) (by omega) hq
      exact loop 5 p (Nat.le_refl _) (Nat.le_refl _) rfl hp hq
    · rw [if_neg (by rw [c2 |> sp_b0]; decide)] at hq
      refine jw_aload_n rfl rfl ?_
      refine jw_iload_n rfl rfl ?_
      refine jw_iload_n rfl rfl ?_
      refine js_call (As := [.inl (nI p), .inl (nI e)]) rfl l_M_pathEnd c_M_215 i_M_pathEnd s_M_pathEnd jc_o8 rfl (hm.1) rfl (cm_pathEnd hg hm ht hp he ?_) (by decide) (Nat.le_of_ble_eq_true rfl) (by omega) (by omega) rfl
      refine jw_ireturn rfl rfl rfl ?_
      exact hq
  · have h1 : sp_at t p e = 34 := (nI_eq (b := 34) (by omega) (by omega)).mp c1
    have hpe := sp_at_lt2 h1 (by decide)
    rw [if_pos h1] at hq
    have fin : ∀ k, k ≤ e → Q (.inl (some (.inl (sp_o (if sp_at t k e = 34 then some (k + 1) else none))))) h → jw_J g 4 m_M_operandEnd jw_T0 55 [some (.inr (.inr (some mo))), some (.inl (nI p)), some (.inl (nI e)), some (.inl (nI (sp_at t p e))), some (.inl (nI k))] [] h 0 0 Q := by
      intro k hk hq
      have hat := sp_at_lt (p := k) ht he
      refine jw_aload_n rfl rfl ?_
      refine jw_iload rfl rfl ?_
      refine jw_iload_n rfl rfl ?_
      refine js_call (As := [.inl (nI k), .inl (nI e)]) rfl l_M_at0 c_M_194 i_M_at0 s_M_at0 jc_o8 rfl (hm.1) rfl (cm_at0 hg hm ht (by omega) he ?_) (by decide) (Nat.le_of_ble_eq_true rfl) (by omega) (by omega) rfl
      refine js_bipush (x := 34) rfl rfl ?_
      refine jw_icmp_ne 74 rfl rfl (fun c3 => ?_) (fun c3 => ?_)
      · rw [if_neg (fun z => c3 (by rw [z]; rfl))] at hq
        refine js_iconst (x := (-1)) rfl rfl ?_
        refine jw_ireturn rfl rfl rfl ?_
        exact hq
      · rw [if_pos ((nI_eq (b := 34) (by omega) (by omega)).mp c3)] at hq
        refine jw_iload rfl rfl ?_
        refine js_iconst (x := 1) rfl rfl ?_
        refine jw_iadd rfl ?_
        rw [show nI k + 1 = nI (k + 1) from nI_1 k]
        refine jw_goto 75 rfl rfl ?_
        refine jw_ireturn rfl rfl rfl ?_
        exact hq
    have loop : ∀ n k, k ≤ e → e ≤ k + n → (∀ k', k' = sp_quote t e n k → k' ≤ e → jw_J g 4 m_M_operandEnd jw_T0 55 [some (.inr (.inr (some mo))), some (.inl (nI p)), some (.inl (nI e)), some (.inl (nI (sp_at t p e))), some (.inl (nI k'))] [] h 0 0 Q) → jw_J g 4 m_M_operandEnd jw_T0 19 [some (.inr (.inr (some mo))), some (.inl (nI p)), some (.inl (nI e)), some (.inl (nI (sp_at t p e))), some (.inl (nI k))] [] h 0 0 Q := by
      intro n
      induction n with
      | zero =>
        intro k hk hn kk
        refine jw_iload rfl rfl ?_
        refine jw_iload_n rfl rfl ?_
        refine jw_icmp_ge 55 rfl rfl (fun c3 => ?_) (fun c3 => absurd ((nI_leI (by omega) (by omega)).mpr (by omega)) c3)
        exact kk k rfl hk
      | succ n ih =>
        intro k hk hn kk
        rw [sp_quote] at kk
        refine jw_iload rfl rfl ?_
        refine jw_iload_n rfl rfl ?_
        refine jw_icmp_ge 55 rfl rfl (fun c3 => ?_) (fun c3 => ?_)
        · have h3 := (nI_leI (by omega) (by omega)).mp c3
          rw [if_neg (by omega)] at kk
          exact kk k rfl hk
        · have h3 : k < e := Nat.lt_of_not_le (fun z => c3 ((nI_leI (by omega) (by omega)).mpr z))
          have htk := ht k (by omega)
          refine jw_aload_n rfl rfl ?_
          refine jw_gr rfl g_M_56 hm.1 (mo_r hm 7 rfl) ?_
          refine jw_iload rfl rfl ?_
          refine js_cald (k) rfl (mo_a hm 7 rfl) (by decide) (by rfl)  rfl (by omega) (by decide) ?_
          rw [htk.1]
          refine js_bipush (x := 34) rfl rfl ?_
          refine jw_icmp_eq 55 rfl rfl (fun c4 => ?_) (fun c4 => ?_)
          · have h4 := (nI_eq (b := 34) (by omega) (by omega)).mp c4
            rw [if_neg (fun z => z.2.1 h4)] at kk
            exact kk k rfl hk
          · have h4 : ¬ t k = 34 := fun z => c4 (by rw [z]; rfl)
            refine jw_aload_n rfl rfl ?_
            refine jw_gr rfl g_M_56 hm.1 (mo_r hm 7 rfl) ?_
            refine jw_iload rfl rfl ?_
            refine js_cald (k) rfl (mo_a hm 7 rfl) (by decide) (by rfl)  rfl (by omega) (by decide) ?_
            rw [htk.1]
            refine js_bipush (x := 125) rfl rfl ?_
            refine jw_icmp_eq 55 rfl rfl (fun c5 => ?_) (fun c5 => ?_)
            · have h5 := (nI_eq (b := 125) (by omega) (by omega)).mp c5
              rw [if_neg (fun z => z.2.2 h5)] at kk
              exact kk k rfl hk
            · have h5 : ¬ t k = 125 := fun z => c5 (by rw [z]; rfl)
              rw [if_pos ⟨h3, h4, h5⟩] at kk
              refine js_iinc rfl rfl (nI_1 k) rfl (by decide) rfl ?_
              refine jw_goto 19 rfl rfl ?_
              exact ih (k + 1) h3 (by omega) kk
    refine js_iinc rfl rfl (nI_1 p) rfl (by decide) rfl ?_
    exact loop (e - (p + 1)) (p + 1) (by omega) (by omega) (fun k' hk' hk2 => fin k' hk2 (by rw [hk']; exact hq))
theorem sp_o_eq {r : Option Nat} {e : Nat} (hr : ∀ k, r = some k → k ≤ 1000) (he : e ≤ 1000) : sp_o r = nI e ↔ r = some e := by
  cases r with
  | none =>
    constructor
    · intro h
      have h1 : (-1 : Int32) = nI e := h
      have h2 := nI_pos (n := e) (by omega)
      rw [← h1] at h2
      exact absurd (by decide) h2
    · intro h; cases h
  | some k =>
    have hk := hr k rfl
    constructor
    · intro h; rw [(nI_eq (a := k) (b := e) (by omega) (by omega)).mp h]
    · intro h; cases h; rfl
theorem sp_helper_le (t : Nat → Nat) {p e : Nat} (hp : p ≤ e) (h0 : ¬ sp_helper t p e = 0) : p + sp_hs (sp_helper t p e) ≤ e ∧ sp_helper t p e ≤ 6 := by
  have key : ∀ w : List Nat, w ≠ [] → (∀ c ∈ w, c ≠ 0) → sp_st t e p w = true → p + w.length ≤ e := by
    intro w hw hc hs
    rcases sp_st_le t e w p hc hs (Or.inl hp) with q | q
    · exact q
    · exact absurd q hw
  revert h0
  rw [sp_helper]
  split
  case isTrue q => intro _; exact ⟨key _ (by decide) (by decide) q, by decide⟩
  split
  case isTrue q => intro _; exact ⟨key _ (by decide) (by decide) q, by decide⟩
  split
  case isTrue q => intro _; exact ⟨key _ (by decide) (by decide) q, by decide⟩
  split
  case isTrue q => intro _; exact ⟨key _ (by decide) (by decide) q, by decide⟩
  split
  case isTrue q => intro _; exact ⟨key _ (by decide) (by decide) q, by decide⟩
  split
  case isTrue q => intro _; exact ⟨key _ (by decide) (by decide) q, by decide⟩
  intro h0; exact absurd rfl h0
set_option maxHeartbeats 4000000 in
set_option maxRecDepth 100000 in
theorem cm_isExpr {g : jg_G} (hg : (jg_l g).stackTraces = false) {h : jh_H} {mo p e : Nat} {ar t : Nat → Nat} {Q : jw_O → jh_H → Prop} (hm : mo_ok h mo ar) (ht : mo_tx h ar t) (hp : p ≤ e) (he : e ≤ 1000) (hq : Q (.inl (some (.inl (sp_b (sp_isExpr t p e))))) h) : jw_C g 5 0 0 m_M_isExpr [.inr (.inr (some mo)), .inl (nI p), .inl (nI e)] h Q := by
  refine jw_intro (ls := [some (.inr (.inr (some mo))), some (.inl (nI p)), some (.inl (nI e)), none, none]) (by decide) k_M_isExpr rfl (by simp [lo_fit, jv_c]) hg ?_
  rw [sp_isExpr] at hq
  have hh : sp_helper t p e < 2 ^ 31 := by
    by_cases z : sp_helper t p e = 0
    · omega
    · have := (sp_helper_le t hp z).2; omega
  refine jw_aload_n rfl rfl ?_
  refine jw_iload_n rfl rfl ?_
  refine jw_iload_n rfl rfl ?_
  refine js_call (As := [.inl (nI p), .inl (nI e)]) rfl l_M_helper c_M_230 i_M_helper s_M_helper jc_o8 rfl (hm.1) rfl (cm_helper hg hm ht hp he ?_) (by decide) (Nat.le_of_ble_eq_true rfl) (by omega) (by omega) rfl
  refine js_istore_n rfl rfl (by decide) rfl ?_
  refine jw_iload_n rfl rfl ?_
  refine jw_if_ne 32 rfl rfl (fun c1 => ?_) (fun c1 => ?_)
  · have h1 : ¬ sp_helper t p e = 0 := fun z => c1 (by rw [z]; rfl)
    have hle := sp_helper_le t hp h1
    rw [if_neg h1] at hq
    refine jw_aload_n rfl rfl ?_
    refine jw_iload_n rfl rfl ?_
    refine jw_aload_n rfl rfl ?_
    refine jw_iload_n rfl rfl ?_
    refine js_call (As := [.inl (nI (sp_helper t p e))]) rfl l_M_nameSize c_M_236 i_M_nameSize s_M_nameSize jc_o8 rfl (hm.1) rfl (cm_nameSize hg (by omega) ?_) (by decide) (Nat.le_of_ble_eq_true rfl) (by omega) (by omega) rfl
    refine jw_iadd rfl ?_
    rw [nI_add]
    refine jw_iload_n rfl rfl ?_
    refine js_call (As := [.inl (nI (p + sp_hs (sp_helper t p e))), .inl (nI e)]) rfl l_M_operandEnd c_M_233 i_M_operandEnd s_M_operandEnd jc_o8 rfl (hm.1) rfl (cm_operandEnd hg hm ht hle.1 he ?_) (by decide) (Nat.le_of_ble_eq_true rfl) (by omega) (by omega) rfl
    refine js_istore rfl rfl (by decide) rfl ?_
    refine jw_iload_n rfl rfl ?_
    refine js_iconst (x := 4) rfl rfl ?_
    have hk0 : ∀ k, sp_operandEnd t (p + sp_hs (sp_helper t p e)) e = some k → k ≤ 1000 := fun k hk => Nat.le_trans (sp_operandEnd_le t hle.1 hk) he
    have at56 : (∀ b : Bool, (b = true ↔ sp_operandEnd t (p + sp_hs (sp_helper t p e)) e = some e) → Q (.inl (some (.inl (sp_b b)))) h) → jw_J g 5 m_M_isExpr jw_T0 56 [some (.inr (.inr (some mo))), some (.inl (nI p)), some (.inl (nI e)), some (.inl (nI (sp_helper t p e))), some (.inl (sp_o (sp_operandEnd t (p + sp_hs (sp_helper t p e)) e)))] [] h 0 0 Q := by
      intro hq
      refine jw_iload rfl rfl ?_
      refine jw_iload_n rfl rfl ?_
      refine jw_icmp_ne 66 rfl rfl (fun c3 => ?_) (fun c3 => ?_)
      · refine js_iconst (x := 0) rfl rfl ?_
        refine jw_ireturn rfl rfl rfl ?_
        exact hq false ⟨(fun z => by cases z), fun z => absurd ((sp_o_eq hk0 he).mpr z) c3⟩
      · refine js_iconst (x := 1) rfl rfl ?_
        refine jw_goto 67 rfl rfl ?_
        refine jw_ireturn rfl rfl rfl ?_
        exact hq true ⟨fun _ => (sp_o_eq hk0 he).mp c3, fun _ => rfl⟩
    refine jw_icmp_lt 56 rfl rfl (fun c2 => ?_) (fun c2 => ?_)
    · have h2 : sp_helper t p e < 4 := (nI_ltI (b := 4) (by omega) (by omega)).mp c2
      refine at56 (fun b hb => ?_)
      revert hq hb
      cases sp_operandEnd t (p + sp_hs (sp_helper t p e)) e with
      | none =>
        intro hq hb
        have : b = false := by cases b; rfl; exact absurd (hb.mp rfl) (by simp)
        rw [this]; exact hq
      | some k =>
        intro hq hb
        have : b = decide (k = e) := by
          by_cases z : k = e
          · subst z; rw [hb.mpr rfl]; simp
          · cases b
            · simp [z]
            · exact absurd (Option.some.inj (hb.mp rfl)) z
        rw [this]
        simp only [if_pos h2] at hq
        exact hq
    · have h2 : ¬ sp_helper t p e < 4 := fun z => c2 ((nI_ltI (b := 4) (by omega) (by omega)).mpr z)
      refine jw_iload rfl rfl ?_
      cases hr : sp_operandEnd t (p + sp_hs (sp_helper t p e)) e with
      | none =>
        refine jw_if_ge 68 rfl rfl (fun c3 => absurd c3 (by decide)) (fun c3 => ?_)
        rw [hr] at at56 hq
        refine at56 (fun b hb => ?_)
        have : b = false := by cases b; rfl; exact absurd (hb.mp rfl) (by simp)
        rw [this]; exact hq
      | some k =>
        have hk := sp_operandEnd_le t hle.1 hr
        refine jw_if_ge 68 rfl rfl (fun c3 => ?_) (fun c3 => absurd (nI_pos' (n := k) (by omega)) c3)
        rw [hr] at hq
        simp only [if_neg h2] at hq
        have hat := sp_at_lt (p := k) ht he
        have at97 : Q (.inl (some (.inl (sp_b false)))) h → jw_J g 5 m_M_isExpr jw_T0 97 [some (.inr (.inr (some mo))), some (.inl (nI p)), some (.inl (nI e)), some (.inl (nI (sp_helper t p e))), some (.inl (sp_o (some k)))] [] h 0 0 Q := by
          intro hq
          refine js_iconst (x := 0) rfl rfl ?_
          refine jw_ireturn rfl rfl rfl ?_
          exact hq
        refine jw_aload_n rfl rfl ?_
        refine jw_iload rfl rfl ?_
        refine jw_iload_n rfl rfl ?_
        refine js_call (As := [.inl (nI k), .inl (nI e)]) rfl l_M_at0 c_M_194 i_M_at0 s_M_at0 jc_o8 rfl (hm.1) rfl (cm_at0 hg hm ht (by omega) he ?_) (by decide) (Nat.le_of_ble_eq_true rfl) (by omega) (by omega) rfl
        refine js_bipush (x := 32) rfl rfl ?_
        refine jw_icmp_ne 97 rfl rfl (fun c4 => ?_) (fun c4 => ?_)
        · have h4 : ¬ sp_at t k e = 32 := fun z => c4 (by rw [z]; rfl)
          have e4 : decide (sp_at t k e = 32 ∧ sp_operandEnd t (k + 1) e = some e) = false := by simp [h4]
          rw [e4] at hq
          exact at97 hq
        · have h4 : sp_at t k e = 32 := (nI_eq (b := 32) (by omega) (by omega)).mp c4
          have hke := sp_at_lt2 h4 (by decide)
          have hk1 : ∀ x, sp_operandEnd t (k + 1) e = some x → x ≤ 1000 := fun x hx => Nat.le_trans (sp_operandEnd_le t hke hx) he
          refine jw_aload_n rfl rfl ?_
          refine jw_iload rfl rfl ?_
          refine js_iconst (x := 1) rfl rfl ?_
          refine jw_iadd rfl ?_
          rw [show sp_o (some k) + 1 = nI (k + 1) from nI_1 k]
          refine jw_iload_n rfl rfl ?_
          refine js_call (As := [.inl (nI (k + 1)), .inl (nI e)]) rfl l_M_operandEnd c_M_233 i_M_operandEnd s_M_operandEnd jc_o8 rfl (hm.1) rfl (cm_operandEnd hg hm ht hke he ?_) (by decide) (Nat.le_of_ble_eq_true rfl) (by omega) (by omega) rfl
          refine jw_iload_n rfl rfl ?_
          refine jw_icmp_ne 97 rfl rfl (fun c5 => ?_) (fun c5 => ?_)
          · have h5 : ¬ sp_operandEnd t (k + 1) e = some e := fun z => c5 ((sp_o_eq hk1 he).mpr z)
            have e4 : decide (sp_at t k e = 32 ∧ sp_operandEnd t (k + 1) e = some e) = false := by simp [h5]
            rw [e4] at hq
            exact at97 hq
          · have h5 := (sp_o_eq hk1 he).mp c5
            have e4 : decide (sp_at t k e = 32 ∧ sp_operandEnd t (k + 1) e = some e) = true := by simp [h4, h5]
            rw [e4] at hq
            refine js_iconst (x := 1) rfl rfl ?_
            refine jw_goto 98 rfl rfl ?_
            refine jw_ireturn rfl rfl rfl ?_
            exact hq
  · have h1 : sp_helper t p e = 0 := (nI_eq (b := 0) (by omega) (by omega)).mp c1
    rw [if_pos h1] at hq
    have hk1 : ∀ x, sp_operandEnd t p e = some x → x ≤ 1000 := fun x hx => Nat.le_trans (sp_operandEnd_le t hp hx) he
    have at30 : Q (.inl (some (.inl (sp_b false)))) h → jw_J g 5 m_M_isExpr jw_T0 30 [some (.inr (.inr (some mo))), some (.inl (nI p)), some (.inl (nI e)), some (.inl (nI (sp_helper t p e))), none] [] h 0 0 Q := by
      intro hq
      refine js_iconst (x := 0) rfl rfl ?_
      refine jw_ireturn rfl rfl rfl ?_
      exact hq
    refine jw_aload_n rfl rfl ?_
    refine jw_iload_n rfl rfl ?_
    refine jw_iload_n rfl rfl ?_
    refine js_call (As := [.inl (nI p), .inl (nI e)]) rfl l_M_operandEnd c_M_233 i_M_operandEnd s_M_operandEnd jc_o8 rfl (hm.1) rfl (cm_operandEnd hg hm ht hp he ?_) (by decide) (Nat.le_of_ble_eq_true rfl) (by omega) (by omega) rfl
    refine jw_iload_n rfl rfl ?_
    refine jw_icmp_ne 30 rfl rfl (fun c2 => ?_) (fun c2 => ?_)
    · have h2 : ¬ sp_operandEnd t p e = some e := fun z => c2 ((sp_o_eq hk1 he).mpr z)
      rw [show decide (sp_operandEnd t p e = some e ∧ p < e) = false by simp [h2]] at hq
      exact at30 hq
    · have h2 := (sp_o_eq hk1 he).mp c2
      refine jw_iload_n rfl rfl ?_
      refine jw_iload_n rfl rfl ?_
      refine jw_icmp_ge 30 rfl rfl (fun c3 => ?_) (fun c3 => ?_)
      · have h3 := (nI_leI (by omega) (by omega)).mp c3
        rw [show decide (sp_operandEnd t p e = some e ∧ p < e) = false by simp; omega] at hq
        exact at30 hq
      · have h3 : p < e := Nat.lt_of_not_le (fun z => c3 ((nI_leI (by omega) (by omega)).mpr z))
        rw [show decide (sp_operandEnd t p e = some e ∧ p < e) = true by simp [h2, h3]] at hq
        refine js_iconst (x := 1) rfl rfl ?_
        refine jw_goto 31 rfl rfl ?_
        refine jw_ireturn rfl rfl rfl ?_
        exact hq

