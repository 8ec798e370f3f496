/-! the model's paths, operands, expressions -/
set_option maxHeartbeats 4000000 in
set_option maxRecDepth 100000 in
theorem cm_pathEnd {g : jg_G} (hg : (jg_l g).stackTraces = false) {h : jh_H} {mo p e : Nat} {ar t : Nat → Nat} {Q : jw_O → jh_H → Prop} (hm : mo_ok h mo ar) (ht : mo_tx h ar t) (hp : p ≤ e) (he : e ≤ 1000) (hq : Q (.inl (some (.inl (sp_o (sp_pathEnd t p e))))) h) : jw_C g 3 0 0 m_M_pathEnd [.inr (.inr (some mo)), .inl (nI p), .inl (nI e)] h Q := by
  refine jw_intro (ls := [some (.inr (.inr (some mo))), some (.inl (nI p)), some (.inl (nI e)), none, none]) (by decide) k_M_pathEnd rfl (by simp [lo_fit, jv_c]) hg ?_
  have tail : ∀ n k, k ≤ e → e ≤ k + n → Q (.inl (some (.inl (sp_o (sp_tail t e n k))))) h → jw_J g 3 m_M_pathEnd jw_T0 99 [some (.inr (.inr (some mo))), some (.inl (nI p)), some (.inl (nI e)), some (.inl (nI k)), none] [] h 0 0 Q := by
    intro n
    induction n with
    | zero =>
      intro k hk hn hq
      have e0 : sp_at t k e = 0 := by simp [sp_at]; omega
      refine jw_aload_n rfl rfl ?_
      refine jw_iload_n rfl rfl ?_
      refine jw_iload_n rfl rfl ?_
      refine js_call (As := [.inl (nI k), .inl (nI e)]) rfl l_M_at0 c_M_194 i_M_at0 s_M_at0 jc_o8 rfl (hm.1) rfl (cm_at0 hg hm ht (by omega) he ?_) (by decide) (Nat.le_of_ble_eq_true rfl) (by omega) (by omega) rfl
      refine js_bipush (x := 46) rfl rfl ?_
      rw [e0]
      refine jw_icmp_ne 168 rfl rfl (fun c1 => ?_) (fun c1 => absurd c1 (by decide))
      refine jw_iload_n rfl rfl ?_
      refine jw_ireturn rfl rfl rfl ?_
      exact hq
    | succ n ih =>
      intro k hk hn hq
      have hat := sp_at_lt (p := k) ht he
      rw [sp_tail] at hq
      refine jw_aload_n rfl rfl ?_
      refine jw_iload_n rfl rfl ?_
      refine jw_iload_n rfl rfl ?_
      refine js_call (As := [.inl (nI k), .inl (nI e)]) rfl l_M_at0 c_M_194 i_M_at0 s_M_at0 jc_o8 rfl (hm.1) rfl (cm_at0 hg hm ht (by omega) he ?_) (by decide) (Nat.le_of_ble_eq_true rfl) (by omega) (by omega) rfl
      refine js_bipush (x := 46) rfl rfl ?_
      refine jw_icmp_ne 168 rfl rfl (fun c1 => ?_) (fun c1 => ?_)
      · have h1 : ¬ sp_at t k e = 46 := fun z => c1 (by rw [z]; rfl)
        rw [if_neg h1] at hq
        refine jw_iload_n rfl rfl ?_
        refine jw_ireturn rfl rfl rfl ?_
        exact hq
      · have h1 : sp_at t k e = 46 := (nI_eq (b := 46) (by omega) (by omega)).mp c1
        have hke := sp_at_lt2 h1 (by decide)
        rw [if_pos h1] at hq
        have hle := sp_letters_le t (p := k + 1) (e := e) hke
        have hat1 := sp_at_lt (p := k + 1) ht he
        have join : ∀ s, s = sp_step t k e → jw_J g 3 m_M_pathEnd jw_T0 143 [some (.inr (.inr (some mo))), some (.inl (nI p)), some (.inl (nI e)), some (.inl (nI k)), some (.inl (nI s))] [] h 0 0 Q := by
          intro s hs
          rw [← hs] at hq
          have hs1 : s ≤ 1000 := by
            rcases sp_step_le t h1 with q | q <;> omega
          refine jw_iload rfl rfl ?_
          refine js_iconst (x := 1) rfl rfl ?_
          refine jw_icmp_lt 156 rfl rfl (fun c2 => ?_) (fun c2 => ?_)
          · have h2 : s < 1 := (nI_ltI (b := 1) (by omega) (by omega)).mp c2
            rw [if_pos (Or.inl h2)] at hq
            refine js_iconst (x := (-1)) rfl rfl ?_
            refine jw_ireturn rfl rfl rfl ?_
            exact hq
          · have h2 : ¬ s < 1 := fun z => c2 ((nI_ltI (b := 1) (by omega) (by omega)).mpr z)
            refine jw_iload rfl rfl ?_
            refine js_bipush (x := 8) rfl rfl ?_
            refine jw_icmp_le 158 rfl rfl (fun c3 => ?_) (fun c3 => ?_)
            · have h3 : s ≤ 8 := (nI_leI (b := 8) (by omega) (by omega)).mp c3
              rw [if_neg (by omega)] at hq
              refine jw_iload_n rfl rfl ?_
              refine js_iconst (x := 1) rfl rfl ?_
              refine jw_iload rfl rfl ?_
              refine jw_iadd rfl ?_
              rw [show (1 : Int32) + nI s = nI (1 + s) from nI_add 1 s]
              refine jw_iadd rfl ?_
              rw [nI_add k (1 + s)]
              refine js_istore_n rfl rfl (by decide) rfl ?_
              refine jw_goto 99 rfl rfl ?_
              refine js_drop 4 rfl (ih (k + (1 + s)) ?_ (by omega) hq)
              rcases sp_step_le t h1 with q | q <;> omega
            · have h3 : ¬ s ≤ 8 := fun z => c3 ((nI_leI (b := 8) (by omega) (by omega)).mpr z)
              rw [if_pos (Or.inr (by omega))] at hq
              refine js_iconst (x := (-1)) rfl rfl ?_
              refine jw_ireturn rfl rfl rfl ?_
              exact hq
        refine jw_aload_n rfl rfl ?_
        refine jw_iload_n rfl rfl ?_
        refine js_iconst (x := 1) rfl rfl ?_
        refine jw_iadd rfl ?_
        rw [show nI k + 1 = nI (k + 1) from nI_1 k]
        refine jw_iload_n rfl rfl ?_
        refine js_call (As := [.inl (nI (k + 1)), .inl (nI e)]) rfl l_M_letters c_M_207 i_M_letters s_M_letters jc_o8 rfl (hm.1) rfl (cm_letters hg hm ht (by omega) he ?_) (by decide) (Nat.le_of_ble_eq_true rfl) (by omega) (by omega) rfl
        refine js_istore rfl rfl (by decide) rfl ?_
        refine jw_iload rfl rfl ?_
        refine jw_if_ne 143 rfl rfl (fun c2 => ?_) (fun c2 => ?_)
        · have h2 : ¬ sp_letters t (k + 1) e = 0 := fun z => c2 (by rw [z]; rfl)
          exact join _ (by rw [sp_step, if_neg (fun z => h2 z.1)])
        · have h2 : sp_letters t (k + 1) e = 0 := (nI_eq (b := 0) (by omega) (by omega)).mp c2
          refine jw_aload_n rfl rfl ?_
          refine jw_aload_n rfl rfl ?_
          refine jw_iload_n rfl rfl ?_
          refine js_iconst (x := 1) rfl rfl ?_
          refine jw_iadd rfl ?_
          rw [show nI k + 1 = nI (k + 1) from nI_1 k]
          refine jw_iload_n rfl rfl ?_
          refine js_call (As := [.inl (nI (k + 1)), .inl (nI e)]) rfl l_M_at0 c_M_194 i_M_at0 s_M_at0 jc_o8 rfl (hm.1) rfl (cm_at0 hg hm ht (by omega) he ?_) (by decide) (Nat.le_of_ble_eq_true rfl) (by omega) (by omega) rfl
          refine js_call (As := [.inl (nI (sp_at t (k + 1) e))]) rfl l_M_digit c_M_212 i_M_digit s_M_digit jc_o8 rfl (hm.1) rfl (cm_digit hg (by omega) ?_) (by decide) (Nat.le_of_ble_eq_true rfl) (by omega) (by omega) rfl
          refine jw_if_eq 143 rfl rfl (fun c3 => ?_) (fun c3 => ?_)
          · exact join _ (by rw [sp_step, if_neg (fun z => by rw [sp_b0 c3] at z; exact absurd z.2 (by decide))])
          · refine js_iconst (x := 1) rfl rfl ?_
            refine js_istore rfl rfl (by decide) rfl ?_
            exact join 1 (by rw [sp_step, if_pos ⟨h2, sp_b1 c3⟩])
  rw [sp_pathEnd] at hq
  have ups : ∀ n k, k ≤ e → e ≤ k + n → (∀ k', k' = sp_up t e n k → jw_J g 3 m_M_pathEnd jw_T0 49 [some (.inr (.inr (some mo))), some (.inl (nI p)), some (.inl (nI e)), some (.inl (nI k')), none] [] h 0 0 Q) → jw_J g 3 m_M_pathEnd jw_T0 31 [some (.inr (.inr (some mo))), some (.inl (nI p)), some (.inl (nI e)), some (.inl (nI k)), none] [] h 0 0 Q := by
    intro n
    induction n with
    | zero =>
      intro k hk hn kk
      have e0 : sp_st t e k [46, 46, 47] = false := by
        have : sp_at t k e = 0 := by simp [sp_at]; omega
        rw [sp_st, this]; rfl
      refine jw_aload_n rfl rfl ?_
      refine jw_iload_n rfl rfl ?_
      refine jw_iload_n rfl rfl ?_
      refine jw_ldc2 rfl q_M_205 ?_
      refine js_call (As := [.inl (nI k), .inl (nI e), .inr (.inl _)]) rfl l_M_stands c_M_199 i_M_stands s_M_stands jc_o8 rfl (hm.1) rfl (cm_st hg sw_205 hm ht (by omega) he ?_) (by decide) (Nat.le_of_ble_eq_true rfl) (by omega) (by omega) rfl
      rw [e0]
      refine jw_if_eq 49 rfl rfl (fun c1 => ?_) (fun c1 => absurd rfl c1)
      exact kk k rfl
    | succ n ih =>
      intro k hk hn kk
      rw [sp_up] at kk
      refine jw_aload_n rfl rfl ?_
      refine jw_iload_n rfl rfl ?_
      refine jw_iload_n rfl rfl ?_
      refine jw_ldc2 rfl q_M_205 ?_
      refine js_call (As := [.inl (nI k), .inl (nI e), .inr (.inl _)]) rfl l_M_stands c_M_199 i_M_stands s_M_stands jc_o8 rfl (hm.1) rfl (cm_st hg sw_205 hm ht (by omega) he ?_) (by decide) (Nat.le_of_ble_eq_true rfl) (by omega) (by omega) rfl
      refine jw_if_eq 49 rfl rfl (fun c1 => ?_) (fun c1 => ?_)
      · rw [if_neg (by rw [sp_b0 c1]; decide)] at kk
        exact kk k rfl
      · have h1 := sp_b1 c1
        rw [if_pos h1] at kk
        have h2 : k + 3 ≤ e := by
          rcases sp_st_le t e [46, 46, 47] k (by decide) h1 (Or.inl hk) with q | q
          · exact q
          · cases q
        refine js_iinc rfl rfl (show nI k + Int32.ofInt 3 = nI (k + 3) from nI_add k 3) rfl (by decide) rfl ?_
        refine jw_goto 31 rfl rfl ?_
        exact ih (k + 3) h2 (by omega) kk
  have six : sp_o (some (p + 6)) = nI (p + 6) := rfl
  refine jw_aload_n rfl rfl ?_
  refine jw_iload_n rfl rfl ?_
  refine jw_iload_n rfl rfl ?_
  refine jw_ldc2 rfl q_M_197 ?_
  refine js_call (As := [.inl (nI p), .inl (nI e), .inr (.inl _)]) rfl l_M_stands c_M_199 i_M_stands s_M_stands jc_o8 rfl (hm.1) rfl (cm_st hg sw_197 hm ht (by omega) he ?_) (by decide) (Nat.le_of_ble_eq_true rfl) (by omega) (by omega) rfl
  have at24 : Q (.inl (some (.inl (nI (p + 6))))) h → jw_J g 3 m_M_pathEnd jw_T0 24 [some (.inr (.inr (some mo))), some (.inl (nI p)), some (.inl (nI e)), none, none] [] h 0 0 Q := by
    intro hq
    refine jw_iload_n rfl rfl ?_
    refine js_bipush (x := 6) rfl rfl ?_
    refine jw_iadd rfl ?_
    rw [show nI p + 6 = nI (p + 6) from nI_add p 6]
    refine jw_ireturn rfl rfl rfl ?_
    exact hq
  refine jw_if_ne 24 rfl rfl (fun c1 => ?_) (fun c1 => ?_)
  · rw [if_pos (Or.inl (sp_b1 c1))] at hq
    exact at24 hq
  refine jw_aload_n rfl rfl ?_
  refine jw_iload_n rfl rfl ?_
  refine jw_iload_n rfl rfl ?_
  refine jw_ldc2 rfl q_M_203 ?_
  refine js_call (As := [.inl (nI p), .inl (nI e), .inr (.inl _)]) rfl l_M_stands c_M_199 i_M_stands s_M_stands jc_o8 rfl (hm.1) rfl (cm_st hg sw_203 hm ht (by omega) he ?_) (by decide) (Nat.le_of_ble_eq_true rfl) (by omega) (by omega) rfl
  refine jw_if_eq 29 rfl rfl (fun c2 => ?_) (fun c2 => ?_)
  rotate_left
  · rw [if_pos (Or.inr (sp_b1 c2))] at hq
    exact at24 hq
  rw [if_neg (by rw [sp_b0 c1, sp_b0 c2]; decide)] at hq
  refine jw_iload_n rfl rfl ?_
  refine js_istore_n rfl rfl (by decide) rfl ?_
  refine ups (e - p) p hp (by omega) (fun k hk => ?_)
  rw [← hk] at hq
  have hu := sp_up_le t e (e - p) p hp
  rw [← hk] at hu
  have hl := sp_letters_le t hu.1
  refine jw_aload_n rfl rfl ?_
  refine jw_iload_n rfl rfl ?_
  refine jw_iload_n rfl rfl ?_
  refine js_call (As := [.inl (nI k), .inl (nI e)]) rfl l_M_letters c_M_207 i_M_letters s_M_letters jc_o8 rfl (hm.1) rfl (cm_letters hg hm ht (by omega) he ?_) (by decide) (Nat.le_of_ble_eq_true rfl) (by omega) (by omega) rfl
  refine js_istore rfl rfl (by decide) rfl ?_
  refine jw_iload rfl rfl ?_
  refine js_iconst (x := 1) rfl rfl ?_
  have at70 : Q (.inl (some (.inl (-1)))) h → jw_J g 3 m_M_pathEnd jw_T0 70 [some (.inr (.inr (some mo))), some (.inl (nI p)), some (.inl (nI e)), some (.inl (nI k)), some (.inl (nI (sp_letters t k e)))] [] h 0 0 Q := by
    intro hq
    refine js_iconst (x := (-1)) rfl rfl ?_
    refine jw_ireturn rfl rfl rfl ?_
    exact hq
  refine jw_icmp_lt 70 rfl rfl (fun c3 => ?_) (fun c3 => ?_)
  · rw [if_pos (Or.inl ((nI_ltI (b := 1) (by omega) (by omega)).mp c3))] at hq
    exact at70 hq
  have h3 : ¬ sp_letters t k e < 1 := fun z => c3 ((nI_ltI (b := 1) (by omega) (by omega)).mpr z)
  refine jw_iload rfl rfl ?_
  refine js_bipush (x := 8) rfl rfl ?_
  refine jw_icmp_le 72 rfl rfl (fun c4 => ?_) (fun c4 => ?_)
  rotate_left
  · have h4 : ¬ sp_letters t k e ≤ 8 := fun z => c4 ((nI_leI (b := 8) (by omega) (by omega)).mpr z)
    rw [if_pos (Or.inr (by omega))] at hq
    exact at70 hq
  have h4 : sp_letters t k e ≤ 8 := (nI_leI (b := 8) (by omega) (by omega)).mp c4
  rw [if_neg (by omega)] at hq
  have at94 : Q (.inl (some (.inl (sp_o (sp_tail t e (e - p) (k + sp_letters t k e)))))) h → jw_J g 3 m_M_pathEnd jw_T0 94 [some (.inr (.inr (some mo))), some (.inl (nI p)), some (.inl (nI e)), some (.inl (nI k)), some (.inl (nI (sp_letters t k e)))] [] h 0 0 Q := by
    intro hq
    refine jw_iload_n rfl rfl ?_
    refine jw_iload rfl rfl ?_
    refine jw_iadd rfl ?_
    rw [nI_add]
    refine js_istore_n rfl rfl (by decide) rfl ?_
    exact js_drop 4 rfl (tail (e - p) _ (by omega) (by omega) hq)
  refine jw_iload rfl rfl ?_
  refine js_iconst (x := 4) rfl rfl ?_
  refine jw_icmp_ne 94 rfl rfl (fun c5 => ?_) (fun c5 => ?_)
  · have h5 : ¬ sp_letters t k e = 4 := fun z => c5 (by rw [z]; rfl)
    rw [if_neg (fun z => h5 z.1)] at hq
    exact at94 hq
  · have h5 : sp_letters t k e = 4 := (nI_eq (b := 4) (by omega) (by omega)).mp c5
    refine jw_aload_n rfl rfl ?_
    refine jw_iload_n rfl rfl ?_
    refine jw_iload_n rfl rfl ?_
    refine jw_ldc2 rfl q_M_210 ?_
    refine js_call (As := [.inl (nI k), .inl (nI e), .inr (.inl _)]) rfl l_M_stands c_M_199 i_M_stands s_M_stands jc_o8 rfl (hm.1) rfl (cm_st hg sw_210 hm ht (by omega) he ?_) (by decide) (Nat.le_of_ble_eq_true rfl) (by omega) (by omega) rfl
    refine jw_if_eq 94 rfl rfl (fun c6 => ?_) (fun c6 => ?_)
    · rw [if_neg (fun z => by rw [sp_b0 c6] at z; exact absurd z.2 (by decide))] at hq
      exact at94 hq
    · rw [if_pos ⟨h5, sp_b1 c6⟩] at hq
      refine jw_iload_n rfl rfl ?_
      refine js_iconst (x := 4) rfl rfl ?_
      refine jw_iadd rfl ?_
      rw [show nI k + 4 = nI (k + 4) from nI_add k 4]
      refine jw_ireturn rfl rfl rfl ?_
      exact hq

