/-! the sort of a tag by its inside -/
theorem mo_ne {h : jh_H} {mo : Nat} {ar : Nat → Nat} (hm : mo_ok h mo ar) (i j : Nat) {k t n k' t' n' : Nat} (hi : mo_T[i]? = some (k, t, n)) (hj : mo_T[j]? = some (k', t', n')) (hk : k ≠ k') : ar k ≠ ar k' := fun z => hk (hm.2.2 _ (List.mem_of_getElem? hi) _ (List.mem_of_getElem? hj) z)
theorem mo_sI {h : jh_H} {mo : Nat} {ar : Nat → Nat} (hm : mo_ok h mo ar) {a j : Nat} {v : Int32} : mo_ok (jh_sI h a j v) mo ar := hm
theorem mo_si {h : jh_H} {mo : Nat} {ar : Nat → Nat} (hm : mo_ok h mo ar) {a j : Nat} {v : Int32} : mo_ok (jh_si h a j v) mo ar := hm
theorem mo_sG {h : jh_H} {mo : Nat} {ar : Nat → Nat} (hm : mo_ok h mo ar) {a j : Nat} {v : Int64} : mo_ok (jh_sG h a j v) mo ar := hm
theorem mo_tx_s {h h0 : jh_H} {mo : Nat} {ar t : Nat → Nat} (hm : mo_ok h0 mo ar) (ht : mo_tx h ar t) (i : Nat) {k tt n : Nat} (hi : mo_T[i]? = some (k, tt, n)) (hk : k ≠ 526) (j : Nat) (v : Int32) : mo_tx (jh_sI h (ar k) j v) ar t := by
  intro x hx
  have h1 := ht x hx
  refine ⟨?_, h1.2⟩
  rw [← h1.1]
  exact jh_u_a _ _ _ _ (mo_ne hm 7 i rfl hi (fun z => hk z.symm))
theorem sp_st_len (t : Nat → Nat) {e p : Nat} {w : List Nat} (hw : w ≠ []) (hc : ∀ c ∈ w, c ≠ 0) (hp : p ≤ e) (h : sp_st t e p w = true) : p + w.length ≤ e := by
  rcases sp_st_le t e w p hc h (Or.inl hp) with q | q
  · exact q
  · exact absurd q hw
theorem sp_i1 {b : Bool} {x : Int32} (h : x = sp_b b) (h0 : x = 0) : b = false := sp_b0 (h.symm.trans h0)
set_option maxHeartbeats 4000000 in
set_option maxRecDepth 100000 in
theorem cm_sortOf {g : jg_G} (hg : (jg_l g).stackTraces = false) {h : jh_H} {mo p e : Nat} {three : Bool} {ar t : Nat → Nat} {Q : jw_O → jh_H → Prop} (hm : mo_ok h mo ar) (ht : mo_tx h ar t) (hp : p ≤ e) (he : e ≤ 1000) (hq : Q (.inl (some (.inl (sp_o (sp_sort t p e three))))) h) : jw_C g 6 0 0 m_M_sortOf [.inr (.inr (some mo)), .inl (nI p), .inl (nI e), .inl (sp_b three)] h Q := by
  refine jw_intro (ls := [some (.inr (.inr (some mo))), some (.inl (nI p)), some (.inl (nI e)), some (.inl (sp_b three))]) (by decide) k_M_sortOf rfl (by simp [lo_fit, jv_c]) hg ?_
  rw [sp_sort] at hq
  have hat := sp_at_lt (p := p) ht he
  refine jw_iload_n rfl rfl ?_
  refine jw_if_eq 19 rfl rfl (fun c1 => ?_) (fun c1 => ?_)
  rotate_left
  · rw [if_pos (sp_b1 c1)] at hq
    refine jw_aload_n rfl rfl ?_
    refine jw_iload_n rfl rfl ?_
    refine jw_iload_n rfl rfl ?_
    refine js_call (As := [.inl (nI p), .inl (nI e)]) rfl l_M_isExpr c_M_239 i_M_isExpr s_M_isExpr jc_o8 rfl (hm.1) rfl (cm_isExpr hg hm ht hp he ?_) (by decide) (Nat.le_of_ble_eq_true rfl) (by omega) (by omega) rfl
    refine jw_if_eq 17 rfl rfl (fun c2 => ?_) (fun c2 => ?_)
    · rw [if_neg (by rw [sp_b0 c2]; decide)] at hq
      refine js_iconst (x := (-1)) rfl rfl ?_
      refine jw_ireturn rfl rfl rfl ?_
      exact hq
    · rw [if_pos (sp_b1 c2)] at hq
      refine js_iconst (x := 1) rfl rfl ?_
      refine jw_goto 18 rfl rfl ?_
      refine jw_ireturn rfl rfl rfl ?_
      exact hq
  rw [if_neg (by rw [sp_b0 c1]; decide)] at hq
  refine jw_aload_n rfl rfl ?_
  refine jw_iload_n rfl rfl ?_
  refine jw_iload_n rfl rfl ?_
  refine js_call (As := [.inl (nI p), .inl (nI e)]) rfl l_M_at0 c_M_194 i_M_at0 s_M_at0 jc_o8 rfl (hm.1) rfl (cm_at0 hg hm ht (by omega) he ?_) (by decide) (Nat.le_of_ble_eq_true rfl) (by omega) (by omega) rfl
  refine js_bipush (x := 33) rfl rfl ?_
  refine jw_icmp_ne 32 rfl rfl (fun c3 => ?_) (fun c3 => ?_)
  rotate_left
  · rw [if_pos ((nI_eq (b := 33) (by omega) (by omega)).mp c3)] at hq
    refine js_iconst (x := 2) rfl rfl ?_
    refine jw_ireturn rfl rfl rfl ?_
    exact hq
  rw [if_neg (fun z => c3 (by rw [z]; rfl))] at hq
  refine jw_aload_n rfl rfl ?_
  refine jw_iload_n rfl rfl ?_
  refine jw_iload_n rfl rfl ?_
  refine jw_ldc2 rfl q_M_242 ?_
  refine js_call (As := [.inl (nI p), .inl (nI e), .inr (.inl _)]) rfl l_M_stands c_M_199 i_M_stands s_M_stands jc_o8 rfl (hm.1) rfl (cm_st hg sw_242 hm ht (by omega) he ?_) (by decide) (Nat.le_of_ble_eq_true rfl) (by omega) (by omega) rfl
  refine jw_if_eq 61 rfl rfl (fun c32 => ?_) (fun c32 => ?_)
  rotate_left
  · rw [if_pos (sp_b1 c32)] at hq
    have hle := sp_st_len t (by decide) (by decide) hp (sp_b1 c32)
    simp only [List.length_cons, List.length_nil] at hle
    refine jw_aload_n rfl rfl ?_
    refine jw_iload_n rfl rfl ?_
    refine js_iconst (x := 4) rfl rfl ?_
    refine jw_iadd rfl ?_
    rw [show nI p + 4 = nI (p + 4) from nI_add p 4]
    refine jw_iload_n rfl rfl ?_
    refine js_call (As := [.inl (nI (p + 4)), .inl (nI e)]) rfl l_M_isExpr c_M_239 i_M_isExpr s_M_isExpr jc_o8 rfl (hm.1) rfl (cm_isExpr hg hm ht (by omega) he ?_) (by decide) (Nat.le_of_ble_eq_true rfl) (by omega) (by omega) rfl
    refine jw_if_eq 59 rfl rfl (fun d32 => ?_) (fun d32 => ?_)
    · rw [if_neg (by rw [sp_b0 d32]; decide)] at hq
      refine js_iconst (x := (-1)) rfl rfl ?_
      refine jw_ireturn rfl rfl rfl ?_
      exact hq
    · rw [if_pos (sp_b1 d32)] at hq
      refine js_iconst (x := 3) rfl rfl ?_
      refine jw_goto 60 rfl rfl ?_
      refine jw_ireturn rfl rfl rfl ?_
      exact hq
  rw [if_neg (by rw [sp_b0 c32]; decide)] at hq
  refine jw_aload_n rfl rfl ?_
  refine jw_iload_n rfl rfl ?_
  refine jw_iload_n rfl rfl ?_
  refine jw_ldc2 rfl q_M_244 ?_
  refine js_call (As := [.inl (nI p), .inl (nI e), .inr (.inl _)]) rfl l_M_stands c_M_199 i_M_stands s_M_stands jc_o8 rfl (hm.1) rfl (cm_st hg sw_244 hm ht (by omega) he ?_) (by decide) (Nat.le_of_ble_eq_true rfl) (by omega) (by omega) rfl
  refine jw_if_eq 91 rfl rfl (fun c61 => ?_) (fun c61 => ?_)
  rotate_left
  · rw [if_pos (sp_b1 c61)] at hq
    have hle := sp_st_len t (by decide) (by decide) hp (sp_b1 c61)
    simp only [List.length_cons, List.length_nil] at hle
    refine jw_aload_n rfl rfl ?_
    refine jw_iload_n rfl rfl ?_
    refine js_bipush (x := 6) rfl rfl ?_
    refine jw_iadd rfl ?_
    rw [show nI p + 6 = nI (p + 6) from nI_add p 6]
    refine jw_iload_n rfl rfl ?_
    refine js_call (As := [.inl (nI (p + 6)), .inl (nI e)]) rfl l_M_isExpr c_M_239 i_M_isExpr s_M_isExpr jc_o8 rfl (hm.1) rfl (cm_isExpr hg hm ht (by omega) he ?_) (by decide) (Nat.le_of_ble_eq_true rfl) (by omega) (by omega) rfl
    refine jw_if_eq 89 rfl rfl (fun d61 => ?_) (fun d61 => ?_)
    · rw [if_neg (by rw [sp_b0 d61]; decide)] at hq
      refine js_iconst (x := (-1)) rfl rfl ?_
      refine jw_ireturn rfl rfl rfl ?_
      exact hq
    · rw [if_pos (sp_b1 d61)] at hq
      refine js_iconst (x := 4) rfl rfl ?_
      refine jw_goto 90 rfl rfl ?_
      refine jw_ireturn rfl rfl rfl ?_
      exact hq
  rw [if_neg (by rw [sp_b0 c61]; decide)] at hq
  refine jw_aload_n rfl rfl ?_
  refine jw_iload_n rfl rfl ?_
  refine jw_iload_n rfl rfl ?_
  refine jw_ldc2 rfl q_M_246 ?_
  refine js_call (As := [.inl (nI p), .inl (nI e), .inr (.inl _)]) rfl l_M_stands c_M_199 i_M_stands s_M_stands jc_o8 rfl (hm.1) rfl (cm_st hg sw_246 hm ht (by omega) he ?_) (by decide) (Nat.le_of_ble_eq_true rfl) (by omega) (by omega) rfl
  refine jw_if_eq 121 rfl rfl (fun c91 => ?_) (fun c91 => ?_)
  rotate_left
  · rw [if_pos (sp_b1 c91)] at hq
    have hle := sp_st_len t (by decide) (by decide) hp (sp_b1 c91)
    simp only [List.length_cons, List.length_nil] at hle
    refine jw_aload_n rfl rfl ?_
    refine jw_iload_n rfl rfl ?_
    refine js_bipush (x := 6) rfl rfl ?_
    refine jw_iadd rfl ?_
    rw [show nI p + 6 = nI (p + 6) from nI_add p 6]
    refine jw_iload_n rfl rfl ?_
    refine js_call (As := [.inl (nI (p + 6)), .inl (nI e)]) rfl l_M_isExpr c_M_239 i_M_isExpr s_M_isExpr jc_o8 rfl (hm.1) rfl (cm_isExpr hg hm ht (by omega) he ?_) (by decide) (Nat.le_of_ble_eq_true rfl) (by omega) (by omega) rfl
    refine jw_if_eq 119 rfl rfl (fun d91 => ?_) (fun d91 => ?_)
    · rw [if_neg (by rw [sp_b0 d91]; decide)] at hq
      refine js_iconst (x := (-1)) rfl rfl ?_
      refine jw_ireturn rfl rfl rfl ?_
      exact hq
    · rw [if_pos (sp_b1 d91)] at hq
      refine js_iconst (x := 5) rfl rfl ?_
      refine jw_goto 120 rfl rfl ?_
      refine jw_ireturn rfl rfl rfl ?_
      exact hq
  rw [if_neg (by rw [sp_b0 c91]; decide)] at hq
  have j121 : (¬ (e - p = 4 ∧ sp_st t e p [101, 108, 115, 101])) → jw_J g 6 m_M_sortOf jw_T0 143 [some (.inr (.inr (some mo))), some (.inl (nI p)), some (.inl (nI e)), some (.inl (sp_b three))] [] h 0 0 Q := by
    intro hn
    rw [if_neg hn] at hq
    have j143 : (¬ (e - p = 3 ∧ sp_st t e p [47, 105, 102])) → jw_J g 6 m_M_sortOf jw_T0 165 [some (.inr (.inr (some mo))), some (.inl (nI p)), some (.inl (nI e)), some (.inl (sp_b three))] [] h 0 0 Q := by
      intro hn
      rw [if_neg hn] at hq
      have j165 : (¬ (e - p = 5 ∧ sp_st t e p [47, 101, 97, 99, 104])) → jw_J g 6 m_M_sortOf jw_T0 187 [some (.inr (.inr (some mo))), some (.inl (nI p)), some (.inl (nI e)), some (.inl (sp_b three))] [] h 0 0 Q := by
        intro hn
        rw [if_neg hn] at hq
        have j187 : (¬ (e - p = 5 ∧ sp_st t e p [47, 119, 105, 116, 104])) → jw_J g 6 m_M_sortOf jw_T0 209 [some (.inr (.inr (some mo))), some (.inl (nI p)), some (.inl (nI e)), some (.inl (sp_b three))] [] h 0 0 Q := by
          intro hn
          rw [if_neg hn] at hq
          refine jw_aload_n rfl rfl ?_
          refine jw_iload_n rfl rfl ?_
          refine jw_iload_n rfl rfl ?_
          refine js_call (As := [.inl (nI p), .inl (nI e)]) rfl l_M_at0 c_M_194 i_M_at0 s_M_at0 jc_o8 rfl (hm.1) rfl (cm_at0 hg hm ht (by omega) he ?_) (by decide) (Nat.le_of_ble_eq_true rfl) (by omega) (by omega) rfl
          refine js_bipush (x := 62) rfl rfl ?_
          refine jw_icmp_ne 273 rfl rfl (fun c9 => ?_) (fun c9 => ?_)
          · rw [if_neg (fun z => c9 (by rw [z]; rfl))] at hq
            refine jw_aload_n rfl rfl ?_
            refine jw_iload_n rfl rfl ?_
            refine jw_iload_n rfl rfl ?_
            refine js_call (As := [.inl (nI p), .inl (nI e)]) rfl l_M_isExpr c_M_239 i_M_isExpr s_M_isExpr jc_o8 rfl (hm.1) rfl (cm_isExpr hg hm ht hp he ?_) (by decide) (Nat.le_of_ble_eq_true rfl) (by omega) (by omega) rfl
            refine jw_if_eq 286 rfl rfl (fun c2 => ?_) (fun c2 => ?_)
            · rw [if_neg (by rw [sp_b0 c2]; decide)] at hq
              refine js_iconst (x := (-1)) rfl rfl ?_
              refine jw_ireturn rfl rfl rfl ?_
              exact hq
            · rw [if_pos (sp_b1 c2)] at hq
              refine js_iconst (x := 0) rfl rfl ?_
              refine jw_goto 287 rfl rfl ?_
              refine jw_ireturn rfl rfl rfl ?_
              exact hq
          · rw [if_pos ((nI_eq (b := 62) (by omega) (by omega)).mp c9)] at hq
            have at271 : Q (.inl (some (.inl (-1)))) h → jw_J g 6 m_M_sortOf jw_T0 271 [some (.inr (.inr (some mo))), some (.inl (nI p)), some (.inl (nI e)), some (.inl (sp_b three))] [] h 0 0 Q := by
              intro hq
              refine js_iconst (x := (-1)) rfl rfl ?_
              refine jw_ireturn rfl rfl rfl ?_
              exact hq
            refine jw_iload_n rfl rfl ?_
            refine jw_iload_n rfl rfl ?_
            refine jw_isub rfl ?_
            rw [pk_sub hp]
            refine js_iconst (x := 3) rfl rfl ?_
            refine jw_icmp_ne 271 rfl rfl (fun d1 => ?_) (fun d1 => ?_)
            · rw [if_neg (fun z => d1 (by rw [z.1]; rfl))] at hq
              exact at271 hq
            have l1 : e - p = 3 := (nI_eq (b := 3) (by omega) (by omega)).mp d1
            have t1 := ht (p + 1) (by omega)
            have t2 := ht (p + 2) (by omega)
            refine jw_aload_n rfl rfl ?_
            refine jw_gr rfl g_M_56 hm.1 (mo_r hm 7 rfl) ?_
            refine jw_iload_n rfl rfl ?_
            refine js_iconst (x := 1) rfl rfl ?_
            refine jw_iadd rfl ?_
            rw [show nI p + 1 = nI (p + 1) from nI_1 p]
            refine js_cald (p + 1) rfl (mo_a hm 7 rfl) (by decide) (by rfl)  rfl (by omega) (by decide) ?_
            rw [t1.1]
            refine js_bipush (x := 32) rfl rfl ?_
            refine jw_icmp_ne 271 rfl rfl (fun d2 => ?_) (fun d2 => ?_)
            · rw [if_neg (fun z => d2 (by rw [z.2.1]; rfl))] at hq
              exact at271 hq
            have l2 : t (p + 1) = 32 := (nI_eq (b := 32) (by omega) (by omega)).mp d2
            refine jw_aload_n rfl rfl ?_
            refine jw_gr rfl g_M_56 hm.1 (mo_r hm 7 rfl) ?_
            refine jw_iload_n rfl rfl ?_
            refine js_iconst (x := 2) rfl rfl ?_
            refine jw_iadd rfl ?_
            rw [show nI p + 2 = nI (p + 2) from nI_add p 2]
            refine js_cald (p + 2) rfl (mo_a hm 7 rfl) (by decide) (by rfl)  rfl (by omega) (by decide) ?_
            rw [t2.1]
            refine js_bipush (x := 97) rfl rfl ?_
            refine jw_icmp_lt 271 rfl rfl (fun d3 => ?_) (fun d3 => ?_)
            · rw [if_neg (fun z => absurd ((nI_ltI (b := 97) (by omega) (by omega)).mp d3) (by omega))] at hq
              exact at271 hq
            have l3 : ¬ t (p + 2) < 97 := fun z => d3 ((nI_ltI (b := 97) (by omega) (by omega)).mpr z)
            refine jw_aload_n rfl rfl ?_
            refine jw_gr rfl g_M_56 hm.1 (mo_r hm 7 rfl) ?_
            refine jw_iload_n rfl rfl ?_
            refine js_iconst (x := 2) rfl rfl ?_
            refine jw_iadd rfl ?_
            rw [show nI p + 2 = nI (p + 2) from nI_add p 2]
            refine js_cald (p + 2) rfl (mo_a hm 7 rfl) (by decide) (by rfl)  rfl (by omega) (by decide) ?_
            rw [t2.1]
            refine js_bipush (x := 100) rfl rfl ?_
            refine jw_icmp_gt 271 rfl rfl (fun d4 => ?_) (fun d4 => ?_)
            · rw [if_neg (fun z => absurd ((nI_ltI (a := 100) (by omega) (by omega)).mp d4) (by omega))] at hq
              exact at271 hq
            have l4 : ¬ 100 < t (p + 2) := fun z => d4 ((nI_ltI (a := 100) (by omega) (by omega)).mpr z)
            rw [if_pos ⟨l1, l2, by omega, by omega⟩] at hq
            refine js_bipush (x := 10) rfl rfl ?_
            refine jw_goto 272 rfl rfl ?_
            refine jw_ireturn rfl rfl rfl ?_
            exact hq
        refine jw_iload_n rfl rfl ?_
        refine jw_iload_n rfl rfl ?_
        refine jw_isub rfl ?_
        rw [pk_sub hp]
        refine js_iconst (x := 5) rfl rfl ?_
        refine jw_icmp_ne 209 rfl rfl (fun c187 => j187 (fun z => c187 (by rw [z.1]; rfl))) (fun c187 => ?_)
        have l187 : e - p = 5 := (nI_eq (b := 5) (by omega) (by omega)).mp c187
        refine jw_aload_n rfl rfl ?_
        refine jw_iload_n rfl rfl ?_
        refine jw_iload_n rfl rfl ?_
        refine jw_ldc2 rfl q_M_254 ?_
        refine js_call (As := [.inl (nI p), .inl (nI e), .inr (.inl _)]) rfl l_M_stands c_M_199 i_M_stands s_M_stands jc_o8 rfl (hm.1) rfl (cm_st hg sw_254 hm ht (by omega) he ?_) (by decide) (Nat.le_of_ble_eq_true rfl) (by omega) (by omega) rfl
        refine jw_if_eq 209 rfl rfl (fun d187 => j187 (fun z => by rw [sp_b0 d187] at z; exact absurd z.2 (by decide))) (fun d187 => ?_)
        rw [if_pos ⟨l187, sp_b1 d187⟩] at hq
        refine js_bipush (x := 9) rfl rfl ?_
        refine jw_ireturn rfl rfl rfl ?_
        exact hq
      refine jw_iload_n rfl rfl ?_
      refine jw_iload_n rfl rfl ?_
      refine jw_isub rfl ?_
      rw [pk_sub hp]
      refine js_iconst (x := 5) rfl rfl ?_
      refine jw_icmp_ne 187 rfl rfl (fun c165 => j165 (fun z => c165 (by rw [z.1]; rfl))) (fun c165 => ?_)
      have l165 : e - p = 5 := (nI_eq (b := 5) (by omega) (by omega)).mp c165
      refine jw_aload_n rfl rfl ?_
      refine jw_iload_n rfl rfl ?_
      refine jw_iload_n rfl rfl ?_
      refine jw_ldc2 rfl q_M_252 ?_
      refine js_call (As := [.inl (nI p), .inl (nI e), .inr (.inl _)]) rfl l_M_stands c_M_199 i_M_stands s_M_stands jc_o8 rfl (hm.1) rfl (cm_st hg sw_252 hm ht (by omega) he ?_) (by decide) (Nat.le_of_ble_eq_true rfl) (by omega) (by omega) rfl
      refine jw_if_eq 187 rfl rfl (fun d165 => j165 (fun z => by rw [sp_b0 d165] at z; exact absurd z.2 (by decide))) (fun d165 => ?_)
      rw [if_pos ⟨l165, sp_b1 d165⟩] at hq
      refine js_bipush (x := 8) rfl rfl ?_
      refine jw_ireturn rfl rfl rfl ?_
      exact hq
    refine jw_iload_n rfl rfl ?_
    refine jw_iload_n rfl rfl ?_
    refine jw_isub rfl ?_
    rw [pk_sub hp]
    refine js_iconst (x := 3) rfl rfl ?_
    refine jw_icmp_ne 165 rfl rfl (fun c143 => j143 (fun z => c143 (by rw [z.1]; rfl))) (fun c143 => ?_)
    have l143 : e - p = 3 := (nI_eq (b := 3) (by omega) (by omega)).mp c143
    refine jw_aload_n rfl rfl ?_
    refine jw_iload_n rfl rfl ?_
    refine jw_iload_n rfl rfl ?_
    refine jw_ldc2 rfl q_M_250 ?_
    refine js_call (As := [.inl (nI p), .inl (nI e), .inr (.inl _)]) rfl l_M_stands c_M_199 i_M_stands s_M_stands jc_o8 rfl (hm.1) rfl (cm_st hg sw_250 hm ht (by omega) he ?_) (by decide) (Nat.le_of_ble_eq_true rfl) (by omega) (by omega) rfl
    refine jw_if_eq 165 rfl rfl (fun d143 => j143 (fun z => by rw [sp_b0 d143] at z; exact absurd z.2 (by decide))) (fun d143 => ?_)
    rw [if_pos ⟨l143, sp_b1 d143⟩] at hq
    refine js_bipush (x := 7) rfl rfl ?_
    refine jw_ireturn rfl rfl rfl ?_
    exact hq
  refine jw_iload_n rfl rfl ?_
  refine jw_iload_n rfl rfl ?_
  refine jw_isub rfl ?_
  rw [pk_sub hp]
  refine js_iconst (x := 4) rfl rfl ?_
  refine jw_icmp_ne 143 rfl rfl (fun c121 => j121 (fun z => c121 (by rw [z.1]; rfl))) (fun c121 => ?_)
  have l121 : e - p = 4 := (nI_eq (b := 4) (by omega) (by omega)).mp c121
  refine jw_aload_n rfl rfl ?_
  refine jw_iload_n rfl rfl ?_
  refine jw_iload_n rfl rfl ?_
  refine jw_ldc2 rfl q_M_248 ?_
  refine js_call (As := [.inl (nI p), .inl (nI e), .inr (.inl _)]) rfl l_M_stands c_M_199 i_M_stands s_M_stands jc_o8 rfl (hm.1) rfl (cm_st hg sw_248 hm ht (by omega) he ?_) (by decide) (Nat.le_of_ble_eq_true rfl) (by omega) (by omega) rfl
  refine jw_if_eq 143 rfl rfl (fun d121 => j121 (fun z => by rw [sp_b0 d121] at z; exact absurd z.2 (by decide))) (fun d121 => ?_)
  rw [if_pos ⟨l121, sp_b1 d121⟩] at hq
  refine js_bipush (x := 6) rfl rfl ?_
  refine jw_ireturn rfl rfl rfl ?_
  exact hq

