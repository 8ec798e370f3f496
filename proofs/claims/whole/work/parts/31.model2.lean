/-! the model's words -/
def sw_ok (w : Int64) (wd : List Nat) : Prop := ∃ bl : List Nat, (∀ i, i < 8 → ((w >>> ((nI (8 * i)).toInt64 &&& 63)) &&& 255).toInt32 = nI (bl.getD i 0)) ∧ (∀ i, i < 8 → bl.getD i 0 < 128) ∧ sp_wd bl 8 = wd
def sp_o (r : Option Nat) : Int32 := match r with
  | none => -1
  | some k => nI k
theorem cm_st {g : jg_G} (hg : (jg_l g).stackTraces = false) {h : jh_H} {mo p e : Nat} {ar t : Nat → Nat} {w : Int64} {wd : List Nat} {Q : jw_O → jh_H → Prop} (hw : sw_ok w wd) (hm : mo_ok h mo ar) (ht : mo_tx h ar t) (hp : p ≤ 1010) (he : e ≤ 1000) (hq : Q (.inl (some (.inl (sp_b (sp_st t e p wd))))) h) : jw_C g 1 0 0 m_M_stands [.inr (.inr (some mo)), .inl (nI p), .inl (nI e), .inr (.inl w)] h Q := by
  obtain ⟨bl, h1, h2, rfl⟩ := hw
  exact cm_stands hg bl h1 h2 hm ht hp he hq
theorem sw_256 : sw_ok 31611 [123, 123] := ⟨[123, 123], by decide +kernel, by decide, by decide⟩
theorem sw_258 : sw_ok 8092539 [123, 123, 123] := ⟨[123, 123, 123], by decide +kernel, by decide, by decide⟩
theorem sw_260 : sw_ok 8224125 [125, 125, 125] := ⟨[125, 125, 125], by decide +kernel, by decide, by decide⟩
theorem sw_262 : sw_ok 32125 [125, 125] := ⟨[125, 125], by decide +kernel, by decide, by decide⟩
theorem sw_218 : sw_ok 7696416 [117, 112, 32] := ⟨[32, 112, 117], by decide +kernel, by decide, by decide⟩
theorem sw_220 : sw_ok 1818586656 [108, 101, 110, 32] := ⟨[32, 110, 101, 108], by decide +kernel, by decide, by decide⟩
theorem sw_222 : sw_ok 1852797984 [110, 111, 116, 32] := ⟨[32, 116, 111, 110], by decide +kernel, by decide, by decide⟩
theorem sw_224 : sw_ok 1633969184 [97, 100, 100, 32] := ⟨[32, 100, 100, 97], by decide +kernel, by decide, by decide⟩
theorem sw_226 : sw_ok 6648096 [101, 113, 32] := ⟨[32, 113, 101], by decide +kernel, by decide, by decide⟩
theorem sw_228 : sw_ok 6386720 [97, 116, 32] := ⟨[32, 116, 97], by decide +kernel, by decide, by decide⟩
theorem sw_197 : sw_ok 70821567817080 [64, 105, 110, 100, 101, 120] := ⟨[120, 101, 100, 110, 105, 64], by decide +kernel, by decide, by decide⟩
theorem sw_203 : sw_ok 70808599950196 [64, 102, 105, 114, 115, 116] := ⟨[116, 115, 114, 105, 102, 64], by decide +kernel, by decide, by decide⟩
theorem sw_205 : sw_ok 3026479 [46, 46, 47] := ⟨[47, 46, 46], by decide +kernel, by decide, by decide⟩
theorem sw_210 : sw_ok 1952999795 [116, 104, 105, 115] := ⟨[115, 105, 104, 116], by decide +kernel, by decide, by decide⟩
theorem sw_242 : sw_ok 594109984 [35, 105, 102, 32] := ⟨[32, 102, 105, 35], by decide +kernel, by decide, by decide⟩
theorem sw_244 : sw_ok 2550551843551838208 [35, 101, 97, 99, 104, 32] := ⟨[0, 0, 32, 104, 99, 97, 101, 35], by decide +kernel, by decide, by decide⟩
theorem sw_246 : sw_ok 2555627262240096256 [35, 119, 105, 116, 104, 32] := ⟨[0, 0, 32, 104, 116, 105, 119, 35], by decide +kernel, by decide, by decide⟩
theorem sw_248 : sw_ok 1701606245 [101, 108, 115, 101] := ⟨[101, 115, 108, 101], by decide +kernel, by decide, by decide⟩
theorem sw_250 : sw_ok 3107174 [47, 105, 102] := ⟨[102, 105, 47], by decide +kernel, by decide, by decide⟩
theorem sw_252 : sw_ok 203564344168 [47, 101, 97, 99, 104] := ⟨[104, 99, 97, 101, 47], by decide +kernel, by decide, by decide⟩
theorem sw_254 : sw_ok 203866862696 [47, 119, 105, 116, 104] := ⟨[104, 116, 105, 119, 47], by decide +kernel, by decide, by decide⟩
theorem sw_352 : sw_ok 164843319355 [38, 97, 109, 112, 59] := ⟨[59, 112, 109, 97, 38], by decide +kernel, by decide, by decide⟩
theorem sw_354 : sw_ok 644641851 [38, 108, 116, 59] := ⟨[59, 116, 108, 38], by decide +kernel, by decide, by decide⟩
theorem sw_356 : sw_ok 644314171 [38, 103, 116, 59] := ⟨[59, 116, 103, 38], by decide +kernel, by decide, by decide⟩
theorem sw_358 : sw_ok 42268743398459 [38, 113, 117, 111, 116, 59] := ⟨[59, 116, 111, 117, 113, 38], by decide +kernel, by decide, by decide⟩
theorem sp_b0 {b : Bool} (h : sp_b b = 0) : b = false := by cases b; rfl; exact absurd h (by decide)
theorem sp_b1 {b : Bool} (h : ¬ sp_b b = 0) : b = true := by cases b; exact absurd rfl h; rfl
theorem sp_step_le (t : Nat → Nat) {k e : Nat} (h : sp_at t k e = 46) : k + (1 + sp_step t k e) ≤ e ∨ sp_step t k e = 0 := by
  have hk : k < e := by
    rcases Nat.lt_or_ge k e with q | q
    · exact q
    · have : sp_at t k e = 0 := by simp [sp_at, Nat.not_lt.mpr q]
      omega
  have h1 := sp_letters_le t (p := k + 1) (e := e) hk
  rw [sp_step]
  split
  case isTrue hd =>
    left
    have : k + 1 < e := by
      rcases Nat.lt_or_ge (k + 1) e with q | q
      · exact q
      · have e0 : sp_at t (k + 1) e = 0 := by simp [sp_at, Nat.not_lt.mpr q]
        have := hd.2
        rw [e0] at this
        exact absurd this (by decide)
    omega
  case isFalse hd => left; omega
theorem sp_tail_le (t : Nat → Nat) (e : Nat) : ∀ n k r, k ≤ e → sp_tail t e n k = some r → r ≤ e := by
  intro n
  induction n with
  | zero => intro k r hk h; cases h; exact hk
  | succ n ih =>
    intro k r hk h
    rw [sp_tail] at h
    split at h
    case isTrue h0 =>
      split at h
      case isTrue h1 => cases h
      case isFalse h1 =>
        rcases sp_step_le t h0 with q | q
        · exact ih _ r q h
        · exact absurd (Or.inl (by omega)) h1
    case isFalse h0 => cases h; exact hk
theorem sp_pathEnd_le (t : Nat → Nat) {p e r : Nat} (hp : p ≤ e) (h : sp_pathEnd t p e = some r) : r ≤ e := by
  rw [sp_pathEnd] at h
  have hu := sp_up_le t e (e - p) p hp
  split at h
  case isTrue h0 =>
    cases h
    rcases h0 with h0 | h0
    · rcases sp_st_le t e _ p (by decide) h0 (Or.inl hp) with q | q
      · exact q
      · cases q
    · rcases sp_st_le t e _ p (by decide) h0 (Or.inl hp) with q | q
      · exact q
      · cases q
  case isFalse h0 =>
    have hl := sp_letters_le t hu.1
    split at h
    case isTrue h1 => cases h
    case isFalse h1 =>
      split at h
      case isTrue h2 => cases h; have := h2.1; omega
      case isFalse h2 => exact sp_tail_le t e _ _ r hl h
theorem sp_at_lt2 {t : Nat → Nat} {k e c : Nat} (h : sp_at t k e = c) (hc : c ≠ 0) : k < e := by
  rcases Nat.lt_or_ge k e with q | q
  · exact q
  · have : sp_at t k e = 0 := by simp [sp_at, Nat.not_lt.mpr q]
    omega
theorem sp_digits_le (t : Nat → Nat) (e : Nat) : ∀ n k, k ≤ e → sp_digits t e n k ≤ e := by
  intro n
  induction n with
  | zero => intro k h; exact h
  | succ n ih =>
    intro k h
    rw [sp_digits]
    split
    case isTrue h0 =>
      have : k < e := by
        rcases Nat.lt_or_ge k e with q | q
        · exact q
        · have e0 : sp_at t k e = 0 := by simp [sp_at, Nat.not_lt.mpr q]
          rw [e0] at h0; exact absurd h0 (by decide)
      exact ih (k + 1) this
    case isFalse h0 => exact h
theorem sp_operandEnd_le (t : Nat → Nat) {p e r : Nat} (hp : p ≤ e) (h : sp_operandEnd t p e = some r) : r ≤ e := by
  rw [sp_operandEnd] at h
  split at h
  case isTrue h0 =>
    split at h
    case isTrue h1 => cases h; have := sp_at_lt2 h1 (by decide); omega
    case isFalse h1 => cases h
  case isFalse h0 =>
    split at h
    case isTrue h1 => cases h; exact sp_digits_le t e 5 p hp
    case isFalse h1 => exact sp_pathEnd_le t hp h
theorem cm_helper {g : jg_G} (hg : (jg_l g).stackTraces = false) {h : jh_H} {mo p e : Nat} {ar t : Nat → Nat} {Q : jw_O → jh_H → Prop} (hm : mo_ok h mo ar) (ht : mo_tx h ar t) (hp : p ≤ e) (he : e ≤ 1000) (hq : Q (.inl (some (.inl (nI (sp_helper t p e))))) h) : jw_C g 2 0 0 m_M_helper [.inr (.inr (some mo)), .inl (nI p), .inl (nI e)] h Q := by
  refine jw_intro (ls := [some (.inr (.inr (some mo))), some (.inl (nI p)), some (.inl (nI e))]) (by decide) k_M_helper rfl (by simp [lo_fit, jv_c]) hg ?_
  rw [sp_helper] at hq
  refine jw_aload_n rfl rfl ?_
  refine jw_iload_n rfl rfl ?_
  refine jw_iload_n rfl rfl ?_
  refine jw_ldc2 rfl q_M_218 ?_
  refine js_call (As := [.inl (nI p), .inl (nI e), .inr (.inl _)]) rfl l_M_stands c_M_199 i_M_stands s_M_stands jc_o8 rfl (hm.1) rfl (cm_st hg sw_218 hm ht (by omega) he ?_) (by decide) (Nat.le_of_ble_eq_true rfl) (by omega) (by omega) rfl
  refine jw_if_eq 14 rfl rfl (fun c0 => ?_) (fun c0 => ?_)
  rotate_left
  · rw [if_pos (sp_b1 c0)] at hq
    refine js_iconst (x := 1) rfl rfl ?_
    refine jw_ireturn rfl rfl rfl ?_
    exact hq
  rw [if_neg (by rw [sp_b0 c0]; decide)] at hq
  refine jw_aload_n rfl rfl ?_
  refine jw_iload_n rfl rfl ?_
  refine jw_iload_n rfl rfl ?_
  refine jw_ldc2 rfl q_M_220 ?_
  refine js_call (As := [.inl (nI p), .inl (nI e), .inr (.inl _)]) rfl l_M_stands c_M_199 i_M_stands s_M_stands jc_o8 rfl (hm.1) rfl (cm_st hg sw_220 hm ht (by omega) he ?_) (by decide) (Nat.le_of_ble_eq_true rfl) (by omega) (by omega) rfl
  refine jw_if_eq 28 rfl rfl (fun c14 => ?_) (fun c14 => ?_)
  rotate_left
  · rw [if_pos (sp_b1 c14)] at hq
    refine js_iconst (x := 2) rfl rfl ?_
    refine jw_ireturn rfl rfl rfl ?_
    exact hq
  rw [if_neg (by rw [sp_b0 c14]; decide)] at hq
  refine jw_aload_n rfl rfl ?_
  refine jw_iload_n rfl rfl ?_
  refine jw_iload_n rfl rfl ?_
  refine jw_ldc2 rfl q_M_222 ?_
  refine js_call (As := [.inl (nI p), .inl (nI e), .inr (.inl _)]) rfl l_M_stands c_M_199 i_M_stands s_M_stands jc_o8 rfl (hm.1) rfl (cm_st hg sw_222 hm ht (by omega) he ?_) (by decide) (Nat.le_of_ble_eq_true rfl) (by omega) (by omega) rfl
  refine jw_if_eq 42 rfl rfl (fun c28 => ?_) (fun c28 => ?_)
  rotate_left
  · rw [if_pos (sp_b1 c28)] at hq
    refine js_iconst (x := 3) rfl rfl ?_
    refine jw_ireturn rfl rfl rfl ?_
    exact hq
  rw [if_neg (by rw [sp_b0 c28]; decide)] at hq
  refine jw_aload_n rfl rfl ?_
  refine jw_iload_n rfl rfl ?_
  refine jw_iload_n rfl rfl ?_
  refine jw_ldc2 rfl q_M_224 ?_
  refine js_call (As := [.inl (nI p), .inl (nI e), .inr (.inl _)]) rfl l_M_stands c_M_199 i_M_stands s_M_stands jc_o8 rfl (hm.1) rfl (cm_st hg sw_224 hm ht (by omega) he ?_) (by decide) (Nat.le_of_ble_eq_true rfl) (by omega) (by omega) rfl
  refine jw_if_eq 56 rfl rfl (fun c42 => ?_) (fun c42 => ?_)
  rotate_left
  · rw [if_pos (sp_b1 c42)] at hq
    refine js_iconst (x := 4) rfl rfl ?_
    refine jw_ireturn rfl rfl rfl ?_
    exact hq
  rw [if_neg (by rw [sp_b0 c42]; decide)] at hq
  refine jw_aload_n rfl rfl ?_
  refine jw_iload_n rfl rfl ?_
  refine jw_iload_n rfl rfl ?_
  refine jw_ldc2 rfl q_M_226 ?_
  refine js_call (As := [.inl (nI p), .inl (nI e), .inr (.inl _)]) rfl l_M_stands c_M_199 i_M_stands s_M_stands jc_o8 rfl (hm.1) rfl (cm_st hg sw_226 hm ht (by omega) he ?_) (by decide) (Nat.le_of_ble_eq_true rfl) (by omega) (by omega) rfl
  refine jw_if_eq 70 rfl rfl (fun c56 => ?_) (fun c56 => ?_)
  rotate_left
  · rw [if_pos (sp_b1 c56)] at hq
    refine js_iconst (x := 5) rfl rfl ?_
    refine jw_ireturn rfl rfl rfl ?_
    exact hq
  rw [if_neg (by rw [sp_b0 c56]; decide)] at hq
  refine jw_aload_n rfl rfl ?_
  refine jw_iload_n rfl rfl ?_
  refine jw_iload_n rfl rfl ?_
  refine jw_ldc2 rfl q_M_228 ?_
  refine js_call (As := [.inl (nI p), .inl (nI e), .inr (.inl _)]) rfl l_M_stands c_M_199 i_M_stands s_M_stands jc_o8 rfl (hm.1) rfl (cm_st hg sw_228 hm ht (by omega) he ?_) (by decide) (Nat.le_of_ble_eq_true rfl) (by omega) (by omega) rfl
  refine jw_if_eq 87 rfl rfl (fun c70 => ?_) (fun c70 => ?_)
  · rw [if_neg (by rw [sp_b0 c70]; decide)] at hq
    refine js_iconst (x := 0) rfl rfl ?_
    refine jw_ireturn rfl rfl rfl ?_
    exact hq
  · rw [if_pos (sp_b1 c70)] at hq
    refine js_bipush (x := 6) rfl rfl ?_
    refine jw_goto 88 rfl rfl ?_
    refine jw_ireturn rfl rfl rfl ?_
    exact hq
theorem cm_nameSize {g : jg_G} (hg : (jg_l g).stackTraces = false) {h : jh_H} {mo n : Nat} {Q : jw_O → jh_H → Prop} (hn : n < 100) (hq : Q (.inl (some (.inl (nI (sp_hs n))))) h) : jw_C g 0 0 0 m_M_nameSize [.inr (.inr (some mo)), .inl (nI n)] h Q := by
  refine jw_intro (ls := [some (.inr (.inr (some mo))), some (.inl (nI n))]) (by decide) k_M_nameSize rfl (by simp [lo_fit, jv_c]) hg ?_
  rw [sp_hs] at hq
  refine jw_iload_n rfl rfl ?_
  refine js_iconst (x := 1) rfl rfl ?_
  refine jw_icmp_eq 10 rfl rfl (fun c1 => ?_) (fun c1 => ?_)
  · have h1 : n = 1 := (nI_eq (b := 1) (by omega) (by omega)).mp c1
    rw [if_pos (Or.inl h1)] at hq
    refine js_iconst (x := 3) rfl rfl ?_
    refine jw_goto 15 rfl rfl ?_
    refine jw_ireturn rfl rfl rfl ?_
    exact hq
  · have h1 : ¬ n = 1 := fun z => c1 (by rw [z]; rfl)
    refine jw_iload_n rfl rfl ?_
    refine js_iconst (x := 4) rfl rfl ?_
    refine jw_icmp_le 14 rfl rfl (fun c2 => ?_) (fun c2 => ?_)
    · have h2 : n ≤ 4 := (nI_leI (b := 4) (by omega) (by omega)).mp c2
      rw [if_neg (by omega)] at hq
      refine js_iconst (x := 4) rfl rfl ?_
      refine jw_ireturn rfl rfl rfl ?_
      exact hq
    · have h2 : ¬ n ≤ 4 := fun z => c2 ((nI_leI (b := 4) (by omega) (by omega)).mpr z)
      rw [if_pos (Or.inr (by omega))] at hq
      refine js_iconst (x := 3) rfl rfl ?_
      refine jw_goto 15 rfl rfl ?_
      refine jw_ireturn rfl rfl rfl ?_
      exact hq

