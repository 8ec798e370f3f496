/-! the model: calls that refuse, calls that make and read -/
def mo_rf (h : jh_H) (mo : Nat) (c : Int32) : jh_H := jh_si (jh_si h mo 512 c) mo 513 (jh_i h mo 513 + 1)
set_option maxHeartbeats 4000000 in
set_option maxRecDepth 100000 in
theorem cm_refuse {g : jg_G} (hg : (jg_l g).stackTraces = false) {h : jh_H} {mo : Nat} {c : Int32} {Q : jw_O → jh_H → Prop} (ho : jh_O h mo 8) (hq : Q (.inl (some (.inl 0))) (mo_rf h mo c)) : jw_C g 0 0 0 m_M_refuse [.inr (.inr (some mo)), .inl c] h Q := by
  refine jw_intro (ls := [some (.inr (.inr (some mo))), some (.inl c)]) (by decide) k_M_refuse rfl (by simp [lo_fit, jv_c]) hg ?_
  refine jw_aload_n rfl rfl ?_
  refine jw_iload_n rfl rfl ?_
  refine jw_pi rfl p_M_refuse_7 ho ?_
  refine jw_aload_n rfl rfl ?_
  refine jw_dup rfl rfl ?_
  refine jw_gi rfl g_M_13 ho (jh_u_k _ _ _ _ (by decide)) ?_
  refine js_iconst (x := 1) rfl rfl ?_
  refine jw_iadd rfl ?_
  refine jw_pi rfl p_M_refuse_13 ho ?_
  refine js_iconst (x := 0) rfl rfl ?_
  refine jw_ireturn rfl rfl rfl ?_
  exact hq
set_option maxHeartbeats 4000000 in
set_option maxRecDepth 100000 in
theorem cm_fine {g : jg_G} (hg : (jg_l g).stackTraces = false) {h : jh_H} {mo : Nat} {x : Int32} {Q : jw_O → jh_H → Prop} (ho : jh_O h mo 8) (hq : Q (.inl (some (.inl x))) (jh_si h mo 512 0)) : jw_C g 0 0 0 m_M_fine [.inr (.inr (some mo)), .inl x] h Q := by
  refine jw_intro (ls := [some (.inr (.inr (some mo))), some (.inl x)]) (by decide) k_M_fine rfl (by simp [lo_fit, jv_c]) hg ?_
  refine jw_aload_n rfl rfl ?_
  refine js_iconst (x := 0) rfl rfl ?_
  refine jw_pi rfl p_M_fine_7 ho ?_
  refine jw_iload_n rfl rfl ?_
  refine jw_ireturn rfl rfl rfl ?_
  exact hq
set_option maxHeartbeats 4000000 in
set_option maxRecDepth 100000 in
theorem cm_no {g : jg_G} (hg : (jg_l g).stackTraces = false) {h : jh_H} {mo : Nat} {x : Int32} {n : Nat} {Q : jw_O → jh_H → Prop} (ho : jh_O h mo 8) (hd : jh_i h mo 516 = nI n) (hn : n ≤ 60) (q1 : (x < 0 ∨ nI n ≤ x) → Q (.inl (some (.inl 1))) h) (q2 : ∀ i, i < n → x = nI i → Q (.inl (some (.inl 0))) h) : jw_C g 0 0 0 m_M_no [.inr (.inr (some mo)), .inl x] h Q := by
  refine jw_intro (ls := [some (.inr (.inr (some mo))), some (.inl x)]) (by decide) k_M_no rfl (by simp [lo_fit, jv_c]) hg ?_
  have at12 : (x < 0 ∨ nI n ≤ x) → jw_J g 0 m_M_no jw_T0 12 [some (.inr (.inr (some mo))), some (.inl x)] [] h 0 0 Q := by
    intro hx
    refine js_iconst (x := 1) rfl rfl ?_
    refine jw_goto 17 rfl rfl ?_
    refine jw_ireturn rfl rfl rfl ?_
    exact q1 hx
  refine jw_iload_n rfl rfl ?_
  refine jw_if_lt 12 rfl rfl (fun c => at12 (Or.inl c)) (fun c => ?_)
  refine jw_iload_n rfl rfl ?_
  refine jw_aload_n rfl rfl ?_
  refine jw_gi rfl g_M_22 ho hd ?_
  refine jw_icmp_lt 16 rfl rfl (fun c2 => ?_) (fun c2 => at12 (Or.inr (Int32.not_lt.mp c2)))
  refine js_iconst (x := 0) rfl rfl ?_
  refine jw_ireturn rfl rfl rfl ?_
  rcases pk_ix x (n := n) (by omega) with z | z | ⟨i, hi, rfl⟩
  · exact absurd z c
  · exact absurd c2 (Int32.not_lt.mpr z)
  · exact q2 i hi rfl
set_option maxHeartbeats 4000000 in
set_option maxRecDepth 100000 in
theorem cm_errorAt {g : jg_G} (hg : (jg_l g).stackTraces = false) {h : jh_H} {mo : Nat} {Q : jw_O → jh_H → Prop} (ho : jh_O h mo 8) (hq : Q (.inl (some (.inl (jh_i h mo 515)))) (jh_si h mo 512 0)) : jw_C g 1 0 0 m_M_errorAt [.inr (.inr (some mo))] h Q := by
  refine jw_intro (ls := [some (.inr (.inr (some mo)))]) (by decide) k_M_errorAt rfl (by simp [lo_fit, jv_c]) hg ?_
  refine jw_aload_n rfl rfl ?_
  refine jw_aload_n rfl rfl ?_
  refine jw_gi rfl g_M_19 ho rfl ?_
  refine js_call (As := [.inl _]) rfl l_M_fine c_M_162 i_M_fine s_M_fine jc_o8 rfl (ho) rfl (cm_fine hg ho ?_) (by decide) (Nat.le_of_ble_eq_true rfl) (by omega) (by omega) rfl
  refine jw_ireturn rfl rfl rfl ?_
  exact hq
set_option maxHeartbeats 4000000 in
set_option maxRecDepth 100000 in
theorem cm_nothing {g : jg_G} (hg : (jg_l g).stackTraces = false) {h : jh_H} {mo : Nat} {ar : Nat → Nat} {r : Nat} {Q : jw_O → jh_H → Prop} (hm : mo_ok h mo ar) (hr : r < 18) (hq : Q (.inl none) (jh_sI h (ar 538) r (-1))) : jw_C g 0 0 0 m_M_nothing [.inr (.inr (some mo)), .inl (nI r)] h Q := by
  refine jw_intro (ls := [some (.inr (.inr (some mo))), some (.inl (nI r))]) (by decide) k_M_nothing rfl (by simp [lo_fit, jv_c]) hg ?_
  refine jw_aload_n rfl rfl ?_
  refine jw_gr rfl g_M_92 hm.1 (mo_r hm 19 rfl) ?_
  refine jw_iload_n rfl rfl ?_
  refine js_iconst (x := (-1)) rfl rfl ?_
  refine js_iast (r) rfl (mo_a hm 19 rfl) (by decide) (by rfl)  rfl (by omega) (by decide) ?_
  refine jw_return rfl rfl ?_
  exact hq
set_option maxHeartbeats 4000000 in
set_option maxRecDepth 100000 in
theorem cm_setNumber {g : jg_G} (hg : (jg_l g).stackTraces = false) {h : jh_H} {mo : Nat} {ar : Nat → Nat} {r : Nat} {v : Int32} {Q : jw_O → jh_H → Prop} (hm : mo_ok h mo ar) (hr : r < 18) (hq : Q (.inl none) (jh_sI (jh_sI h (ar 538) r 0) (ar 539) r v)) : jw_C g 0 0 0 m_M_setNumber [.inr (.inr (some mo)), .inl (nI r), .inl v] h Q := by
  refine jw_intro (ls := [some (.inr (.inr (some mo))), some (.inl (nI r)), some (.inl v)]) (by decide) k_M_setNumber rfl (by simp [lo_fit, jv_c]) hg ?_
  refine jw_aload_n rfl rfl ?_
  refine jw_gr rfl g_M_92 hm.1 (mo_r hm 19 rfl) ?_
  refine jw_iload_n rfl rfl ?_
  refine js_iconst (x := 0) rfl rfl ?_
  refine js_iast (r) rfl (mo_a hm 19 rfl) (by decide) (by rfl)  rfl (by omega) (by decide) ?_
  refine jw_aload_n rfl rfl ?_
  refine jw_gr rfl g_M_95 (mo_sI hm).1 (mo_r (mo_sI hm) 20 rfl) ?_
  refine jw_iload_n rfl rfl ?_
  refine jw_iload_n rfl rfl ?_
  refine js_iast (r) rfl (mo_a (mo_sI hm) 20 rfl) (by decide) (by rfl)  rfl (by omega) (by decide) ?_
  refine jw_return rfl rfl ?_
  exact hq
def mo_mk (h : jh_H) (mo : Nat) (ar : Nat → Nat) (n : Nat) (k v : Int32) : jh_H := jh_si (jh_si (jh_sI (jh_sI h (ar 520) n k) (ar 521) n v) mo 516 (nI (n + 1))) mo 512 0
set_option maxHeartbeats 4000000 in
set_option maxRecDepth 100000 in
theorem cm_make {g : jg_G} (hg : (jg_l g).stackTraces = false) {h : jh_H} {mo : Nat} {ar : Nat → Nat} {n : Nat} {k v : Int32} {Q : jw_O → jh_H → Prop} (hm : mo_ok h mo ar) (hd : jh_i h mo 516 = nI n) (hn : n ≤ 60) (q1 : n = 60 → Q (.inl (some (.inl 0))) (mo_rf h mo 1)) (q2 : n < 60 → Q (.inl (some (.inl (nI n)))) (mo_mk h mo ar n k v)) : jw_C g 1 0 0 m_M_make [.inr (.inr (some mo)), .inl k, .inl v] h Q := by
  refine jw_intro (ls := [some (.inr (.inr (some mo))), some (.inl k), some (.inl v)]) (by decide) k_M_make rfl (by simp [lo_fit, jv_c]) hg ?_
  refine jw_aload_n rfl rfl ?_
  refine jw_gi rfl g_M_22 hm.1 hd ?_
  refine js_bipush (x := 60) rfl rfl ?_
  refine jw_icmp_ne 15 rfl rfl (fun c => ?_) (fun c => ?_)
  rotate_left
  · have h1 : n = 60 := (nI_eq (b := 60) (by omega) (by omega)).mp c
    refine jw_aload_n rfl rfl ?_
    refine js_iconst (x := 1) rfl rfl ?_
    refine js_call (As := [.inl 1]) rfl l_M_refuse c_M_158 i_M_refuse s_M_refuse jc_o8 rfl (hm.1) rfl (cm_refuse hg hm.1 ?_) (by decide) (Nat.le_of_ble_eq_true rfl) (by omega) (by omega) rfl
    refine jw_ireturn rfl rfl rfl ?_
    exact q1 h1
  have h1 : n < 60 := by
    have : ¬ n = 60 := fun z => c (by rw [z]; rfl)
    omega
  refine jw_aload_n rfl rfl ?_
  refine jw_gr rfl g_M_35 hm.1 (mo_r hm 1 rfl) ?_
  refine jw_aload_n rfl rfl ?_
  refine jw_gi rfl g_M_22 hm.1 hd ?_
  refine jw_iload_n rfl rfl ?_
  refine js_iast (n) rfl (mo_a hm 1 rfl) (by decide) (by rfl)  rfl (by omega) (by decide) ?_
  refine jw_aload_n rfl rfl ?_
  refine jw_gr rfl g_M_39 (mo_sI hm).1 (mo_r (mo_sI hm) 2 rfl) ?_
  refine jw_aload_n rfl rfl ?_
  refine jw_gi rfl g_M_22 (mo_sI hm).1 hd ?_
  refine jw_iload_n rfl rfl ?_
  refine js_iast (n) rfl (mo_a (mo_sI hm) 2 rfl) (by decide) (by rfl)  rfl (by omega) (by decide) ?_
  refine jw_aload_n rfl rfl ?_
  refine jw_dup rfl rfl ?_
  refine jw_gi rfl g_M_22 (mo_sI (mo_sI hm)).1 hd ?_
  refine js_iconst (x := 1) rfl rfl ?_
  refine jw_iadd rfl ?_
  rw [show nI n + 1 = nI (n + 1) from nI_1 n]
  refine jw_pi rfl p_M_make_22 (mo_sI (mo_sI hm)).1 ?_
  refine jw_aload_n rfl rfl ?_
  refine jw_aload_n rfl rfl ?_
  refine jw_gi rfl g_M_22 (mo_si (mo_sI (mo_sI hm))).1 (jh_u_s _ _ _ _) ?_
  refine js_iconst (x := 1) rfl rfl ?_
  refine jw_isub rfl ?_
  rw [show nI (n + 1) - 1 = nI n from nI_pred n]
  refine js_call (As := [.inl (nI n)]) rfl l_M_fine c_M_162 i_M_fine s_M_fine jc_o8 rfl ((mo_si (mo_sI (mo_sI hm))).1) rfl (cm_fine hg (mo_si (mo_sI (mo_sI hm))).1 ?_) (by decide) (Nat.le_of_ble_eq_true rfl) (by omega) (by omega) rfl
  refine jw_ireturn rfl rfl rfl ?_
  exact q2 h1
set_option maxHeartbeats 4000000 in
set_option maxRecDepth 100000 in
theorem cm_number {g : jg_G} (hg : (jg_l g).stackTraces = false) {h : jh_H} {mo : Nat} {ar : Nat → Nat} {n : Nat} {v : Int32} {Q : jw_O → jh_H → Prop} (hm : mo_ok h mo ar) (hd : jh_i h mo 516 = nI n) (hn : n ≤ 60) (q1 : n = 60 → Q (.inl (some (.inl 0))) (mo_rf h mo 1)) (q2 : n < 60 → Q (.inl (some (.inl (nI n)))) (mo_mk h mo ar n 0 v)) : jw_C g 2 0 0 m_M_number [.inr (.inr (some mo)), .inl v] h Q := by
  refine jw_intro (ls := [some (.inr (.inr (some mo))), some (.inl v)]) (by decide) k_M_number rfl (by simp [lo_fit, jv_c]) hg ?_
  refine jw_aload_n rfl rfl ?_
  refine js_iconst (x := 0) rfl rfl ?_
  refine jw_iload_n rfl rfl ?_
  refine js_call (As := [.inl 0, .inl v]) rfl l_M_make c_M_165 i_M_make s_M_make jc_o8 rfl hm.1 rfl (cm_make hg hm hd hn (fun z => ?_) (fun z => ?_)) (by decide) (Nat.le_of_ble_eq_true rfl) (by omega) (by omega) rfl
  · refine jw_ireturn rfl rfl rfl ?_
    exact q1 z
  · refine jw_ireturn rfl rfl rfl ?_
    exact q2 z
set_option maxHeartbeats 4000000 in
set_option maxRecDepth 100000 in
theorem cm_list {g : jg_G} (hg : (jg_l g).stackTraces = false) {h : jh_H} {mo : Nat} {ar : Nat → Nat} {n : Nat} {Q : jw_O → jh_H → Prop} (hm : mo_ok h mo ar) (hd : jh_i h mo 516 = nI n) (hn : n ≤ 60) (q1 : n = 60 → Q (.inl (some (.inl 0))) (mo_rf h mo 1)) (q2 : n < 60 → Q (.inl (some (.inl (nI n)))) (mo_mk h mo ar n 2 0)) : jw_C g 2 0 0 m_M_list [.inr (.inr (some mo))] h Q := by
  refine jw_intro (ls := [some (.inr (.inr (some mo)))]) (by decide) k_M_list rfl (by simp [lo_fit, jv_c]) hg ?_
  refine jw_aload_n rfl rfl ?_
  refine js_iconst (x := 2) rfl rfl ?_
  refine js_iconst (x := 0) rfl rfl ?_
  refine js_call (As := [.inl 2, .inl 0]) rfl l_M_make c_M_165 i_M_make s_M_make jc_o8 rfl hm.1 rfl (cm_make hg hm hd hn (fun z => ?_) (fun z => ?_)) (by decide) (Nat.le_of_ble_eq_true rfl) (by omega) (by omega) rfl
  · refine jw_ireturn rfl rfl rfl ?_
    exact q1 z
  · refine jw_ireturn rfl rfl rfl ?_
    exact q2 z
set_option maxHeartbeats 4000000 in
set_option maxRecDepth 100000 in
theorem cm_map {g : jg_G} (hg : (jg_l g).stackTraces = false) {h : jh_H} {mo : Nat} {ar : Nat → Nat} {n : Nat} {Q : jw_O → jh_H → Prop} (hm : mo_ok h mo ar) (hd : jh_i h mo 516 = nI n) (hn : n ≤ 60) (q1 : n = 60 → Q (.inl (some (.inl 0))) (mo_rf h mo 1)) (q2 : n < 60 → Q (.inl (some (.inl (nI n)))) (mo_mk h mo ar n 3 0)) : jw_C g 2 0 0 m_M_map [.inr (.inr (some mo))] h Q := by
  refine jw_intro (ls := [some (.inr (.inr (some mo)))]) (by decide) k_M_map rfl (by simp [lo_fit, jv_c]) hg ?_
  refine jw_aload_n rfl rfl ?_
  refine js_iconst (x := 3) rfl rfl ?_
  refine js_iconst (x := 0) rfl rfl ?_
  refine js_call (As := [.inl 3, .inl 0]) rfl l_M_make c_M_165 i_M_make s_M_make jc_o8 rfl hm.1 rfl (cm_make hg hm hd hn (fun z => ?_) (fun z => ?_)) (by decide) (Nat.le_of_ble_eq_true rfl) (by omega) (by omega) rfl
  · refine jw_ireturn rfl rfl rfl ?_
    exact q1 z
  · refine jw_ireturn rfl rfl rfl ?_
    exact q2 z
set_option maxHeartbeats 4000000 in
set_option maxRecDepth 100000 in
theorem cm_type {g : jg_G} (hg : (jg_l g).stackTraces = false) {h : jh_H} {mo : Nat} {ar : Nat → Nat} {n : Nat} {c : Int32} {Q : jw_O → jh_H → Prop} (hm : mo_ok h mo ar) (hd : jh_i h mo 514 = nI n) (hn : n ≤ 200) (q1 : (c < 0 ∨ 127 < c) → Q (.inl (some (.inl 0))) (mo_rf h mo 1)) (q2 : ∀ k, k < 128 → c = nI k → n = 200 → Q (.inl (some (.inl 0))) (mo_rf h mo 2)) (q3 : ∀ k, k < 128 → c = nI k → n < 200 → Q (.inl (some (.inl (nI (n + 1))))) (jh_si (jh_si (jh_sI h (ar 519) n (nI k)) mo 514 (nI (n + 1))) mo 512 0)) : jw_C g 1 0 0 m_M_type [.inr (.inr (some mo)), .inl c] h Q := by
  refine jw_intro (ls := [some (.inr (.inr (some mo))), some (.inl c)]) (by decide) k_M_type rfl (by simp [lo_fit, jv_c]) hg ?_
  have at10 : (c < 0 ∨ 127 < c) → jw_J g 1 m_M_type jw_T0 10 [some (.inr (.inr (some mo))), some (.inl c)] [] h 0 0 Q := by
    intro hc
    refine jw_aload_n rfl rfl ?_
    refine js_iconst (x := 1) rfl rfl ?_
    refine js_call (As := [.inl 1]) rfl l_M_refuse c_M_158 i_M_refuse s_M_refuse jc_o8 rfl (hm.1) rfl (cm_refuse hg hm.1 ?_) (by decide) (Nat.le_of_ble_eq_true rfl) (by omega) (by omega) rfl
    refine jw_ireturn rfl rfl rfl ?_
    exact q1 hc
  refine jw_iload_n rfl rfl ?_
  refine jw_if_lt 10 rfl rfl (fun z => at10 (Or.inl z)) (fun z1 => ?_)
  refine jw_iload_n rfl rfl ?_
  refine js_bipush (x := 127) rfl rfl ?_
  refine jw_icmp_le 16 rfl rfl (fun z2 => ?_) (fun z2 => at10 (Or.inr (Int32.not_le.mp z2)))
  obtain ⟨k, hk, rfl⟩ := nI_of2 (M := 127) (n := 127) (by decide) z1 z2
  refine jw_aload_n rfl rfl ?_
  refine jw_gi rfl g_M_16 hm.1 hd ?_
  refine js_sipush (x := 200) rfl rfl ?_
  refine jw_icmp_ne 32 rfl rfl (fun z3 => ?_) (fun z3 => ?_)
  rotate_left
  · have h1 : n = 200 := (nI_eq (b := 200) (by omega) (by omega)).mp z3
    refine jw_aload_n rfl rfl ?_
    refine js_iconst (x := 2) rfl rfl ?_
    refine js_call (As := [.inl 2]) rfl l_M_refuse c_M_158 i_M_refuse s_M_refuse jc_o8 rfl (hm.1) rfl (cm_refuse hg hm.1 ?_) (by decide) (Nat.le_of_ble_eq_true rfl) (by omega) (by omega) rfl
    refine jw_ireturn rfl rfl rfl ?_
    exact q2 k (by omega) rfl h1
  have h1 : n < 200 := by
    have : ¬ n = 200 := fun z => z3 (by rw [z]; rfl)
    omega
  have hn1 : vp_nar .char (nI k) = nI k := by simp only [vp_nar, (pk_charN (q := k) (by omega)).1]
  have hc1 : ((nI k).toUInt32 % 65536).toInt32 = nI k := by
    have h1 := pk_char (nI k)
    rw [pk_tn (by omega), Nat.mod_eq_of_lt (by omega)] at h1
    exact h1
  refine jw_aload_n rfl rfl ?_
  refine jw_gr rfl g_M_31 hm.1 (mo_r hm 0 rfl) ?_
  refine jw_aload_n rfl rfl ?_
  refine jw_gi rfl g_M_16 hm.1 hd ?_
  refine jw_iload_n rfl rfl ?_
  refine jw_i2c rfl ?_
  rw [hc1]
  refine js_cast (n) rfl (mo_a hm 0 rfl) (by decide) (by rfl)  rfl (by omega) (by decide) ?_
  refine jw_aload_n rfl rfl ?_
  refine jw_dup rfl rfl ?_
  refine jw_gi rfl g_M_16 (mo_sI hm).1 hd ?_
  refine js_iconst (x := 1) rfl rfl ?_
  rw [hn1]
  refine jw_iadd rfl ?_
  rw [show nI n + 1 = nI (n + 1) from nI_1 n]
  refine jw_pi rfl p_M_type_16 (mo_sI hm).1 ?_
  refine jw_aload_n rfl rfl ?_
  refine jw_aload_n rfl rfl ?_
  refine jw_gi rfl g_M_16 (mo_si (mo_sI hm)).1 (jh_u_s _ _ _ _) ?_
  refine js_call (As := [.inl (nI (n + 1))]) rfl l_M_fine c_M_162 i_M_fine s_M_fine jc_o8 rfl ((mo_si (mo_sI hm)).1) rfl (cm_fine hg (mo_si (mo_sI hm)).1 ?_) (by decide) (Nat.le_of_ble_eq_true rfl) (by omega) (by omega) rfl
  refine jw_ireturn rfl rfl rfl ?_
  exact q3 k (by omega) rfl h1
set_option maxHeartbeats 4000000 in
set_option maxRecDepth 100000 in
theorem cm_kind {g : jg_G} (hg : (jg_l g).stackTraces = false) {h : jh_H} {mo : Nat} {ar : Nat → Nat} {n : Nat} {x : Int32} {Q : jw_O → jh_H → Prop} (hm : mo_ok h mo ar) (hd : jh_i h mo 516 = nI n) (hn : n ≤ 60) (q1 : (x < 0 ∨ nI n ≤ x) → Q (.inl (some (.inl 0))) (mo_rf h mo 1)) (q2 : ∀ i, i < n → x = nI i → Q (.inl (some (.inl (jh_I h (ar 520) i)))) (jh_si h mo 512 0)) : jw_C g 1 0 0 m_M_kind [.inr (.inr (some mo)), .inl x] h Q := by
  refine jw_intro (ls := [some (.inr (.inr (some mo))), some (.inl x)]) (by decide) k_M_kind rfl (by simp [lo_fit, jv_c]) hg ?_
  refine jw_aload_n rfl rfl ?_
  refine jw_iload_n rfl rfl ?_
  refine js_call (As := [.inl x]) rfl l_M_no c_M_169 i_M_no s_M_no jc_o8 rfl hm.1 rfl (cm_no hg hm.1 hd hn (fun z => ?_) (fun i hi z => ?_)) (by decide) (Nat.le_of_ble_eq_true rfl) (by omega) (by omega) rfl
  · refine jw_if_eq 16 rfl rfl (fun c => absurd c (by decide)) (fun _ => ?_)
    refine jw_aload_n rfl rfl ?_
    refine js_iconst (x := 1) rfl rfl ?_
    refine js_call (As := [.inl 1]) rfl l_M_refuse c_M_158 i_M_refuse s_M_refuse jc_o8 rfl (hm.1) rfl (cm_refuse hg hm.1 ?_) (by decide) (Nat.le_of_ble_eq_true rfl) (by omega) (by omega) rfl
    refine jw_goto 26 rfl rfl ?_
    refine jw_ireturn rfl rfl rfl ?_
    exact q1 z
  · subst z
    refine jw_if_eq 16 rfl rfl (fun _ => ?_) (fun c => absurd rfl c)
    refine jw_aload_n rfl rfl ?_
    refine jw_aload_n rfl rfl ?_
    refine jw_gr rfl g_M_35 hm.1 (mo_r hm 1 rfl) ?_
    refine jw_iload_n rfl rfl ?_
    refine js_iald (i) rfl (mo_a hm 1 rfl) (by decide) (by rfl)  rfl (by omega) (by decide) ?_
    refine js_call (As := [.inl _]) rfl l_M_fine c_M_162 i_M_fine s_M_fine jc_o8 rfl (hm.1) rfl (cm_fine hg hm.1 ?_) (by decide) (Nat.le_of_ble_eq_true rfl) (by omega) (by omega) rfl
    refine jw_ireturn rfl rfl rfl ?_
    exact q2 i hi rfl
set_option maxHeartbeats 4000000 in
set_option maxRecDepth 100000 in
theorem cm_at {g : jg_G} (hg : (jg_l g).stackTraces = false) {h : jh_H} {mo : Nat} {ar : Nat → Nat} {n : Nat} {x : Int32} {Q : jw_O → jh_H → Prop} (hm : mo_ok h mo ar) (hd : jh_i h mo 547 = nI n) (hn : n ≤ 400) (q1 : (x < 0 ∨ nI n ≤ x) → Q (.inl (some (.inl 0))) (mo_rf h mo 1)) (q2 : ∀ i, i < n → x = nI i → Q (.inl (some (.inl (jh_I h (ar 544) i)))) (jh_si h mo 512 0)) : jw_C g 1 0 0 m_M_at [.inr (.inr (some mo)), .inl x] h Q := by
  refine jw_intro (ls := [some (.inr (.inr (some mo))), some (.inl x)]) (by decide) k_M_at rfl (by simp [lo_fit, jv_c]) hg ?_
  have at12 : (x < 0 ∨ nI n ≤ x) → jw_J g 1 m_M_at jw_T0 12 [some (.inr (.inr (some mo))), some (.inl x)] [] h 0 0 Q := by
    intro hx
    refine jw_aload_n rfl rfl ?_
    refine js_iconst (x := 1) rfl rfl ?_
    refine js_call (As := [.inl 1]) rfl l_M_refuse c_M_158 i_M_refuse s_M_refuse jc_o8 rfl (hm.1) rfl (cm_refuse hg hm.1 ?_) (by decide) (Nat.le_of_ble_eq_true rfl) (by omega) (by omega) rfl
    refine jw_goto 30 rfl rfl ?_
    refine jw_ireturn rfl rfl rfl ?_
    exact q1 hx
  refine jw_iload_n rfl rfl ?_
  refine jw_if_lt 12 rfl rfl (fun c => at12 (Or.inl c)) (fun c => ?_)
  refine jw_iload_n rfl rfl ?_
  refine jw_aload_n rfl rfl ?_
  refine jw_gi rfl g_M_119 hm.1 hd ?_
  refine jw_icmp_lt 20 rfl rfl (fun c2 => ?_) (fun c2 => at12 (Or.inr (Int32.not_lt.mp c2)))
  rcases pk_ix x (n := n) (by omega) with z | z | ⟨i, hi, rfl⟩
  · exact absurd z c
  · exact absurd c2 (Int32.not_lt.mpr z)
  refine jw_aload_n rfl rfl ?_
  refine jw_aload_n rfl rfl ?_
  refine jw_gr rfl g_M_110 hm.1 (mo_r hm 25 rfl) ?_
  refine jw_iload_n rfl rfl ?_
  refine js_cald (i) rfl (mo_a hm 25 rfl) (by decide) (by rfl)  rfl (by omega) (by decide) ?_
  refine js_call (As := [.inl _]) rfl l_M_fine c_M_162 i_M_fine s_M_fine jc_o8 rfl (hm.1) rfl (cm_fine hg hm.1 ?_) (by decide) (Nat.le_of_ble_eq_true rfl) (by omega) (by omega) rfl
  refine jw_ireturn rfl rfl rfl ?_
  exact q2 i hi rfl

