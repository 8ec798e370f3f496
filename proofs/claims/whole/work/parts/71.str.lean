/-! the JDK's methods: strings that are constants, Math -/
theorem sk_get {L : List Nat} {j : Nat} (h : j < L.length) : (L.map (fun c => (.inl (nI c) : jk_X))).getD j (.inl 0) = .inl (nI (L.getD j 0)) := by
  simp [List.getD, List.getElem?_map, List.getElem?_eq_getElem h]
theorem nI_nc {c : Nat} (h : c < 128) : narrow .char (.int (nI c)) = .int (nI c) := congrArg Value.int (nI_c (by omega))
set_option maxHeartbeats 4000000 in
set_option maxRecDepth 100000 in
theorem ck_coder {g : jg_G} (hg : (jg_l g).stackTraces = false) {d mc ms : Nat} {h : jh_H} {n : Nat} {L : List Nat} {Q : jw_O → jh_H → Prop} (hs : sk_ok n L) (hq : Q (.inl (some (.inl 0))) h) : jw_C g d mc ms m_jS_coder [.inr (.inr (some (jg_c g n)))] h Q := by
  refine jw_intro (ls := [some (.inr (.inr (some (jg_c g n))))]) (by decide) k_jS_coder rfl (by simp [lo_fit, jv_c]) hg ?_
  refine jw_gst rfl kz_28 y_jS_38 ?_
  refine jw_if_eq 13 rfl rfl (fun z => absurd z (by decide)) (fun _ => ?_)
  refine jw_aload_n rfl rfl ?_
  refine jw_gkf rfl hs.2.2.2.1 y_jS_15 ?_
  refine jw_goto 14 rfl rfl ?_
  refine jw_ireturn rfl rfl rfl ?_
  exact hq
set_option maxHeartbeats 4000000 in
set_option maxRecDepth 100000 in
theorem ck_isLatin1 {g : jg_G} (hg : (jg_l g).stackTraces = false) {d mc ms : Nat} {h : jh_H} {n : Nat} {L : List Nat} {Q : jw_O → jh_H → Prop} (hs : sk_ok n L) (hq : Q (.inl (some (.inl 1))) h) : jw_C g d mc ms m_jS_isLatin1 [.inr (.inr (some (jg_c g n)))] h Q := by
  refine jw_intro (ls := [some (.inr (.inr (some (jg_c g n))))]) (by decide) k_jS_isLatin1 rfl (by simp [lo_fit, jv_c]) hg ?_
  refine jw_gst rfl kz_28 y_jS_38 ?_
  refine jw_if_eq 17 rfl rfl (fun z => absurd z (by decide)) (fun _ => ?_)
  refine jw_aload_n rfl rfl ?_
  refine jw_gkf rfl hs.2.2.2.1 y_jS_15 ?_
  refine jw_if_ne 17 rfl rfl (fun z => absurd (rfl) z) (fun _ => ?_)
  refine js_iconst (x := 1) rfl rfl ?_
  refine jw_goto 18 rfl rfl ?_
  refine jw_ireturn rfl rfl rfl ?_
  exact hq
set_option maxHeartbeats 4000000 in
set_option maxRecDepth 100000 in
theorem ck_length {g : jg_G} (hg : (jg_l g).stackTraces = false) {d mc ms : Nat} {h : jh_H} {n : Nat} {L : List Nat} {Q : jw_O → jh_H → Prop} (hs : sk_ok n L) (hd : 1 ≤ d) (hq : Q (.inl (some (.inl (nI L.length)))) h) : jw_C g d mc ms m_jS_length [.inr (.inr (some (jg_c g n)))] h Q := by
  refine jw_intro (ls := [some (.inr (.inr (some (jg_c g n))))]) (by decide) k_jS_length rfl (by simp [lo_fit, jv_c]) hg ?_
  have h100 := hs.2.2.2.2.2
  refine jw_aload_n rfl rfl ?_
  refine jw_gkf rfl hs.2.2.1 y_jS_9 ?_
  refine jw_klen rfl hs.1 ?_
  refine jw_aload_n rfl rfl ?_
  refine js_callK (As := []) rfl l_jS_coder c_jS_335 i_jS_coder s_jS_coder hs.2.1 rfl (ck_coder (d := 0) (mc := 0) (ms := 0) hg hs ?_) (by omega) (Nat.le_of_ble_eq_true rfl) (by omega) (by omega) rfl
  refine jw_ishr rfl ?_
  rw [show nI (L.map (fun c => (.inl (nI c) : jk_X))).length >>> ((0 : Int32) &&& 31) = nI L.length by rw [List.length_map, pk_shrN (by omega) _ 0 (by decide), Nat.pow_zero, Nat.div_one]]
  refine jw_ireturn rfl rfl rfl ?_
  exact hq
set_option maxHeartbeats 4000000 in
set_option maxRecDepth 100000 in
theorem ck_pre {g : jg_G} (hg : (jg_l g).stackTraces = false) {d mc ms : Nat} {h : jh_H} {k n : Nat} {r : Option Nat} {Q : jw_O → jh_H → Prop} (hk : k < n) (hn : n < 1000) (hq : Q (.inl (some (.inl (nI k)))) h) : jw_C g d mc ms m_jP_checkIndex [.inl (nI k), .inl (nI n), .inr (.inr r)] h Q := by
  refine jw_intro (ls := [some (.inl (nI k)), some (.inl (nI n)), some (.inr (.inr r))]) (by decide) k_jP_checkIndex rfl (by simp [lo_fit, jv_c]) hg ?_
  refine jw_iload_n rfl rfl ?_
  refine jw_if_lt 9 rfl rfl (fun z => absurd z (nI_pos (by omega))) (fun _ => ?_)
  refine jw_iload_n rfl rfl ?_
  refine jw_iload_n rfl rfl ?_
  refine jw_icmp_lt 16 rfl rfl (fun _ => ?_) (fun z => absurd (nI_lt hk (by omega)) z)
  refine jw_iload_n rfl rfl ?_
  refine jw_ireturn rfl rfl rfl ?_
  exact hq
set_option maxHeartbeats 4000000 in
set_option maxRecDepth 100000 in
theorem ck_check {g : jg_G} (hg : (jg_l g).stackTraces = false) {d mc ms : Nat} {h : jh_H} {k n : Nat} {Q : jw_O → jh_H → Prop} (hk : k < n) (hn : n < 1000) (hd : 1 ≤ d) (hq : Q (.inl none) h) : jw_C g d mc ms m_jS_checkIndex [.inl (nI k), .inl (nI n)] h Q := by
  refine jw_intro (ls := [some (.inl (nI k)), some (.inl (nI n))]) (by decide) k_jS_checkIndex rfl (by simp [lo_fit, jv_c]) hg ?_
  refine jw_iload_n rfl rfl ?_
  refine jw_iload_n rfl rfl ?_
  refine jw_gsq rfl y_jS_1053 (fun r2 => ?_)
  refine js_callS (As := [.inl (nI k), .inl (nI n), .inr (.inr r2)]) rfl l_jP_checkIndex c_jS_1059 i_jP_checkIndex rfl (ck_pre (d := 0) (mc := 0) (ms := 0) hg hk hn ?_) (by omega) (Nat.le_of_ble_eq_true rfl) (by omega) (by omega) rfl
  refine jw_pop rfl rfl ?_
  refine jw_return rfl rfl ?_
  exact hq
set_option maxHeartbeats 4000000 in
set_option maxRecDepth 100000 in
theorem ck_latin {g : jg_G} (hg : (jg_l g).stackTraces = false) {d mc ms : Nat} {h : jh_H} {k n : Nat} {L : List Nat} {Q : jw_O → jh_H → Prop} (hs : sk_ok n L) (hk : k < L.length) (hd : 2 ≤ d) (hq : Q (.inl (some (.inl (nI (L.getD k 0))))) h) : jw_C g d mc ms m_jL_charAt [.inr (.inr (some (jg_c g (200 + n)))), .inl (nI k)] h Q := by
  refine jw_intro (ls := [some (.inr (.inr (some (jg_c g (200 + n))))), some (.inl (nI k))]) (by decide) k_jL_charAt rfl (by simp [lo_fit, jv_c]) hg ?_
  have h100 := hs.2.2.2.2.2
  have hlen : (L.map (fun c => (.inl (nI c) : jk_X))).length = L.length := List.length_map _
  have hc : L.getD k 0 < 128 := by
    have : L.getD k 0 ∈ L := by
      rw [List.getD_eq_getElem?_getD, List.getElem?_eq_getElem hk]; exact List.getElem_mem hk
    exact hs.2.2.2.2.1 _ this
  refine jw_iload_n rfl rfl ?_
  refine jw_aload_n rfl rfl ?_
  refine jw_klen rfl hs.1 ?_
  rw [hlen]
  refine js_callS (As := [.inl (nI k), .inl (nI L.length)]) rfl l_jS_checkIndex c_jL_9 i_jS_checkIndex rfl (ck_check (d := d - 1) (mc := 0) (ms := 0) hg hk (by omega) (by omega) ?_) (by omega) (Nat.le_of_ble_eq_true rfl) (by omega) (by omega) rfl
  refine jw_aload_n rfl rfl ?_
  refine jw_iload_n rfl rfl ?_
  refine jw_kbald k rfl hs.1 rfl (by rw [hlen]; exact hk) (by rw [hlen]; omega) ?_
  rw [sk_get hk]
  show jw_J _ _ _ _ _ _ (.inl (nI (L.getD k 0)) :: _) _ _ _ _
  refine js_sipush (x := 255) rfl rfl ?_
  refine jw_iandV rfl ((pk_andN (n := L.getD k 0) (by omega) (m := 255) 8 (by decide)).trans (congrArg nI (Nat.mod_eq_of_lt (by omega)))) ?_
  refine jw_i2cV rfl (nI_c (by omega)) ?_
  refine jw_ireturn rfl rfl (nI_nc hc) ?_
  exact hq
set_option maxHeartbeats 4000000 in
set_option maxRecDepth 100000 in
theorem ck_charAt {g : jg_G} (hg : (jg_l g).stackTraces = false) {d mc ms : Nat} {h : jh_H} {k n : Nat} {L : List Nat} {Q : jw_O → jh_H → Prop} (hs : sk_ok n L) (hk : k < L.length) (hd : 3 ≤ d) (hq : Q (.inl (some (.inl (nI (L.getD k 0))))) h) : jw_C g d mc ms m_jS_charAt [.inr (.inr (some (jg_c g n))), .inl (nI k)] h Q := by
  refine jw_intro (ls := [some (.inr (.inr (some (jg_c g n)))), some (.inl (nI k))]) (by decide) k_jS_charAt rfl (by simp [lo_fit, jv_c]) hg ?_
  have hc : L.getD k 0 < 128 := by
    have : L.getD k 0 ∈ L := by
      rw [List.getD_eq_getElem?_getD, List.getElem?_eq_getElem hk]; exact List.getElem_mem hk
    exact hs.2.2.2.2.1 _ this
  refine jw_aload_n rfl rfl ?_
  refine js_callK (As := []) rfl l_jS_isLatin1 c_jS_492 i_jS_isLatin1 s_jS_isLatin1 hs.2.1 rfl (ck_isLatin1 (d := 0) (mc := 0) (ms := 0) hg hs ?_) (by omega) (Nat.le_of_ble_eq_true rfl) (by omega) (by omega) rfl
  refine jw_if_eq 16 rfl rfl (fun z => absurd z (by decide)) (fun _ => ?_)
  refine jw_aload_n rfl rfl ?_
  refine jw_gkf rfl hs.2.2.1 y_jS_9 ?_
  refine jw_iload_n rfl rfl ?_
  refine js_callS (As := [.inr (.inr (some (jg_c g (200 + n)))), .inl (nI k)]) rfl l_jL_charAt c_jS_495 i_jL_charAt rfl (ck_latin (d := d - 1) (mc := 0) (ms := 0) hg hs hk (by omega) ?_) (by omega) (Nat.le_of_ble_eq_true rfl) (by omega) (by omega) rfl
  refine jw_ireturn rfl rfl (nI_nc hc) ?_
  exact hq
theorem nI_max {a b : Nat} (ha : a < 2 ^ 31) (hb : b < 2 ^ 31) : (if nI a < nI b then nI b else nI a) = nI (max a b) := by
  by_cases c : a < b
  · rw [if_pos (nI_lt c hb), show max a b = b by omega]
  · rw [if_neg (fun z => c ((nI_ltI ha hb).mp z)), show max a b = a by omega]
theorem nI_min {a b : Nat} (ha : a < 2 ^ 31) (hb : b < 2 ^ 31) : (if nI b < nI a then nI b else nI a) = nI (min a b) := by
  by_cases c : b < a
  · rw [if_pos (nI_lt c ha), show min a b = b by omega]
  · rw [if_neg (fun z => c ((nI_ltI hb ha).mp z)), show min a b = a by omega]
/-- n with a sign -/
def sgI (b : Bool) (n : Nat) : Int32 := if b then -(nI n) else nI n
theorem sg_abs : ∀ (s : Bool) (a : Nat), a < 10 → (if 0 ≤ sgI s a then sgI s a else 0 - sgI s a) = nI a := by decide

