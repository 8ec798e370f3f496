/-! TEXT: words, numbers, letters raised, copies, comparing, finding, names -/
theorem take_snoc {Y : List Nat} {j : Nat} (h : j < Y.length) : Y.take (j + 1) = Y.take j ++ [Y.getD j 0] := by
  rw [List.take_add_one, List.getElem?_eq_getElem h, List.getD_eq_getElem?_getD, List.getElem?_eq_getElem h]; rfl
set_option maxHeartbeats 4000000 in
set_option maxRecDepth 100000 in
theorem ct_appendWord {g : jg_G} (hg : (jg_l g).stackTraces = false) {d mc ms : Nat} {h : jh_H} {a ch cap n : Nat} {X Y : List Nat} {Q : jw_O → jh_H → Prop} (ht : tx_is h a ch cap X) (hy : sk_ok n Y) (hd1 : 4 ≤ d) (hr : cap < X.length + Y.length → 11 ≤ d ∧ 1 ≤ mc ∧ 6 ≤ ms)
    (q1 : X.length + Y.length ≤ cap → ∀ h', tx_is h' a ch cap (X ++ Y) → fr (tx_S a ch) h h' → Q (.inl none) h') (q2 : cap < X.length + Y.length → ∀ h' Z, tx_is h' a ch cap Z → fr (tx_S a ch) h h' → Q (.inr "java/lang/IllegalStateException") h') : jw_C g d mc ms m_T_appendWord [.inr (.inr (some a)), .inr (.inr (some (jg_c g n)))] h Q := by
  refine jw_intro (ls := [some (.inr (.inr (some a))), some (.inr (.inr (some (jg_c g n)))), none]) (by decide) k_T_appendWord rfl (by simp [lo_fit, jv_c]) hg ?_
  have hcap := ht.1.2.2.2.2.2
  have h100 := hy.2.2.2.2.2
  have loop : ∀ r j h1, j + r = Y.length → tx_is h1 a ch cap (X ++ Y.take j) → fr (tx_S a ch) h h1 → jw_J g d m_T_appendWord jw_T0 2 [some (.inr (.inr (some a))), some (.inr (.inr (some (jg_c g n)))), some (.inl (nI j))] [] h1 mc ms Q := by
    intro r
    induction r with
    | zero =>
      intro j h1 hj t1 f1
      rw [List.take_of_length_le (by omega)] at t1
      have hl := t1.1.2.2.2.2.1
      rw [List.length_append] at hl
      have ej : j = Y.length := by omega
      subst ej
      refine jw_iload_n rfl rfl ?_
      refine jw_aload_n rfl rfl ?_
      refine js_callK (As := []) rfl l_jS_length c_T_26 i_jS_length s_jS_length hy.2.1 rfl (ck_length (d := d - 1) (mc := 0) (ms := 0) hg hy (by omega) ?_) (by omega) (Nat.le_of_ble_eq_true rfl) (by omega) (by omega) rfl
      refine jw_icmp_ge 25 rfl rfl (fun _ => ?_) (fun z => absurd (Int32.le_refl _) z)
      refine jw_return rfl rfl ?_
      exact q1 hl h1 t1 f1
    | succ r ih =>
      intro j h1 hj t1 f1
      have hl := t1.1.2.2.2.2.1
      have el : (X ++ Y.take j).length = X.length + j := by rw [List.length_append, List.length_take]; omega
      rw [el] at hl
      have hc : Y.getD j 0 < 128 := by
        have : Y.getD j 0 ∈ Y := by
          rw [List.getD_eq_getElem?_getD, List.getElem?_eq_getElem (show j < Y.length by omega)]; exact List.getElem_mem _
        exact hy.2.2.2.2.1 _ this
      have etk : X ++ Y.take (j + 1) = (X ++ Y.take j) ++ [Y.getD j 0] := by rw [List.append_assoc, take_snoc (by omega)]
      refine jw_iload_n rfl rfl ?_
      refine jw_aload_n rfl rfl ?_
      refine js_callK (As := []) rfl l_jS_length c_T_26 i_jS_length s_jS_length hy.2.1 rfl (ck_length (d := d - 1) (mc := 0) (ms := 0) hg hy (by omega) ?_) (by omega) (Nat.le_of_ble_eq_true rfl) (by omega) (by omega) rfl
      refine jw_icmp_ge 25 rfl rfl (fun z => absurd z (fun z => absurd ((nI_leI (by omega) (by omega)).mp z) (by omega))) (fun _ => ?_)
      refine jw_aload_n rfl rfl ?_
      refine jw_aload_n rfl rfl ?_
      refine jw_iload_n rfl rfl ?_
      refine js_callK (As := [.inl (nI j)]) rfl l_jS_charAt c_T_31 i_jS_charAt s_jS_charAt hy.2.1 rfl (ck_charAt (d := d - 1) (mc := 0) (ms := 0) hg hy (by omega) (by omega) ?_) (by omega) (Nat.le_of_ble_eq_true rfl) (by omega) (by omega) rfl
      by_cases hfull : X.length + j = cap
      · have hr := hr (by omega)
        refine js_call (As := [.inl (nI (Y.getD j 0))]) rfl l_T_append c_T_35 i_T_append s_T_append jc_o1 rfl (t1.1.1) rfl (ct_app (d := d - 1) (mc := 1) (ms := 6) hg t1 hc (fun _ => by omega) (fun z => absurd z (by omega)) (fun _ => ?_)) (by omega) (Nat.le_of_ble_eq_true rfl) (by omega) (by omega) rfl
        exact q2 (by omega) h1 _ t1 f1
      · refine js_call (As := [.inl (nI (Y.getD j 0))]) rfl l_T_append c_T_35 i_T_append s_T_append jc_o1 rfl (t1.1.1) rfl (ct_app (d := d - 1) (mc := 0) (ms := 0) hg t1 hc (fun z => absurd z (by omega)) (fun _ h2 t2 f2 => ?_) (fun z => absurd z (by omega))) (by omega) (Nat.le_of_ble_eq_true rfl) (by omega) (by omega) rfl
        refine js_iinc rfl rfl (nI_1 j) rfl (by decide) rfl ?_
        refine jw_goto 2 rfl rfl ?_
        exact ih (j + 1) h2 (by omega) (by rw [etk]; exact t2) (f1.tr f2 (fun _ _ z => z))
  refine js_iconst (x := 0) rfl rfl ?_
  refine js_istore_n rfl rfl (by decide) rfl ?_
  exact loop Y.length 0 h (by omega) (by rw [List.take_zero, List.append_nil]; exact ht) fr.rf
theorem es_take_lt {X : List Nat} {k : Nat} (h : k < X.length) : (es_L false (X.take k)).length + (es_1 (X.getD k 0)).length ≤ (es_L false X).length := by
  have h1 := es_le (plain := false) (X := X) (k + 1) (by omega)
  rw [es_L_take h, List.length_append] at h1
  exact h1
set_option maxHeartbeats 4000000 in
set_option maxRecDepth 100000 in
theorem ct_appendEscaped {g : jg_G} (hg : (jg_l g).stackTraces = false) {d mc ms : Nat} {h : jh_H} {a ch cap b bh capb : Nat} {X Y : List Nat} {Q : jw_O → jh_H → Prop} (ht : tx_is h a ch cap X) (hy : tx_is h b bh capb Y) (hab : a ≠ b) (hcb : ch ≠ bh) (hd1 : 5 ≤ d) (hr : cap < X.length + (es_L false Y).length → 12 ≤ d ∧ 1 ≤ mc ∧ 6 ≤ ms)
    (q1 : X.length + (es_L false Y).length ≤ cap → ∀ h', tx_is h' a ch cap (X ++ es_L false Y) → fr (tx_S a ch) h h' → Q (.inl none) h') (q2 : cap < X.length + (es_L false Y).length → ∀ h' Z, tx_is h' a ch cap Z → fr (tx_S a ch) h h' → Q (.inr "java/lang/IllegalStateException") h') : jw_C g d mc ms m_T_appendEscaped [.inr (.inr (some a)), .inr (.inr (some b))] h Q := by
  refine jw_intro (ls := [some (.inr (.inr (some a))), some (.inr (.inr (some b))), none, none]) (by decide) k_T_appendEscaped rfl (by simp [lo_fit, jv_c]) hg ?_
  have hcap := ht.1.2.2.2.2.2
  have hcapb := hy.1.2.2.2.2
  have loop : ∀ r j h1 l3, j + r = Y.length → tx_is h1 a ch cap (X ++ es_L false (Y.take j)) → fr (tx_S a ch) h h1 → jw_J g d m_T_appendEscaped jw_T0 2 [some (.inr (.inr (some a))), some (.inr (.inr (some b))), some (.inl (nI j)), l3] [] h1 mc ms Q := by
    intro r
    induction r with
    | zero =>
      intro j h1 l3 hj t1 f1
      have y1 : tx_is h1 b bh capb Y := hy.fr f1 (fun z => by rcases z with z | z; exact hab z.symm; exact jOA_ne hy.1.1 ht.1.2.1 (by decide) z) (fun z => by rcases z with z | z; exact jOA_ne ht.1.1 hy.1.2.1 (by decide) z.symm; exact hcb z.symm)
      rw [List.take_of_length_le (by omega)] at t1
      have hl := t1.1.2.2.2.2.1
      rw [List.length_append] at hl
      have ej : j = Y.length := by omega
      subst ej
      refine jw_iload_n rfl rfl ?_
      refine jw_aload_n rfl rfl ?_
      refine jw_gi rfl g_T_15 (y1.1.1) (y1.1.2.2.2.1) ?_
      refine jw_icmp_ge 88 rfl rfl (fun _ => ?_) (fun z => absurd (Int32.le_refl _) z)
      refine jw_return rfl rfl ?_
      exact q1 hl h1 t1 f1
    | succ r ih =>
      intro j h1 l3 hj t1 f1
      have y1 : tx_is h1 b bh capb Y := hy.fr f1 (fun z => by rcases z with z | z; exact hab z.symm; exact jOA_ne hy.1.1 ht.1.2.1 (by decide) z) (fun z => by rcases z with z | z; exact jOA_ne ht.1.1 hy.1.2.1 (by decide) z.symm; exact hcb z.symm)
      have hl := t1.1.2.2.2.2.1
      rw [List.length_append] at hl
      have yj := y1.2 j (by omega)
      have etk := es_L_take (plain := false) (X := Y) (k := j) (by omega)
      have hlt := es_take_lt (X := Y) (k := j) (by omega)
      generalize hc : Y.getD j 0 = c at *
      have next : ∀ h2 l3, tx_is h2 a ch cap (X ++ es_L false (Y.take j) ++ es_1 c) → fr (tx_S a ch) h1 h2 → jw_J g d m_T_appendEscaped jw_T0 82 [some (.inr (.inr (some a))), some (.inr (.inr (some b))), some (.inl (nI j)), l3] [] h2 mc ms Q := by
        intro h2 l3 t2 f2
        refine js_iinc rfl rfl (nI_1 j) rfl (by decide) rfl ?_
        refine jw_goto 2 rfl rfl ?_
        refine ih (j + 1) h2 _ (by omega) ?_ (f1.tr f2 (fun _ _ z => z))
        rw [etk, ← List.append_assoc]; exact t2
      have word : ∀ n L, sk_ok n L → es_1 c = L → ∀ (pcw idx : Nat) , (m_T_appendEscaped.2.2.2.2 pcw = some (.invokevirtual idx, 3)) → jl_k m_T_appendEscaped.1.cls idx m_T_appendWord.1 → (∀ h2, tx_is h2 a ch cap (X ++ es_L false (Y.take j) ++ es_1 c) → fr (tx_S a ch) h1 h2 → jw_J g d m_T_appendEscaped jw_T0 (pcw + 3) [some (.inr (.inr (some a))), some (.inr (.inr (some b))), some (.inl (nI j)), some (.inl (nI c))] [] h2 mc ms Q) → jw_J g d m_T_appendEscaped jw_T0 pcw [some (.inr (.inr (some a))), some (.inr (.inr (some b))), some (.inl (nI j)), some (.inl (nI c))] [.inr (.inr (some (jg_c g n))), .inr (.inr (some a))] h1 mc ms Q := by
        intro n L hs he pcw idx hd hk go
        rw [he] at go hlt
        by_cases hfit : (X ++ es_L false (Y.take j)).length + L.length ≤ cap
        · exact js_call (As := [.inr (.inr (some (jg_c g n)))]) hd l_T_appendWord hk i_T_appendWord s_T_appendWord jc_o1 rfl t1.1.1 rfl (ct_appendWord (d := d - 1) (mc := 0) (ms := 0) hg t1 hs (by omega) (fun z => absurd z (by omega)) (fun _ h2 t2 f2 => go h2 t2 f2) (fun z => absurd z (by omega))) (by omega) (Nat.le_of_ble_eq_true rfl) (by omega) (by omega) rfl
        · have hr := hr (by rw [List.length_append] at hfit; omega)
          exact js_call (As := [.inr (.inr (some (jg_c g n)))]) hd l_T_appendWord hk i_T_appendWord s_T_appendWord jc_o1 rfl t1.1.1 rfl (ct_appendWord (d := d - 1) (mc := 1) (ms := 6) hg t1 hs (by omega) (fun _ => by omega) (fun z => absurd z (by omega)) (fun _ h2 Z t2 f2 => q2 (by rw [List.length_append] at hfit; omega) h2 Z t2 (f1.tr f2 (fun _ _ z => z)))) (by omega) (Nat.le_of_ble_eq_true rfl) (by omega) (by omega) rfl
      refine jw_iload_n rfl rfl ?_
      refine jw_aload_n rfl rfl ?_
      refine jw_gi rfl g_T_15 (y1.1.1) (y1.1.2.2.2.1) ?_
      refine jw_icmp_ge 88 rfl rfl (fun z => absurd z (fun z => absurd ((nI_leI (by omega) (by omega)).mp z) (by omega))) (fun _ => ?_)
      refine jw_aload_n rfl rfl ?_
      refine jw_gr rfl g_T_9 (y1.1.1) (y1.1.2.2.1) ?_
      refine jw_iload_n rfl rfl ?_
      refine js_caldV (j) rfl (y1.1.2.1) (by decide) (by rfl) rfl (by omega) (by omega) (yj.1) ?_
      refine js_istore_n rfl rfl (by decide) rfl ?_
      refine jw_iload_n rfl rfl ?_
      refine js_bipush (x := 38) rfl rfl ?_
      by_cases c38 : c = 38
      · subst c38
        refine jw_icmp_ne 32 rfl rfl (fun z => absurd (rfl) z) (fun _ => ?_)
        refine jw_aload_n rfl rfl ?_
        refine jw_ldcS 34 rfl rfl ?_
        refine word 34 _ sk_34 rfl 26 _ rfl c_T_41 (fun h2 t2 f2 => ?_)
        refine jw_goto 82 rfl rfl ?_
        exact next h2 _ t2 f2
      refine jw_icmp_ne 32 rfl rfl (fun _ => ?_) (fun z => absurd z (fun z => c38 ((nI_eq (b := 38) (by omega) (by omega)).mp z)))
      refine jw_iload_n rfl rfl ?_
      refine js_bipush (x := 60) rfl rfl ?_
      by_cases c60 : c = 60
      · subst c60
        refine jw_icmp_ne 47 rfl rfl (fun z => absurd (rfl) z) (fun _ => ?_)
        refine jw_aload_n rfl rfl ?_
        refine jw_ldcS 35 rfl rfl ?_
        refine word 35 _ sk_35 rfl 41 _ rfl c_T_41 (fun h2 t2 f2 => ?_)
        refine jw_goto 82 rfl rfl ?_
        exact next h2 _ t2 f2
      refine jw_icmp_ne 47 rfl rfl (fun _ => ?_) (fun z => absurd z (fun z => c60 ((nI_eq (b := 60) (by omega) (by omega)).mp z)))
      refine jw_iload_n rfl rfl ?_
      refine js_bipush (x := 62) rfl rfl ?_
      by_cases c62 : c = 62
      · subst c62
        refine jw_icmp_ne 62 rfl rfl (fun z => absurd (rfl) z) (fun _ => ?_)
        refine jw_aload_n rfl rfl ?_
        refine jw_ldcS 36 rfl rfl ?_
        refine word 36 _ sk_36 rfl 56 _ rfl c_T_41 (fun h2 t2 f2 => ?_)
        refine jw_goto 82 rfl rfl ?_
        exact next h2 _ t2 f2
      refine jw_icmp_ne 62 rfl rfl (fun _ => ?_) (fun z => absurd z (fun z => c62 ((nI_eq (b := 62) (by omega) (by omega)).mp z)))
      refine jw_iload_n rfl rfl ?_
      refine js_bipush (x := 34) rfl rfl ?_
      by_cases c34 : c = 34
      · subst c34
        refine jw_icmp_ne 77 rfl rfl (fun z => absurd (rfl) z) (fun _ => ?_)
        refine jw_aload_n rfl rfl ?_
        refine jw_ldcS 37 rfl rfl ?_
        refine word 37 _ sk_37 rfl 71 _ rfl c_T_41 (fun h2 t2 f2 => ?_)
        refine jw_goto 82 rfl rfl ?_
        exact next h2 _ t2 f2
      have e1 : es_1 c = [c] := by rw [es_1, if_neg c38, if_neg c60, if_neg c62, if_neg c34]
      rw [e1] at next hlt
      have hlt : (es_L false (Y.take j)).length + 1 ≤ (es_L false Y).length := hlt
      refine jw_icmp_ne 77 rfl rfl (fun _ => ?_) (fun z => absurd z (fun z => c34 ((nI_eq (b := 34) (by omega) (by omega)).mp z)))
      refine jw_aload_n rfl rfl ?_
      refine jw_iload_n rfl rfl ?_
      by_cases hfull : (X ++ es_L false (Y.take j)).length = cap
      · have hr := hr (by rw [List.length_append] at hfull; omega)
        refine js_call (As := [.inl (nI c)]) rfl l_T_append c_T_35 i_T_append s_T_append jc_o1 rfl (t1.1.1) rfl (ct_app (d := d - 1) (mc := 1) (ms := 6) hg t1 yj.2 (fun _ => by omega) (fun z => absurd z (by omega)) (fun _ => ?_)) (by omega) (Nat.le_of_ble_eq_true rfl) (by omega) (by omega) rfl
        exact q2 (by rw [List.length_append] at hfull; omega) h1 _ t1 f1
      · refine js_call (As := [.inl (nI c)]) rfl l_T_append c_T_35 i_T_append s_T_append jc_o1 rfl (t1.1.1) rfl (ct_app (d := d - 1) (mc := 0) (ms := 0) hg t1 yj.2 (fun z => absurd z hfull) (fun _ h2 t2 f2 => ?_) (fun z => absurd z hfull)) (by omega) (Nat.le_of_ble_eq_true rfl) (by omega) (by omega) rfl
        exact next h2 _ t2 f2
  refine js_iconst (x := 0) rfl rfl ?_
  refine js_istore_n rfl rfl (by decide) rfl ?_
  exact loop Y.length 0 h none (by omega) (by rw [List.take_zero, show es_L false [] = [] from rfl, List.append_nil]; exact ht) fr.rf

