/-! READER: taking apart, the loop -/
set_option maxHeartbeats 4000000 in
set_option maxRecDepth 100000 in
theorem cl_n {three : Bool} : (sp_cl three).length = sp_n three := by cases three <;> rfl
theorem ap_ar {L p f k m fr0 qq i kc ks hk1 hk2 : Nat} (hf : L - p + 1 ≤ f + 1) (h1 : k ≤ L) (h2 : p ≤ k) (ef : fr0 = k + m) (m2 : 2 ≤ m) (hq2 : fr0 ≤ qq) (hqn : qq + m ≤ L) (hi : i ≤ p) (hkc : 3 * (L - p) ≤ kc) (hks : 12 * (L - p) ≤ ks) (e1 : hk1 = kc - 3 * (k - p)) (e2 : hk2 = ks - 12 * (k - p)) : L - (qq + m) + 1 ≤ f ∧ i + 1 ≤ qq + m ∧ 3 * (L - (qq + m)) ≤ hk1 - 10 ∧ 12 * (L - (qq + m)) ≤ hk2 - (40 + 2 * (qq - fr0)) := by
  obtain ⟨a, rfl⟩ : ∃ a, k = p + a := ⟨k - p, by omega⟩
  obtain ⟨b, rfl⟩ : ∃ b, qq = fr0 + b := ⟨qq - fr0, by omega⟩
  obtain ⟨c, rfl⟩ : ∃ c, L = fr0 + b + m + c := ⟨L - (fr0 + b + m), by omega⟩
  subst ef e1 e2
  refine ⟨by omega, by omega, ?_, ?_⟩
  · omega
  · omega
set_option maxHeartbeats 4000000 in
set_option maxRecDepth 100000 in
theorem cp_loop {g : jg_G} (hg : (jg_l g).stackTraces = false) {d : Nat} {h0 : jh_H} {r op rt sb sch cap st : Nat} {L : List Nat} {R : Nat ⊕ (Nat × pp_T × pp_O × pp_O)} {Q : jw_O → jh_H → Prop} (hL : L.length ≤ 200) (hd : 11 ≤ d) (ha : ra h0 r op rt sb sch st)
    (q1 : ∀ x, R = .inl x → x ≤ 200 → ∀ h', jh_i h' r 262 = nI x → FF h0 r op rt st h' → Q (.inl none) h')
    (q2 : ∀ n T ot la, R = .inr (n, T, ot, la) → ∀ h' A B, jh_i h' r 262 = -1 → jh_i h' r 261 = nI n → pt_ok g h' (fun b => b = rt ∨ b ∉ jh_L h0) (L, n, T, ot, la) A B rt → FF h0 r op rt st h' → Q (.inl none) h') :
    ∀ f p n T dd os ot la, pp (tL L) L.length f p n T dd os ot la = R → L.length - p + 1 ≤ f → ∀ i h A B lst l3 l4 l5 l6 kc ks, i ≤ p → p ≤ L.length → lv_so (tL L) L.length p n T dd os ot la → RT g h0 h r op rt (L, n, T, ot, la) A B dd os lst none → HH h0 h (L, n, T, ot, la) A B rt dd os lst → rcc h r sb sch cap st L n → FF h0 r op rt st h → 3 * (L.length - p) ≤ kc → 12 * (L.length - p) ≤ ks → jw_J g d m_P_takeApart jw_T0 4 [some (.inr (.inr (some r))), some (.inl (nI p)), some (.inl (nI i)), l3, l4, l5, l6] [] h kc ks Q := by
  have hsub : ∀ {h}, FF h0 r op rt st h → ∀ b, b ∈ jh_L h0 → b ∈ jh_L h := fun hF b hb => (hF.1.1 b hb).1
  obtain ⟨a1, a2, a3, a4, a5, a6, a7, a8, a9, a10, a11, a12, a13, a14, a15, a16, a17, a18, a19, a20⟩ := id ha
  -- the end, without a fault so far
  have last : ∀ p n T dd os ot la A B lst W h kc ks (ls : List (Option jV)), ls[0]? = some (some (.inr (.inr (some r)))) → (if 0 < dd then .inl (T (os (dd - 1))).1 else .inr (n, T, ot, la)) = R → lv_so (tL L) L.length p n T dd os ot la → RT g h0 h r op rt (L, n, T, ot, la) A B dd os lst W → MD g h0 h rt (L, n, T, ot, la) A B dd os lst W (sp_sub (tL L) p (L.length - p)) → rcc h r sb sch cap st L n → FF h0 r op rt st h → jw_J g d m_P_takeApart jw_T0 198 ls [] h kc ks Q := by
    intro p n T dd os ot la A B lst W h kc ks ls hls hR hlv hT hM hc hF
    refine jw_aload_n rfl hls ?_
    refine jw_gi rfl g_P_30 (hT.1.1) (hc.2.2.2.2.2) ?_
    refine js_iconst (x := (-1)) rfl rfl ?_
    refine jw_icmp_ne 229 rfl rfl (fun z => absurd (by decide) z) (fun _ => ?_)
    refine jw_aload_n rfl hls ?_
    refine jw_gi rfl g_P_93 (hT.1.1) (hT.1.2.2.2.1) ?_
    obtain ⟨lv, v1, v2, v3, v4, v5, v6⟩ := hlv
    by_cases c0 : 0 < dd
    · rw [if_pos c0] at hR
      obtain ⟨u1, u2, u3, u4⟩ := hT.2.2.1 (dd - 1) (by omega)
      rw [show dd - 1 + 1 = dd by omega] at u1
      have hb := hT.2.2.2.2.1.2.2.2.2.1 _ u2
      refine jw_if_le 229 rfl rfl (fun z => absurd z (fun z => absurd ((nI_leI (b := 0) (by omega) (by decide)).mp z) (by omega))) (fun _ => ?_)
      refine jw_aload_n rfl hls ?_
      refine jw_aload_n rfl hls ?_
      refine jw_gr rfl g_P_26 (hT.1.1) (hT.1.2.1) ?_
      refine jw_aload_n rfl hls ?_
      refine jw_gi rfl g_P_93 (hT.1.1) (hT.1.2.2.2.1) ?_
      refine js_aald (dd) rfl (hT.1.2.2.1) (by decide) (by rfl) rfl (by omega) (by omega) (u1) ?_
      refine jw_gi rfl g_P_96 (hb.1) (hb.2.2.2.1) ?_
      refine jw_pi rfl p_P_takeApart_30 (hT.1.1) ?_
      refine jw_return rfl rfl ?_
      have ho := (v5 _ (pt_lt u2)).1
      refine q1 (tg_b (T (os (dd - 1)))) hR.symm ?_ _ (jh_u_s _ _ _ _) hF.si
      obtain ⟨w1, w2, w3, w4, w5, -⟩ := ho
      omega
    · rw [if_neg c0] at hR
      refine jw_if_le 229 rfl rfl (fun _ => ?_) (fun z => absurd ((nI_leI (b := 0) (by omega) (by decide)).mpr (by omega)) z)
      refine jw_return rfl rfl ?_
      have et : rn_text (L, n, T, ot, la) n = sp_sub (tL L) p (L.length - p) := by
        unfold rn_text
        show sp_sub _ (tp_at T n) (rn_stop _ n - tp_at T n) = _
        rw [← v4, show rn_stop (L, n, T, ot, la) n = L.length from if_neg (Nat.lt_irrefl _)]
        rfl
      refine q2 n T ot la hR.symm h A B hc.2.2.2.2.2 hc.2.2.2.2.1 (hT.2.2.2.2.1.full hT.2.2.2.2.2.2.1 (fun b hb => Or.inr hb) (Or.inl rfl) (fun i hi hbl => ?_) ?_ (fun z => ?_)) hF
      · rcases ((v5 i (pt_lt hi)).2.1 hbl).2.2 with ⟨j, hj, -⟩ | ⟨l, hl, -⟩
        · omega
        · exact ⟨l, hl⟩
      · rw [show (L, n, T, ot, la).2.1 = n from rfl, et]
        rcases hM with ⟨m1, m2, -⟩ | ⟨m1, m2, -⟩
        · rw [if_pos m1]; exact m2
        · rw [if_neg m1]; exact m2
      · have z : rn_text (L, n, T, ot, la) n ≠ [] := z
        rw [et] at z
        rcases hM with ⟨m1, -⟩ | ⟨m1, m2, m3, m4, -⟩
        · exact absurd m1 z
        · show bt_pl g h0 h (L, n, T, ot, la) A n none
          unfold bt_pl
          rw [et]
          exact m4
  intro f
  induction f with
  | zero => intro p n T dd os ot la _ h1; omega
  | succ f ih =>
    intro p n T dd os ot la hR hf i h A B lst l3 l4 l5 l6 kc ks hi hp hlv hT hH hc hF hkc hks
    have hpT : p = tp_at T n := by obtain ⟨lv, v1, v2, v3, v4, -⟩ := hlv; exact v4
    rw [pp] at hR
    by_cases cp : L.length ≤ p
    · have ep : p = L.length := by omega
      have ek : sp_k (tL L) p L.length = L.length := by
        unfold sp_k
        rw [ep, Nat.sub_self]
        rfl
      rw [if_pos (by omega)] at hR
      refine jw_iload_n rfl rfl ?_
      refine js_sipush (x := 200) rfl rfl ?_
      refine jw_icmp_gt 198 rfl rfl (fun z => absurd z (fun z => absurd ((nI_ltI (a := 200) (by decide) (by omega)).mp z) (by omega))) (fun _ => ?_)
      refine jw_iload_n rfl rfl ?_
      refine jw_aload_n rfl rfl ?_
      refine jw_gr rfl g_P_38 (hT.1.1) (hc.1) ?_
      refine jw_gi rfl g_P_42 (hc.2.1.1.1) (hc.2.1.1.2.2.2.1) ?_
      refine jw_icmp_ge 198 rfl rfl (fun _ => ?_) (fun z => absurd ((nI_leI (by omega) (by omega)).mpr cp) z)
      exact last p n T dd os ot la A B lst none h kc ks _ rfl hR hlv hT (Or.inl ⟨sp_sub_nil.mpr (by omega), rfl, hH⟩) hc hF
    · obtain ⟨k, hk⟩ : ∃ k, k = sp_k (tL L) p L.length := ⟨_, rfl⟩
      have hkl : k ≤ L.length ∧ p ≤ k := by rw [hk]; exact sp_fd_le _ _ _ _ _ hp
      refine jw_iload_n rfl rfl ?_
      refine js_sipush (x := 200) rfl rfl ?_
      refine jw_icmp_gt 198 rfl rfl (fun z => absurd z (fun z => absurd ((nI_ltI (a := 200) (by decide) (by omega)).mp z) (by omega))) (fun _ => ?_)
      refine jw_iload_n rfl rfl ?_
      refine jw_aload_n rfl rfl ?_
      refine jw_gr rfl g_P_38 (hT.1.1) (hc.1) ?_
      refine jw_gi rfl g_P_42 (hc.2.1.1.1) (hc.2.1.1.2.2.2.1) ?_
      refine jw_icmp_ge 198 rfl rfl (fun z => absurd z (fun z => cp ((nI_leI (by omega) (by omega)).mp z))) (fun _ => ?_)
      refine jw_aload_n rfl rfl ?_
      refine jw_gi rfl g_P_30 (hT.1.1) (hc.2.2.2.2.2) ?_
      refine js_iconst (x := (-1)) rfl rfl ?_
      refine jw_icmp_ne 198 rfl rfl (fun z => absurd (by decide) z) (fun _ => ?_)
      refine jw_aload_n rfl rfl ?_
      refine jw_gr rfl g_P_38 (hT.1.1) (hc.1) ?_
      refine jw_ldcS 10 rfl rfl ?_
      refine jw_iload_n rfl rfl ?_
      refine js_call (As := [.inr (.inr (some (jg_c g 10))), .inl (nI p)]) rfl l_T_find c_P_49 i_T_find s_T_find jc_o1 rfl (hc.2.1.1.1) rfl (ct_find (d := d - 1) (mc := 0) (ms := 0) hg hc.2.1 sk_10 (by decide) (by decide) hp (by omega) ?_) (by omega) (Nat.le_of_ble_eq_true rfl) (by omega) (by omega) rfl
      rw [show sp_fd (fun i => L.getD i 0) L.length [123, 123] (L.length - p) p = k from hk.symm]
      refine js_istore_n rfl rfl (by decide) rfl ?_
      refine jw_aload_n rfl rfl ?_
      refine jw_iload_n rfl rfl ?_
      refine jw_iload_n rfl rfl ?_
      refine js_call (As := [.inl (nI p), .inl (nI k)]) rfl l_P_attachPlain c_P_53 i_P_attachPlain s_P_attachPlain jc_o4 rfl (hT.1.1) rfl (cp_plain (d := d - 1) (mc := 3 * (k - p)) (ms := 12 * (k - p)) hg (hsub hF) hT hH hc.1 hc.2.1 hL hkl.2 hkl.1 (by omega) (by omega) (by omega) (fun h1 A1 lst1 W1 eA T1 M1 f1 => ?_)) (by omega) (Nat.le_of_ble_eq_true rfl) (by omega) (by omega) rfl
      have c1 := hc.tf ha f1
      have F1 := hF.tf f1
      refine jw_iload_n rfl rfl ?_
      refine js_istore_n rfl rfl (by decide) rfl ?_
      refine jw_iload_n rfl rfl ?_
      refine jw_aload_n rfl rfl ?_
      refine jw_gr rfl g_P_38 (T1.1.1) (c1.1) ?_
      refine jw_gi rfl g_P_42 (c1.2.1.1.1) (c1.2.1.1.2.2.2.1) ?_
      by_cases ck : L.length ≤ k
      · have ek : k = L.length := by omega
        rw [← hk, if_pos ck] at hR
        refine jw_icmp_ge 192 rfl rfl (fun _ => ?_) (fun z => absurd ((nI_leI (by omega) (by omega)).mpr ck) z)
        refine js_iinc rfl rfl (nI_1 i) rfl (by decide) rfl ?_
        refine jw_goto 4 rfl rfl ?_
        refine jw_iload_n rfl rfl ?_
        refine js_sipush (x := 200) rfl rfl ?_
        refine jw_icmp_gt 198 rfl rfl (fun z => absurd z (fun z => absurd ((nI_ltI (a := 200) (by decide) (by omega)).mp z) (by omega))) (fun _ => ?_)
        refine jw_iload_n rfl rfl ?_
        refine jw_aload_n rfl rfl ?_
        refine jw_gr rfl g_P_38 (T1.1.1) (c1.1) ?_
        refine jw_gi rfl g_P_42 (c1.2.1.1.1) (c1.2.1.1.2.2.2.1) ?_
        refine jw_icmp_ge 198 rfl rfl (fun _ => ?_) (fun z => absurd ((nI_leI (by omega) (by omega)).mpr ck) z)
        rw [ek] at M1
        exact last p n T dd os ot la A1 B lst1 W1 h1 _ _ _ rfl hR hlv T1 M1 c1 F1
      · rw [← hk, if_neg ck] at hR
        obtain ⟨th, hth⟩ : ∃ z, z = sp_th (tL L) p L.length := ⟨_, rfl⟩
        obtain ⟨fr0, hfr⟩ : ∃ z, z = sp_f (tL L) p L.length := ⟨_, rfl⟩
        obtain ⟨qq, hqq⟩ : ∃ z, z = sp_q (tL L) p L.length := ⟨_, rfl⟩
        have ef : fr0 = k + sp_n th := by rw [hfr, hk, hth]; rfl
        have hfl : fr0 ≤ L.length := by rw [hfr]; exact sp_f_le _ hp (by omega)
        have hql : qq ≤ L.length ∧ fr0 ≤ qq := by
          have := sp_fd_le (tL L) L.length (sp_cl th) (L.length - fr0) fr0 hfl
          rw [hqq, sp_q, ← hth, ← hfr]
          exact this
        have hn2 : 2 ≤ sp_n th ∧ sp_n th ≤ 3 := by cases th <;> decide
        refine jw_icmp_ge 192 rfl rfl (fun z => absurd z (fun z => ck ((nI_leI (by omega) (by omega)).mp z))) (fun _ => ?_)
        refine jw_aload_n rfl rfl ?_
        refine jw_gr rfl g_P_38 (T1.1.1) (c1.1) ?_
        refine jw_ldcS 11 rfl rfl ?_
        refine jw_iload_n rfl rfl ?_
        refine jw_aload_n rfl rfl ?_
        refine jw_gr rfl g_P_38 (T1.1.1) (c1.1) ?_
        refine jw_gi rfl g_P_42 (c1.2.1.1.1) (c1.2.1.1.2.2.2.1) ?_
        refine js_call (As := [.inr (.inr (some (jg_c g 11))), .inl (nI k), .inl (nI L.length)]) rfl l_T_hasWord c_P_59 i_T_hasWord s_T_hasWord jc_o1 rfl (c1.2.1.1.1) rfl (ct_hasWord (d := d - 1) (mc := 0) (ms := 0) hg c1.2.1 sk_11 (by decide) (by decide) (Nat.le_refl _) (by omega) (by omega) ?_) (by omega) (Nat.le_of_ble_eq_true rfl) (by omega) (by omega) rfl
        rw [show sp_st (fun i => L.getD i 0) L.length k [123, 123, 123] = th by rw [hth, hk]; rfl]
        obtain ⟨cn, hcn⟩ : ∃ z, z = (if th then 12 else 13) := ⟨_, rfl⟩
        have sk : sk_ok cn (sp_cl th) := by
          rw [hcn]
          cases th
          · exact sk_13
          · exact sk_12
        have cln : sp_cl th ≠ [] ∧ ∀ c ∈ sp_cl th, c ≠ 0 := by cases th <;> decide
        obtain ⟨hk1, ehk1⟩ : ∃ z, z = kc - 3 * (k - p) := ⟨_, rfl⟩
        obtain ⟨hk2, ehk2⟩ : ∃ z, z = ks - 12 * (k - p) := ⟨_, rfl⟩
        -- a fault
        have at166 : R = .inl k → ∀ h4 y6 kc ks, jh_O h4 r 4 → rcc h4 r sb sch cap st L n → FF h0 r op rt st h4 → jh_i h4 r 264 = nI qq → jw_J g d m_P_takeApart jw_T0 166 [some (.inr (.inr (some r))), some (.inl (nI k)), some (.inl (nI i)), some (.inl (nI k)), some (.inl (sp_b th)), some (.inr (.inr (some (jg_c g cn)))), y6] [] h4 kc ks Q := by
          intro hRk h4 y6 kc ks o4 c4 F4 e4
          refine jw_aload_n rfl rfl ?_
          refine jw_iload_n rfl rfl ?_
          refine jw_pi rfl p_P_takeApart_30 (o4) ?_
          refine jw_aload_n rfl rfl ?_
          refine jw_dup rfl rfl ?_
          refine jw_gi rfl g_P_90 (o4) ((jh_u_k _ _ _ _ (by decide)).trans c4.2.2.2.2.1) ?_
          refine js_iconst (x := 1) rfl rfl ?_
          refine jw_iaddV rfl (nI_1 n) ?_
          refine jw_pi rfl p_P_takeApart_90 (o4) ?_
          refine jw_aload_n rfl rfl ?_
          refine jw_gi rfl g_P_75 (o4) ((jh_u_k _ _ _ _ (by decide)).trans ((jh_u_k _ _ _ _ (by decide)).trans e4)) ?_
          refine jw_aload rfl rfl ?_
          refine js_callK (As := []) rfl l_jS_length c_P_67 i_jS_length s_jS_length sk.2.1 rfl (ck_length (d := d - 1) (mc := 0) (ms := 0) hg sk (by omega) ?_) (by omega) (Nat.le_of_ble_eq_true rfl) (by omega) (by omega) rfl
          refine jw_iaddV rfl ((nI_add _ _).trans (congrArg nI (congrArg (qq + ·) cl_n))) ?_
          refine js_istore_n rfl rfl (by decide) rfl ?_
          refine js_iinc rfl rfl (nI_1 i) rfl (by decide) rfl ?_
          refine jw_goto 4 rfl rfl ?_
          have f5 : fr (fun b => b = r) h4 (jh_si (jh_si h4 r 262 (nI k)) r 261 (nI (n + 1))) := fr.si (fr.si fr.rf rfl) rfl
          have tx5 := c4.2.1.fr f5 (fun e => jO_ne c4.2.1.1.1 o4 (by decide) e) (fun e => jOA_ne o4 c4.2.1.1.2.1 (by decide) e.symm)
          have e262 : jh_i (jh_si (jh_si h4 r 262 (nI k)) r 261 (nI (n + 1))) r 262 = nI k := (jh_u_k _ _ _ _ (by decide)).trans (jh_u_s _ _ _ _)
          exact cp_stop o4 c4.1 tx5 hL (by omega) e262 (by omega) (by omega) (q1 k hRk (by omega) _ e262 F4.si.si)
        have at91 : jw_J g d m_P_takeApart jw_T0 91 [some (.inr (.inr (some r))), some (.inl (nI k)), some (.inl (nI i)), some (.inl (nI k)), some (.inl (sp_b th)), l5, l6] [.inr (.inr (some (jg_c g cn)))] h1 hk1 hk2 Q := by
          refine js_astore rfl rfl (by decide) rfl ?_
          refine jw_aload_n rfl rfl ?_
          refine jw_iload_n rfl rfl ?_
          refine jw_aload rfl rfl ?_
          refine js_callK (As := []) rfl l_jS_length c_P_67 i_jS_length s_jS_length sk.2.1 rfl (ck_length (d := d - 1) (mc := 0) (ms := 0) hg sk (by omega) ?_) (by omega) (Nat.le_of_ble_eq_true rfl) (by omega) (by omega) rfl
          refine jw_iaddV rfl ((nI_add _ _).trans (congrArg nI ((congrArg (k + ·) cl_n).trans ef.symm))) ?_
          refine jw_pi rfl p_P_takeApart_72 (T1.1.1) ?_
          have T2 := T1.si (k := 263) (v := nI fr0) (by decide)
          have c2 := c1.si (k := 263) (v := nI fr0) T1.1.1 (by decide) (by decide)
          refine jw_aload_n rfl rfl ?_
          refine jw_aload_n rfl rfl ?_
          refine jw_gr rfl g_P_38 (T2.1.1) (c2.1) ?_
          refine jw_aload rfl rfl ?_
          refine jw_aload_n rfl rfl ?_
          refine jw_gi rfl g_P_72 (T2.1.1) (jh_u_s _ _ _ _) ?_
          refine js_call (As := [.inr (.inr (some (jg_c g cn))), .inl (nI fr0)]) rfl l_T_find c_P_49 i_T_find s_T_find jc_o1 rfl (c2.2.1.1.1) rfl (ct_find (d := d - 1) (mc := 0) (ms := 0) hg c2.2.1 sk cln.1 cln.2 hfl (by omega) ?_) (by omega) (Nat.le_of_ble_eq_true rfl) (by omega) (by omega) rfl
          rw [show sp_fd (fun i => L.getD i 0) L.length (sp_cl th) (L.length - fr0) fr0 = qq by rw [hqq, hfr, hth]; rfl]
          have T3 := T2.si (k := 264) (v := nI qq) (by decide)
          have M3 := ((M1.si (k := 263) (v := nI fr0) a15).si (k := 264) (v := nI qq) a15)
          have c3 := c2.si (k := 264) (v := nI qq) T2.1.1 (by decide) (by decide)
          have F3 : FF h0 r op rt st (jh_si (jh_si h1 r 263 (nI fr0)) r 264 (nI qq)) := F1.si.si
          refine jw_pi rfl p_P_takeApart_75 (T2.1.1) ?_
          refine jw_aload_n rfl rfl ?_
          refine jw_gi rfl g_P_75 (T3.1.1) (jh_u_s _ _ _ _) ?_
          refine jw_aload_n rfl rfl ?_
          refine jw_gr rfl g_P_38 (T3.1.1) (c3.1) ?_
          refine jw_gi rfl g_P_42 (c3.2.1.1.1) (c3.2.1.1.2.2.2.1) ?_
          obtain ⟨h3, eh3⟩ : ∃ z, z = jh_si (jh_si h1 r 263 (nI fr0)) r 264 (nI qq) := ⟨_, rfl⟩
          have e263 : jh_i h3 r 263 = nI fr0 := by rw [eh3]; exact (jh_u_k _ _ _ _ (by decide)).trans (jh_u_s _ _ _ _)
          have e264 : jh_i h3 r 264 = nI qq := by rw [eh3]; exact jh_u_s _ _ _ _
          rw [← eh3]
          rw [← eh3] at T3 M3 c3 F3
          clear T2 c2 eh3
          by_cases cq : L.length ≤ qq
          · rw [← hqq, if_pos cq] at hR
            refine jw_icmp_ge 149 rfl rfl (fun _ => ?_) (fun z => absurd ((nI_leI (by omega) (by omega)).mpr cq) z)
            refine jw_null rfl ?_
            refine js_astore rfl rfl (by decide) rfl ?_
            refine jw_aload rfl rfl ?_
            refine jw_ifnull 166 rfl rfl (fun _ => ?_) (fun x_ z_ => by cases z_)
            exact at166 hR.symm h3 _ _ _ T3.1.1 c3 F3 e264
          · rw [← hqq, if_neg cq, ← hfr, ← hth] at hR
            have hqn : qq + sp_n th ≤ L.length := by
              have := (sp_q_le (tL L) hp (by omega) (by omega)).2.2.2
              rw [← hqq, ← hth] at this
              exact this
            have hr3 : rd_ok h3 r sb sch cap st L fr0 qq := ⟨T3.1.1, c3.1, c3.2.1, hL, e263, e264, hql.2, by omega, c3.2.2.1, c3.2.2.2.1⟩
            refine jw_icmp_ge 149 rfl rfl (fun z => absurd z (fun z => cq ((nI_leI (by omega) (by omega)).mp z))) (fun _ => ?_)
            refine jw_aload_n rfl rfl ?_
            refine jw_aload_n rfl rfl ?_
            refine jw_iload rfl rfl ?_
            refine js_call (As := [.inl (sp_b th)]) rfl l_P_readSort c_P_78 i_P_readSort s_P_readSort jc_o4 rfl (T3.1.1) rfl (cp_readSort (d := d - 1) (mc := 0) (ms := 0) hg hr3 (by omega) (fun h4 hr4 f4 _ => ?_)) (by omega) (Nat.le_of_ble_eq_true rfl) (by omega) (by omega) rfl
            obtain ⟨b1, b2, b3, b4⟩ := rs_fact (t := tL L) (c := fr0) (e := qq) (three := th)
            have hss := ss_eq (t := tL L) (c := fr0) (e := qq) (three := th) hql.2
            obtain ⟨o, eo⟩ : ∃ z, z = (rs_o (tL L) fr0 qq th).1 := ⟨_, rfl⟩
            obtain ⟨o2, eo2⟩ : ∃ z, z = (rs_o (tL L) fr0 qq th).2 := ⟨_, rfl⟩
            rw [← eo] at b1 b2 b3 b4 hss
            rw [← eo2] at b3 b4 hss hr4
            rw [← eo]
            have rdS : ∀ b, b ∉ jh_L h0 → ¬ rd_S r st b := fun b hb z => by rcases z with z | z; exact hb (by rw [z]; exact a15); exact hb (by rw [z]; exact a3)
            have rdr : ¬ rd_S r st rt := fun z => by rcases z with z | z; exact a18 z.symm; exact a14 z.symm
            have rdo : ¬ rd_S r st op := fun z => by rcases z with z | z; exact a19 z.symm; exact a13 z.symm
            have T4 := T3.mv f4.1 (fun b hb _ => rdS b hb) rdr rdo (f4.2.1 259 (by decide)) f4.2.2
            have M4 := M3.mv f4.1 (fun b hb _ => rdS b hb)
            have c4 := c3.rd ha f4
            have F4 := F3.rd f4
            have hc4 : fr0 + o2 ≤ qq := hr4.2.2.2.2.2.2.1
            refine jw_iload_n rfl rfl ?_
            refine js_call (As := [.inr (.inr (some (jg_c g (100 + o)))), .inl (nI k)]) rfl l_P_readRest c_P_82 i_P_readRest s_P_readRest jc_o4 rfl (T4.1.1) rfl (cp_readRest (d := d - 1) (mc := 10) (ms := 40 + 2 * (qq - fr0)) (pl := k) hg hr4 b1 b2 (by omega) (by omega) (by omega) (fun er h5 c5 hr5 f5 => ?_) (fun er h5 q c5 hr5 f5 nq np n5 nx5 => ?_)) (by omega) (Nat.le_of_ble_eq_true rfl) (by omega) (by omega) rfl
            · rw [er] at hss
              rw [hss] at hR
              refine jw_goto 150 rfl rfl ?_
              refine js_astore rfl rfl (by decide) rfl ?_
              refine jw_aload rfl rfl ?_
              refine jw_ifnull 166 rfl rfl (fun _ => ?_) (fun x_ z_ => by cases z_)
              exact at166 hR.symm h5 _ _ _ hr5.1 (c4.rd ha f5) (F4.rd f5) hr5.2.2.2.2.2.1
            · rw [er] at hss
              obtain ⟨s, es⟩ : ∃ z, z = rr_s o := ⟨_, rfl⟩
              obtain ⟨w1, w2, w3, w4⟩ := os_rr b1 b2
              rw [← es] at w1 w2 w3 w4 b4
              have hss : sp_sort (tL L) fr0 qq th = some s := by rw [hss, es]; rfl
              rw [hss] at hR
              have T5 := T4.mv f5.1 (fun b hb _ => rdS b hb) rdr rdo (f5.2.1 259 (by decide)) f5.2.2
              have M5 := M4.mv f5.1 (fun b hb _ => rdS b hb)
              have c5' := c4.rd ha f5
              have F5 := F4.rd f5
              obtain ⟨x, ex⟩ : ∃ z, z = pp_new (tL L) p L.length s := ⟨_, rfl⟩
              have x1 : tg_b x = k := by rw [ex, hk]; rfl
              have x2 : tg_f x = fr0 := by rw [ex, hfr]; rfl
              have x3 : tg_q x = qq := by rw [ex, hqq]; rfl
              have x4 : tg_s x = s := by rw [ex]; rfl
              have x5 : tg_e x = qq + sp_n th := by rw [ex, hqq, hth]; rfl
              have hx : tg_ok (tL L) L.length p x := by rw [ex]; exact lv_new hp (by rw [← hk]; omega) (by rw [← hqq]; omega) (by rw [← hfr, ← hqq, ← hth]; exact hss)
              have nw : tg_nw g h0 h5 L x q (o_s (tg_s x)) := by
                refine ⟨by rw [x1, x4, w1]; exact np, fun z => nq (hsub F4 _ z), fun z => ?_, fun z1 z2 z3 => ?_⟩
                · rw [x4] at z
                  have := n5 (w3 z)
                  rw [this, x2, b3 (w3 z)]
                · rw [x4] at z1 z2 z3
                  have y := w4 z1 z2 z3
                  obtain ⟨e, e1, e2⟩ := nx5 y
                  refine ⟨e, e1, ?_⟩
                  rw [x2, x3, x4, ← b4 y]
                  exact e2.mono (fun b p1 p2 p3 p4 => ⟨fun z => p1.1 (hsub F4 _ z), p1.2⟩)
              refine jw_goto 150 rfl rfl ?_
              refine js_astore rfl rfl (by decide) rfl ?_
              refine jw_aload rfl rfl ?_
              refine jw_ifnull 166 rfl rfl (fun z_ => by cases z_) (fun _ _ => ?_)
              refine jw_aload_n rfl rfl ?_
              refine jw_aload rfl rfl ?_
              refine js_call (As := [.inr (.inr (some q))]) rfl l_P_takeIn c_P_86 i_P_takeIn s_P_takeIn jc_o4 rfl (T5.1.1) rfl (cp_takeIn (x := x) (d := d - 1) (mc := 0) (ms := 0) hg T5 M5 (fun ot' la' => ?_) nw (by rw [x4]; exact w2) (fun i hi e => nq (by rw [← e]; exact (T4.2.2.2.2.1.2.2.2.2.1 i hi).1.1)) (fun i hi hti e => nq (by rw [← e]; exact (T4.2.2.2.2.1.2.2.2.1 i hi hti).1.1)) (fun z e => ?_) (fun y hy e => nq (by rw [← e]; exact (T4.1.2.2.2.2.2.2 y hy).1)) (by omega) (fun hfit => ?_) (fun d' os' ot' la' hfit h6 lst6 T6 H6 f6 => ?_)) (by omega) (Nat.le_of_ble_eq_true rfl) (by omega) (by omega) rfl
              · unfold rn_text
                rw [show rn_stop (L, n + 1, va_up T n x, ot', la') n = k by show (if n < n + 1 then tg_b (va_up T n x n) else _) = k; rw [if_pos (by omega), va_up_self, x1]]
                show sp_sub (tL L) (tp_at (va_up T n x) n) (k - tp_at (va_up T n x) n) = _
                rw [sg_at (Nat.le_refl _), ← hpT]
              · rcases M4 with ⟨m1, -⟩ | ⟨m1, m2, m3, m4, -⟩
                · exact z m1
                · exact nq (by rw [← e]; exact m4.1.1)
              · rw [x4, ex] at hfit
                simp only [hfit] at hR
                refine jw_if_ne 171 rfl rfl (fun z => absurd (rfl) z) (fun _ => ?_)
                exact at166 hR.symm h5 _ _ _ hr5.1 c5' F5 hr5.2.2.2.2.2.1
              · have hlv' := lv_fit hlv hx hfit
                rw [x4, ex] at hfit
                simp only [hfit] at hR
                rw [← ex] at hR
                rw [x5] at hlv'
                have c6 := c5'.tf ha f6
                have F6 := F5.tf f6
                have e6 : jh_i h6 r 264 = nI qq := (f6.2.1 264 (by decide)).trans hr5.2.2.2.2.2.1
                refine jw_if_ne 171 rfl rfl (fun _ => ?_) (fun z => absurd z (by decide))
                refine jw_aload_n rfl rfl ?_
                refine jw_dup rfl rfl ?_
                refine jw_gi rfl g_P_90 (T6.1.1) (c6.2.2.2.2.1) ?_
                refine js_iconst (x := 1) rfl rfl ?_
                refine jw_iaddV rfl (nI_1 n) ?_
                refine jw_pi rfl p_P_takeApart_90 (T6.1.1) ?_
                refine jw_aload_n rfl rfl ?_
                refine jw_gi rfl g_P_75 (T6.1.1) ((jh_u_k _ _ _ _ (by decide)).trans e6) ?_
                refine jw_aload rfl rfl ?_
                refine js_callK (As := []) rfl l_jS_length c_P_67 i_jS_length s_jS_length sk.2.1 rfl (ck_length (d := d - 1) (mc := 0) (ms := 0) hg sk (by omega) ?_) (by omega) (Nat.le_of_ble_eq_true rfl) (by omega) (by omega) rfl
                refine jw_iaddV rfl ((nI_add _ _).trans (congrArg nI (congrArg (qq + ·) cl_n))) ?_
                refine js_istore_n rfl rfl (by decide) rfl ?_
                refine js_iinc rfl rfl (nI_1 i) rfl (by decide) rfl ?_
                refine jw_goto 4 rfl rfl ?_
                have T7 := T6.si (k := 261) (v := nI (n + 1)) (by decide)
                have H7 : HH h0 (jh_si h6 r 261 (nI (n + 1))) (L, n + 1, va_up T n x, ot', la') A1 (va_up B n q) rt d' os' lst6 := H6
                have c7 : rcc (jh_si h6 r 261 (nI (n + 1))) r sb sch cap st L (n + 1) := by
                  obtain ⟨y1, y2, y3, y4, y5, y6⟩ := c6
                  have F : fr (fun b => b = r) h6 (jh_si h6 r 261 (nI (n + 1))) := fr.si fr.rf rfl
                  exact ⟨y1, y2.fr F a4 a7, y3, y4, jh_u_s _ _ _ _, (jh_u_k _ _ _ _ (by decide)).trans y6⟩
                obtain ⟨o1, o2, o3, o4⟩ := ap_ar hf hkl.1 hkl.2 ef hn2.1 hql.2 hqn hi hkc hks ehk1 ehk2
                have G := ih (qq + sp_n th) (n + 1) (va_up T n x) d' os' ot' la' hR o1 (i + 1) (jh_si h6 r 261 (nI (n + 1))) A1 (va_up B n q) lst6 (some (.inl (nI k))) (some (.inl (sp_b th))) (some (.inr (.inr (some (jg_c g cn))))) (some (.inr (.inr (some q)))) (hk1 - 10) (hk2 - (40 + 2 * (qq - fr0))) o2 hqn hlv' T7 H7 c7 F6.si o3 o4
                exact G
        refine js_istore rfl rfl (by decide) rfl ?_
        refine jw_iload rfl rfl ?_
        cases th with
        | true =>
          refine jw_if_eq 89 rfl rfl (fun z => absurd z (by decide)) (fun _ => ?_)
          refine jw_ldcS 12 rfl rfl ?_
          refine jw_goto 91 rfl rfl ?_
          rw [hcn, ehk1, ehk2] at at91
          exact at91
        | false =>
          refine jw_if_eq 89 rfl rfl (fun _ => ?_) (fun z => absurd (rfl) z)
          refine jw_ldcS 13 rfl rfl ?_
          rw [hcn, ehk1, ehk2] at at91
          exact at91

