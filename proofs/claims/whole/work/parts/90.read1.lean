/-! READER: the cursor -/
def rd_S (r st b : Nat) : Prop := b = r ∨ b = st
def rd_ok (h : jh_H) (r sb sch cap st : Nat) (L : List Nat) (c e : Nat) : Prop := jh_O h r 4 ∧ jh_r h r 256 = some sb ∧ tx_is h sb sch cap L ∧ L.length ≤ 200 ∧ jh_i h r 263 = nI c ∧ jh_i h r 264 = nI e ∧ c ≤ e ∧ e + 2 ≤ L.length ∧ jh_r h r 265 = some st ∧ jh_A h st 2 200
abbrev tL (L : List Nat) : Nat → Nat := fun i => L.getD i 0
/-- reading writes the cursor and the row of steps alone -/
def rd_f (r st : Nat) (h h' : jh_H) : Prop := fr (rd_S r st) h h' ∧ (∀ k, k ≠ 263 → jh_i h' r k = jh_i h r k) ∧ ∀ k, jh_r h' r k = jh_r h r k
theorem rd_f.rf {r st : Nat} {h : jh_H} : rd_f r st h h := ⟨fr.rf, fun _ _ => rfl, fun _ => rfl⟩
theorem rd_f.tr {r st : Nat} {h h1 h2 : jh_H} (a : rd_f r st h h1) (b : rd_f r st h1 h2) : rd_f r st h h2 := ⟨a.1.tr b.1 (fun _ _ z => z), fun k hk => (b.2.1 k hk).trans (a.2.1 k hk), fun k => (b.2.2 k).trans (a.2.2 k)⟩
theorem rd_f.si {r st : Nat} {h h1 : jh_H} {v : Int32} (a : rd_f r st h h1) : rd_f r st h (jh_si h1 r 263 v) := ⟨fr.si a.1 (Or.inl rfl), fun k hk => (jh_u_k _ _ _ _ hk).trans (a.2.1 k hk), a.2.2⟩
theorem rd_f.sG {r st j : Nat} {h h1 : jh_H} {v : Int64} (a : rd_f r st h h1) : rd_f r st h (jh_sG h1 st j v) := ⟨fr.sG a.1 (Or.inr rfl), a.2.1, a.2.2⟩
theorem rd_f.nw {r st : Nat} {h h1 h2 : jh_H} (a : rd_f r st h h1) (ho : jh_O h1 r 4) (f : fr (fun _ => False) h1 h2) : rd_f r st h h2 := by
  have e := f.2 r ho.1 id
  exact ⟨a.1.tr f (fun _ _ z => absurd z id), fun k hk => (e.2.2.1 k).trans (a.2.1 k hk), fun k => (e.2.2.2.2.1 k).trans (a.2.2 k)⟩
theorem rd_ok.cur {h : jh_H} {r sb sch cap st : Nat} {L : List Nat} {c c' e : Nat} (hr : rd_ok h r sb sch cap st L c e) (hc : c' ≤ e) : rd_ok (jh_si h r 263 (nI c')) r sb sch cap st L c' e := by
  obtain ⟨r1, r2, r3, r4, r5, r6, r7, r8, r9, r10⟩ := hr
  have f : fr (fun b => b = r) h (jh_si h r 263 (nI c')) := fr.si fr.rf rfl
  exact ⟨r1, r2, r3.fr f (fun e => jO_ne r3.1.1 r1 (by decide) e) (fun e => jOA_ne r1 r3.1.2.1 (by decide) e.symm), r4, jh_u_s _ _ _ _, (jh_u_k _ _ _ _ (by decide)).trans r6, hc, r8, r9, r10⟩
theorem rd_ok.nw {h h' : jh_H} {r sb sch cap st : Nat} {L : List Nat} {c e : Nat} (hr : rd_ok h r sb sch cap st L c e) (f : fr (fun _ => False) h h') : rd_ok h' r sb sch cap st L c e := by
  obtain ⟨r1, r2, r3, r4, r5, r6, r7, r8, r9, r10⟩ := hr
  have y := f.2 r r1.1 id
  exact ⟨y.O r1, (y.2.2.2.2.1 256).trans r2, r3.fr f id id, r4, (y.2.2.1 263).trans r5, (y.2.2.1 264).trans r6, r7, r8, (y.2.2.2.2.1 265).trans r9, f.A r10⟩
theorem rd_ok.sG {h : jh_H} {r sb sch cap st j : Nat} {v : Int64} {L : List Nat} {c e : Nat} (hr : rd_ok h r sb sch cap st L c e) : rd_ok (jh_sG h st j v) r sb sch cap st L c e := by
  obtain ⟨r1, r2, r3, r4, r5, r6, r7, r8, r9, r10⟩ := hr
  have f : fr (fun b => b = st) h (jh_sG h st j v) := fr.sG fr.rf rfl
  exact ⟨r1, r2, r3.fr f (fun e => jOA_ne r3.1.1 r10 (by decide) e) (fun e => jA_ne r3.1.2.1 r10 (by decide) e), r4, r5, r6, r7, r8, r9, r10⟩
set_option maxHeartbeats 4000000 in
set_option maxRecDepth 100000 in
theorem cp_accept {g : jg_G} (hg : (jg_l g).stackTraces = false) {d mc ms : Nat} {h : jh_H} {r sb sch cap st n : Nat} {L W : List Nat} {c e : Nat} {Q : jw_O → jh_H → Prop} (hr : rd_ok h r sb sch cap st L c e) (hs : sk_ok n W) (hW : W ≠ []) (h0 : ∀ c ∈ W, c ≠ 0) (hd : 5 ≤ d) (q1 : sp_st (tL L) e c W = true → c + W.length ≤ e → ∀ h', rd_ok h' r sb sch cap st L (c + W.length) e → rd_f r st h h' → fr (fun b => b = r) h h' → Q (.inl (some (.inl 1))) h') (q2 : sp_st (tL L) e c W = false → Q (.inl (some (.inl 0))) h) : jw_C g d mc ms m_P_accept [.inr (.inr (some r)), .inr (.inr (some (jg_c g n)))] h Q := by
  refine jw_intro (ls := [some (.inr (.inr (some r))), some (.inr (.inr (some (jg_c g n)))), none]) (by decide) k_P_accept rfl (by simp [lo_fit, jv_c]) hg ?_
  obtain ⟨r1, r2, r3, r4, r5, r6, r7, r8, r9, r10⟩ := id hr
  refine jw_aload_n rfl rfl ?_
  refine jw_gr rfl g_P_38 (r1) (r2) ?_
  refine jw_aload_n rfl rfl ?_
  refine jw_aload_n rfl rfl ?_
  refine jw_gi rfl g_P_72 (r1) (r5) ?_
  refine jw_aload_n rfl rfl ?_
  refine jw_gi rfl g_P_75 (r1) (r6) ?_
  refine js_call (As := [.inr (.inr (some (jg_c g n))), .inl (nI c), .inl (nI e)]) rfl l_T_hasWord c_P_59 i_T_hasWord s_T_hasWord jc_o1 rfl (r3.1.1) rfl (ct_hasWord (d := d - 1) (mc := 0) (ms := 0) hg r3 hs hW h0 (by omega) (by omega) (by omega) ?_) (by omega) (Nat.le_of_ble_eq_true rfl) (by omega) (by omega) rfl
  cases es : sp_st (fun i => L.getD i 0) e c W with
  | true =>
    have hlen : c + W.length ≤ e := by
      rcases Nat.lt_or_ge e (c + W.length) with z | z
      · exact absurd ((st_out hW h0 z).symm.trans es) (by decide)
      · exact z
    refine js_istore_n rfl rfl (by decide) rfl ?_
    refine jw_iload_n rfl rfl ?_
    refine jw_if_eq 34 rfl rfl (fun z => absurd z (by decide)) (fun _ => ?_)
    refine jw_aload_n rfl rfl ?_
    refine jw_dup rfl rfl ?_
    refine jw_gi rfl g_P_72 (r1) (r5) ?_
    refine jw_aload_n rfl rfl ?_
    refine js_callK (As := []) rfl l_jS_length c_P_67 i_jS_length s_jS_length hs.2.1 rfl (ck_length (d := d - 1) (mc := 0) (ms := 0) hg hs (by omega) ?_) (by omega) (Nat.le_of_ble_eq_true rfl) (by omega) (by omega) rfl
    refine jw_iaddV rfl (nI_add _ _) ?_
    refine jw_pi rfl p_P_accept_72 (r1) ?_
    refine jw_iload_n rfl rfl ?_
    refine jw_ireturn rfl rfl rfl ?_
    exact q1 es hlen _ (hr.cur hlen) rd_f.rf.si (fr.si fr.rf rfl)
  | false =>
    refine js_istore_n rfl rfl (by decide) rfl ?_
    refine jw_iload_n rfl rfl ?_
    refine jw_if_eq 34 rfl rfl (fun _ => ?_) (fun z => absurd (rfl) z)
    refine jw_iload_n rfl rfl ?_
    refine jw_ireturn rfl rfl rfl ?_
    exact q2 es
set_option maxHeartbeats 4000000 in
set_option maxRecDepth 100000 in
theorem cp_isInside {g : jg_G} (hg : (jg_l g).stackTraces = false) {d mc ms : Nat} {h : jh_H} {r sb sch cap st n : Nat} {L W : List Nat} {c e : Nat} {Q : jw_O → jh_H → Prop} (hr : rd_ok h r sb sch cap st L c e) (hs : sk_ok n W) (hW : W ≠ []) (h0 : ∀ c ∈ W, c ≠ 0) (hd : 5 ≤ d) (hq : Q (.inl (some (.inl (sp_b (decide (e - c = W.length ∧ sp_st (tL L) e c W = true)))))) h) : jw_C g d mc ms m_P_isInside [.inr (.inr (some r)), .inr (.inr (some (jg_c g n)))] h Q := by
  refine jw_intro (ls := [some (.inr (.inr (some r))), some (.inr (.inr (some (jg_c g n))))]) (by decide) k_P_isInside rfl (by simp [lo_fit, jv_c]) hg ?_
  obtain ⟨r1, r2, r3, r4, r5, r6, r7, r8, r9, r10⟩ := id hr
  have h100 := hs.2.2.2.2.2
  refine jw_aload_n rfl rfl ?_
  refine jw_gi rfl g_P_75 (r1) (r6) ?_
  refine jw_aload_n rfl rfl ?_
  refine jw_gi rfl g_P_72 (r1) (r5) ?_
  refine jw_isubV rfl (pk_sub r7) ?_
  refine jw_aload_n rfl rfl ?_
  refine js_callK (As := []) rfl l_jS_length c_P_67 i_jS_length s_jS_length hs.2.1 rfl (ck_length (d := d - 1) (mc := 0) (ms := 0) hg hs (by omega) ?_) (by omega) (Nat.le_of_ble_eq_true rfl) (by omega) (by omega) rfl
  by_cases ce : e - c = W.length
  · refine jw_icmp_ne 39 rfl rfl (fun z => absurd (congrArg nI ce) z) (fun _ => ?_)
    refine jw_aload_n rfl rfl ?_
    refine jw_gr rfl g_P_38 (r1) (r2) ?_
    refine jw_aload_n rfl rfl ?_
    refine jw_aload_n rfl rfl ?_
    refine jw_gi rfl g_P_72 (r1) (r5) ?_
    refine jw_aload_n rfl rfl ?_
    refine jw_gi rfl g_P_75 (r1) (r6) ?_
    refine js_call (As := [.inr (.inr (some (jg_c g n))), .inl (nI c), .inl (nI e)]) rfl l_T_hasWord c_P_59 i_T_hasWord s_T_hasWord jc_o1 rfl (r3.1.1) rfl (ct_hasWord (d := d - 1) (mc := 0) (ms := 0) hg r3 hs hW h0 (by omega) (by omega) (by omega) ?_) (by omega) (Nat.le_of_ble_eq_true rfl) (by omega) (by omega) rfl
    cases es : sp_st (fun i => L.getD i 0) e c W with
    | true =>
      refine jw_if_eq 39 rfl rfl (fun z => absurd z (by decide)) (fun _ => ?_)
      refine js_iconst (x := 1) rfl rfl ?_
      refine jw_goto 40 rfl rfl ?_
      refine jw_ireturn rfl rfl rfl ?_
      have : decide (e - c = W.length ∧ sp_st (tL L) e c W = true) = true := decide_eq_true ⟨ce, es⟩
      rw [this] at hq
      exact hq
    | false =>
      refine jw_if_eq 39 rfl rfl (fun _ => ?_) (fun z => absurd (rfl) z)
      refine js_iconst (x := 0) rfl rfl ?_
      refine jw_ireturn rfl rfl rfl ?_
      have : decide (e - c = W.length ∧ sp_st (tL L) e c W = true) = false := decide_eq_false (fun z => absurd (es.symm.trans z.2) (by decide))
      rw [this] at hq
      exact hq
  · refine jw_icmp_ne 39 rfl rfl (fun _ => ?_) (fun z => absurd z (fun z => ce ((nI_eq (by omega) (by omega)).mp z)))
    refine js_iconst (x := 0) rfl rfl ?_
    refine jw_ireturn rfl rfl rfl ?_
    have : decide (e - c = W.length ∧ sp_st (tL L) e c W = true) = false := decide_eq_false (fun z => ce z.1)
    rw [this] at hq
    exact hq
theorem rd_ch {h : jh_H} {r sb sch cap st : Nat} {L : List Nat} {c e : Nat} (hr : rd_ok h r sb sch cap st L c e) (hc : c < e) : jh_r h sb 64 = some sch ∧ jh_A h sch 0 cap ∧ c < cap ∧ jh_I h sch c = nI (tL L c) ∧ tL L c < 128 ∧ sp_at (tL L) c e = tL L c := by
  obtain ⟨r1, r2, r3, r4, r5, r6, r7, r8, r9, r10⟩ := hr
  have hl := r3.1.2.2.2.2.1
  exact ⟨r3.1.2.2.1, r3.1.2.1, by omega, (r3.2 c (by omega)).1, (r3.2 c (by omega)).2, if_pos hc⟩
set_option maxHeartbeats 4000000 in
set_option maxRecDepth 100000 in
theorem cp_isDigit {g : jg_G} (hg : (jg_l g).stackTraces = false) {d mc ms : Nat} {h : jh_H} {r sb sch cap st : Nat} {L : List Nat} {c e : Nat} {Q : jw_O → jh_H → Prop} (hr : rd_ok h r sb sch cap st L c e) (hq : Q (.inl (some (.inl (sp_b (sp_dg (sp_at (tL L) c e)))))) h) : jw_C g d mc ms m_P_isDigitNext [.inr (.inr (some r))] h Q := by
  refine jw_intro (ls := [some (.inr (.inr (some r)))]) (by decide) k_P_isDigitNext rfl (by simp [lo_fit, jv_c]) hg ?_
  obtain ⟨r1, r2, r3, r4, r5, r6, r7, r8, r9, r10⟩ := id hr
  have hcap := r3.1.2.2.2.2.2
  refine jw_aload_n rfl rfl ?_
  refine jw_gi rfl g_P_72 (r1) (r5) ?_
  refine jw_aload_n rfl rfl ?_
  refine jw_gi rfl g_P_75 (r1) (r6) ?_
  by_cases hc : c < e
  · obtain ⟨c1, c2, c3, c4, c5, c6⟩ := rd_ch hr hc
    rw [c6] at hq
    generalize tL L c = x at *
    refine jw_icmp_ge 49 rfl rfl (fun z => absurd z (fun z => absurd ((nI_leI (by omega) (by omega)).mp z) (by omega))) (fun _ => ?_)
    refine jw_aload_n rfl rfl ?_
    refine jw_gr rfl g_P_38 (r1) (r2) ?_
    refine jw_gr rfl g_P_210 (r3.1.1) (c1) ?_
    refine jw_aload_n rfl rfl ?_
    refine jw_gi rfl g_P_72 (r1) (r5) ?_
    refine js_caldV (c) rfl (c2) (by decide) (by rfl) rfl (by omega) (by omega) (c4) ?_
    refine js_bipush (x := 48) rfl rfl ?_
    by_cases c48 : x < 48
    · refine jw_icmp_lt 49 rfl rfl (fun _ => ?_) (fun z => absurd ((nI_ltI (b := 48) (by omega) (by decide)).mpr c48) z)
      refine js_iconst (x := 0) rfl rfl ?_
      refine jw_ireturn rfl rfl rfl ?_
      have : sp_dg x = false := by unfold sp_dg; exact decide_eq_false (by omega)
      rw [this] at hq
      exact hq
    · refine jw_icmp_lt 49 rfl rfl (fun z => absurd z (fun z => c48 ((nI_ltI (b := 48) (by omega) (by decide)).mp z))) (fun _ => ?_)
      refine jw_aload_n rfl rfl ?_
      refine jw_gr rfl g_P_38 (r1) (r2) ?_
      refine jw_gr rfl g_P_210 (r3.1.1) (c1) ?_
      refine jw_aload_n rfl rfl ?_
      refine jw_gi rfl g_P_72 (r1) (r5) ?_
      refine js_caldV (c) rfl (c2) (by decide) (by rfl) rfl (by omega) (by omega) (c4) ?_
      refine js_bipush (x := 57) rfl rfl ?_
      by_cases c57 : 57 < x
      · refine jw_icmp_gt 49 rfl rfl (fun _ => ?_) (fun z => absurd ((nI_ltI (a := 57) (by decide) (by omega)).mpr c57) z)
        refine js_iconst (x := 0) rfl rfl ?_
        refine jw_ireturn rfl rfl rfl ?_
        have : sp_dg x = false := by unfold sp_dg; exact decide_eq_false (by omega)
        rw [this] at hq
        exact hq
      · refine jw_icmp_gt 49 rfl rfl (fun z => absurd z (fun z => c57 ((nI_ltI (a := 57) (by decide) (by omega)).mp z))) (fun _ => ?_)
        refine js_iconst (x := 1) rfl rfl ?_
        refine jw_goto 50 rfl rfl ?_
        refine jw_ireturn rfl rfl rfl ?_
        have : sp_dg x = true := by unfold sp_dg; exact decide_eq_true (by omega)
        rw [this] at hq
        exact hq
  · refine jw_icmp_ge 49 rfl rfl (fun _ => ?_) (fun z => absurd ((nI_leI (by omega) (by omega)).mpr (by omega)) z)
    refine js_iconst (x := 0) rfl rfl ?_
    refine jw_ireturn rfl rfl rfl ?_
    have : sp_dg (sp_at (tL L) c e) = false := by rw [sp_at, if_neg hc]; rfl
    rw [this] at hq
    exact hq
set_option maxHeartbeats 4000000 in
set_option maxRecDepth 100000 in
theorem cp_readDigit {g : jg_G} (hg : (jg_l g).stackTraces = false) {d mc ms : Nat} {h : jh_H} {r sb sch cap st : Nat} {L : List Nat} {c e : Nat} {Q : jw_O → jh_H → Prop} (hr : rd_ok h r sb sch cap st L c e) (hc : c < e) (hq : Q (.inl (some (.inl (nI (tL L c) - 48)))) (jh_si h r 263 (nI (c + 1)))) : jw_C g d mc ms m_P_readDigit [.inr (.inr (some r))] h Q := by
  refine jw_intro (ls := [some (.inr (.inr (some r)))]) (by decide) k_P_readDigit rfl (by simp [lo_fit, jv_c]) hg ?_
  obtain ⟨r1, r2, r3, r4, r5, r6, r7, r8, r9, r10⟩ := id hr
  have h1 := hr.cur (c' := c + 1) (by omega)
  obtain ⟨c1, c2, c3, c4, c5, c6⟩ := rd_ch hr hc
  have y : ∀ k, jh_I (jh_si h r 263 (nI (c + 1))) sch k = jh_I h sch k := fun k => rfl
  have hcap := r3.1.2.2.2.2.2
  refine jw_aload_n rfl rfl ?_
  refine jw_dup rfl rfl ?_
  refine jw_gi rfl g_P_72 (r1) (r5) ?_
  refine js_iconst (x := 1) rfl rfl ?_
  refine jw_iaddV rfl (nI_1 c) ?_
  refine jw_pi rfl p_P_readDigit_72 (r1) ?_
  refine jw_aload_n rfl rfl ?_
  refine jw_gr rfl g_P_38 (h1.1) (h1.2.1) ?_
  refine jw_gr rfl g_P_210 (h1.2.2.1.1.1) (c1) ?_
  refine jw_aload_n rfl rfl ?_
  refine jw_gi rfl g_P_72 (h1.1) (h1.2.2.2.2.1) ?_
  refine js_iconst (x := 1) rfl rfl ?_
  refine jw_isubV rfl (nI_pred c) ?_
  refine js_caldV (c) rfl (c2) (by decide) (by rfl) rfl (by omega) (by omega) (c4) ?_
  refine js_bipush (x := 48) rfl rfl ?_
  refine jw_isub rfl ?_
  refine jw_ireturn rfl rfl rfl ?_
  exact hq
theorem sp_ln_1 {t : Nat → Nat} {e n p : Nat} (h : p + (n + 1) = e) : sp_ln t e (n + 1) p = if sp_lt (t p) then sp_ln t e n (p + 1) + 1 else 0 := by
  rw [sp_ln, show sp_at t p e = t p from if_pos (by omega)]
set_option maxHeartbeats 4000000 in
set_option maxRecDepth 100000 in
theorem cp_readName {g : jg_G} (hg : (jg_l g).stackTraces = false) {d mc ms : Nat} {h : jh_H} {r sb sch cap st : Nat} {L : List Nat} {c e : Nat} {Q : jw_O → jh_H → Prop} (hr : rd_ok h r sb sch cap st L c e) (hd : 1 ≤ d) (hq : ∀ h', rd_ok h' r sb sch cap st L (c + sp_letters (tL L) c e) e → rd_f r st h h' → fr (fun b => b = r) h h' → Q (.inl (some (.inr (.inl (nm7 (sp_sub (tL L) c (sp_letters (tL L) c e))))))) h') : jw_C g d mc ms m_P_readName [.inr (.inr (some r))] h Q := by
  refine jw_intro (ls := [some (.inr (.inr (some r))), none]) (by decide) k_P_readName rfl (by simp [lo_fit, jv_c]) hg ?_
  obtain ⟨r1, r2, r3, r4, r5, r6, r7, r8, r9, r10⟩ := id hr
  have hcap := r3.1.2.2.2.2.2
  have at63 : ∀ k h1, rd_ok h1 r sb sch cap st L (c + k) e → rd_f r st h h1 → fr (fun b => b = r) h h1 → k = sp_letters (tL L) c e → jw_J g d m_P_readName jw_T0 63 [some (.inr (.inr (some r))), some (.inl (nI c))] [] h1 mc ms Q := by
    intro k h1 hr1 f1 g1 ek
    obtain ⟨s1, s2, s3, s4, s5, s6, s7, s8, s9, s10⟩ := id hr1
    refine jw_aload_n rfl rfl ?_
    refine jw_gr rfl g_P_38 (s1) (s2) ?_
    refine jw_iload_n rfl rfl ?_
    refine jw_aload_n rfl rfl ?_
    refine jw_gi rfl g_P_72 (s1) (s5) ?_
    refine js_call (As := [.inl (nI c), .inl (nI (c + k))]) rfl l_T_nameCode c_P_331 i_T_nameCode s_T_nameCode jc_o1 rfl (s3.1.1) rfl (ct_nameCode (d := d - 1) (mc := 0) (ms := 0) hg s3 (by omega) (by omega) ?_) (by omega) (Nat.le_of_ble_eq_true rfl) (by omega) (by omega) rfl
    refine jw_lreturn rfl rfl ?_
    have := hq h1 (by rw [← ek]; exact hr1) f1 g1
    rw [← ek] at this
    rw [show c + k - c = k by omega]
    exact this
  have loop : ∀ m k h1, c + k + m = e → rd_ok h1 r sb sch cap st L (c + k) e → rd_f r st h h1 → fr (fun b => b = r) h h1 → k + sp_ln (tL L) e m (c + k) = sp_letters (tL L) c e → jw_J g d m_P_readName jw_T0 5 [some (.inr (.inr (some r))), some (.inl (nI c))] [] h1 mc ms Q := by
    intro m
    induction m with
    | zero =>
      intro k h1 hm hr1 f1 g1 ek
      obtain ⟨s1, s2, s3, s4, s5, s6, s7, s8, s9, s10⟩ := id hr1
      refine jw_aload_n rfl rfl ?_
      refine jw_gi rfl g_P_72 (s1) (s5) ?_
      refine jw_aload_n rfl rfl ?_
      refine jw_gi rfl g_P_75 (s1) (s6) ?_
      refine jw_icmp_ge 63 rfl rfl (fun _ => ?_) (fun z => absurd ((nI_leI (by omega) (by omega)).mpr (by omega)) z)
      exact at63 k h1 hr1 f1 g1 ek
    | succ m ih =>
      intro k h1 hm hr1 f1 g1 ek
      obtain ⟨s1, s2, s3, s4, s5, s6, s7, s8, s9, s10⟩ := id hr1
      obtain ⟨c1, c2, c3, c4, c5, c6⟩ := rd_ch hr1 (by omega)
      rw [sp_ln_1 hm] at ek
      generalize tL L (c + k) = x at c4 c5 c6 ek
      refine jw_aload_n rfl rfl ?_
      refine jw_gi rfl g_P_72 (s1) (s5) ?_
      refine jw_aload_n rfl rfl ?_
      refine jw_gi rfl g_P_75 (s1) (s6) ?_
      refine jw_icmp_ge 63 rfl rfl (fun z => absurd z (fun z => absurd ((nI_leI (by omega) (by omega)).mp z) (by omega))) (fun _ => ?_)
      refine jw_aload_n rfl rfl ?_
      refine jw_gr rfl g_P_38 (s1) (s2) ?_
      refine jw_gr rfl g_P_210 (s3.1.1) (c1) ?_
      refine jw_aload_n rfl rfl ?_
      refine jw_gi rfl g_P_72 (s1) (s5) ?_
      refine js_caldV (c + k) rfl (c2) (by decide) (by rfl) rfl (by omega) (by omega) (c4) ?_
      refine js_bipush (x := 97) rfl rfl ?_
      by_cases c97 : x < 97
      · rw [if_neg (by unfold sp_lt; rw [decide_eq_true_iff]; omega)] at ek
        refine jw_icmp_lt 63 rfl rfl (fun _ => ?_) (fun z => absurd ((nI_ltI (b := 97) (by omega) (by decide)).mpr c97) z)
        exact at63 k h1 hr1 f1 g1 ek
      · refine jw_icmp_lt 63 rfl rfl (fun z => absurd z (fun z => c97 ((nI_ltI (b := 97) (by omega) (by decide)).mp z))) (fun _ => ?_)
        refine jw_aload_n rfl rfl ?_
        refine jw_gr rfl g_P_38 (s1) (s2) ?_
        refine jw_gr rfl g_P_210 (s3.1.1) (c1) ?_
        refine jw_aload_n rfl rfl ?_
        refine jw_gi rfl g_P_72 (s1) (s5) ?_
        refine js_caldV (c + k) rfl (c2) (by decide) (by rfl) rfl (by omega) (by omega) (c4) ?_
        refine js_bipush (x := 122) rfl rfl ?_
        by_cases c122 : 122 < x
        · rw [if_neg (by unfold sp_lt; rw [decide_eq_true_iff]; omega)] at ek
          refine jw_icmp_gt 63 rfl rfl (fun _ => ?_) (fun z => absurd ((nI_ltI (a := 122) (by decide) (by omega)).mpr c122) z)
          exact at63 k h1 hr1 f1 g1 ek
        · rw [if_pos (by unfold sp_lt; rw [decide_eq_true_iff]; omega)] at ek
          refine jw_icmp_gt 63 rfl rfl (fun z => absurd z (fun z => c122 ((nI_ltI (a := 122) (by decide) (by omega)).mp z))) (fun _ => ?_)
          refine jw_aload_n rfl rfl ?_
          refine jw_dup rfl rfl ?_
          refine jw_gi rfl g_P_72 (s1) (s5) ?_
          refine js_iconst (x := 1) rfl rfl ?_
          refine jw_iaddV rfl (nI_1 (c + k)) ?_
          refine jw_pi rfl p_P_readName_72 (s1) ?_
          refine jw_goto 5 rfl rfl ?_
          exact ih (k + 1) _ (by omega) (hr1.cur (by omega)) f1.si (fr.si g1 rfl) (by rw [← ek]; show _ = k + (sp_ln (tL L) e m (c + (k + 1)) + 1); omega)
  refine jw_aload_n rfl rfl ?_
  refine jw_gi rfl g_P_72 (r1) (r5) ?_
  refine js_istore_n rfl rfl (by decide) rfl ?_
  exact loop (e - c) 0 h (by omega) hr rd_f.rf fr.rf (by rw [Nat.zero_add]; rfl)

