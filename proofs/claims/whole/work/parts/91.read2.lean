/-! READER: operands -/
set_option maxHeartbeats 4000000 in
set_option maxRecDepth 100000 in
theorem cj_copyOf {g : jg_G} (hg : (jg_l g).stackTraces = false) {d mc ms : Nat} {h : jh_H} {st m : Nat} {Q : jw_O → jh_H → Prop} (hA : jh_A h st 2 200) (hm : m < 200) (hd : 1 ≤ d) (hmc : 1 ≤ mc) (hms : m ≤ ms) (hq : ∀ h' q, q ∉ jh_L h → jh_A h' q 2 m → (∀ j, j < m → jh_G h' q j = jh_G h st j) → fr (fun _ => False) h h' → Q (.inl (some (.inr (.inr (some q))))) h') : jw_C g d mc ms m_jA_copyOf [.inr (.inr (some st)), .inl (nI m)] h Q := by
  refine jw_intro (ls := [some (.inr (.inr (some st))), some (.inl (nI m)), none]) (by decide) k_jA_copyOf rfl (by simp [lo_fit, jv_c]) hg ?_
  refine jw_iload_n rfl rfl ?_
  refine jw_aload_n rfl rfl ?_
  refine js_alen rfl (hA) (by decide) ?_
  refine jw_icmp_ne 14 rfl rfl (fun _ => ?_) (fun z => absurd z (fun z => absurd ((nI_eq (a := m) (b := 200) (by omega) (by decide)).mp z) (by omega)))
  refine jw_iload_n rfl rfl ?_
  refine jw_newa (t := 2) (n := m) rfl (by decide) rfl (Or.inr rfl) v_2 rfl (by rw [show componentBytes (jc_at 2) = 8 from rfl]; omega) (by omega) (by omega) (by omega) (fun q15 hq15 => ?_)
  refine js_astore_n rfl rfl (by decide) rfl ?_
  have hA1 : jh_A (jh_nw h q15 102 m) st 2 200 := jh_nwA hA hq15
  have hB1 : jh_A (jh_nw h q15 102 m) q15 2 m := jh_nw_A (t := 2)
  have f1 : fr (fun _ => False) h (jh_nw h q15 102 m) := fr.nw fr.rf hq15
  refine jw_aload_n rfl rfl ?_
  refine js_iconst (x := 0) rfl rfl ?_
  refine jw_aload_n rfl rfl ?_
  refine js_iconst (x := 0) rfl rfl ?_
  refine jw_aload_n rfl rfl ?_
  refine js_alen rfl (hA1) (by decide) ?_
  refine jw_iload_n rfl rfl ?_
  refine jw_min rfl mx_jA_304 (by omega) (Nat.le_of_ble_eq_true rfl) ((nI_min (a := 200) (b := m) (by decide) (by omega)).trans (congrArg nI (show min 200 m = m by omega))) ?_
  refine jw_copyl rfl mx_jA_150 (by omega) (by decide) hA1 hB1 (by omega) (Nat.le_refl _) (by omega) ?_
  refine jw_aload_n rfl rfl ?_
  refine jw_areturn rfl rfl (Or.inr ⟨_, rfl⟩) ?_
  refine hq _ q15 hq15 hB1 (fun j hj => ?_) ((fr.cG (S := fun b => b = q15) (f1.mono (fun _ _ z => absurd z id)) rfl).mono (fun b hb z => hq15 (by rw [← z]; exact hb)))
  show (if q15 = q15 then va_cpy (jh_G (jh_nw h q15 102 m) st) (jh_G (jh_nw h q15 102 m) q15) 0 0 m else jh_G (jh_nw h q15 102 m) q15) j = _
  rw [if_pos rfl]
  show (if 0 ≤ j ∧ j < 0 + m then jh_G (jh_nw h q15 102 m) st (0 + (j - 0)) else _) = _
  rw [if_pos ⟨by omega, by omega⟩, show 0 + (j - 0) = j by omega]
  exact (f1.2 _ hA.1 id).2.2.2.2.2.2.1 j
set_option maxHeartbeats 4000000 in
set_option maxRecDepth 100000 in
theorem co_init {g : jg_G} (hg : (jg_l g).stackTraces = false) {d mc ms : Nat} {h : jh_H} {q n : Nat} {Q : jw_O → jh_H → Prop} (ho : jh_O h q 7) (hd : 1 ≤ d) (hq : Q (.inl none) (jh_sr h q 448 (some n))) : jw_C g d mc ms m_O_init [.inr (.inr (some q)), .inr (.inr (some n))] h Q := by
  refine jw_intro (ls := [some (.inr (.inr (some q))), some (.inr (.inr (some n)))]) (by decide) k_O_init rfl (by simp [lo_fit, jv_c]) hg ?_
  refine jw_aload_n rfl rfl ?_
  refine jw_obj rfl oi_O_1 (by omega) (Nat.le_of_ble_eq_true rfl) ?_
  refine jw_aload_n rfl rfl ?_
  refine jw_aload_n rfl rfl ?_
  refine jw_pr rfl p_O_init_7 (ho) ?_
  refine jw_return rfl rfl ?_
  exact hq
theorem ex_dec_add (t : Nat → Nat) : ∀ n p v, ex_dec t (n + 1) p v = ex_dec t n p v * 10 + nI (t (p + n)) - 48 := by
  intro n
  induction n with
  | zero => intro p v; rfl
  | succ n ih =>
    intro p v
    rw [ex_dec, ih, ex_dec, show p + 1 + n = p + (n + 1) by omega]
theorem sp_digits_k (t : Nat → Nat) (e : Nat) : ∀ f k j, j + f = 5 → (∀ i, i < j → sp_dg (sp_at t (k + i) e) = true) → sp_digits t e 5 k = sp_digits t e f (k + j) := by
  intro f
  induction f with
  | zero =>
    intro k j hj hd
    have : j = 5 := by omega
    subst this
    have z : ∀ n k, (∀ i, i < n → sp_dg (sp_at t (k + i) e) = true) → sp_digits t e n k = k + n := by
      intro n
      induction n with
      | zero => intro k _; rfl
      | succ n ih =>
        intro k h
        rw [sp_digits, if_pos (by have := h 0 (by omega); simpa using this), ih (k + 1) (fun i hi => by have := h (i + 1) (by omega); rw [show k + 1 + i = k + (i + 1) by omega]; exact this)]
        omega
    exact z 5 k hd
  | succ f ih =>
    intro k j hj hd
    have z : ∀ m n k, (∀ i, i < m → sp_dg (sp_at t (k + i) e) = true) → sp_digits t e (m + n) k = sp_digits t e n (k + m) := by
      intro m
      induction m with
      | zero => intro n k _; rw [Nat.zero_add]; rfl
      | succ m ih =>
        intro n k h
        rw [show m + 1 + n = (m + n) + 1 by omega, sp_digits, if_pos (by have := h 0 (by omega); simpa using this), ih n (k + 1) (fun i hi => by have := h (i + 1) (by omega); rw [show k + 1 + i = k + (i + 1) by omega]; exact this), show k + 1 + m = k + (m + 1) by omega]
    have := z j (f + 1) k hd
    rw [show j + (f + 1) = 5 by omega] at this
    exact this
set_option maxHeartbeats 4000000 in
set_option maxRecDepth 100000 in
theorem cp_readNumber {g : jg_G} (hg : (jg_l g).stackTraces = false) {d mc ms : Nat} {h : jh_H} {r sb sch cap st : Nat} {L : List Nat} {c e : Nat} {P : Nat → Prop} {Q : jw_O → jh_H → Prop} (hr : rd_ok h r sb sch cap st L c e) (hP : ∀ b, b ∉ jh_L h → P b) (hd : 5 ≤ d) (hmc : 2 ≤ mc) (hms : 11 ≤ ms) (hq : ∀ h' q, sp_digits (tL L) e 5 c ≤ e → c ≤ sp_digits (tL L) e 5 c → rd_ok h' r sb sch cap st L (sp_digits (tL L) e 5 c) e → rd_f r st h h' → op_ok g h' P (.inl (ex_dec (tL L) (sp_digits (tL L) e 5 c - c) c 0)) q → Q (.inl (some (.inr (.inr (some q))))) h') : jw_C g d mc ms m_P_readNumber [.inr (.inr (some r))] h Q := by
  refine jw_intro (ls := [some (.inr (.inr (some r))), none, none]) (by decide) k_P_readNumber rfl (by simp [lo_fit, jv_c]) hg ?_
  have e7 : (jc_q 7).2.2 = 4 := rfl
  have at32 : ∀ j h1 l2, c + j ≤ e → rd_ok h1 r sb sch cap st L (c + j) e → rd_f r st h h1 → (∀ b, b ∈ jh_L h → b ∈ jh_L h1) → sp_digits (tL L) e 5 c = c + j → jw_J g d m_P_readNumber jw_T0 32 [some (.inr (.inr (some r))), some (.inl (ex_dec (tL L) j c 0)), some (.inl l2)] [] h1 mc ms Q := by
    intro j h1 l2 hj hr1 f1 hL ed
    refine jw_new rfl jc_o7 n_P_270 a_7 b_7 e_7 (by omega) (by omega) (fun q32 hq32 => ?_)
    refine jw_dup rfl rfl ?_
    refine jw_gst rfl kz_23 y_P_292 ?_
    refine js_callI (As := [.inr (.inr (some (jg_c g 123)))]) rfl l_O_init c_P_278 i_O_init rfl rfl rfl (co_init (d := d - 1) (mc := 0) (ms := 0) hg jh_nw_O (by omega) ?_) (by omega) (Nat.le_of_ble_eq_true rfl) (by omega) (by omega) rfl
    refine js_astore_n rfl rfl (by decide) rfl ?_
    obtain ⟨h2, eh2⟩ : ∃ z, z = jh_sr (jh_nw h1 q32 7 (jc_q 7).2.2) q32 448 (some (jg_c g 123)) := ⟨_, rfl⟩
    have O2 : jh_O h2 q32 7 := by rw [eh2]; exact jh_nw_O
    have f2 : fr (fun _ => False) h1 h2 := by rw [eh2]; exact (fr.sr (S := fun b => b = q32) (fr.nw fr.rf hq32) rfl).mono (fun b hb z => hq32 (by rw [← z]; exact hb))
    have s2 : jh_r h2 q32 448 = some (jg_c g 123) := by rw [eh2]; exact jh_u_s _ _ _ _
    rw [← eh2]
    refine jw_aload_n rfl rfl ?_
    refine jw_iload_n rfl rfl ?_
    refine js_callS (As := [.inl (ex_dec (tL L) j c 0)]) rfl l_V_ofNumber c_P_295 i_V_ofNumber rfl (cv_ofNumber (d := d - 1) (mc := 1) (ms := 7) hg (by omega) (by omega) (by omega) (fun h3 qv hqv t3 f3 => ?_)) (by omega) (Nat.le_of_ble_eq_true rfl) (by omega) (by omega) rfl
    have O3 := f3.O O2
    refine jw_pr rfl p_P_readNumber_301 (O3) ?_
    refine jw_aload_n rfl rfl ?_
    refine jw_areturn rfl rfl (Or.inl ⟨_, rfl⟩) ?_
    have F3 : fr (fun _ => False) h1 h3 := f2.tr f3 (fun _ _ z => z)
    have qne : q32 ≠ qv := fun z => hqv (by rw [← z]; exact O2.1)
    have f4 : fr (fun b => b = q32) h3 (jh_sr h3 q32 449 (some qv)) := fr.sr fr.rf rfl
    have F4 : fr (fun _ => False) h1 (jh_sr h3 q32 449 (some qv)) := (fr.sr (S := fun b => b = q32) (F3.mono (fun _ _ z => absurd z id)) rfl).mono (fun b hb z => hq32 (by rw [← z]; exact hb))
    have := hq (jh_sr h3 q32 449 (some qv)) q32 (by omega) (by omega) (by rw [ed]; exact hr1.nw F4) (f1.nw hr1.1 F4)
    rw [ed, show c + j - c = j by omega] at this
    refine this ⟨hP _ (fun z => hq32 (hL _ z)), O3, ?_, qv, jh_u_s _ _ _ _, hP _ (fun z => hqv (f2.1 _ (hL _ z)).1), t3.eq (f4.2 _ t3.1.1 (fun z => qne z.symm))⟩
    exact (jh_u_k _ _ _ _ (by decide)).trans (((f3.2 _ O2.1 id).2.2.2.2.1 448).trans s2)
  have loop : ∀ f j h1, j + f = 5 → c + j ≤ e → rd_ok h1 r sb sch cap st L (c + j) e → rd_f r st h h1 → (∀ b, b ∈ jh_L h → b ∈ jh_L h1) → (∀ i, i < j → sp_dg (sp_at (tL L) (c + i) e) = true) → jw_J g d m_P_readNumber jw_T0 4 [some (.inr (.inr (some r))), some (.inl (ex_dec (tL L) j c 0)), some (.inl (nI j))] [] h1 mc ms Q := by
    intro f
    induction f with
    | zero =>
      intro j h1 hj hce hr1 f1 hL hdg
      have e5 : j = 5 := by omega
      subst e5
      refine jw_iload_n rfl rfl ?_
      refine js_iconst (x := 5) rfl rfl ?_
      refine jw_icmp_ge 32 rfl rfl (fun _ => ?_) (fun z => absurd (by decide) z)
      exact at32 5 h1 _ hce hr1 f1 hL (sp_digits_k _ _ 0 c 5 rfl hdg)
    | succ f ih =>
      intro j h1 hj hce hr1 f1 hL hdg
      have ek : sp_digits (tL L) e 5 c = if sp_dg (sp_at (tL L) (c + j) e) then sp_digits (tL L) e f (c + j + 1) else c + j := (sp_digits_k (tL L) e (f + 1) c j hj hdg).trans rfl
      refine jw_iload_n rfl rfl ?_
      refine js_iconst (x := 5) rfl rfl ?_
      refine jw_icmp_ge 32 rfl rfl (fun z => absurd z (fun z => absurd ((nI_leI (a := 5) (by decide) (by omega)).mp z) (by omega))) (fun _ => ?_)
      refine jw_aload_n rfl rfl ?_
      refine js_call (As := []) rfl l_P_isDigitNext c_P_257 i_P_isDigitNext s_P_isDigitNext jc_o4 rfl (hr1.1) rfl (cp_isDigit (d := d - 1) (mc := 0) (ms := 0) hg hr1 ?_) (by omega) (Nat.le_of_ble_eq_true rfl) (by omega) (by omega) rfl
      cases ex : sp_dg (sp_at (tL L) (c + j) e) with
      | false =>
        rw [ex] at ek
        refine jw_if_eq 32 rfl rfl (fun _ => ?_) (fun z => absurd (rfl) z)
        exact at32 j h1 _ hce hr1 f1 hL ek
      | true =>
        rw [ex] at ek
        have hlt : c + j < e := by
          rcases Nat.lt_or_ge (c + j) e with z | z
          · exact z
          · rw [sp_at, if_neg (by omega)] at ex; exact absurd ex (by decide)
        refine jw_if_eq 32 rfl rfl (fun z => absurd z (by decide)) (fun _ => ?_)
        refine jw_iload_n rfl rfl ?_
        refine js_bipush (x := 10) rfl rfl ?_
        refine jw_imul rfl ?_
        refine jw_aload_n rfl rfl ?_
        refine js_call (As := []) rfl l_P_readDigit c_P_289 i_P_readDigit s_P_readDigit jc_o4 rfl (hr1.1) rfl (cp_readDigit (d := d - 1) (mc := 0) (ms := 0) hg hr1 hlt ?_) (by omega) (Nat.le_of_ble_eq_true rfl) (by omega) (by omega) rfl
        have e3 : ex_dec (tL L) j c 0 * 10 + (nI (tL L (c + j)) - 48) = ex_dec (tL L) (j + 1) c 0 := by
          rw [ex_dec_add, Int32.sub_eq_add_neg, Int32.sub_eq_add_neg, Int32.add_assoc]
        refine jw_iaddV rfl (e3) ?_
        refine js_istore_n rfl rfl (by decide) rfl ?_
        refine js_iinc rfl rfl (nI_1 j) rfl (by decide) rfl ?_
        refine jw_goto 4 rfl rfl ?_
        exact ih (j + 1) _ (by omega) (by omega) (hr1.cur (by omega)) f1.si hL (fun i hi => by
          by_cases c1 : i = j
          · rw [c1]; exact ex
          · exact hdg i (by omega))
  refine js_iconst (x := 0) rfl rfl ?_
  refine js_istore_n rfl rfl (by decide) rfl ?_
  refine js_iconst (x := 0) rfl rfl ?_
  refine js_istore_n rfl rfl (by decide) rfl ?_
  exact loop 5 0 h rfl hr.2.2.2.2.2.2.1 hr rd_f.rf (fun _ z => z) (fun i hi => absurd hi (by omega))

