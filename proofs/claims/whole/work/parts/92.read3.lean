/-! READER: quoted, paths -/
set_option maxHeartbeats 4000000 in
set_option maxRecDepth 100000 in
theorem cp_readQuoted {g : jg_G} (hg : (jg_l g).stackTraces = false) {d mc ms : Nat} {h : jh_H} {r sb sch cap st : Nat} {L : List Nat} {c e : Nat} {P : Nat → Prop} {Q : jw_O → jh_H → Prop} (hr : rd_ok h r sb sch cap st L c e) (hP : ∀ b, b ∉ jh_L h → P b) (hd : 5 ≤ d) (hmc : 4 ≤ mc) (hms : 13 + (e - c) ≤ ms) (q1 : sp_at (tL L) (sp_quote (tL L) e (e - c) c) e ≠ 34 → Q (.inl (some (.inr (.inr none)))) h) (q2 : sp_at (tL L) (sp_quote (tL L) e (e - c) c) e = 34 → ∀ h' q, rd_ok h' r sb sch cap st L (sp_quote (tL L) e (e - c) c + 1) e → rd_f r st h h' → op_ok g h' P (.inr (.inl (sp_sub (tL L) c (sp_quote (tL L) e (e - c) c - c)))) q → Q (.inl (some (.inr (.inr (some q))))) h') : jw_C g d mc ms m_P_readQuoted [.inr (.inr (some r))] h Q := by
  refine jw_intro (ls := [some (.inr (.inr (some r))), none, none]) (by decide) k_P_readQuoted rfl (by simp [lo_fit, jv_c]) hg ?_
  have e7 : (jc_q 7).2.2 = 4 := rfl
  obtain ⟨r1, r2, r3, r4, r5, r6, r7, r8, r9, r10⟩ := id hr
  have hcap := r3.1.2.2.2.2.2
  have hlcap := r3.1.2.2.2.2.1
  have at86 : ∀ j l2, sp_quote (tL L) e (e - c) c = c + j → sp_at (tL L) (c + j) e ≠ 34 → jw_J g d m_P_readQuoted jw_T0 86 [some (.inr (.inr (some r))), some (.inl (nI (c + j))), l2] [] h mc ms Q := by
    intro j l2 ek hn
    refine jw_null rfl ?_
    refine jw_areturn rfl rfl (Or.inl ⟨_, rfl⟩) ?_
    exact q1 (by rw [ek]; exact hn)
  have loop : ∀ m j, c + j + m = e → sp_quote (tL L) e (e - c) c = sp_quote (tL L) e m (c + j) → jw_J g d m_P_readQuoted jw_T0 5 [some (.inr (.inr (some r))), some (.inl (nI (c + j))), none] [] h mc ms Q := by
    intro m
    induction m with
    | zero =>
      intro j hj ek
      refine jw_iload_n rfl rfl ?_
      refine jw_aload_n rfl rfl ?_
      refine jw_gi rfl g_P_75 (r1) (r6) ?_
      refine jw_icmp_ge 86 rfl rfl (fun _ => ?_) (fun z => absurd ((nI_leI (by omega) (by omega)).mpr (by omega)) z)
      exact at86 j _ ek (by rw [sp_at, if_neg (by omega)]; decide)
    | succ m ih =>
      intro j hj ek
      obtain ⟨c1, c2, c3, c4, c5, c6⟩ : jh_r h sb 64 = some sch ∧ jh_A h sch 0 cap ∧ c + j < cap ∧ jh_I h sch (c + j) = nI (tL L (c + j)) ∧ tL L (c + j) < 128 ∧ sp_at (tL L) (c + j) e = tL L (c + j) := ⟨r3.1.2.2.1, r3.1.2.1, by omega, (r3.2 (c + j) (by omega)).1, (r3.2 (c + j) (by omega)).2, if_pos (by omega)⟩
      rw [sp_quote] at ek
      generalize tL L (c + j) = x at c4 c5 c6 ek
      refine jw_iload_n rfl rfl ?_
      refine jw_aload_n rfl rfl ?_
      refine jw_gi rfl g_P_75 (r1) (r6) ?_
      refine jw_icmp_ge 86 rfl rfl (fun z => absurd z (fun z => absurd ((nI_leI (by omega) (by omega)).mp z) (by omega))) (fun _ => ?_)
      refine jw_aload_n rfl rfl ?_
      refine jw_gr rfl g_P_38 (r1) (r2) ?_
      refine jw_gr rfl g_P_210 (r3.1.1) (c1) ?_
      refine jw_iload_n rfl rfl ?_
      refine js_caldV (c + j) rfl (c2) (by decide) (by rfl) rfl (by omega) (by omega) (c4) ?_
      refine js_bipush (x := 125) rfl rfl ?_
      by_cases c125 : x = 125
      · rw [if_neg (by omega)] at ek
        refine jw_icmp_eq 86 rfl rfl (fun _ => ?_) (fun z => absurd (by rw [c125]; rfl) z)
        exact at86 j _ ek (by rw [c6]; omega)
      · refine jw_icmp_eq 86 rfl rfl (fun z => absurd z (fun z => c125 ((nI_eq (b := 125) (by omega) (by decide)).mp z))) (fun _ => ?_)
        refine jw_aload_n rfl rfl ?_
        refine jw_gr rfl g_P_38 (r1) (r2) ?_
        refine jw_gr rfl g_P_210 (r3.1.1) (c1) ?_
        refine jw_iload_n rfl rfl ?_
        refine js_caldV (c + j) rfl (c2) (by decide) (by rfl) rfl (by omega) (by omega) (c4) ?_
        refine js_bipush (x := 34) rfl rfl ?_
        by_cases c34 : x = 34
        · rw [if_neg (by omega)] at ek
          refine jw_icmp_ne 80 rfl rfl (fun z => absurd (by rw [c34]; rfl) z) (fun _ => ?_)
          refine jw_new rfl jc_o7 n_P_270 a_7 b_7 e_7 (by omega) (by omega) (fun q41 hq41 => ?_)
          refine jw_dup rfl rfl ?_
          refine jw_gst rfl kz_23 y_P_292 ?_
          refine js_callI (As := [.inr (.inr (some (jg_c g 123)))]) rfl l_O_init c_P_278 i_O_init rfl rfl rfl (co_init (d := d - 1) (mc := 0) (ms := 0) hg jh_nw_O (by omega) ?_) (by omega) (Nat.le_of_ble_eq_true rfl) (by omega) (by omega) rfl
          refine js_astore_n rfl rfl (by decide) rfl ?_
          obtain ⟨h2, eh2⟩ : ∃ z, z = jh_sr (jh_nw h q41 7 (jc_q 7).2.2) q41 448 (some (jg_c g 123)) := ⟨_, rfl⟩
          have O2 : jh_O h2 q41 7 := by rw [eh2]; exact jh_nw_O
          have f2 : fr (fun _ => False) h h2 := by rw [eh2]; exact (fr.sr (S := fun b => b = q41) (fr.nw fr.rf hq41) rfl).mono (fun b hb z => hq41 (by rw [← z]; exact hb))
          have s2 : jh_r h2 q41 448 = some (jg_c g 123) := by rw [eh2]; exact jh_u_s _ _ _ _
          rw [← eh2]
          have hr2 := hr.nw f2
          refine jw_aload_n rfl rfl ?_
          refine jw_aload_n rfl rfl ?_
          refine jw_gr rfl g_P_38 (hr2.1) (hr2.2.1) ?_
          refine jw_aload_n rfl rfl ?_
          refine jw_gi rfl g_P_72 (hr2.1) (hr2.2.2.2.2.1) ?_
          refine jw_iload_n rfl rfl ?_
          refine js_call (As := [.inl (nI c), .inl (nI (c + j))]) rfl l_T_copyOf c_P_102 i_T_copyOf s_T_copyOf jc_o1 rfl (hr2.2.2.1.1.1) rfl (ct_copyOf (d := d - 1) (mc := 2) (ms := 2 + j) hg hr2.2.2.1 (by omega) (by omega) (by omega) (by omega) (by omega) (fun h3 qt qc hqt hqc t3 f3 => ?_)) (by omega) (Nat.le_of_ble_eq_true rfl) (by omega) (by omega) rfl
          refine js_callS (As := [.inr (.inr (some qt))]) rfl l_V_ofText c_P_305 i_V_ofText rfl (cv_ofText (d := d - 1) (mc := 1) (ms := 7) hg t3 (by omega) (by omega) (by omega) (fun h4 qv hqv t4 f4 => ?_)) (by omega) (Nat.le_of_ble_eq_true rfl) (by omega) (by omega) rfl
          have O4 := f4.O (f3.O O2)
          have F4 : fr (fun _ => False) h h4 := (f2.tr f3 (fun _ _ z => z)).tr f4 (fun _ _ z => z)
          have hr4 := hr.nw F4
          refine jw_pr rfl p_P_readQuoted_301 (O4) ?_
          refine jw_aload_n rfl rfl ?_
          refine jw_iload_n rfl rfl ?_
          refine js_iconst (x := 1) rfl rfl ?_
          refine jw_iaddV rfl (nI_1 (c + j)) ?_
          refine jw_pi rfl p_P_readQuoted_72 (hr4.1) ?_
          refine jw_aload_n rfl rfl ?_
          refine jw_areturn rfl rfl (Or.inl ⟨_, rfl⟩) ?_
          have f5 : fr (fun b => b = q41) h4 (jh_sr h4 q41 449 (some qv)) := fr.sr fr.rf rfl
          have F5 : fr (fun _ => False) h (jh_sr h4 q41 449 (some qv)) := (fr.sr (S := fun b => b = q41) (F4.mono (fun _ _ z => absurd z id)) rfl).mono (fun b hb z => hq41 (by rw [← z]; exact hb))
          have hr5 := hr.nw F5
          have hr6 := hr5.cur (c' := c + j + 1) (by omega)
          have f6 : fr (fun b => b = r) (jh_sr h4 q41 449 (some qv)) (jh_si (jh_sr h4 q41 449 (some qv)) r 263 (nI (c + j + 1))) := fr.si fr.rf rfl
          rw [ek] at q2
          have q2 := q2 (by rw [c6, c34]) _ q41 hr6 (rd_f.rf.nw r1 F5).si
          rw [show c + j - c = j by omega] at q2 t4
          have nr : ∀ b ci, jh_O h4 b ci → ci ≠ 4 → b ≠ r := fun b ci hb hci e => jO_ne hb hr4.1 hci e
          have n1 : q41 ≠ r := nr _ _ O4 (by decide)
          have n2 : qv ≠ r := nr _ _ t4.1 (by decide)
          have n3 : qt ≠ r := nr _ _ t4.2.2.2.1.1.1 (by decide)
          have n4 : qc ≠ r := fun e => jOA_ne hr4.1 t4.2.2.2.1.1.2.1 (by decide) e.symm
          have m2 : qv ≠ q41 := fun e => jO_ne t4.1 O4 (by decide) e
          have m3 : qt ≠ q41 := fun e => jO_ne t4.2.2.2.1.1.1 O4 (by decide) e
          have m4 : qc ≠ q41 := fun e => jOA_ne O4 t4.2.2.2.1.1.2.1 (by decide) e.symm
          have t5 := (t4.eq (f5.2 _ t4.1.1 m2) (f5.2 _ t4.2.2.2.1.1.1.1 m3) (f5.2 _ t4.2.2.2.1.1.2.1.1 m4))
          have t6 := (t5.eq (f6.2 _ t5.1.1 n2) (f6.2 _ t5.2.2.2.1.1.1.1 n3) (f6.2 _ t5.2.2.2.1.1.2.1.1 n4))
          refine q2 ⟨hP _ hq41, O4, ?_, qv, qt, qc, _, jh_u_s _ _ _ _, hP _ (fun z => hqv (f3.1 _ (f2.1 _ z).1).1), hP _ (fun z => hqt (f2.1 _ z).1), hP _ (fun z => hqc (f2.1 _ z).1), t6⟩
          exact (jh_u_k _ _ _ _ (by decide)).trans (((f4.2 _ (f3.O O2).1 id).2.2.2.2.1 448).trans (((f3.2 _ O2.1 id).2.2.2.2.1 448).trans s2))
        · rw [if_pos ⟨by omega, c34, c125⟩] at ek
          refine jw_icmp_ne 80 rfl rfl (fun _ => ?_) (fun z => absurd z (fun z => c34 ((nI_eq (b := 34) (by omega) (by decide)).mp z)))
          refine js_iinc rfl rfl (nI_1 (c + j)) rfl (by decide) rfl ?_
          refine jw_goto 5 rfl rfl ?_
          exact ih (j + 1) (by omega) ek
  refine jw_aload_n rfl rfl ?_
  refine jw_gi rfl g_P_72 (r1) (r5) ?_
  refine js_istore_n rfl rfl (by decide) rfl ?_
  exact loop (e - c) 0 (by omega) rfl

