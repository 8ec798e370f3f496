/-! READER: paths, operands -/
theorem dg_lt {x : Nat} (h : sp_dg x = true) : sp_lt x = false := by
  unfold sp_dg at h
  unfold sp_lt
  rw [decide_eq_true_iff] at h
  exact decide_eq_false (by omega)
theorem dg_letters {t : Nat → Nat} {p e : Nat} (hp : p < e) (h : sp_dg (t p) = true) : sp_letters t p e = 0 := by
  unfold sp_letters
  obtain ⟨m, hm⟩ : ∃ m, e - p = m + 1 := ⟨e - p - 1, by omega⟩
  rw [hm, sp_ln_1 (by omega), dg_lt h]
  rfl
theorem st_1 {t : Nat → Nat} {e k c : Nat} : sp_st t e k [c] = decide (sp_at t k e = c) := by
  rw [sp_st]
  by_cases h : sp_at t k e = c
  · rw [if_pos h, decide_eq_true h]; rfl
  · rw [if_neg h, decide_eq_false h]
/-- what stands of the operand that is made -/
def pq_ok (g : jg_G) (h : jh_H) (q b : Nat) : Prop := jh_O h q 7 ∧ jh_r h q 448 = some (jg_c g 120) ∧ jh_i h q 450 = nI b
theorem pq_ok.fr {g : jg_G} {h h' : jh_H} {q b : Nat} {S : Nat → Prop} (hp : pq_ok g h q b) (f : fr S h h') (hS : ¬ S q) : pq_ok g h' q b := by
  have e := f.2 _ hp.1.1 hS
  exact ⟨e.O hp.1, (e.2.2.2.2.1 448).trans hp.2.1, (e.2.2.1 450).trans hp.2.2⟩
set_option maxHeartbeats 4000000 in
set_option maxRecDepth 100000 in
theorem cp_readPath {g : jg_G} (hg : (jg_l g).stackTraces = false) {d mc ms : Nat} {h : jh_H} {r sb sch cap st : Nat} {L : List Nat} {c e : Nat} {P : Nat → Prop} {Q : jw_O → jh_H → Prop} (hr : rd_ok h r sb sch cap st L c e) (hP : ∀ b, b ∉ jh_L h → P b) (hd : 7 ≤ d) (hmc : 2 ≤ mc) (hms : 5 + (e - c) ≤ ms) (q1 : pX (tL L) c e = none → ∀ h' c', rd_ok h' r sb sch cap st L c' e → rd_f r st h h' → Q (.inl (some (.inr (.inr none)))) h') (q2 : ∀ e1, pX (tL L) c e = some e1 → ∀ h' q, rd_ok h' r sb sch cap st L e1 e → rd_f r st h h' → op_ok g h' P (.inr (.inr (.inr (ex_path (tL L) c e1)))) q → Q (.inl (some (.inr (.inr (some q))))) h') : jw_C g d mc ms m_P_readPath [.inr (.inr (some r))] h Q := by
  refine jw_intro (ls := [some (.inr (.inr (some r))), none, none, none, none, none, none]) (by decide) k_P_readPath rfl (by simp [lo_fit, jv_c]) hg ?_
  have e7 : (jc_q 7).2.2 = 4 := rfl
  have hce := hr.2.2.2.2.2.2.1
  have heL := hr.2.2.2.2.2.2.2.1
  have hL2 := hr.2.2.2.1
  generalize hu : sp_up (tL L) e (e - c) c = u
  have hue : u ≤ e ∧ c ≤ u := by rw [← hu]; exact sp_up_le2 (tL L) e (e - c) c hce
  have hle := sp_letters_le (tL L) hue.1
  generalize hl : sp_letters (tL L) u e = l at hle
  refine jw_new rfl jc_o7 n_P_270 a_7 b_7 e_7 (by omega) (by omega) (fun q0 hq0 => ?_)
  refine jw_dup rfl rfl ?_
  refine jw_gst rfl kz_20 y_P_309 ?_
  refine js_callI (As := [.inr (.inr (some (jg_c g 120)))]) rfl l_O_init c_P_278 i_O_init rfl rfl rfl (co_init (d := d - 1) (mc := 0) (ms := 0) hg jh_nw_O (by omega) ?_) (by omega) (Nat.le_of_ble_eq_true rfl) (by omega) (by omega) rfl
  refine js_astore_n rfl rfl (by decide) rfl ?_
  obtain ⟨h2, eh2⟩ : ∃ z, z = jh_sr (jh_nw h q0 7 (jc_q 7).2.2) q0 448 (some (jg_c g 120)) := ⟨_, rfl⟩
  have O2 : jh_O h2 q0 7 := by rw [eh2]; exact jh_nw_O
  have f2 : fr (fun _ => False) h h2 := by rw [eh2]; exact (fr.sr (S := fun b => b = q0) (fr.nw fr.rf hq0) rfl).mono (fun b hb z => hq0 (by rw [← z]; exact hb))
  have p2 : pq_ok g h2 q0 0 := ⟨O2, by rw [eh2]; exact jh_u_s _ _ _ _, by rw [eh2]; exact jh_z_s _ _ _ _⟩
  have hr2 := hr.nw f2
  rw [← eh2]
  have nq : ∀ h1, rd_ok h1 r sb sch cap st L c e → True := fun _ _ => trivial
  have qr : ∀ h1 k, rd_ok h1 r sb sch cap st L k e → jh_O h1 q0 7 → ¬ rd_S r st q0 := fun h1 k a b z => by
    rcases z with z | z
    · exact jO_ne b a.1 (by decide) z
    · exact jOA_ne b a.2.2.2.2.2.2.2.2.2 (by decide) z
  -- the end
  have at175 : ∀ h1 j (S : List ex_S) (w : Int64) k bb l2 l5, rd_ok h1 r sb sch cap st L k e → rd_f r st h h1 → pq_ok g h1 q0 bb → bb ≤ 200 → j ≤ 1 + (e - c) → j < 200 → S.length = j → (w ≠ 0 → ∀ i, i < j → st_r (S.getD i (.inr 0)) (jh_G h1 st i)) → (w = 0 → pX (tL L) c e = none) → (w ≠ 0 → pX (tL L) c e = some k ∧ ex_path (tL L) c k = (bb, S)) → jw_J g d m_P_readPath jw_T0 175 [some (.inr (.inr (some r))), some (.inr (.inr (some q0))), some (.inl l2), some (.inr (.inl w)), none, some (.inl l5), some (.inl (nI j))] [] h1 (mc - 1) (ms - 4) Q := by
    intro h1 j S w k bb l2 l5 hr1 f1 p1 hbb hj hj2 hS hst w0 w1
    refine jw_aload_n rfl rfl ?_
    refine jw_aload_n rfl rfl ?_
    refine jw_gr rfl g_P_34 (hr1.1) (hr1.2.2.2.2.2.2.2.2.1) ?_
    refine jw_iload rfl rfl ?_
    refine js_callS (As := [.inr (.inr (some st)), .inl (nI j)]) rfl l_jA_copyOf c_P_325 i_jA_copyOf rfl (cj_copyOf (d := d - 1) (mc := 1) (ms := j) hg hr1.2.2.2.2.2.2.2.2.2 hj2 (by omega) (by omega) (by omega) (fun h3 qs hqs A3 G3 f3 => ?_)) (by omega) (Nat.le_of_ble_eq_true rfl) (by omega) (by omega) rfl
    have p3 := p1.fr f3 id
    refine jw_pr rfl p_P_readPath_330 (p3.1) ?_
    refine jw_lload_n rfl rfl ?_
    refine jw_lconst rfl ?_
    refine jw_lcmp rfl ?_
    have hr3 := hr1.nw f3
    have qne : qs ≠ q0 := fun z => hqs (by rw [z]; exact p1.1.1)
    have f4 : fr (fun b => b = q0) h3 (jh_sr h3 q0 451 (some qs)) := fr.sr fr.rf rfl
    have q0L : ∀ b, b ∈ jh_L h → b ∈ jh_L h1 := fun b z => (f1.1.1 b z).1
    have F4 : fr (fun b => b = q0) h1 (jh_sr h3 q0 451 (some qs)) := fr.sr (f3.mono (fun _ _ z => absurd z id)) rfl
    have rq : r ≠ q0 := fun z => jO_ne hr1.1 p1.1 (by decide) z
    have hr4 : rd_ok (jh_sr h3 q0 451 (some qs)) r sb sch cap st L k e := by
      obtain ⟨r1, r2, r3, r4, r5, r6, r7, r8, r9, r10⟩ := hr1
      have y := F4.2 r r1.1 rq
      exact ⟨y.O r1, (y.2.2.2.2.1 256).trans r2, r3.fr F4 (fun z => jO_ne r3.1.1 p1.1 (by decide) z) (fun z => jOA_ne p1.1 r3.1.2.1 (by decide) z.symm), r4, (y.2.2.1 263).trans r5, (y.2.2.1 264).trans r6, r7, r8, (y.2.2.2.2.1 265).trans r9, F4.A r10⟩
    have g4 : rd_f r st h (jh_sr h3 q0 451 (some qs)) := by
      have y := F4.2 r hr1.1.1 rq
      exact ⟨f1.1.tr F4 (fun x hx z => absurd hx (by rw [z]; exact hq0)), fun k hk => (y.2.2.1 k).trans (f1.2.1 k hk), fun k => (y.2.2.2.2.1 k).trans (f1.2.2 k)⟩
    by_cases cw : w = 0
    · refine jw_if_ne 198 rfl rfl (fun z => absurd ((lg_cmp_eq _ _).mpr cw) z) (fun _ => ?_)
      refine jw_null rfl ?_
      refine jw_goto 199 rfl rfl ?_
      refine jw_areturn rfl rfl (Or.inl ⟨_, rfl⟩) ?_
      exact q1 (w0 cw) _ k hr4 g4
    · refine jw_if_ne 198 rfl rfl (fun _ => ?_) (fun z => absurd z (fun z => cw ((lg_cmp_eq _ _).mp z)))
      refine jw_aload_n rfl rfl ?_
      refine jw_areturn rfl rfl (Or.inl ⟨_, rfl⟩) ?_
      obtain ⟨v1, v2⟩ := w1 cw
      refine q2 k v1 _ q0 hr4 g4 ?_
      rw [v2]
      refine ⟨hP _ hq0, p3.1, ?_, ?_, hbb, qs, jh_u_s _ _ _ _, hP _ (fun z => hqs (q0L _ z)), ?_, by omega, fun i hi => ?_⟩
      · exact (jh_u_k _ _ _ _ (by decide)).trans p3.2.1
      · exact p3.2.2
      · rw [hS]; exact A3
      · have := hst cw i (by omega)
        show st_r _ (jh_G h3 qs i)
        rw [G3 i (by omega)]
        exact this
  -- the steps
  have loop : ∀ n j (S : List ex_S) (w : Int64) k bb h1 l2, e - k ≤ n → k ≤ e → u ≤ k → 1 ≤ j → j ≤ k - u → rd_ok h1 r sb sch cap st L k e → rd_f r st h h1 → pq_ok g h1 q0 bb → bb ≤ 200 → S.length = j → w ≠ 0 → (∀ i, i < j → st_r (S.getD i (.inr 0)) (jh_G h1 st i)) → (sp_tail (tL L) e n k = none → pX (tL L) c e = none) → (∀ e1, sp_tail (tL L) e n k = some e1 → pX (tL L) c e = some e1 ∧ ex_path (tL L) c e1 = (bb, S ++ ex_tail (tL L) e n k)) → jw_J g d m_P_readPath jw_T0 108 [some (.inr (.inr (some r))), some (.inr (.inr (some q0))), some (.inl l2), some (.inr (.inl w)), none, some (.inl 0), some (.inl (nI j))] [] h1 (mc - 1) (ms - 4) Q := by
    intro n
    induction n with
    | zero =>
      intro j S w k bb h1 l2 hk1 hk2 huk h1j hjk hr1 f1 p1 hbb hS hw hst t0 t1
      have es : sp_st (tL L) e k [46] = false := st_out (by decide) (by decide) (by show e < k + 1; omega)
      refine jw_iload rfl rfl ?_
      refine jw_if_ne 175 rfl rfl (fun z => absurd (rfl) z) (fun _ => ?_)
      refine jw_lload_n rfl rfl ?_
      refine jw_lconst rfl ?_
      refine jw_lcmp rfl ?_
      refine jw_if_eq 175 rfl rfl (fun z => absurd z (fun z => hw ((lg_cmp_eq _ _).mp z))) (fun _ => ?_)
      refine jw_iload rfl rfl ?_
      refine jw_aload_n rfl rfl ?_
      refine jw_gr rfl g_P_34 (hr1.1) (hr1.2.2.2.2.2.2.2.2.1) ?_
      refine js_alen rfl (hr1.2.2.2.2.2.2.2.2.2) (by decide) ?_
      refine jw_icmp_ge 175 rfl rfl (fun z => absurd z (fun z => absurd ((nI_leI (a := 200) (by decide) (by omega)).mp z) (by omega))) (fun _ => ?_)
      refine jw_aload_n rfl rfl ?_
      refine jw_ldcW 28 rfl rfl ?_
      refine js_call (As := [.inr (.inr (some (jg_c g 28)))]) rfl l_P_accept c_P_166 i_P_accept s_P_accept jc_o4 rfl (hr1.1) rfl (cp_accept (d := d - 1) (mc := 0) (ms := 0) hg hr1 sk_28 (by decide) (by decide) (by omega) (fun z => absurd (es.symm.trans z) (by decide)) (fun _ => ?_)) (by omega) (Nat.le_of_ble_eq_true rfl) (by omega) (by omega) rfl
      refine jw_if_eq 175 rfl rfl (fun _ => ?_) (fun z => absurd (rfl) z)
      have := t1 k rfl
      rw [show ex_tail (tL L) e 0 k = [] from rfl, List.append_nil] at this
      exact at175 h1 j S w k bb l2 0 hr1 f1 p1 hbb (by omega) (by omega) hS (fun _ => hst) (fun z => absurd z hw) (fun _ => this)
    | succ n ih =>
      intro j S w k bb h1 l2 hk1 hk2 huk h1j hjk hr1 f1 p1 hbb hS hw hst t0 t1
      rw [sp_tail] at t0
      rw [ex_tail] at t1
      refine jw_iload rfl rfl ?_
      refine jw_if_ne 175 rfl rfl (fun z => absurd (rfl) z) (fun _ => ?_)
      refine jw_lload_n rfl rfl ?_
      refine jw_lconst rfl ?_
      refine jw_lcmp rfl ?_
      refine jw_if_eq 175 rfl rfl (fun z => absurd z (fun z => hw ((lg_cmp_eq _ _).mp z))) (fun _ => ?_)
      refine jw_iload rfl rfl ?_
      refine jw_aload_n rfl rfl ?_
      refine jw_gr rfl g_P_34 (hr1.1) (hr1.2.2.2.2.2.2.2.2.1) ?_
      refine js_alen rfl (hr1.2.2.2.2.2.2.2.2.2) (by decide) ?_
      refine jw_icmp_ge 175 rfl rfl (fun z => absurd z (fun z => absurd ((nI_leI (a := 200) (by decide) (by omega)).mp z) (by omega))) (fun _ => ?_)
      refine jw_aload_n rfl rfl ?_
      refine jw_ldcW 28 rfl rfl ?_
      refine js_call (As := [.inr (.inr (some (jg_c g 28)))]) rfl l_P_accept c_P_166 i_P_accept s_P_accept jc_o4 rfl (hr1.1) rfl (cp_accept (d := d - 1) (mc := 0) (ms := 0) hg hr1 sk_28 (by decide) (by decide) (by omega) (fun es hl1 h3 hr3 f3 g3 => ?_) (fun es => ?_)) (by omega) (Nat.le_of_ble_eq_true rfl) (by omega) (by omega) rfl
      rotate_left
      · have c46 : ¬ sp_at (tL L) k e = 46 := by rw [st_1] at es; exact of_decide_eq_false es
        refine jw_if_eq 175 rfl rfl (fun _ => ?_) (fun z => absurd (rfl) z)
        have := t1 k (by rw [sp_tail, if_neg c46])
        rw [if_neg c46, List.append_nil] at this
        exact at175 h1 j S w k bb l2 0 hr1 f1 p1 hbb (by omega) (by omega) hS (fun _ => hst) (fun z => absurd z hw) (fun _ => this)
      · have c46 : sp_at (tL L) k e = 46 := by rw [st_1] at es; exact of_decide_eq_true es
        have hl1 : k + 1 ≤ e := hl1
        have hr3 : rd_ok h3 r sb sch cap st L (k + 1) e := hr3
        have f3 := f1.tr f3
        have p3 := p1.fr g3 (fun z => jO_ne p1.1 hr1.1 (by decide) z)
        have G3 : ∀ i, jh_G h3 st i = jh_G h1 st i := (g3.2 _ hr1.2.2.2.2.2.2.2.2.2.1 (fun z => jOA_ne hr1.1 hr1.2.2.2.2.2.2.2.2.2 (by decide) z.symm)).2.2.2.2.2.2.1
        rw [if_pos c46] at t0 t1
        have t1' : ∀ e1, (if sp_step (tL L) k e < 1 ∨ 8 < sp_step (tL L) k e then none else sp_tail (tL L) e n (k + (1 + sp_step (tL L) k e))) = some e1 → _ := fun e1 z => t1 e1 (by rw [sp_tail, if_pos c46]; exact z)
        have hrs : ∀ (S' : ex_S) (w' : Int64) h5, (∀ i, jh_G h5 st i = jh_G h3 st i) → st_r S' w' → ∀ i, i < j + 1 → st_r ((S ++ [S']).getD i (.inr 0)) (jh_G (jh_sG h5 st j w') st i) := by
          intro S' w' h5 hG5 hst' i hi
          by_cases ci : i = j
          · rw [ci, show jh_G (jh_sG h5 st j w') st j = w' from jh_u_s _ _ _ _, ← hS]
            rw [List.getD_eq_getElem?_getD, List.getElem?_append_right (Nat.le_refl _), Nat.sub_self]
            exact hst'
          · rw [show jh_G (jh_sG h5 st j w') st i = jh_G h5 st i from jh_u_k _ _ _ _ ci, hG5 i, G3 i]
            rw [List.getD_eq_getElem?_getD, List.getElem?_append_left (by omega), ← List.getD_eq_getElem?_getD]
            exact hst i (by omega)
        refine jw_if_eq 175 rfl rfl (fun z => absurd z (by decide)) (fun _ => ?_)
        refine jw_aload_n rfl rfl ?_
        refine js_call (As := []) rfl l_P_isDigitNext c_P_257 i_P_isDigitNext s_P_isDigitNext jc_o4 rfl (hr3.1) rfl (cp_isDigit (d := d - 1) (mc := 0) (ms := 0) hg hr3 ?_) (by omega) (Nat.le_of_ble_eq_true rfl) (by omega) (by omega) rfl
        cases ed : sp_dg (sp_at (tL L) (k + 1) e) with
        | true =>
          have hlt : k + 1 < e := by
            rcases Nat.lt_or_ge (k + 1) e with z | z
            · exact z
            · rw [sp_at, if_neg (by omega)] at ed; exact absurd ed (by decide)
          have ed2 : sp_dg (tL L (k + 1)) = true := by rw [sp_at, if_pos hlt] at ed; exact ed
          have el : sp_letters (tL L) (k + 1) e = 0 := dg_letters hlt ed2
          have es1 : sp_step (tL L) k e = 1 := by rw [sp_step, if_pos ⟨el, ed⟩]
          have ex2 : 48 ≤ tL L (k + 1) ∧ tL L (k + 1) ≤ 57 := of_decide_eq_true ed2
          obtain ⟨w1, w2⟩ := dg_w ex2.1 ex2.2
          rw [es1, if_neg (by decide)] at t0 t1'
          rw [el, if_neg (by decide)] at t1'
          have hr5 := hr3.cur (c' := k + 1 + 1) (by omega)
          refine jw_if_eq 156 rfl rfl (fun z => absurd z (by decide)) (fun _ => ?_)
          refine js_iconst (x := (-1)) rfl rfl ?_
          refine jw_aload_n rfl rfl ?_
          refine js_call (As := []) rfl l_P_readDigit c_P_289 i_P_readDigit s_P_readDigit jc_o4 rfl (hr3.1) rfl (cp_readDigit (d := d - 1) (mc := 0) (ms := 0) hg hr3 hlt ?_) (by omega) (Nat.le_of_ble_eq_true rfl) (by omega) (by omega) rfl
          refine jw_isub rfl ?_
          refine jw_i2l rfl ?_
          rw [w1]
          refine jw_goto 160 rfl rfl ?_
          refine js_lstore_n rfl rfl (by decide) rfl ?_
          refine jw_aload_n rfl rfl ?_
          refine jw_gr rfl g_P_34 (hr5.1) (hr5.2.2.2.2.2.2.2.2.1) ?_
          refine jw_iload rfl rfl ?_
          refine jw_lload_n rfl rfl ?_
          refine js_last (j) rfl (hr5.2.2.2.2.2.2.2.2.2) (by decide) (by rfl) rfl (by omega) (by omega) ?_
          refine js_iinc rfl rfl (nI_1 j) rfl (by decide) rfl ?_
          refine jw_goto 108 rfl rfl ?_
          refine ih (j + 1) (S ++ [.inr (tL L (k + 1))]) _ (k + (1 + 1)) bb _ l2 (by omega) (by omega) (by omega) (by omega) (by omega) hr5.sG f3.si.sG (p3.fr (S := rd_S r st) (fr.sG (fr.si fr.rf (Or.inl rfl)) (Or.inr rfl)) (qr h3 _ hr3 p3.1)) hbb (by rw [List.length_append, hS]; rfl) w2 ?_ t0 (fun e1 z => ?_)
          · exact hrs (.inr (tL L (k + 1))) (-1 - lN (tL L (k + 1) - 48)) (jh_si h3 r 263 (nI (k + 1 + 1))) (fun i => rfl) ⟨ex2.1, ex2.2, rfl⟩
          · have := t1' e1 z
            rw [List.append_assoc]
            exact this
        | false =>
          have es1 : sp_step (tL L) k e = sp_letters (tL L) (k + 1) e := by rw [sp_step, if_neg (fun z => absurd (ed.symm.trans z.2) (by decide))]
          have hl5 := sp_letters_le (tL L) (p := k + 1) (e := e) (by omega)
          rw [es1] at t0 t1'
          refine jw_if_eq 156 rfl rfl (fun _ => ?_) (fun z => absurd (rfl) z)
          refine jw_aload_n rfl rfl ?_
          refine js_call (As := []) rfl l_P_readName c_P_317 i_P_readName s_P_readName jc_o4 rfl (hr3.1) rfl (cp_readName (d := d - 1) (mc := 0) (ms := 0) hg hr3 (by omega) (fun h5 hr5 f5 g5 => ?_)) (by omega) (Nat.le_of_ble_eq_true rfl) (by omega) (by omega) rfl
          have f5 := f3.tr f5
          have p5 := p3.fr g5 (fun z => jO_ne p3.1 hr3.1 (by decide) z)
          have G5 : ∀ i, jh_G h5 st i = jh_G h3 st i := (g5.2 _ hr3.2.2.2.2.2.2.2.2.2.1 (fun z => jOA_ne hr3.1 hr3.2.2.2.2.2.2.2.2.2 (by decide) z.symm)).2.2.2.2.2.2.1
          generalize hl7 : sp_letters (tL L) (k + 1) e = l7 at *
          by_cases c8 : l7 < 1 ∨ 8 < l7
          · rw [if_pos c8] at t0
            have ew : nm7 (sp_sub (tL L) (k + 1) l7) = 0 := nm7_no (by rw [sub_len2]; exact c8)
            rw [ew]
            refine js_lstore_n rfl rfl (by decide) rfl ?_
            refine jw_aload_n rfl rfl ?_
            refine jw_gr rfl g_P_34 (hr5.1) (hr5.2.2.2.2.2.2.2.2.1) ?_
            refine jw_iload rfl rfl ?_
            refine jw_lload_n rfl rfl ?_
            refine js_last (j) rfl (hr5.2.2.2.2.2.2.2.2.2) (by decide) (by rfl) rfl (by omega) (by omega) ?_
            refine js_iinc rfl rfl (nI_1 j) rfl (by decide) rfl ?_
            refine jw_goto 108 rfl rfl ?_
            refine jw_iload rfl rfl ?_
            refine jw_if_ne 175 rfl rfl (fun z => absurd (rfl) z) (fun _ => ?_)
            refine jw_lload_n rfl rfl ?_
            refine jw_lconst rfl ?_
            refine jw_lcmp rfl ?_
            refine jw_if_eq 175 rfl rfl (fun _ => ?_) (fun z => absurd (rfl) z)
            exact at175 _ (j + 1) (S ++ [.inr 0]) 0 _ bb l2 0 hr5.sG f5.sG (p5.fr (S := rd_S r st) (fr.sG fr.rf (Or.inr rfl)) (qr h5 _ hr5 p5.1)) hbb (by omega) (by omega) (by rw [List.length_append, hS]; rfl) (fun z => absurd rfl z) (fun _ => t0 rfl) (fun z => absurd rfl z)
          · rw [if_neg c8] at t0 t1'
            rw [if_pos (show 0 < l7 by omega)] at t1'
            have hnm := sub_nm (t := tL L) (e := e) (u := k + 1) (by omega) (by omega) (by omega)
            rw [hl7] at hnm
            rw [nm7_of hnm]
            refine js_lstore_n rfl rfl (by decide) rfl ?_
            refine jw_aload_n rfl rfl ?_
            refine jw_gr rfl g_P_34 (hr5.1) (hr5.2.2.2.2.2.2.2.2.1) ?_
            refine jw_iload rfl rfl ?_
            refine jw_lload_n rfl rfl ?_
            refine js_last (j) rfl (hr5.2.2.2.2.2.2.2.2.2) (by decide) (by rfl) rfl (by omega) (by omega) ?_
            refine js_iinc rfl rfl (nI_1 j) rfl (by decide) rfl ?_
            refine jw_goto 108 rfl rfl ?_
            rw [show k + 1 + l7 = k + (1 + l7) by omega] at hr5
            refine ih (j + 1) (S ++ [.inl (sp_sub (tL L) (k + 1) l7)]) _ (k + (1 + l7)) bb _ l2 (by omega) (by omega) (by omega) (by omega) (by omega) hr5.sG f5.sG (p5.fr (S := rd_S r st) (fr.sG fr.rf (Or.inr rfl)) (qr h5 _ hr5 p5.1)) hbb (by rw [List.length_append, hS]; rfl) (nm_pos hnm).1 ?_ t0 (fun e1 z => ?_)
            · exact hrs (.inl (sp_sub (tL L) (k + 1) l7)) (nc7 (sp_sub (tL L) (k + 1) l7) 0) h5 G5 ⟨hnm, rfl⟩
            · have := t1' e1 z
              rw [List.append_assoc]
              exact this
  -- behind the ../
  have at44 : ∀ h1 bb, u = c + 3 * bb → rd_ok h1 r sb sch cap st L u e → rd_f r st h h1 → pq_ok g h1 q0 bb → jw_J g d m_P_readPath jw_T0 44 [some (.inr (.inr (some r))), some (.inr (.inr (some q0))), none, none, none, none, none] [] h1 (mc - 1) (ms - 4) Q := by
    intro h1 bb hub hr1 f1 p1
    have ebb : (u - c) / 3 = bb := by omega
    have hX : pX (tL L) c e = if l < 1 ∨ 8 < l then none else if l = 4 ∧ sp_st (tL L) e u [116, 104, 105, 115] then some (u + 4) else sp_tail (tL L) e (e - c) (u + l) := by rw [pX, hu, hl]
    refine jw_aload_n rfl rfl ?_
    refine jw_gi rfl g_P_72 (hr1.1) (hr1.2.2.2.2.1) ?_
    refine js_istore_n rfl rfl (by decide) rfl ?_
    refine jw_aload_n rfl rfl ?_
    refine js_call (As := []) rfl l_P_readName c_P_317 i_P_readName s_P_readName jc_o4 rfl (hr1.1) rfl (cp_readName (d := d - 1) (mc := 0) (ms := 0) hg hr1 (by omega) (fun h5 hr5 f5 g5 => ?_)) (by omega) (Nat.le_of_ble_eq_true rfl) (by omega) (by omega) rfl
    refine js_lstore_n rfl rfl (by decide) rfl ?_
    have f5 := f1.tr f5
    have p5 := p1.fr g5 (fun z => jO_ne p1.1 hr1.1 (by decide) z)
    rw [hl] at hr5
    rw [hl]
    obtain ⟨s1, s2, s3, s4, s5, s6, s7, s8, s9, s10⟩ := id hr5
    -- where it is known whether it is this
    have at89 : ∀ th : Bool, th = decide (l = 4 ∧ sp_st (tL L) e u [116, 104, 105, 115] = true) → jw_J g d m_P_readPath jw_T0 87 [some (.inr (.inr (some r))), some (.inr (.inr (some q0))), some (.inl (nI u)), some (.inr (.inl (nm7 (sp_sub (tL L) u l)))), none, none, none] [.inl (sp_b th)] h5 (mc - 1) (ms - 4) Q := by
      intro th hth
      cases th with
      | true =>
        obtain ⟨h4, h5w⟩ := of_decide_eq_true hth.symm
        have hnm := sub_nm (t := tL L) (e := e) (u := u) hue.1 (by omega) (by omega)
        rw [hl] at hnm
        rw [nm7_of hnm]
        refine js_istore rfl rfl (by decide) rfl ?_
        refine js_iconst (x := 0) rfl rfl ?_
        refine js_istore rfl rfl (by decide) rfl ?_
        refine jw_iload rfl rfl ?_
        refine jw_if_ne 108 rfl rfl (fun _ => ?_) (fun z => absurd z (by decide))
        refine jw_iload rfl rfl ?_
        refine jw_if_ne 175 rfl rfl (fun _ => ?_) (fun z => absurd z (by decide))
        refine at175 h5 0 [] _ (u + l) bb _ _ hr5 f5 p5 (by omega) (by omega) (by omega) rfl (fun _ i hi => absurd hi (by omega)) (fun z => absurd z (nm_pos hnm).1) (fun _ => ⟨?_, ?_⟩)
        · rw [hX, if_neg (by omega), if_pos ⟨h4, h5w⟩, h4]
        · rw [h4, ex_path_this hce hu (by omega) h5w, ebb]
      | false =>
        have hn := of_decide_eq_false hth.symm
        by_cases c8 : l < 1 ∨ 8 < l
        · have ew : nm7 (sp_sub (tL L) u l) = 0 := nm7_no (by rw [sub_len2]; exact c8)
          rw [ew]
          refine js_istore rfl rfl (by decide) rfl ?_
          refine js_iconst (x := 0) rfl rfl ?_
          refine js_istore rfl rfl (by decide) rfl ?_
          refine jw_iload rfl rfl ?_
          refine jw_if_ne 108 rfl rfl (fun z => absurd (rfl) z) (fun _ => ?_)
          refine jw_aload_n rfl rfl ?_
          refine jw_gr rfl g_P_34 (s1) (s9) ?_
          refine jw_iload rfl rfl ?_
          refine jw_lload_n rfl rfl ?_
          refine js_last (0) rfl (s10) (by decide) (by rfl) rfl (by omega) (by omega) ?_
          refine js_iinc rfl rfl (nI_1 0) rfl (by decide) rfl ?_
          refine jw_iload rfl rfl ?_
          refine jw_if_ne 175 rfl rfl (fun z => absurd (rfl) z) (fun _ => ?_)
          refine jw_lload_n rfl rfl ?_
          refine jw_lconst rfl ?_
          refine jw_lcmp rfl ?_
          refine jw_if_eq 175 rfl rfl (fun _ => ?_) (fun z => absurd (rfl) z)
          exact at175 _ 1 [.inr 0] 0 (u + l) bb _ 0 hr5.sG f5.sG (p5.fr (S := rd_S r st) (fr.sG fr.rf (Or.inr rfl)) (qr h5 _ hr5 p5.1)) (by omega) (by omega) (by omega) rfl (fun z => absurd rfl z) (fun _ => by rw [hX, if_pos c8]) (fun z => absurd rfl z)
        · have hnm := sub_nm (t := tL L) (e := e) (u := u) hue.1 (by omega) (by omega)
          rw [hl] at hnm
          rw [nm7_of hnm]
          refine js_istore rfl rfl (by decide) rfl ?_
          refine js_iconst (x := 0) rfl rfl ?_
          refine js_istore rfl rfl (by decide) rfl ?_
          refine jw_iload rfl rfl ?_
          refine jw_if_ne 108 rfl rfl (fun z => absurd (rfl) z) (fun _ => ?_)
          refine jw_aload_n rfl rfl ?_
          refine jw_gr rfl g_P_34 (s1) (s9) ?_
          refine jw_iload rfl rfl ?_
          refine jw_lload_n rfl rfl ?_
          refine js_last (0) rfl (s10) (by decide) (by rfl) rfl (by omega) (by omega) ?_
          refine js_iinc rfl rfl (nI_1 0) rfl (by decide) rfl ?_
          refine loop (e - c) 1 [.inl (sp_sub (tL L) u l)] _ (u + l) bb _ _ (by omega) hle (by omega) (Nat.le_refl _) (by omega) hr5.sG f5.sG (p5.fr (S := rd_S r st) (fr.sG fr.rf (Or.inr rfl)) (qr h5 _ hr5 p5.1)) (by omega) rfl (nm_pos hnm).1 (fun i hi => ?_) (fun z => by rw [hX, if_neg c8, if_neg hn]; exact z) (fun e1 z => ⟨by rw [hX, if_neg c8, if_neg hn]; exact z, ?_⟩)
          · have ei : i = 0 := by omega
            subst ei
            rw [show jh_G (jh_sG h5 st 0 (nc7 (sp_sub (tL L) u l) 0)) st 0 = nc7 (sp_sub (tL L) u l) 0 from jh_u_s _ _ _ _]
            exact ⟨hnm, rfl⟩
          · rw [ex_path_tail hce hu (by omega) (by rw [hl]; exact hn) (by rw [hl]; exact z), ebb, hl]
            rfl
    refine jw_aload_n rfl rfl ?_
    refine jw_gi rfl g_P_72 (s1) (s5) ?_
    refine jw_iload_n rfl rfl ?_
    refine jw_isubV rfl ((pk_sub (by omega)).trans (congrArg nI (show u + l - u = l by omega))) ?_
    refine js_iconst (x := 4) rfl rfl ?_
    by_cases c4 : l = 4
    · have ew : sp_st (fun i => L.getD i 0) (u + l) u [116, 104, 105, 115] = sp_st (tL L) e u [116, 104, 105, 115] := by
        cases cc : sp_st (tL L) e u [116, 104, 105, 115] with
        | true => exact st_cut hle _ _ (by show u + 4 ≤ u + l; omega) cc
        | false =>
          cases cd : sp_st (fun i => L.getD i 0) (u + l) u [116, 104, 105, 115] with
          | false => rfl
          | true => exact absurd (cc.symm.trans (st_mono hle _ _ (by decide) cd)) (by decide)
      refine jw_icmp_ne 86 rfl rfl (fun z => absurd (by rw [c4]; rfl) z) (fun _ => ?_)
      refine jw_aload_n rfl rfl ?_
      refine jw_gr rfl g_P_38 (s1) (s2) ?_
      refine jw_ldcW 27 rfl rfl ?_
      refine jw_iload_n rfl rfl ?_
      refine jw_aload_n rfl rfl ?_
      refine jw_gi rfl g_P_72 (s1) (s5) ?_
      refine js_call (As := [.inr (.inr (some (jg_c g 27))), .inl (nI u), .inl (nI (u + l))]) rfl l_T_hasWord c_P_59 i_T_hasWord s_T_hasWord jc_o1 rfl (s3.1.1) rfl (ct_hasWord (d := d - 1) (mc := 0) (ms := 0) hg s3 sk_27 (by decide) (by decide) (by omega) (by omega) (by omega) ?_) (by omega) (Nat.le_of_ble_eq_true rfl) (by omega) (by omega) rfl
      rw [ew]
      cases cc : sp_st (tL L) e u [116, 104, 105, 115] with
      | true =>
        refine jw_if_eq 86 rfl rfl (fun z => absurd z (by decide)) (fun _ => ?_)
        refine js_iconst (x := 1) rfl rfl ?_
        refine jw_goto 87 rfl rfl ?_
        exact at89 true (by rw [cc]; exact (decide_eq_true ⟨c4, rfl⟩).symm)
      | false =>
        refine jw_if_eq 86 rfl rfl (fun _ => ?_) (fun z => absurd (rfl) z)
        refine js_iconst (x := 0) rfl rfl ?_
        exact at89 false (by rw [cc]; exact (decide_eq_false (fun z => absurd z.2 (by decide))).symm)
    · refine jw_icmp_ne 86 rfl rfl (fun _ => ?_) (fun z => absurd z (fun z => c4 ((nI_eq (b := 4) (by omega) (by decide)).mp z)))
      refine js_iconst (x := 0) rfl rfl ?_
      exact at89 false (decide_eq_false (fun z => c4 z.1)).symm
  -- the ../
  have back : ∀ m bb h1, bb + m = e - c → c + 3 * bb ≤ e → sp_up (tL L) e m (c + 3 * bb) = u → rd_ok h1 r sb sch cap st L (c + 3 * bb) e → rd_f r st h h1 → pq_ok g h1 q0 bb → jw_J g d m_P_readPath jw_T0 11 [some (.inr (.inr (some r))), some (.inr (.inr (some q0))), none, none, none, none, none] [] h1 (mc - 1) (ms - 4) Q := by
    intro m
    induction m with
    | zero =>
      intro bb h1 hm hb3 eu hr1 f1 p1
      have eu : c + 3 * bb = u := eu
      have es : sp_st (tL L) e (c + 3 * bb) [46, 46, 47] = false := st_out (by decide) (by decide) (by show e < c + 3 * bb + 3; omega)
      refine jw_aload_n rfl rfl ?_
      refine jw_gi rfl g_P_312 (p1.1) (p1.2.2) ?_
      refine js_sipush (x := 200) rfl rfl ?_
      refine jw_icmp_ge 44 rfl rfl (fun z => absurd z (fun z => absurd ((nI_leI (a := 200) (by decide) (by omega)).mp z) (by omega))) (fun _ => ?_)
      refine jw_aload_n rfl rfl ?_
      refine jw_ldcW 26 rfl rfl ?_
      refine js_call (As := [.inr (.inr (some (jg_c g 26)))]) rfl l_P_accept c_P_166 i_P_accept s_P_accept jc_o4 rfl (hr1.1) rfl (cp_accept (d := d - 1) (mc := 0) (ms := 0) hg hr1 sk_26 (by decide) (by decide) (by omega) (fun z => absurd (es.symm.trans z) (by decide)) (fun _ => ?_)) (by omega) (Nat.le_of_ble_eq_true rfl) (by omega) (by omega) rfl
      refine jw_if_eq 44 rfl rfl (fun _ => ?_) (fun z => absurd (rfl) z)
      exact at44 h1 bb eu.symm (by rw [← eu]; exact hr1) f1 p1
    | succ m ih =>
      intro bb h1 hm hb3 eu hr1 f1 p1
      rw [sp_up] at eu
      refine jw_aload_n rfl rfl ?_
      refine jw_gi rfl g_P_312 (p1.1) (p1.2.2) ?_
      refine js_sipush (x := 200) rfl rfl ?_
      refine jw_icmp_ge 44 rfl rfl (fun z => absurd z (fun z => absurd ((nI_leI (a := 200) (by decide) (by omega)).mp z) (by omega))) (fun _ => ?_)
      refine jw_aload_n rfl rfl ?_
      refine jw_ldcW 26 rfl rfl ?_
      refine js_call (As := [.inr (.inr (some (jg_c g 26)))]) rfl l_P_accept c_P_166 i_P_accept s_P_accept jc_o4 rfl (hr1.1) rfl (cp_accept (d := d - 1) (mc := 0) (ms := 0) hg hr1 sk_26 (by decide) (by decide) (by omega) (fun es hl1 h3 hr3 f3 g3 => ?_) (fun es => ?_)) (by omega) (Nat.le_of_ble_eq_true rfl) (by omega) (by omega) rfl
      · rw [if_pos es] at eu
        have hl1 : c + 3 * bb + 3 ≤ e := hl1
        have p3 := p1.fr g3 (fun z => jO_ne p1.1 hr1.1 (by decide) z)
        have hr3 : rd_ok h3 r sb sch cap st L (c + 3 * (bb + 1)) e := hr3
        refine jw_if_eq 44 rfl rfl (fun z => absurd z (by decide)) (fun _ => ?_)
        refine jw_aload_n rfl rfl ?_
        refine jw_dup rfl rfl ?_
        refine jw_gi rfl g_P_312 (p3.1) (p3.2.2) ?_
        refine js_iconst (x := 1) rfl rfl ?_
        refine jw_iaddV rfl (nI_1 bb) ?_
        refine jw_pi rfl p_P_readPath_312 (p3.1) ?_
        refine jw_goto 11 rfl rfl ?_
        have f4 : fr (fun b => b = q0) h3 (jh_si h3 q0 450 (nI (bb + 1))) := fr.si fr.rf rfl
        have rq : r ≠ q0 := fun z => jO_ne hr3.1 p3.1 (by decide) z
        have hr4 : rd_ok (jh_si h3 q0 450 (nI (bb + 1))) r sb sch cap st L (c + 3 * (bb + 1)) e := by
          obtain ⟨r1, r2, r3, r4, r5, r6, r7, r8, r9, r10⟩ := hr3
          have y := f4.2 r r1.1 rq
          exact ⟨r1, r2, r3.fr f4 (fun z => jO_ne r3.1.1 p3.1 (by decide) z) (fun z => jOA_ne p3.1 r3.1.2.1 (by decide) z.symm), r4, (y.2.2.1 263).trans r5, (y.2.2.1 264).trans r6, r7, r8, r9, r10⟩
        have g4 : rd_f r st h (jh_si h3 q0 450 (nI (bb + 1))) := by
          have y := f4.2 r hr3.1.1 rq
          have f3 := f1.tr f3
          exact ⟨f3.1.tr f4 (fun x hx z => absurd hx (by rw [z]; exact hq0)), fun k hk => (y.2.2.1 k).trans (f3.2.1 k hk), fun k => (y.2.2.2.2.1 k).trans (f3.2.2 k)⟩
        exact ih (bb + 1) _ (by omega) (by omega) eu hr4 g4 ⟨p3.1, p3.2.1, jh_u_s _ _ _ _⟩
      · have hn : ¬ sp_st (tL L) e (c + 3 * bb) [46, 46, 47] = true := fun z => absurd (es.symm.trans z) (by decide)
        rw [if_neg hn] at eu
        refine jw_if_eq 44 rfl rfl (fun _ => ?_) (fun z => absurd (rfl) z)
        exact at44 h1 bb eu.symm (by rw [← eu]; exact hr1) f1 p1
  exact back (e - c) 0 h2 (by omega) (by omega) hu hr2 (rd_f.rf.nw hr.1 f2) p2

