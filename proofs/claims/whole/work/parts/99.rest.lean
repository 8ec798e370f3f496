/-! READER: a tag's part -/
theorem op_ok.mono {g : jg_G} {h : jh_H} {P P' : Nat → Prop} {o : ex_O} {a : Nat} (ho : op_ok g h P o a) (hP : ∀ b, P b → b ∈ jh_L h → (jh_K h b).1 ≠ 5 → (jh_K h b).1 ≠ 4 → P' b) : op_ok g h P' o a := by
  have kO : ∀ {b ci}, jh_O h b ci → ci ≠ 5 → ci ≠ 4 → P b → P' b := fun {b ci} z h5 h4 p => hP b p z.1 (by rw [z.2]; exact h5) (by rw [z.2]; exact h4)
  have kA : ∀ {b t n}, jh_A h b t n → P b → P' b := fun {b t n} z p => hP b p z.1 (by rw [z.2]; show 100 + t ≠ 5; omega) (by rw [z.2]; show 100 + t ≠ 4; omega)
  obtain ⟨h1, h2, h3⟩ := ho
  refine ⟨kO h2 (by decide) (by decide) h1, h2, ?_⟩
  rcases o with v | L | b | ⟨back, st⟩
  · obtain ⟨r, b, r1, r2, r3⟩ := h3
    exact ⟨r, b, r1, kO r3.1 (by decide) (by decide) r2, r3⟩
  · obtain ⟨r, b, tb, ch, cap, r1, r2, r3, r4, r5⟩ := h3
    exact ⟨r, b, tb, ch, cap, r1, kO r5.1 (by decide) (by decide) r2, kO r5.2.2.2.1.1.1 (by decide) (by decide) r3, kA r5.2.2.2.1.1.2.1 r4, r5⟩
  · exact h3
  · obtain ⟨r, r1, r2, s, r3, r4, r5, r6, r7⟩ := h3
    exact ⟨r, r1, r2, s, r3, kA r5 r4, r5, r6, r7⟩
theorem xp_ok.mono {g : jg_G} {h : jh_H} {P P' : Nat → Prop} {X : ex_E} {a : Nat} (hx : xp_ok g h P X a) (hP : ∀ b, P b → b ∈ jh_L h → (jh_K h b).1 ≠ 5 → (jh_K h b).1 ≠ 4 → P' b) : xp_ok g h P' X a := by
  obtain ⟨h1, h2, h3, h4, ⟨o, h5, h6⟩, h7⟩ := hx
  refine ⟨hP a h1 h2.1 (by rw [h2.2]; show (6 : Nat) ≠ 5; decide) (by rw [h2.2]; show (6 : Nat) ≠ 4; decide), h2, h3, h4, ⟨o, h5, h6.mono hP⟩, ?_⟩
  by_cases c : 3 < X.1
  · rw [if_pos c] at h7 ⊢
    obtain ⟨o, h8, h9⟩ := h7
    exact ⟨o, h8, h9.mono hP⟩
  · rw [if_neg c] at h7 ⊢
    exact h7
/-- cells made since h that are no parts and no reader -/
def xk (h0 h : jh_H) (b : Nat) : Prop := b ∉ jh_L h0 ∧ b ∈ jh_L h ∧ (jh_K h b).1 ≠ 5 ∧ (jh_K h b).1 ≠ 4
set_option maxHeartbeats 4000000 in
set_option maxRecDepth 100000 in
theorem cn_init {g : jg_G} (hg : (jg_l g).stackTraces = false) {d mc ms : Nat} {h : jh_H} {q a : Nat} {x : Int32} {Q : jw_O → jh_H → Prop} (ho : jh_O h q 5) (hd : 1 ≤ d) (hq : Q (.inl none) (jh_si (jh_sr h q 320 (some a)) q 321 x)) : jw_C g d mc ms m_N_init [.inr (.inr (some q)), .inr (.inr (some a)), .inl x] h Q := by
  refine jw_intro (ls := [some (.inr (.inr (some q))), some (.inr (.inr (some a))), some (.inl x)]) (by decide) k_N_init rfl (by simp [lo_fit, jv_c]) hg ?_
  refine jw_aload_n rfl rfl ?_
  refine jw_obj rfl oi_N_1 (by omega) (Nat.le_of_ble_eq_true rfl) ?_
  refine jw_aload_n rfl rfl ?_
  refine jw_aload_n rfl rfl ?_
  refine jw_pr rfl p_N_init_7 (ho) ?_
  refine jw_aload_n rfl rfl ?_
  refine jw_iload_n rfl rfl ?_
  refine jw_pi rfl p_N_init_13 (ho) ?_
  refine jw_return rfl rfl ?_
  exact hq
/-- a new part: its sort and place; nothing behind it nor inside -/
def nw_pt (g : jg_G) (h : jh_H) (q o pl : Nat) : Prop := jh_O h q 5 ∧ jh_r h q 320 = some (jg_c g (100 + o)) ∧ jh_i h q 321 = nI pl ∧ jh_r h q 325 = none ∧ jh_r h q 326 = none ∧ jh_r h q 327 = none ∧ jh_i h q 328 = 0
theorem nw_pt.eq {g : jg_G} {h h' : jh_H} {q o pl : Nat} (hn : nw_pt g h q o pl) (e : jh_eq h h' q) : nw_pt g h' q o pl := by
  obtain ⟨n1, n2, n3, n4, n5, n6, n7⟩ := hn
  exact ⟨e.O n1, (e.2.2.2.2.1 320).trans n2, (e.2.2.1 321).trans n3, (e.2.2.2.2.1 325).trans n4, (e.2.2.2.2.1 326).trans n5, (e.2.2.2.2.1 327).trans n6, (e.2.2.1 328).trans n7⟩
set_option maxHeartbeats 4000000 in
set_option maxRecDepth 100000 in
theorem cp_readRest {g : jg_G} (hg : (jg_l g).stackTraces = false) {d mc ms : Nat} {h : jh_H} {r sb sch cap st : Nat} {L : List Nat} {c e o pl : Nat} {Q : jw_O → jh_H → Prop} (hr : rd_ok h r sb sch cap st L c e) (ho : 2 ≤ o) (ho2 : o ≤ 12) (hd : 10 ≤ d) (hmc : 10 ≤ mc) (hms : 40 + 2 * (e - c) ≤ ms)
    (q1 : rr_ok (tL L) o c e = false → ∀ h' c', rd_ok h' r sb sch cap st L c' e → rd_f r st h h' → Q (.inl (some (.inr (.inr none)))) h')
    (q2 : rr_ok (tL L) o c e = true → ∀ h' q c', rd_ok h' r sb sch cap st L c' e → rd_f r st h h' → q ∉ jh_L h → nw_pt g h' q o pl → (o = 5 → jh_i h' q 324 = nI (tL L c - 97)) → (o = 2 ∨ o = 3 ∨ o = 6 ∨ o = 7 ∨ o = 8 → ∃ x, jh_r h' q 323 = some x ∧ xp_ok g h' (xk h h') (ex_ex (tL L) c e) x) → Q (.inl (some (.inr (.inr (some q))))) h') : jw_C g d mc ms m_P_readRest [.inr (.inr (some r)), .inr (.inr (some (jg_c g (100 + o)))), .inl (nI pl)] h Q := by
  refine jw_intro (ls := [some (.inr (.inr (some r))), some (.inr (.inr (some (jg_c g (100 + o))))), some (.inl (nI pl)), none]) (by decide) k_P_readRest rfl (by simp [lo_fit, jv_c]) hg ?_
  have e5 : (jc_q 5).2.2 = 9 := rfl
  refine jw_new rfl jc_o5 n_P_9 a_5 b_5 e_5 (by omega) (by omega) (fun q0 hq0 => ?_)
  refine jw_dup rfl rfl ?_
  refine jw_aload_n rfl rfl ?_
  refine jw_iload_n rfl rfl ?_
  refine js_callI (As := [.inr (.inr (some (jg_c g (100 + o)))), .inl (nI pl)]) rfl l_N_init c_P_17 i_N_init rfl rfl rfl (cn_init (d := d - 1) (mc := 0) (ms := 0) hg jh_nw_O (by omega) ?_) (by omega) (Nat.le_of_ble_eq_true rfl) (by omega) (by omega) rfl
  refine js_astore_n rfl rfl (by decide) rfl ?_
  obtain ⟨h1, eh1⟩ : ∃ z, z = jh_si (jh_sr (jh_nw h q0 5 (jc_q 5).2.2) q0 320 (some (jg_c g (100 + o)))) q0 321 (nI pl) := ⟨_, rfl⟩
  have f1 : fr (fun _ => False) h h1 := by rw [eh1]; exact (fr.si (S := fun b => b = q0) (fr.sr (fr.nw fr.rf hq0) rfl) rfl).mono (fun b hb z => hq0 (by rw [← z]; exact hb))
  have n1 : nw_pt g h1 q0 o pl := by
    rw [eh1]
    exact ⟨jh_nw_O, jh_u_s _ _ _ _, jh_u_s _ _ _ _, (jh_u_k _ _ _ _ (by decide)).trans (jh_z_s _ _ _ _), (jh_u_k _ _ _ _ (by decide)).trans (jh_z_s _ _ _ _), (jh_u_k _ _ _ _ (by decide)).trans (jh_z_s _ _ _ _), (jh_u_k _ _ _ _ (by decide)).trans (jh_z_s _ _ _ _)⟩
  rw [← eh1]
  have hr1 := hr.nw f1
  have g1 : rd_f r st h h1 := rd_f.rf.nw hr.1 f1
  have hce := hr.2.2.2.2.2.2.1
  have h4 := hr.2.2.2.1
  have h8 := hr.2.2.2.2.2.2.2.1
  have rq : r ≠ q0 := fun z => jO_ne hr1.1 n1.1 (by decide) z
  -- what writes the part alone
  have put : ∀ h2 h3 c2, rd_ok h2 r sb sch cap st L c2 e → rd_f r st h h2 → jh_O h2 q0 5 → fr (fun b => b = q0) h2 h3 → rd_ok h3 r sb sch cap st L c2 e ∧ rd_f r st h h3 := by
    intro h2 h3 c2 hr2 f2 oq F
    obtain ⟨r1, r2, r3, r4, r5, r6, r7, r8, r9, r10⟩ := hr2
    have y := F.2 r r1.1 rq
    exact ⟨⟨y.O r1, (y.2.2.2.2.1 256).trans r2, r3.fr F (fun z => jO_ne r3.1.1 oq (by decide) z) (fun z => jOA_ne oq r3.1.2.1 (by decide) z.symm), r4, (y.2.2.1 263).trans r5, (y.2.2.1 264).trans r6, r7, r8, (y.2.2.2.2.1 265).trans r9, F.A r10⟩, f2.1.tr F (fun x hx z => absurd hx (by rw [z]; exact hq0)), fun k hk => (y.2.2.1 k).trans (f2.2.1 k hk), fun k => (y.2.2.2.2.1 k).trans (f2.2.2 k)⟩
  -- nothing more is read
  have at56 : (o = 4 ∨ 9 ≤ o) → jw_J g d m_P_readRest jw_T0 56 [some (.inr (.inr (some r))), some (.inr (.inr (some (jg_c g (100 + o))))), some (.inl (nI pl)), some (.inr (.inr (some q0)))] [] h1 (mc - 1) (ms - 9) Q := by
    intro z
    refine jw_aload_n rfl rfl ?_
    refine jw_areturn rfl rfl (Or.inl ⟨_, rfl⟩) ?_
    exact q2 (by rw [rr_ok, if_pos z]) h1 q0 c hr1 g1 hq0 n1 (fun y => absurd y (by omega)) (fun y => absurd y (by omega))
  -- an expression
  have at115 : (o = 2 ∨ o = 3 ∨ o = 6 ∨ o = 7 ∨ o = 8) → jw_J g d m_P_readRest jw_T0 115 [some (.inr (.inr (some r))), some (.inr (.inr (some (jg_c g (100 + o))))), some (.inl (nI pl)), some (.inr (.inr (some q0)))] [] h1 (mc - 1) (ms - 9) Q := by
    intro z
    have er : rr_ok (tL L) o c e = sp_isExpr (tL L) c e := by rw [rr_ok, if_neg (by omega), if_neg (by omega)]
    rw [er] at q1 q2
    refine jw_aload_n rfl rfl ?_
    refine jw_aload_n rfl rfl ?_
    refine js_call (As := []) rfl l_P_readExpression c_P_217 i_P_readExpression s_P_readExpression jc_o4 rfl (hr1.1) rfl (cp_readExpr (d := d - 1) (mc := 9) (ms := 31 + 2 * (e - c)) (P := fun b => b ∉ jh_L h1) hg hr1 (fun b hb => hb) (fun b hb y => by rcases y with y | y; exact hb (by rw [y]; exact hr1.1.1); exact hb (by rw [y]; exact hr1.2.2.2.2.2.2.2.2.2.1)) (by omega) (by omega) (by omega) (fun hn h2 c2 hr2 f2 => ?_) (fun hy h2 x hr2 f2 x2 => ?_)) (by omega) (Nat.le_of_ble_eq_true rfl) (by omega) (by omega) rfl
    · have oq := f2.1.O n1.1
      refine jw_pr rfl p_P_readRest_221 (oq) ?_
      refine jw_aload_n rfl rfl ?_
      refine jw_gr rfl g_P_221 (oq) (jh_u_s _ _ _ _) ?_
      refine jw_ifnonnull 134 rfl rfl (fun _ => ?_) (fun x_ z_ => by cases z_)
      refine jw_null rfl ?_
      refine jw_goto 135 rfl rfl ?_
      refine jw_areturn rfl rfl (Or.inl ⟨_, rfl⟩) ?_
      obtain ⟨y1, y2⟩ := put h2 (jh_sr h2 q0 323 none) c2 hr2 (g1.tr f2) oq (fr.sr fr.rf rfl)
      exact q1 hn _ c2 y1 y2
    · have oq := f2.1.O n1.1
      refine jw_pr rfl p_P_readRest_221 (oq) ?_
      refine jw_aload_n rfl rfl ?_
      refine jw_gr rfl g_P_221 (oq) (jh_u_s _ _ _ _) ?_
      refine jw_ifnonnull 134 rfl rfl (fun z_ => by cases z_) (fun _ _ => ?_)
      refine jw_aload_n rfl rfl ?_
      refine jw_areturn rfl rfl (Or.inl ⟨_, rfl⟩) ?_
      have F : fr (fun b => b = q0) h2 (jh_sr h2 q0 323 (some x)) := fr.sr fr.rf rfl
      obtain ⟨y1, y2⟩ := put h2 (jh_sr h2 q0 323 (some x)) e hr2 (g1.tr f2) oq F
      have nq : ¬ rd_S r st q0 := fun z => by
        rcases z with z | z
        · exact rq z.symm
        · exact jOA_ne n1.1 hr1.2.2.2.2.2.2.2.2.2 (by decide) z
      obtain ⟨m1, m2, m3, m4, m5, m6, m7⟩ := n1.eq (f2.1.2 _ n1.1.1 nq)
      refine q2 hy _ q0 e y1 y2 hq0 ⟨m1, (jh_u_k _ _ _ _ (by decide)).trans m2, m3, (jh_u_k _ _ _ _ (by decide)).trans m4, (jh_u_k _ _ _ _ (by decide)).trans m5, (jh_u_k _ _ _ _ (by decide)).trans m6, m7⟩ (fun y => absurd y (by omega)) (fun _ => ⟨x, jh_u_s _ _ _ _, ?_⟩)
      exact (x2.fr F (fun b hb y => hb (by rw [y]; exact n1.1.1))).mono (fun b p1 p2 p3 p4 => ⟨fun y => p1 (f1.1 _ y).1, p2, p3, p4⟩)
  have h11 : o = 2 ∨ o = 3 ∨ o = 4 ∨ o = 5 ∨ o = 6 ∨ o = 7 ∨ o = 8 ∨ o = 9 ∨ o = 10 ∨ o = 11 ∨ o = 12 := by omega
  rcases h11 with e0 | e0 | e0 | e0 | e0 | e0 | e0 | e0 | e0 | e0 | e0
  · subst e0
    refine jw_gst rfl kz_24 y_P_129 ?_
    refine jw_aload_n rfl rfl ?_
    refine jw_ord (x := 2) rfl mx_P_138 od_sameS od_selS kq_102 kf_ordinal_102 (by omega) (Nat.le_of_ble_eq_true rfl) ?_
    refine jw_kiald (2) rfl kt_300 rfl (by first | omega | decide) (by decide) ?_
    refine jw_tableOut 115 rfl (by decide) rfl ?_
    exact at115 (by decide)
  · subst e0
    refine jw_gst rfl kz_24 y_P_129 ?_
    refine jw_aload_n rfl rfl ?_
    refine jw_ord (x := 3) rfl mx_P_138 od_sameS od_selS kq_103 kf_ordinal_103 (by omega) (Nat.le_of_ble_eq_true rfl) ?_
    refine jw_kiald (3) rfl kt_300 rfl (by first | omega | decide) (by decide) ?_
    refine jw_tableOut 115 rfl (by decide) rfl ?_
    exact at115 (by decide)
  · subst e0
    refine jw_gst rfl kz_24 y_P_129 ?_
    refine jw_aload_n rfl rfl ?_
    refine jw_ord (x := 4) rfl mx_P_138 od_sameS od_selS kq_104 kf_ordinal_104 (by omega) (Nat.le_of_ble_eq_true rfl) ?_
    refine jw_kiald (4) rfl kt_300 rfl (by first | omega | decide) (by decide) ?_
    refine jw_tableIn 56 rfl (by decide) (by decide) rfl rfl ?_
    exact at56 (by decide)
  · subst e0
    refine jw_gst rfl kz_24 y_P_129 ?_
    refine jw_aload_n rfl rfl ?_
    refine jw_ord (x := 5) rfl mx_P_138 od_sameS od_selS kq_105 kf_ordinal_105 (by omega) (Nat.le_of_ble_eq_true rfl) ?_
    refine jw_kiald (5) rfl kt_300 rfl (by first | omega | decide) (by decide) ?_
    refine jw_tableIn 58 rfl (by decide) (by decide) rfl rfl ?_
    refine jw_aload_n rfl rfl ?_
    refine jw_aload_n rfl rfl ?_
    refine jw_gi rfl g_P_75 (hr1.1) (hr1.2.2.2.2.2.1) ?_
    refine jw_aload_n rfl rfl ?_
    refine jw_gi rfl g_P_72 (hr1.1) (hr1.2.2.2.2.1) ?_
    refine jw_isubV rfl (pk_sub hce) ?_
    refine js_iconst (x := 1) rfl rfl ?_
    have er : rr_ok (tL L) 5 c e = decide (e - c = 1 ∧ 97 ≤ tL L c ∧ tL L c ≤ 100) := by rw [rr_ok, if_neg (by decide), if_pos rfl]
    rw [er] at q1 q2
    by_cases c1 : e - c = 1
    · obtain ⟨v1, v2, v3, v4, v5, v6⟩ := rd_ch hr1 (by omega)
      have hcap := hr1.2.2.1.1.2.2.2.2.2
      refine jw_icmp_ne 90 rfl rfl (fun z => absurd (by rw [c1]; rfl) z) (fun _ => ?_)
      refine jw_aload_n rfl rfl ?_
      refine jw_gr rfl g_P_38 (hr1.1) (hr1.2.1) ?_
      refine jw_gr rfl g_P_210 (hr1.2.2.1.1.1) (v1) ?_
      refine jw_aload_n rfl rfl ?_
      refine jw_gi rfl g_P_72 (hr1.1) (hr1.2.2.2.2.1) ?_
      refine js_caldV (c) rfl (v2) (by decide) (by rfl) rfl (by omega) (by omega) (v4) ?_
      refine js_bipush (x := 97) rfl rfl ?_
      refine jw_isub rfl ?_
      refine jw_goto 91 rfl rfl ?_
      refine jw_pi rfl p_P_readRest_214 (n1.1) ?_
      refine jw_aload_n rfl rfl ?_
      refine jw_gi rfl g_P_214 (n1.1) (jh_u_s _ _ _ _) ?_
      have F : fr (fun b => b = q0) h1 (jh_si h1 q0 324 (nI (tL L c) - 97)) := fr.si fr.rf rfl
      obtain ⟨y1, y2⟩ := put h1 _ c hr1 g1 n1.1 F
      by_cases c97 : 97 ≤ tL L c
      · have e97 : nI (tL L c) - 97 = nI (tL L c - 97) := pk_sub (a := tL L c) (b := 97) c97
        rw [e97] at y1 y2 ⊢
        refine jw_if_lt 113 rfl rfl (fun z => absurd z (fun z => absurd z (nI_pos (by omega)))) (fun _ => ?_)
        refine jw_aload_n rfl rfl ?_
        refine jw_gi rfl g_P_214 (n1.1) (jh_u_s _ _ _ _) ?_
        refine js_iconst (x := 4) rfl rfl ?_
        by_cases c100 : tL L c ≤ 100
        · refine jw_icmp_ge 113 rfl rfl (fun z => absurd z (fun z => absurd ((nI_leI (a := 4) (by decide) (by omega)).mp z) (by omega))) (fun _ => ?_)
          refine jw_aload_n rfl rfl ?_
          refine jw_goto 114 rfl rfl ?_
          refine jw_areturn rfl rfl (Or.inl ⟨_, rfl⟩) ?_
          obtain ⟨m1, m2, m3, m4, m5, m6, m7⟩ := n1
          exact q2 (decide_eq_true ⟨c1, c97, c100⟩) _ q0 c y1 y2 hq0 ⟨m1, m2, (jh_u_k _ _ _ _ (by decide)).trans m3, m4, m5, m6, (jh_u_k _ _ _ _ (by decide)).trans m7⟩ (fun _ => jh_u_s _ _ _ _) (fun y => absurd y (by decide))
        · refine jw_icmp_ge 113 rfl rfl (fun _ => ?_) (fun z => absurd ((nI_leI (a := 4) (by decide) (by omega)).mpr (by omega)) z)
          refine jw_null rfl ?_
          refine jw_areturn rfl rfl (Or.inl ⟨_, rfl⟩) ?_
          exact q1 (decide_eq_false (fun z => c100 z.2.2)) _ c y1 y2
      · refine jw_if_lt 113 rfl rfl (fun _ => ?_) (fun z => absurd (pk_sneg (a := tL L c) (b := 97) (by decide) (by omega)) z)
        refine jw_null rfl ?_
        refine jw_areturn rfl rfl (Or.inl ⟨_, rfl⟩) ?_
        exact q1 (decide_eq_false (fun z => c97 z.2.1)) _ c y1 y2
    · refine jw_icmp_ne 90 rfl rfl (fun _ => ?_) (fun z => absurd z (fun z => c1 ((nI_eq (b := 1) (by omega) (by decide)).mp z)))
      refine js_iconst (x := 4) rfl rfl ?_
      refine jw_pi rfl p_P_readRest_214 (n1.1) ?_
      refine jw_aload_n rfl rfl ?_
      refine jw_gi rfl g_P_214 (n1.1) (jh_u_s _ _ _ _) ?_
      have F : fr (fun b => b = q0) h1 (jh_si h1 q0 324 4) := fr.si fr.rf rfl
      obtain ⟨y1, y2⟩ := put h1 _ c hr1 g1 n1.1 F
      refine jw_if_lt 113 rfl rfl (fun z => absurd z (by decide)) (fun _ => ?_)
      refine jw_aload_n rfl rfl ?_
      refine jw_gi rfl g_P_214 (n1.1) (jh_u_s _ _ _ _) ?_
      refine js_iconst (x := 4) rfl rfl ?_
      refine jw_icmp_ge 113 rfl rfl (fun _ => ?_) (fun z => absurd (by decide) z)
      refine jw_null rfl ?_
      refine jw_areturn rfl rfl (Or.inl ⟨_, rfl⟩) ?_
      exact q1 (decide_eq_false (fun z => c1 z.1)) _ c y1 y2
  · subst e0
    refine jw_gst rfl kz_24 y_P_129 ?_
    refine jw_aload_n rfl rfl ?_
    refine jw_ord (x := 6) rfl mx_P_138 od_sameS od_selS kq_106 kf_ordinal_106 (by omega) (Nat.le_of_ble_eq_true rfl) ?_
    refine jw_kiald (6) rfl kt_300 rfl (by first | omega | decide) (by decide) ?_
    refine jw_tableOut 115 rfl (by decide) rfl ?_
    exact at115 (by decide)
  · subst e0
    refine jw_gst rfl kz_24 y_P_129 ?_
    refine jw_aload_n rfl rfl ?_
    refine jw_ord (x := 7) rfl mx_P_138 od_sameS od_selS kq_107 kf_ordinal_107 (by omega) (Nat.le_of_ble_eq_true rfl) ?_
    refine jw_kiald (7) rfl kt_300 rfl (by first | omega | decide) (by decide) ?_
    refine jw_tableOut 115 rfl (by decide) rfl ?_
    exact at115 (by decide)
  · subst e0
    refine jw_gst rfl kz_24 y_P_129 ?_
    refine jw_aload_n rfl rfl ?_
    refine jw_ord (x := 8) rfl mx_P_138 od_sameS od_selS kq_108 kf_ordinal_108 (by omega) (Nat.le_of_ble_eq_true rfl) ?_
    refine jw_kiald (8) rfl kt_300 rfl (by first | omega | decide) (by decide) ?_
    refine jw_tableOut 115 rfl (by decide) rfl ?_
    exact at115 (by decide)
  · subst e0
    refine jw_gst rfl kz_24 y_P_129 ?_
    refine jw_aload_n rfl rfl ?_
    refine jw_ord (x := 9) rfl mx_P_138 od_sameS od_selS kq_109 kf_ordinal_109 (by omega) (Nat.le_of_ble_eq_true rfl) ?_
    refine jw_kiald (9) rfl kt_300 rfl (by first | omega | decide) (by decide) ?_
    refine jw_tableIn 56 rfl (by decide) (by decide) rfl rfl ?_
    exact at56 (by decide)
  · subst e0
    refine jw_gst rfl kz_24 y_P_129 ?_
    refine jw_aload_n rfl rfl ?_
    refine jw_ord (x := 10) rfl mx_P_138 od_sameS od_selS kq_110 kf_ordinal_110 (by omega) (Nat.le_of_ble_eq_true rfl) ?_
    refine jw_kiald (10) rfl kt_300 rfl (by first | omega | decide) (by decide) ?_
    refine jw_tableIn 56 rfl (by decide) (by decide) rfl rfl ?_
    exact at56 (by decide)
  · subst e0
    refine jw_gst rfl kz_24 y_P_129 ?_
    refine jw_aload_n rfl rfl ?_
    refine jw_ord (x := 11) rfl mx_P_138 od_sameS od_selS kq_111 kf_ordinal_111 (by omega) (Nat.le_of_ble_eq_true rfl) ?_
    refine jw_kiald (11) rfl kt_300 rfl (by first | omega | decide) (by decide) ?_
    refine jw_tableIn 56 rfl (by decide) (by decide) rfl rfl ?_
    exact at56 (by decide)
  · subst e0
    refine jw_gst rfl kz_24 y_P_129 ?_
    refine jw_aload_n rfl rfl ?_
    refine jw_ord (x := 12) rfl mx_P_138 od_sameS od_selS kq_112 kf_ordinal_112 (by omega) (Nat.le_of_ble_eq_true rfl) ?_
    refine jw_kiald (12) rfl kt_300 rfl (by first | omega | decide) (by decide) ?_
    refine jw_tableIn 56 rfl (by decide) (by decide) rfl rfl ?_
    exact at56 (by decide)

