/-! READER: hanging a part -/
theorem pt_lt {X : tp_X} {i : Nat} (h : ¬ pt_end X i) : i < X.2.1 := by unfold pt_end at h; omega
theorem lw_cg {X : tp_X} {A B A' B' : Nat → Nat} (hA : ∀ i, i < X.2.1 → A' i = A i) (hB : ∀ i, i < X.2.1 → B' i = B i) {W to : Option Nat} : lw X A' B' W to = lw X A B W to := by
  cases to with
  | none => rfl
  | some j =>
    show (if j < X.2.1 then _ else W) = (if j < X.2.1 then _ else W)
    by_cases c : j < X.2.1
    · rw [if_pos c, if_pos c, hA j c]
      unfold pt_tl
      rw [hB j c]
    · rw [if_neg c, if_neg c]
theorem BI.cg {g : jg_G} {h0 h : jh_H} {X : tp_X} {A B A' B' : Nat → Nat} {rt : Nat} {W : Option Nat} (hb : BI g h0 h X A B rt W) (hA : ∀ i, i < X.2.1 → A' i = A i) (hB : ∀ i, i < X.2.1 → B' i = B i) : BI g h0 h X A' B' rt W := by
  obtain ⟨b1, b2, b3, b4, b5, b6, b7, b8⟩ := hb
  refine ⟨b1, b2, by rw [lw_cg hA hB]; exact b3, fun i hi hti => ?_, fun i hi => ?_, fun i j hi hj e => ?_, fun i j hi hj hti htj e => ?_, fun i j hi hti hj => ?_⟩
  · have := b4 i hi hti
    unfold bt_pl at this ⊢
    unfold pt_tl at this ⊢
    rw [hA i hi, hB i hi]
    exact this
  · have := b5 i hi
    unfold bt_tg at this ⊢
    rw [hB i (pt_lt hi), lw_cg hA hB, lw_cg hA hB, lw_cg hA hB]
    exact this
  · rw [hB i (pt_lt hi), hB j (pt_lt hj)] at e
    exact b6 i j hi hj e
  · rw [hA i hi, hA j hj] at e
    exact b7 i j hi hj hti htj e
  · rw [hA i hi, hB j (pt_lt hj)]
    exact b8 i j hi hti hj
theorem FL.cg {h : jh_H} {X : tp_X} {B B' : Nat → Nat} {rt : Nat} (hf : FL h X B rt) (hB : ∀ i, i < X.2.1 → B' i = B i) : FL h X B' rt := ⟨hf.1, fun i hi hb => by rw [hB i (pt_lt hi)]; exact hf.2 i hi hb⟩
theorem HO.cg {X : tp_X} {A B A' B' : Nat → Nat} {rt ha hk : Nat} (ho : HO X A B rt ha hk) (hA : ∀ i, i < X.2.1 → A' i = A i) (hB : ∀ i, i < X.2.1 → B' i = B i) : HO X A' B' rt ha hk := by
  obtain ⟨o1, o2, o3, o4⟩ := ho
  refine ⟨o1, fun i hi => ?_, fun i hi hti => by rw [hA i hi]; exact o3 i hi hti, o4⟩
  rw [hB i (pt_lt hi)]
  exact o2 i hi
theorem BI.mv2 {g : jg_G} {h0 h h' : jh_H} {X : tp_X} {A B : Nat → Nat} {rt : Nat} {W : Option Nat} {S : Nat → Prop} (hb : BI g h0 h X A B rt W) (f : fr S h h') (hS : ∀ b, xk h0 h b → ¬ S b) (hr : ¬ S rt) (hA : ∀ i, i < X.2.1 → rn_text X i ≠ [] → ¬ S (A i)) (hB : ∀ i, ¬ pt_end X i → ¬ S (B i)) : BI g h0 h' X A B rt W := by
  obtain ⟨b1, b2, b3, b4, b5, b6⟩ := hb
  have e := f.2 _ b1.1 hr
  exact ⟨e.O b1, b2, (e.2.2.2.2.1 326).trans b3, fun i hi ht => (b4 i hi ht).mv f hS (hA i hi ht), fun i hi => (b5 i hi).mv f hS (hB i hi), b6⟩
-- an int that is no part of the tree's links
theorem BI.si {g : jg_G} {h0 h : jh_H} {X : tp_X} {A B : Nat → Nat} {rt a q : Nat} {v : Int32} {W : Option Nat} (hb : BI g h0 h X A B rt W) (hO : jh_O h a 5) (hq : q ≠ 321) (hq2 : q ≠ 324) : BI g h0 (jh_si h a q v) X A B rt W := by
  obtain ⟨b1, b2, b3, b4, b5, b6⟩ := hb
  have f : fr (fun b => b = a) h (jh_si h a q v) := fr.si fr.rf rfl
  have nk : ∀ b, xk h0 h b → b ≠ a := fun b z e => z.2.2.1 (by rw [e, hO.2])
  refine ⟨b1, b2, b3, fun i hi hti => ?_, fun i hi => ?_, b6⟩
  · obtain ⟨p1, p2, p3, ⟨tb, ch, cap, p4, p5, p6, p7⟩, p8⟩ := b4 i hi hti
    exact ⟨p1, p2, p3, ⟨tb, ch, cap, p4, p5.mv f, p6.mv f, p7.fr f (nk _ p5) (nk _ p6)⟩, p8⟩
  · obtain ⟨p1, p2, p3, p4, p5, p6, p7, p8⟩ := b5 i hi
    refine ⟨p1, p2, p3, (jh_u_k _ _ _ _ (Ne.symm hq)).trans p4, p5, fun z => (jh_u_k _ _ _ _ (Ne.symm hq2)).trans (p6 z), fun z1 z2 => ?_, p8⟩
    obtain ⟨x, x1, x2⟩ := p7 z1 z2
    exact ⟨x, x1, xp_xk x2 f nk⟩
def hf (lst : Option Nat) (tp : Nat) (el : Bool) : Nat × Nat := match lst with
  | some x => (x, 325)
  | none => (tp, if el then 327 else 326)
/-- the reader's own: open blocks, the last part -/
def rz (h : jh_H) (r op d : Nat) (lst : Option Nat) : Prop := jh_O h r 4 ∧ jh_r h r 258 = some op ∧ jh_A h op 5 5 ∧ jh_i h r 259 = nI d ∧ d ≤ 4 ∧ jh_r h r 260 = lst ∧ ∀ x, lst = some x → jh_O h x 5
set_option maxHeartbeats 4000000 in
set_option maxRecDepth 100000 in
theorem cp_attach {g : jg_G} (hg : (jg_l g).stackTraces = false) {d mc ms : Nat} {h : jh_H} {r op dd tp q : Nat} {lst : Option Nat} {el : Bool} {Q : jw_O → jh_H → Prop} (hz : rz h r op dd lst) (ht : jh_R h op dd = some tp) (hO : jh_O h tp 5) (he : jh_i h tp 328 = if el then 1 else 0) (hq : Q (.inl none) (jh_sr (jh_sr h (hf lst tp el).1 (hf lst tp el).2 (some q)) r 260 (some q))) : jw_C g d mc ms m_P_attach [.inr (.inr (some r)), .inr (.inr (some q))] h Q := by
  refine jw_intro (ls := [some (.inr (.inr (some r))), some (.inr (.inr (some q))), none]) (by decide) k_P_attach rfl (by simp [lo_fit, jv_c]) hg ?_
  obtain ⟨z1, z2, z3, z4, z5, z6, z7⟩ := hz
  refine jw_aload_n rfl rfl ?_
  refine jw_gr rfl g_P_26 (z1) (z2) ?_
  refine jw_aload_n rfl rfl ?_
  refine jw_gi rfl g_P_93 (z1) (z4) ?_
  refine js_aald (dd) rfl (z3) (by decide) (by rfl) rfl (by omega) (by omega) (ht) ?_
  refine js_astore_n rfl rfl (by decide) rfl ?_
  refine jw_aload_n rfl rfl ?_
  refine jw_gr rfl g_P_113 (z1) (z6) ?_
  cases lst with
  | some x =>
    refine jw_ifnull 28 rfl rfl (fun z_ => by cases z_) (fun _ _ => ?_)
    refine jw_aload_n rfl rfl ?_
    refine jw_gr rfl g_P_113 (z1) (z6) ?_
    refine jw_aload_n rfl rfl ?_
    refine jw_pr rfl p_P_attach_116 (z7 x rfl) ?_
    refine jw_goto 48 rfl rfl ?_
    refine jw_aload_n rfl rfl ?_
    refine jw_aload_n rfl rfl ?_
    refine jw_pr rfl p_P_attach_113 (z1) ?_
    refine jw_return rfl rfl ?_
    exact hq
  | none =>
    refine jw_ifnull 28 rfl rfl (fun _ => ?_) (fun x_ z_ => by cases z_)
    refine jw_aload_n rfl rfl ?_
    refine jw_gi rfl g_P_119 (hO) (he) ?_
    cases el with
    | true =>
      refine jw_if_eq 43 rfl rfl (fun z => absurd z (by decide)) (fun _ => ?_)
      refine jw_aload_n rfl rfl ?_
      refine jw_aload_n rfl rfl ?_
      refine jw_pr rfl p_P_attach_123 (hO) ?_
      refine jw_goto 48 rfl rfl ?_
      refine jw_aload_n rfl rfl ?_
      refine jw_aload_n rfl rfl ?_
      refine jw_pr rfl p_P_attach_113 (z1) ?_
      refine jw_return rfl rfl ?_
      exact hq
    | false =>
      refine jw_if_eq 43 rfl rfl (fun _ => ?_) (fun z => absurd (rfl) z)
      refine jw_aload_n rfl rfl ?_
      refine jw_aload_n rfl rfl ?_
      refine jw_pr rfl p_P_attach_126 (hO) ?_
      refine jw_aload_n rfl rfl ?_
      refine jw_aload_n rfl rfl ?_
      refine jw_pr rfl p_P_attach_113 (z1) ?_
      refine jw_return rfl rfl ?_
      exact hq
set_option maxHeartbeats 4000000 in
set_option maxRecDepth 100000 in
theorem cp_begin {g : jg_G} (hg : (jg_l g).stackTraces = false) {d mc ms : Nat} {h : jh_H} {r op dd tp q : Nat} {lst : Option Nat} {el : Bool} {Q : jw_O → jh_H → Prop} (hz : rz h r op dd lst) (ht : jh_R h op dd = some tp) (hO : jh_O h tp 5) (he : jh_i h tp 328 = if el then 1 else 0) (hqo : jh_O h q 5) (hd : 1 ≤ d) (q1 : dd = 4 → Q (.inl (some (.inl 0))) h) (q2 : dd < 4 → Q (.inl (some (.inl 1))) (jh_sr (jh_sR (jh_si (jh_sr (jh_sr h (hf lst tp el).1 (hf lst tp el).2 (some q)) r 260 (some q)) r 259 (nI (dd + 1))) op (dd + 1) (some q)) r 260 none)) : jw_C g d mc ms m_P_beginBlock [.inr (.inr (some r)), .inr (.inr (some q))] h Q := by
  refine jw_intro (ls := [some (.inr (.inr (some r))), some (.inr (.inr (some q)))]) (by decide) k_P_beginBlock rfl (by simp [lo_fit, jv_c]) hg ?_
  obtain ⟨z1, z2, z3, z4, z5, z6, z7⟩ := id hz
  have e258 : ∀ v, jh_r (jh_sr (jh_sr h (hf lst tp el).1 (hf lst tp el).2 (some q)) r 260 v) r 258 = some op := by
    intro v
    refine (jh_u_k _ _ _ _ (by decide)).trans (Eq.trans ?_ z2)
    refine jh_u_k _ _ _ _ ?_
    cases lst with
    | some x => show (258 : Nat) ≠ 325; decide
    | none =>
      cases el with
      | true => show (258 : Nat) ≠ 327; decide
      | false => show (258 : Nat) ≠ 326; decide
  refine jw_aload_n rfl rfl ?_
  refine jw_gi rfl g_P_93 (z1) (z4) ?_
  refine js_iconst (x := 4) rfl rfl ?_
  by_cases c4 : dd < 4
  · refine jw_icmp_lt 10 rfl rfl (fun _ => ?_) (fun z => absurd ((nI_ltI (b := 4) (by omega) (by decide)).mpr c4) z)
    refine jw_aload_n rfl rfl ?_
    refine jw_aload_n rfl rfl ?_
    refine js_call (As := [.inr (.inr (some q))]) rfl l_P_attach c_P_109 i_P_attach s_P_attach jc_o4 rfl (z1) rfl (cp_attach (d := d - 1) (mc := 0) (ms := 0) hg hz ht hO he ?_) (by omega) (Nat.le_of_ble_eq_true rfl) (by omega) (by omega) rfl
    refine jw_aload_n rfl rfl ?_
    refine jw_dup rfl rfl ?_
    refine jw_gi rfl g_P_93 (z1) (z4) ?_
    refine js_iconst (x := 1) rfl rfl ?_
    refine jw_iaddV rfl (nI_1 dd) ?_
    refine jw_pi rfl p_P_beginBlock_93 (z1) ?_
    refine jw_aload_n rfl rfl ?_
    refine jw_gr rfl g_P_26 (z1) (e258 _) ?_
    refine jw_aload_n rfl rfl ?_
    refine jw_gi rfl g_P_93 (z1) (jh_u_s _ _ _ _) ?_
    refine jw_aload_n rfl rfl ?_
    refine js_aast (dd + 1) rfl (z3) (hqo) (by decide) jc_o5 (by rfl) rfl (by omega) (by omega) ?_
    refine jw_aload_n rfl rfl ?_
    refine jw_null rfl ?_
    refine jw_pr rfl p_P_beginBlock_113 (z1) ?_
    refine js_iconst (x := 1) rfl rfl ?_
    refine jw_ireturn rfl rfl rfl ?_
    exact q2 c4
  · refine jw_icmp_lt 10 rfl rfl (fun z => absurd z (fun z => c4 ((nI_ltI (b := 4) (by omega) (by decide)).mp z))) (fun _ => ?_)
    refine js_iconst (x := 0) rfl rfl ?_
    refine jw_ireturn rfl rfl rfl ?_
    exact q1 (by omega)
set_option maxHeartbeats 4000000 in
set_option maxRecDepth 100000 in
theorem cp_other {g : jg_G} (hg : (jg_l g).stackTraces = false) {d mc ms : Nat} {h : jh_H} {r op dd tp : Nat} {lst : Option Nat} {el : Bool} {Q : jw_O → jh_H → Prop} (hz : rz h r op dd lst) (ht : jh_R h op dd = some tp) (hO : jh_O h tp 5) (he : jh_i h tp 328 = if el then 1 else 0) (q1 : dd = 0 ∨ el = true → Q (.inl (some (.inl 0))) h) (q2 : dd ≠ 0 → el = false → Q (.inl (some (.inl 1))) (jh_sr (jh_si h tp 328 1) r 260 none)) : jw_C g d mc ms m_P_beginOther [.inr (.inr (some r))] h Q := by
  refine jw_intro (ls := [some (.inr (.inr (some r)))]) (by decide) k_P_beginOther rfl (by simp [lo_fit, jv_c]) hg ?_
  obtain ⟨z1, z2, z3, z4, z5, z6, z7⟩ := id hz
  refine jw_aload_n rfl rfl ?_
  refine jw_gi rfl g_P_93 (z1) (z4) ?_
  by_cases c0 : dd = 0
  · refine jw_if_eq 22 rfl rfl (fun _ => ?_) (fun z => absurd (by rw [c0]; rfl) z)
    refine js_iconst (x := 0) rfl rfl ?_
    refine jw_ireturn rfl rfl rfl ?_
    exact q1 (Or.inl c0)
  · refine jw_if_eq 22 rfl rfl (fun z => absurd z (fun z => c0 ((nI_eq (b := 0) (by omega) (by decide)).mp z))) (fun _ => ?_)
    refine jw_aload_n rfl rfl ?_
    refine jw_gr rfl g_P_26 (z1) (z2) ?_
    refine jw_aload_n rfl rfl ?_
    refine jw_gi rfl g_P_93 (z1) (z4) ?_
    refine js_aald (dd) rfl (z3) (by decide) (by rfl) rfl (by omega) (by omega) (ht) ?_
    refine jw_gi rfl g_P_119 (hO) (he) ?_
    cases el with
    | true =>
      refine jw_if_eq 24 rfl rfl (fun z => absurd z (by decide)) (fun _ => ?_)
      refine js_iconst (x := 0) rfl rfl ?_
      refine jw_ireturn rfl rfl rfl ?_
      exact q1 (Or.inr rfl)
    | false =>
      refine jw_if_eq 24 rfl rfl (fun _ => ?_) (fun z => absurd (rfl) z)
      refine jw_aload_n rfl rfl ?_
      refine jw_gr rfl g_P_26 (z1) (z2) ?_
      refine jw_aload_n rfl rfl ?_
      refine jw_gi rfl g_P_93 (z1) (z4) ?_
      refine js_aald (dd) rfl (z3) (by decide) (by rfl) rfl (by omega) (by omega) (ht) ?_
      refine js_iconst (x := 1) rfl rfl ?_
      refine jw_pz rfl p_P_beginOther_119 (by first | exact Or.inl rfl | exact Or.inr rfl) (hO) ?_
      refine jw_aload_n rfl rfl ?_
      refine jw_null rfl ?_
      refine jw_pr rfl p_P_beginOther_113 (z1) ?_
      refine js_iconst (x := 1) rfl rfl ?_
      refine jw_ireturn rfl rfl rfl ?_
      exact q2 c0 rfl
set_option maxHeartbeats 4000000 in
set_option maxRecDepth 100000 in
theorem cp_endB {g : jg_G} (hg : (jg_l g).stackTraces = false) {d mc ms : Nat} {h : jh_H} {r op dd tp s s' : Nat} {lst : Option Nat} {Q : jw_O → jh_H → Prop} (hz : rz h r op dd lst) (ht : jh_R h op dd = some tp) (hO : jh_O h tp 5) (hs : dd ≠ 0 → jh_r h tp 320 = some s') (q1 : dd = 0 ∨ s' ≠ s → Q (.inl (some (.inl 0))) h) (q2 : dd ≠ 0 → s' = s → Q (.inl (some (.inl 1))) (jh_si (jh_sr h r 260 (some tp)) r 259 (nI (dd - 1)))) : jw_C g d mc ms m_P_endBlock [.inr (.inr (some r)), .inr (.inr (some s))] h Q := by
  refine jw_intro (ls := [some (.inr (.inr (some r))), some (.inr (.inr (some s)))]) (by decide) k_P_endBlock rfl (by simp [lo_fit, jv_c]) hg ?_
  obtain ⟨z1, z2, z3, z4, z5, z6, z7⟩ := id hz
  refine jw_aload_n rfl rfl ?_
  refine jw_gi rfl g_P_93 (z1) (z4) ?_
  by_cases c0 : dd = 0
  · refine jw_if_eq 23 rfl rfl (fun _ => ?_) (fun z => absurd (by rw [c0]; rfl) z)
    refine js_iconst (x := 0) rfl rfl ?_
    refine jw_ireturn rfl rfl rfl ?_
    exact q1 (Or.inl c0)
  · refine jw_if_eq 23 rfl rfl (fun z => absurd z (fun z => c0 ((nI_eq (b := 0) (by omega) (by decide)).mp z))) (fun _ => ?_)
    refine jw_aload_n rfl rfl ?_
    refine jw_gr rfl g_P_26 (z1) (z2) ?_
    refine jw_aload_n rfl rfl ?_
    refine jw_gi rfl g_P_93 (z1) (z4) ?_
    refine js_aald (dd) rfl (z3) (by decide) (by rfl) rfl (by omega) (by omega) (ht) ?_
    refine jw_gr rfl g_P_135 (hO) (hs c0) ?_
    refine jw_aload_n rfl rfl ?_
    by_cases cs : s' = s
    · refine jw_acmp_eq 25 rfl rfl (fun _ => ?_) (fun z => absurd (congrArg some cs) z)
      refine jw_aload_n rfl rfl ?_
      refine jw_aload_n rfl rfl ?_
      refine jw_gr rfl g_P_26 (z1) (z2) ?_
      refine jw_aload_n rfl rfl ?_
      refine jw_gi rfl g_P_93 (z1) (z4) ?_
      refine js_aald (dd) rfl (z3) (by decide) (by rfl) rfl (by omega) (by omega) (ht) ?_
      refine jw_pr rfl p_P_endBlock_113 (z1) ?_
      refine jw_aload_n rfl rfl ?_
      refine jw_dup rfl rfl ?_
      refine jw_gi rfl g_P_93 (z1) (z4) ?_
      refine js_iconst (x := 1) rfl rfl ?_
      refine jw_isubV rfl (pk_sub (a := dd) (b := 1) (by omega)) ?_
      refine jw_pi rfl p_P_endBlock_93 (z1) ?_
      refine js_iconst (x := 1) rfl rfl ?_
      refine jw_ireturn rfl rfl rfl ?_
      exact q2 c0 cs
    · refine jw_acmp_eq 25 rfl rfl (fun z => absurd z (fun z => cs (Option.some.inj z))) (fun _ => ?_)
      refine js_iconst (x := 0) rfl rfl ?_
      refine jw_ireturn rfl rfl rfl ?_
      exact q1 (Or.inr cs)

