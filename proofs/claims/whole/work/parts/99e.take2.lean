/-! READER: a tag is taken in, 2 -/
theorem fi_end {L : List Nat} {n : Nat} {T : pp_T} {ot' la' : pp_O} {x : Nat × Nat × Nat × Nat × Nat} : pt_end (L, n + 1, va_up T n x, ot', la') n ↔ (6 ≤ tg_s x ∧ tg_s x ≤ 9) := by
  have e2 : rn_s (L, n + 1, va_up T n x, ot', la') n = tg_s x := by show tg_s (va_up T n x n) = _; rw [va_up_self]
  show (n + 1 ≤ n ∨ (6 ≤ rn_s (L, n + 1, va_up T n x, ot', la') n ∧ rn_s (L, n + 1, va_up T n x, ot', la') n ≤ 9)) ↔ _
  rw [e2]
  constructor
  · rintro (z | z)
    · omega
    · exact z
  · exact fun z => Or.inr z
theorem fi_bl {L : List Nat} {n : Nat} {T : pp_T} {ot' la' : pp_O} {x : Nat × Nat × Nat × Nat × Nat} : bl (L, n + 1, va_up T n x, ot', la') n ↔ (3 ≤ tg_s x ∧ tg_s x ≤ 5) := by
  have e2 : rn_s (L, n + 1, va_up T n x, ot', la') n = tg_s x := by show tg_s (va_up T n x n) = _; rw [va_up_self]
  show (3 ≤ rn_s (L, n + 1, va_up T n x, ot', la') n ∧ rn_s (L, n + 1, va_up T n x, ot', la') n ≤ 5) ↔ _
  rw [e2]
theorem fi_bi {g : jg_G} {h0 h : jh_H} {L : List Nat} {n : Nat} {T : pp_T} {ot la ot' la' : pp_O} {x : Nat × Nat × Nat × Nat × Nat} {A B : Nat → Nat} {rt q : Nat} {W tl : Option Nat} {txt : List Nat} (hb : BI g h0 h (L, n, T, ot, la) A B rt W) (ht : TB (L, n, T, ot, la)) (hot : ∀ i, i < n → ot' i = ot i ∨ (ot i = none ∧ ot' i = some n)) (hla : ∀ i, i < n → bl (L, n, T, ot, la) i → la' i = la i ∨ (la i = none ∧ la' i = some n)) (hnn : ¬ (6 ≤ tg_s x ∧ tg_s x ≤ 9) → ot' n = none ∧ la' n = none)
    (htx : rn_text (L, n + 1, va_up T n x, ot', la') n = txt) (htl : tl = if 6 ≤ tg_s x ∧ tg_s x ≤ 9 then none else some q) (hW : W = if txt = [] then tl else some (A n)) (hA : txt ≠ [] → ap_ok g h0 h (A n) txt tl ∧ (∀ i, i < n → rn_text (L, n, T, ot, la) i ≠ [] → A i ≠ A n) ∧ ∀ i, ¬ pt_end (L, n, T, ot, la) i → A n ≠ B i) (hs : tg_s x ≤ 10)
    (hB : tg_nw g h0 h L x q (o_s (tg_s x)) ∧ (∀ i, ¬ pt_end (L, n, T, ot, la) i → B i ≠ q) ∧ (∀ i, i < n → rn_text (L, n, T, ot, la) i ≠ [] → A i ≠ q) ∧ (txt ≠ [] → A n ≠ q)) : BI g h0 h (L, n + 1, va_up T n x, ot', la') A (va_up B n q) rt none := by
  have eB : ∀ i, i < n → va_up B n q i = B i := fun i hi => va_up_ne _ _ (by omega)
  have eBn : va_up B n q n = q := va_up_self _ _ _
  have etl : pt_tl (L, n + 1, va_up T n x, ot', la') (va_up B n q) n = tl := by
    unfold pt_tl
    rw [htl, eBn]
    by_cases c : 6 ≤ tg_s x ∧ tg_s x ≤ 9
    · rw [if_pos c, if_pos (fi_end.mpr c)]
    · rw [if_neg c, if_neg (fun z => c (fi_end.mp z))]
  refine BI.step (hb.cg (A' := A) (B' := va_up B n q) (fun _ _ => rfl) eB) ht hot hla (fun z => hnn (fun y => z (fi_end.mpr y))) (by rw [htx, etl]; exact hW) (fun z => ?_) (fun z => ?_)
  · rw [htx] at z
    obtain ⟨a1, a2, a3⟩ := hA z
    rw [etl]
    refine ⟨?_, a2, fun i hi => by rw [eB i (pt_lt hi)]; exact a3 i hi⟩
    unfold bt_pl
    rw [htx]
    exact a1
  · have hs2 : tg_s x ≤ 5 ∨ tg_s x = 10 := by
      have : ¬ (6 ≤ tg_s x ∧ tg_s x ≤ 9) := fun y => z (fi_end.mpr y)
      omega
    refine ⟨hB.1.nb hs2, fun i hi => by rw [eB i (pt_lt hi), eBn]; exact hB.2.1 i hi, fun i hi hti => by rw [eBn]; exact hB.2.2.1 i hi hti, fun y => by rw [eBn]; rw [htx] at y; exact hB.2.2.2 y⟩
theorem fi_rt {g : jg_G} {h0 h : jh_H} {X : tp_X} {A B : Nat → Nat} {rt : Nat} {W : Option Nat} (hb : BI g h0 h X A B rt W) : ∀ i, ¬ pt_end X i → rt ≠ B i := fun i hi e => (hb.2.2.2.2.1 i hi).2.1 (by rw [← e]; exact hb.2.1)
-- a tag is taken in
set_option maxHeartbeats 4000000 in
set_option maxRecDepth 100000 in
theorem cp_takeIn {g : jg_G} (hg : (jg_l g).stackTraces = false) {d mc ms : Nat} {h0 h : jh_H} {r op rt q dd : Nat} {L : List Nat} {n : Nat} {T : pp_T} {ot la : pp_O} {x : Nat × Nat × Nat × Nat × Nat} {A B : Nat → Nat} {os : Nat → Nat} {lst W : Option Nat} {txt : List Nat} {Q : jw_O → jh_H → Prop} (hT : RT g h0 h r op rt (L, n, T, ot, la) A B dd os lst W) (hM : MD g h0 h rt (L, n, T, ot, la) A B dd os lst W txt) (htx : ∀ ot' la', rn_text (L, n + 1, va_up T n x, ot', la') n = txt) (hn : tg_nw g h0 h L x q (o_s (tg_s x))) (hs : tg_s x ≤ 10) (dq1 : ∀ i, ¬ pt_end (L, n, T, ot, la) i → B i ≠ q) (dq2 : ∀ i, i < n → rn_text (L, n, T, ot, la) i ≠ [] → A i ≠ q) (dq3 : txt ≠ [] → A n ≠ q) (dqL : ∀ y, lst = some y → y ≠ q) (hd : 3 ≤ d)
    (q1 : pp_fit n (tg_s x) (fun i => (va_up T n x i).2.2.2.2) dd os (va_up ot n none) (va_up la n none) = none → Q (.inl (some (.inl 0))) h)
    (q2 : ∀ d' os' ot' la', pp_fit n (tg_s x) (fun i => (va_up T n x i).2.2.2.2) dd os (va_up ot n none) (va_up la n none) = some (d', os', ot', la') → ∀ h' lst', RT g h0 h' r op rt (L, n + 1, va_up T n x, ot', la') A (va_up B n q) d' os' lst' none → HH h0 h' (L, n + 1, va_up T n x, ot', la') A (va_up B n q) rt d' os' lst' → tf h0 r op rt h h' → Q (.inl (some (.inl 1))) h') : jw_C g d mc ms m_P_takeIn [.inr (.inr (some r)), .inr (.inr (some q))] h Q := by
  refine jw_intro (ls := [some (.inr (.inr (some r))), some (.inr (.inr (some q)))]) (by decide) k_P_takeIn rfl (by simp [lo_fit, jv_c]) hg ?_
  obtain ⟨p1, p2, p3⟩ := hT.top
  obtain ⟨t1, t2, t3, t4, t5, t6, t7, t8, t9⟩ := id hT
  have rR : r ≠ rt := fun e => jO_ne t1.1 t5.1 (by decide) e
  have oR : op ≠ rt := fun e => jOA_ne t5.1 t1.2.2.1 (by decide) e.symm
  have rO : r ≠ op := fun e => jOA_ne t1.1 t1.2.2.1 (by decide) e
  have os_n : ∀ j, j < dd → os j < n := fun j hj => pt_lt (t3 j hj).2.1
  have eB : ∀ i, i < n → va_up B n q i = B i := fun i hi => va_up_ne _ _ (by omega)
  have eBn : va_up B n q n = q := va_up_self _ _ _
  have rq : q ≠ r := fun e => hn.2.1 (by rw [e]; exact t8)
  have oq : q ≠ op := fun e => hn.2.1 (by rw [e]; exact t9)
  have qrt : q ≠ rt := fun e => hn.2.1 (by rw [e]; exact t5.2.1)
  have xk0 : ∀ {h1 b} , xk h0 h1 b → b ≠ r ∧ b ≠ op ∧ b ≠ rt := fun z => ⟨fun e => z.1 (by rw [e]; exact t8), fun e => z.1 (by rw [e]; exact t9), fun e => z.1 (by rw [e]; exact t5.2.1)⟩
  -- the hole of a hung tag
  obtain ⟨ha, eha⟩ : ∃ a, a = (hf lst (tpp (L, n, T, ot, la) B rt dd os) (elp (L, n, T, ot, la) dd os)).1 := ⟨_, rfl⟩
  obtain ⟨hk, ehk⟩ : ∃ k, k = (hf lst (tpp (L, n, T, ot, la) B rt dd os) (elp (L, n, T, ot, la) dd os)).2 := ⟨_, rfl⟩
  obtain ⟨⟨g1, g2, g3⟩, g4, g5⟩ := MD.hang hT hM dq2 dq3 ha hk eha ehk
  have har : ha ≠ r := fun e => by rcases g2 with g2 | g2; exact rR (e.symm.trans g2); exact g2 (by rw [e]; exact t8)
  have hao : ha ≠ op := fun e => by rcases g2 with g2 | g2; exact oR (e.symm.trans g2); exact g2 (by rw [e]; exact t9)
  have haq : ha ≠ q := by
    cases hl : lst with
    | some y => rw [eha, hl]; exact dqL y hl
    | none =>
      have ea : ha = tpp (L, n, T, ot, la) B rt dd os := by rw [eha, hl]; rfl
      rw [ea]
      unfold tpp
      by_cases cd : dd = 0
      · rw [if_pos cd]; exact fun z => qrt z.symm
      · rw [if_neg cd]; exact dq1 _ (t3 (dd - 1) (by omega)).2.1
  obtain ⟨h1, eh1⟩ : ∃ z, z = jh_sr h ha hk (some q) := ⟨_, rfl⟩
  rw [← eh1] at g4 g5
  have fh1 : fr (fun b => b = ha) h h1 := by rw [eh1]; exact fr.sr fr.rf rfl
  have nkh : ∀ b, xk h0 h b → b ≠ ha := fun b z e => z.2.2.1 (by rw [e, g1.2])
  have n1 : tg_nw g h0 h1 L x q (o_s (tg_s x)) := hn.mv fh1 nkh (fun e => haq e.symm)
  have r1 : ∀ k, jh_r h1 r k = jh_r h r k := fun k => by rw [eh1]; exact jh_u_a _ _ _ _ (Ne.symm har)
  have i1 : jh_i h1 = jh_i h := by rw [eh1]; rfl
  have R1 : jh_R h1 = jh_R h := by rw [eh1]; rfl
  have tS1 : fr (tS h0 r op rt) h h1 := by rw [eh1]; exact fr.sr fr.rf (by rcases g2 with g2 | g2; exact Or.inr (Or.inr (Or.inl g2)); exact Or.inr (Or.inr (Or.inr g2)))
  have so_os : ∀ j, j < dd → (va_up T n x (os j)).2.2.2.2 = rn_s (L, n, T, ot, la) (os j) := fun j hj => by show tg_s (va_up T n x (os j)) = tg_s (T (os j)); rw [sg_T (os_n j hj)]
  have blX : ∀ (ot' la' : pp_O) i, i < n → (bl (L, n + 1, va_up T n x, ot', la') i ↔ bl (L, n, T, ot, la) i) := fun ot' la' i hi => by unfold bl; rw [sg_s hi (ot := ot) (la := la)]
  have wtl : ∀ (tl : Option Nat), (txt = [] → W = none) ∧ (txt ≠ [] → W = some (A n)) → True := fun _ _ => trivial
  have hWm : W = if txt = [] then none else some (A n) := by
    rcases hM with ⟨m1, m2, -⟩ | ⟨m1, m2, -⟩
    · rw [if_pos m1]; exact m2
    · rw [if_neg m1]; exact m2
  have hAm : txt ≠ [] → ap_ok g h0 h (A n) txt none ∧ (∀ i, i < n → rn_text (L, n, T, ot, la) i ≠ [] → A i ≠ A n) ∧ ∀ i, ¬ pt_end (L, n, T, ot, la) i → A n ≠ B i := by
    intro z
    rcases hM with ⟨m1, -⟩ | ⟨m1, m2, m3, m4, m5, m6⟩
    · exact absurd m1 z
    · exact ⟨m4, m5, m6⟩
  -- the tables beside
  have up0 : ∀ i, i < n → va_up ot n none i = ot i ∨ (ot i = none ∧ va_up ot n none i = some n) := fun i hi => Or.inl (va_up_ne _ _ (by omega))
  have up1 : ∀ i, i < n → bl (L, n, T, ot, la) i → va_up la n none i = la i ∨ (la i = none ∧ va_up la n none i = some n) := fun i hi _ => Or.inl (va_up_ne _ _ (by omega))
  have up2 : ¬ (6 ≤ tg_s x ∧ tg_s x ≤ 9) → va_up ot n none n = none ∧ va_up la n none n = none := fun _ => ⟨va_up_self _ _ _, va_up_self _ _ _⟩
  -- a hung tag's tree, whatever else the reader writes of itself and of the row
  have hung : ¬ (6 ≤ tg_s x ∧ tg_s x ≤ 9) → ∀ h2, fr (fun b => b = r ∨ b = op) h1 h2 → BI g h0 h2 (L, n + 1, va_up T n x, va_up ot n none, va_up la n none) A (va_up B n q) rt none ∧ TB (L, n + 1, va_up T n x, va_up ot n none, va_up la n none) ∧ tg_nw g h0 h2 L x q (o_s (tg_s x)) := by
    intro c69 h2 f2
    have nk2 : ∀ b, xk h0 h1 b → ¬ (b = r ∨ b = op) := fun b z e => by rcases e with e | e; exact (xk0 z).1 e; exact (xk0 z).2.1 e
    have n2 := n1.mv f2 nk2 (fun e => by rcases e with e | e; exact rq e; exact oq e)
    have b2 := g4.mv f2 (fun b hb _ e => by rcases e with e | e; exact hb (by rw [e]; exact t8); exact hb (by rw [e]; exact t9)) (fun e => by rcases e with e | e; exact rR e.symm; exact oR e.symm)
    refine ⟨fi_bi b2 t7 up0 up1 up2 (htx _ _) (tl := some q) (by rw [if_neg c69]) rfl (fun z => ⟨(g5 z).mv f2 nk2 (fun e => ?_), (hAm z).2⟩) hs ⟨n2, dq1, dq2, dq3⟩, TB.step t7 up0 up1 (fun z => up2 (fun y => z (fi_end.mpr y))), n2⟩
    have := (hAm z).1.2.1
    rcases e with e | e
    · exact this (by rw [e]; exact t8)
    · exact this (by rw [e]; exact t9)
  refine jw_kinj (fun inj => ?_)
  -- plain tags
  have at87 : (tg_s x ≤ 2 ∨ tg_s x = 10) → jw_J g d m_P_takeIn jw_T0 87 [some (.inr (.inr (some r))), some (.inr (.inr (some q)))] [] h mc ms Q := by
    intro cs
    have hfit : pp_fit n (tg_s x) (fun i => (va_up T n x i).2.2.2.2) dd os (va_up ot n none) (va_up la n none) = some (dd, os, va_up ot n none, va_up la n none) := by rw [pp_fit, if_neg (by omega), if_pos cs]
    refine jw_aload_n rfl rfl ?_
    refine jw_aload_n rfl rfl ?_
    refine js_call (As := [.inr (.inr (some q))]) rfl l_P_attach c_P_109 i_P_attach s_P_attach jc_o4 rfl (t1.1) rfl (cp_attach (d := d - 1) (mc := 0) (ms := 0) hg t1 p1 p2 p3 ?_) (by omega) (Nat.le_of_ble_eq_true rfl) (by omega) (by omega) rfl
    refine js_iconst (x := 1) rfl rfl ?_
    refine jw_ireturn rfl rfl rfl ?_
    rw [← eha, ← ehk, ← eh1]
    have f2 : fr (fun b => b = r ∨ b = op) h1 (jh_sr h1 r 260 (some q)) := fr.sr fr.rf (Or.inl rfl)
    obtain ⟨b2, tb2, n2⟩ := hung (by omega) _ f2
    refine q2 _ _ _ _ hfit _ (some q) ⟨⟨f2.O (fh1.O t1.1), (jh_u_k _ _ _ _ (by decide)).trans ((r1 258).trans t1.2.1), f2.A (fh1.A t1.2.2.1), ?_, t1.2.2.2.2.1, jh_u_s _ _ _ _, fun y hy => by cases hy; exact n2.1.1⟩, ?_, fun j hj => ?_, t4, b2, ⟨?_, fun i hi hb => ?_⟩, tb2, t8, t9⟩ ⟨?_, n2.1.1, Or.inr hn.2.1⟩ ⟨?_, fun k _ => ?_, fun k hk => ?_⟩
    · show jh_i h1 r 259 = _; rw [i1]; exact t1.2.2.2.1
    · show jh_R h1 op 0 = _; rw [R1]; exact t2
    · obtain ⟨u1, u2, u3, u4⟩ := t3 j hj
      have hlt := os_n j hj
      refine ⟨?_, fun z => u2 ((sg_end hlt).mp z), (blX _ _ _ hlt).mpr u3, (va_up_ne _ _ (by omega)).trans u4⟩
      rw [eB _ hlt]
      show jh_R h1 op (j + 1) = _; rw [R1]; exact u1
    · show jh_i h1 rt 328 = _; rw [i1]; exact t6.1
    · have hlt : i < n := by
        rcases Nat.lt_or_ge i n with z | z
        · exact z
        · have hi2 := pt_lt hi
          have : i = n := by have : i < n + 1 := hi2; omega
          subst this
          have := fi_bl.mp hb
          omega
      rw [eB i hlt]
      show jh_i h1 (B i) 328 = if (va_up ot n none i).isSome then 1 else 0
      rw [i1, show va_up ot n none i = ot i from va_up_ne _ _ (by omega)]
      exact t6.2 i (fun z => hi ((sg_end hlt).mpr z)) ((blX _ _ _ hlt).mp hb)
    · refine HO.step t7 b2.2.2.2.2.2 (fi_rt b2) (Or.inl rfl) n (fun z => by have := fi_end.mp z; omega) eBn.symm (fun i hi => Or.inl (va_up_ne _ _ (by omega))) (fun i hi _ => Or.inl (va_up_ne _ _ (by omega))) (fun _ => up2 (by omega)) (fun _ => Or.inl ⟨rfl, fun z => by have := fi_bl.mp z; omega⟩) (fun z => absurd z (Nat.lt_irrefl _))
    · exact fr.sr tS1 (Or.inl rfl)
    · show jh_i h1 r k = _; rw [i1]
    · exact (jh_u_k _ _ _ _ hk).trans (r1 k)
  -- a block begins
  have at52 : (3 ≤ tg_s x ∧ tg_s x ≤ 5) → jw_J g d m_P_takeIn jw_T0 52 [some (.inr (.inr (some r))), some (.inr (.inr (some q)))] [] h mc ms Q := by
    intro cs
    refine jw_aload_n rfl rfl ?_
    refine jw_aload_n rfl rfl ?_
    refine js_call (As := [.inr (.inr (some q))]) rfl l_P_beginBlock c_P_141 i_P_beginBlock s_P_beginBlock jc_o4 rfl (t1.1) rfl (cp_begin (d := d - 1) (mc := 0) (ms := 0) hg t1 p1 p2 p3 hn.1.1 (by omega) (fun c4 => ?_) (fun c4 => ?_)) (by omega) (Nat.le_of_ble_eq_true rfl) (by omega) (by omega) rfl
    · refine jw_ireturn rfl rfl rfl ?_
      exact q1 (by rw [pp_fit, if_pos (by omega), if_pos c4])
    · refine jw_ireturn rfl rfl rfl ?_
      have hfit : pp_fit n (tg_s x) (fun i => (va_up T n x i).2.2.2.2) dd os (va_up ot n none) (va_up la n none) = some (dd + 1, va_up os dd n, va_up ot n none, va_up la n none) := by rw [pp_fit, if_pos (by omega), if_neg (by omega)]
      rw [← eha, ← ehk, ← eh1]
      obtain ⟨h2, eh2⟩ : ∃ z, z = jh_sr (jh_sR (jh_si (jh_sr h1 r 260 (some q)) r 259 (nI (dd + 1))) op (dd + 1) (some q)) r 260 none := ⟨_, rfl⟩
      rw [← eh2]
      have f2 : fr (fun b => b = r ∨ b = op) h1 h2 := by rw [eh2]; exact fr.sr (fr.sR (fr.si (fr.sr fr.rf (Or.inl rfl)) (Or.inl rfl)) (Or.inr rfl)) (Or.inl rfl)
      obtain ⟨b2, tb2, n2⟩ := hung (by omega) _ f2
      have r2 : ∀ k, k ≠ 260 → jh_r h2 r k = jh_r h r k := fun k hk => by rw [eh2]; exact (jh_u_k _ _ _ _ hk).trans ((jh_u_k _ _ _ _ hk).trans (r1 k))
      have i2 : ∀ a k, (a ≠ r ∨ k ≠ 259) → jh_i h2 a k = jh_i h a k := fun a k hk => by
        rw [eh2, ← i1]
        show jh_u (jh_i h1) r 259 _ a k = _
        rcases hk with hk | hk
        · exact jh_u_a _ _ _ _ hk
        · exact jh_u_k _ _ _ _ hk
      have R2 : ∀ j, j ≠ dd + 1 → jh_R h2 op j = jh_R h op j := fun j hj => by rw [eh2, ← R1]; exact jh_u_k _ _ _ _ hj
      have eos : ∀ j, j < dd → va_up os dd n j = os j := fun j hj => va_up_ne _ _ (by omega)
      have eod : va_up os dd n dd = n := va_up_self _ _ _
      refine q2 _ _ _ _ hfit _ none ⟨⟨f2.O (fh1.O t1.1), (r2 258 (by decide)).trans t1.2.1, f2.A (fh1.A t1.2.2.1), by rw [eh2]; exact jh_u_s _ _ _ _, by omega, by rw [eh2]; exact jh_u_s _ _ _ _, fun y hy => by cases hy⟩, (R2 0 (by omega)).trans t2, fun j hj => ?_, fun i j hi hj e => ?_, b2, ⟨(i2 rt 328 (Or.inr (by decide))).trans t6.1, fun i hi hb => ?_⟩, tb2, t8, t9⟩ ⟨?_, ?_⟩ ⟨?_, fun k hk => i2 r k (Or.inr hk), r2⟩
      · by_cases cj : j = dd
        · subst cj
          rw [eod, eBn]
          refine ⟨by rw [eh2]; exact jh_u_s _ _ _ _, fun z => by have := fi_end.mp z; omega, fi_bl.mpr cs, va_up_self _ _ _⟩
        · have hj : j < dd := by omega
          obtain ⟨u1, u2, u3, u4⟩ := t3 j hj
          have hlt := os_n j hj
          rw [eos j hj]
          exact ⟨by rw [eB _ hlt]; exact (R2 (j + 1) (by omega)).trans u1, fun z => u2 ((sg_end hlt).mp z), (blX _ _ _ hlt).mpr u3, (va_up_ne _ _ (by omega)).trans u4⟩
      · by_cases ci : i = dd <;> by_cases cj : j = dd
        · omega
        · rw [ci, eod, eos j (by omega)] at e
          have := os_n j (by omega); omega
        · rw [cj, eod, eos i (by omega)] at e
          have := os_n i (by omega); omega
        · rw [eos i (by omega), eos j (by omega)] at e
          exact t4 i j (by omega) (by omega) e
      · rw [i2 _ 328 (Or.inr (by decide))]
        by_cases c : i < n
        · rw [eB i c]
          show jh_i h (B i) 328 = if (va_up ot n none i).isSome then 1 else 0
          rw [show va_up ot n none i = ot i from va_up_ne _ _ (by omega)]
          exact t6.2 i (fun z => hi ((sg_end c).mpr z)) ((blX _ _ _ c).mp hb)
        · have : i = n := by have : i < n + 1 := pt_lt hi; omega
          subst this
          rw [eBn]
          show jh_i h q 328 = if (va_up ot i none i).isSome then 1 else 0
          rw [va_up_self]
          exact hn.1.2.2.2.2.2.2
      · have et : tpp (L, n + 1, va_up T n x, va_up ot n none, va_up la n none) (va_up B n q) rt (dd + 1) (va_up os dd n) = q := by
          unfold tpp
          rw [if_neg (by omega), show dd + 1 - 1 = dd by omega, eod, eBn]
        have ee : elp (L, n + 1, va_up T n x, va_up ot n none, va_up la n none) (dd + 1) (va_up os dd n) = false := by
          unfold elp
          rw [if_neg (by omega), show dd + 1 - 1 = dd by omega, eod]
          show (va_up ot n none n).isSome = false
          rw [va_up_self]; rfl
        rw [et, ee]
        refine HO.step t7 b2.2.2.2.2.2 (fi_rt b2) (Or.inr (Or.inl rfl)) n (fun z => by have := fi_end.mp z; omega) eBn.symm (fun i hi => Or.inl (va_up_ne _ _ (by omega))) (fun i hi _ => Or.inl (va_up_ne _ _ (by omega))) (fun _ => up2 (by omega)) (fun _ => Or.inr ⟨rfl, fi_bl.mpr cs⟩) (fun z => absurd z (Nat.lt_irrefl _))
      · have et : tpp (L, n + 1, va_up T n x, va_up ot n none, va_up la n none) (va_up B n q) rt (dd + 1) (va_up os dd n) = q := by
          unfold tpp
          rw [if_neg (by omega), show dd + 1 - 1 = dd by omega, eod, eBn]
        rw [et]
        exact ⟨n2.1.1, Or.inr hn.2.1⟩
      · exact tS1.tr (f2.mono (S := tS h0 r op rt) (fun b _ z => by rcases z with z | z; exact Or.inl z; exact Or.inr (Or.inl z))) (fun _ _ z => z)
  -- an else
  have at58 : tg_s x = 6 → jw_J g d m_P_takeIn jw_T0 58 [some (.inr (.inr (some r))), some (.inr (.inr (some q)))] [] h mc ms Q := by
    intro cs
    refine jw_aload_n rfl rfl ?_
    refine js_call (As := []) rfl l_P_beginOther c_P_144 i_P_beginOther s_P_beginOther jc_o4 rfl (t1.1) rfl (cp_other (d := d - 1) (mc := 0) (ms := 0) hg t1 p1 p2 p3 (fun c0 => ?_) (fun c0 cel => ?_)) (by omega) (Nat.le_of_ble_eq_true rfl) (by omega) (by omega) rfl
    · refine jw_ireturn rfl rfl rfl ?_
      refine q1 ?_
      rw [pp_fit, if_neg (by omega), if_neg (by omega)]
      by_cases cd : dd = 0
      · rw [if_pos cd]
      · rcases c0 with c0 | c0
        · exact absurd c0 cd
        · have c1 : (ot (os (dd - 1))).isSome = true := by
            unfold elp at c0
            rw [if_neg cd] at c0
            exact c0
          rw [if_neg cd, if_pos cs, show va_up ot n none (os (dd - 1)) = ot (os (dd - 1)) from va_up_ne _ _ (by have := os_n (dd - 1) (by omega); omega), if_pos c1]
    · refine jw_ireturn rfl rfl rfl ?_
      obtain ⟨u1, u2, u3, u4⟩ := t3 (dd - 1) (by omega)
      have hlt := os_n (dd - 1) (by omega)
      have etp : tpp (L, n, T, ot, la) B rt dd os = B (os (dd - 1)) := by unfold tpp; rw [if_neg c0]
      have eot : ot (os (dd - 1)) = none := by
        unfold elp at cel
        rw [if_neg c0] at cel
        exact Option.not_isSome_iff_eq_none.mp (by show ¬ (ot (os (dd - 1))).isSome = true; rw [show (ot (os (dd - 1))).isSome = false from cel]; decide)
      have eot1 : va_up ot n none (os (dd - 1)) = none := (va_up_ne _ _ (by omega)).trans eot
      have hfit : pp_fit n (tg_s x) (fun i => (va_up T n x i).2.2.2.2) dd os (va_up ot n none) (va_up la n none) = some (dd, os, va_up (va_up ot n none) (os (dd - 1)) (some n), va_up (va_up la n none) n (some (os (dd - 1)))) := by
        rw [pp_fit, if_neg (by omega), if_neg (by omega), if_neg c0, if_pos cs, eot1]
        rfl
      rw [etp]
      rw [etp] at p2
      have ob := t5.2.2.2.2.1 _ u2
      have br : B (os (dd - 1)) ≠ r := fun e => ob.2.1 (by rw [e]; exact t8)
      have bo : B (os (dd - 1)) ≠ op := fun e => ob.2.1 (by rw [e]; exact t9)
      have brt : rt ≠ B (os (dd - 1)) := fi_rt t5 _ u2
      obtain ⟨h2, eh2⟩ : ∃ z, z = jh_si h (B (os (dd - 1))) 328 1 := ⟨_, rfl⟩
      obtain ⟨h3, eh3⟩ : ∃ z, z = jh_sr h2 r 260 none := ⟨_, rfl⟩
      rw [← eh2, ← eh3]
      have f2 : fr (fun b => b = B (os (dd - 1))) h h2 := by rw [eh2]; exact fr.si fr.rf rfl
      have f3 : fr (fun b => b = r) h2 h3 := by rw [eh3]; exact fr.sr fr.rf rfl
      have nk2 : ∀ b, xk h0 h b → b ≠ B (os (dd - 1)) := fun b z e => z.2.2.1 (by rw [e, p2.2])
      have b2 : BI g h0 h2 (L, n, T, ot, la) A B rt W := by rw [eh2]; exact t5.si p2 (by decide) (by decide)
      have b3 := b2.mv f3 (fun b hb _ e => hb (by rw [e]; exact t8)) (fun e => rR e.symm)
      have n3 := (hn.mv f2 nk2 (fun e => dq1 _ u2 e.symm)).mv f3 (fun b z => (xk0 z).1) rq
      have hotC : ∀ i, i < n → va_up (va_up ot n none) (os (dd - 1)) (some n) i = ot i ∨ (i = os (dd - 1) ∧ ot i = none ∧ va_up (va_up ot n none) (os (dd - 1)) (some n) i = some n) := by
        intro i hi
        by_cases c : i = os (dd - 1)
        · exact Or.inr ⟨c, by rw [c]; exact eot, by rw [c]; exact va_up_self _ _ _⟩
        · exact Or.inl ((va_up_ne _ _ c).trans (va_up_ne _ _ (by omega)))
      have hlaC : ∀ i, i < n → va_up (va_up la n none) n (some (os (dd - 1))) i = la i := fun i hi => (va_up_ne _ _ (by omega)).trans (va_up_ne _ _ (by omega))
      have b4 : BI g h0 h3 (L, n + 1, va_up T n x, va_up (va_up ot n none) (os (dd - 1)) (some n), va_up (va_up la n none) n (some (os (dd - 1)))) A (va_up B n q) rt none := by
        refine fi_bi b3 t7 (fun i hi => (hotC i hi).imp id (fun z => z.2)) (fun i hi _ => Or.inl (hlaC i hi)) (fun z => absurd ⟨by omega, by omega⟩ z) (htx _ _) (tl := none) (by rw [if_pos ⟨by omega, by omega⟩]) hWm (fun z => ⟨?_, (hAm z).2⟩) hs ⟨n3, dq1, dq2, dq3⟩
        exact ((hAm z).1.mv f2 nk2 (fun e => (hAm z).2.2 _ u2 e)).mv f3 (fun b z => (xk0 z).1) (fun e => (hAm z).1.2.1 (by rw [e]; exact t8))
      have i3 : ∀ a k, a ≠ B (os (dd - 1)) → jh_i h3 a k = jh_i h a k := fun a k ha => by rw [eh3, eh2]; exact jh_u_a _ _ _ _ ha
      have r3 : ∀ k, k ≠ 260 → jh_r h3 r k = jh_r h r k := fun k hk => by rw [eh3, eh2]; exact jh_u_k _ _ _ _ hk
      have R3 : jh_R h3 = jh_R h := by rw [eh3, eh2]; rfl
      refine q2 _ _ _ _ hfit h3 none ⟨⟨f3.O (f2.O t1.1), (r3 258 (by decide)).trans t1.2.1, f3.A (f2.A t1.2.2.1), (i3 r 259 (Ne.symm br)).trans t1.2.2.2.1, t1.2.2.2.2.1, by rw [eh3]; exact jh_u_s _ _ _ _, fun y hy => by cases hy⟩, by rw [R3]; exact t2, fun j hj => ?_, t4, b4, ⟨(i3 rt 328 brt).trans t6.1, fun i hi hb => ?_⟩, TB.step t7 (fun i hi => (hotC i hi).imp id (fun z => z.2)) (fun i hi _ => Or.inl (hlaC i hi)) (fun z => absurd (fi_end.mpr ⟨by omega, by omega⟩) z), t8, t9⟩ ⟨?_, ?_⟩ ⟨?_, fun k hk => i3 r k (Ne.symm br), r3⟩
      · obtain ⟨v1, v2, v3, v4⟩ := t3 j hj
        have hl := os_n j hj
        exact ⟨by rw [R3, eB _ hl]; exact v1, fun z => v2 ((sg_end hl).mp z), (blX _ _ _ hl).mpr v3, (hlaC _ hl).trans v4⟩
      · have hl : i < n := by
          rcases Nat.lt_or_ge i n with z | z
          · exact z
          · have : i = n := by have : i < n + 1 := pt_lt hi; omega
            subst this
            have := fi_bl.mp hb
            omega
        rw [eB i hl]
        show jh_i h3 (B i) 328 = if (va_up (va_up ot n none) (os (dd - 1)) (some n) i).isSome then 1 else 0
        by_cases c : i = os (dd - 1)
        · rw [c, va_up_self, eh3, eh2]
          exact jh_u_s _ _ _ _
        · have hi0 : ¬ pt_end (L, n, T, ot, la) i := fun z => hi ((sg_end hl).mpr z)
          rw [i3 _ _ (fun e => c (t5.2.2.2.2.2.1 _ _ hi0 u2 e)), show va_up (va_up ot n none) (os (dd - 1)) (some n) i = ot i from (va_up_ne _ _ c).trans (va_up_ne _ _ (by omega))]
          exact t6.2 i hi0 ((blX _ _ _ hl).mp hb)
      · have et : tpp (L, n + 1, va_up T n x, va_up (va_up ot n none) (os (dd - 1)) (some n), va_up (va_up la n none) n (some (os (dd - 1)))) (va_up B n q) rt dd os = B (os (dd - 1)) := by
          unfold tpp
          rw [if_neg c0, eB _ hlt]
        have ee : elp (L, n + 1, va_up T n x, va_up (va_up ot n none) (os (dd - 1)) (some n), va_up (va_up la n none) n (some (os (dd - 1)))) dd os = true := by
          unfold elp
          rw [if_neg c0]
          show (va_up (va_up ot n none) (os (dd - 1)) (some n) (os (dd - 1))).isSome = true
          rw [va_up_self]; rfl
        rw [et, ee]
        exact HO.step t7 b4.2.2.2.2.2 (fi_rt b4) (Or.inr (Or.inr rfl)) (os (dd - 1)) (fun z => u2 ((sg_end hlt).mp z)) (eB _ hlt).symm (fun i hi => (hotC i hi).imp id (fun z => ⟨z.1, rfl, z.2⟩)) (fun i hi _ => Or.inl (hlaC i hi)) (fun z => absurd (fi_end.mpr ⟨by omega, by omega⟩) z) (fun z => absurd z (by omega)) (fun _ => ⟨fi_end.mpr ⟨by omega, by omega⟩, u3, Or.inl ⟨rfl, va_up_self _ _ _⟩⟩)
      · have et : tpp (L, n + 1, va_up T n x, va_up (va_up ot n none) (os (dd - 1)) (some n), va_up (va_up la n none) n (some (os (dd - 1)))) (va_up B n q) rt dd os = B (os (dd - 1)) := by
          unfold tpp
          rw [if_neg c0, eB _ hlt]
        rw [et]
        exact ⟨f3.O (f2.O p2), Or.inr ob.2.1⟩
      · exact (f2.mono (S := tS h0 r op rt) (fun b _ z => by rw [z]; exact Or.inr (Or.inr (Or.inr ob.2.1)))).tr (f3.mono (S := tS h0 r op rt) (fun b _ z => Or.inl z)) (fun _ _ z => z)
  -- a block's end
  have fin : ∀ s', (tg_s x = 7 ∨ tg_s x = 8 ∨ tg_s x = 9) → s' = jg_c g (pt_srt (tg_s x - 4)) → ∀ Q', (∀ v, v = (0 : Int32) ∨ v = 1 → ∀ h', Q (.inl (some (.inl v))) h' → Q' (.inl (some (.inl v))) h') → jw_C g (d - 1) 0 0 m_P_endBlock [.inr (.inr (some r)), .inr (.inr (some s'))] h Q' := by
    intro s' cs es' Q' hQ
    have key : dd ≠ 0 → (rn_s (L, n, T, ot, la) (os (dd - 1)) = tg_s x - 4 ↔ jg_c g (pt_srt (rn_s (L, n, T, ot, la) (os (dd - 1)))) = s') := by
      intro c0
      obtain ⟨u1, u2, u3, u4⟩ := t3 (dd - 1) (by omega)
      rw [es']
      constructor
      · intro e; rw [e]
      · intro e
        obtain ⟨u5, u6⟩ := u3
        have e1 : ∀ s, 3 ≤ s → s ≤ 5 → pt_srt s = 100 + (s + 3) := fun s h1 h2 => by
          have : s = 3 ∨ s = 4 ∨ s = 5 := by omega
          rcases this with rfl | rfl | rfl <;> rfl
        rw [e1 _ u5 u6, e1 _ (by omega) (by omega)] at e
        have := inj _ _ (by omega) (by omega) e
        omega
    refine cp_endB hg t1 p1 p2 (s' := jg_c g (pt_srt (rn_s (L, n, T, ot, la) (os (dd - 1))))) (fun c0 => ?_) (fun c0 => ?_) (fun c0 ces => ?_)
    · obtain ⟨u1, u2, u3, u4⟩ := t3 (dd - 1) (by omega)
      unfold tpp
      rw [if_neg c0]
      exact (t5.2.2.2.2.1 _ u2).2.2.1
    · refine hQ 0 (Or.inl rfl) h (q1 ?_)
      rw [pp_fit, if_neg (by omega), if_neg (by omega)]
      by_cases cd : dd = 0
      · rw [if_pos cd]
      · rw [if_neg cd, if_neg (by omega)]
        have e1 := so_os (dd - 1) (by omega)
        rw [e1, if_pos]
        intro e
        rcases c0 with c0 | c0
        · exact cd c0
        · exact c0 ((key cd).mp e)
    · refine hQ 1 (Or.inr rfl) _ ?_
      obtain ⟨u1, u2, u3, u4⟩ := t3 (dd - 1) (by omega)
      have hlt := os_n (dd - 1) (by omega)
      have etp : tpp (L, n, T, ot, la) B rt dd os = B (os (dd - 1)) := by unfold tpp; rw [if_neg c0]
      have e1 := so_os (dd - 1) (by omega)
      have hfit : pp_fit n (tg_s x) (fun i => (va_up T n x i).2.2.2.2) dd os (va_up ot n none) (va_up la n none) = some (dd - 1, os, va_up ot n none, va_up (va_up (va_up la n none) n (some (os (dd - 1)))) (os (dd - 1)) (some n)) := by
        rw [pp_fit, if_neg (by omega), if_neg (by omega), if_neg c0, if_neg (by omega), e1, if_neg (fun z => z ((key c0).mpr ces))]
      rw [etp]
      rw [etp] at p2
      have ob := t5.2.2.2.2.1 _ u2
      obtain ⟨h3, eh3⟩ : ∃ z, z = jh_si (jh_sr h r 260 (some (B (os (dd - 1))))) r 259 (nI (dd - 1)) := ⟨_, rfl⟩
      rw [← eh3]
      have f3 : fr (fun b => b = r) h h3 := by rw [eh3]; exact fr.si (fr.sr fr.rf rfl) rfl
      have b3 := t5.mv f3 (fun b hb _ e => hb (by rw [e]; exact t8)) (fun e => rR e.symm)
      have n3 := hn.mv f3 (fun b z => (xk0 z).1) rq
      have hlaD : ∀ i, i < n → va_up (va_up (va_up la n none) n (some (os (dd - 1)))) (os (dd - 1)) (some n) i = la i ∨ (i = os (dd - 1) ∧ la i = none ∧ va_up (va_up (va_up la n none) n (some (os (dd - 1)))) (os (dd - 1)) (some n) i = some n) := by
        intro i hi
        by_cases c : i = os (dd - 1)
        · exact Or.inr ⟨c, by rw [c]; exact u4, by rw [c]; exact va_up_self _ _ _⟩
        · exact Or.inl ((va_up_ne _ _ c).trans ((va_up_ne _ _ (by omega)).trans (va_up_ne _ _ (by omega))))
      have b4 : BI g h0 h3 (L, n + 1, va_up T n x, va_up ot n none, va_up (va_up (va_up la n none) n (some (os (dd - 1)))) (os (dd - 1)) (some n)) A (va_up B n q) rt none := by
        refine fi_bi b3 t7 up0 (fun i hi _ => (hlaD i hi).imp id (fun z => z.2)) (fun z => absurd ⟨by omega, by omega⟩ z) (htx _ _) (tl := none) (by rw [if_pos ⟨by omega, by omega⟩]) hWm (fun z => ⟨?_, (hAm z).2⟩) hs ⟨n3, dq1, dq2, dq3⟩
        exact (hAm z).1.mv f3 (fun b z => (xk0 z).1) (fun e => (hAm z).1.2.1 (by rw [e]; exact t8))
      have r3 : ∀ k, k ≠ 260 → jh_r h3 r k = jh_r h r k := fun k hk => by rw [eh3]; exact jh_u_k _ _ _ _ hk
      have R3 : jh_R h3 = jh_R h := by rw [eh3]; rfl
      have i3 : ∀ a k, (a ≠ r ∨ k ≠ 259) → jh_i h3 a k = jh_i h a k := fun a k hk => by
        rw [eh3]
        show jh_u (jh_i h) r 259 _ a k = _
        rcases hk with hk | hk
        · exact jh_u_a _ _ _ _ hk
        · exact jh_u_k _ _ _ _ hk
      have br : B (os (dd - 1)) ≠ r := fun e => ob.2.1 (by rw [e]; exact t8)
      refine q2 _ _ _ _ hfit h3 (some (B (os (dd - 1)))) ⟨⟨f3.O t1.1, (r3 258 (by decide)).trans t1.2.1, f3.A t1.2.2.1, by rw [eh3]; exact jh_u_s _ _ _ _, by have := t1.2.2.2.2.1; omega, by rw [eh3]; exact jh_u_s _ _ _ _, fun y hy => by cases hy; exact f3.O p2⟩, by rw [R3]; exact t2, fun j hj => ?_, fun i j hi hj => t4 i j (by omega) (by omega), b4, ⟨(i3 rt 328 (Or.inr (by decide))).trans t6.1, fun i hi hb => ?_⟩, TB.step t7 up0 (fun i hi _ => (hlaD i hi).imp id (fun z => z.2)) (fun z => absurd (fi_end.mpr ⟨by omega, by omega⟩) z), t8, t9⟩ ⟨?_, f3.O p2, Or.inr ob.2.1⟩ ⟨f3.mono (fun b _ z => Or.inl z), fun k hk => i3 r k (Or.inr hk), r3⟩
      · obtain ⟨v1, v2, v3, v4⟩ := t3 j (by omega)
        have hl := os_n j (by omega)
        refine ⟨by rw [R3, eB _ hl]; exact v1, fun z => v2 ((sg_end hl).mp z), (blX _ _ _ hl).mpr v3, ?_⟩
        rcases hlaD _ hl with e | ⟨e, -⟩
        · exact e.trans v4
        · have := t4 j (dd - 1) (by omega) (by omega) e
          omega
      · have hl : i < n := by
          rcases Nat.lt_or_ge i n with z | z
          · exact z
          · have : i = n := by have : i < n + 1 := pt_lt hi; omega
            subst this
            have := fi_bl.mp hb
            omega
        rw [eB i hl, i3 _ 328 (Or.inr (by decide))]
        show jh_i h (B i) 328 = if (va_up ot n none i).isSome then 1 else 0
        rw [show va_up ot n none i = ot i from va_up_ne _ _ (by omega)]
        exact t6.2 i (fun z => hi ((sg_end hl).mpr z)) ((blX _ _ _ hl).mp hb)
      · exact HO.step t7 b4.2.2.2.2.2 (fi_rt b4) (Or.inl rfl) (os (dd - 1)) (fun z => u2 ((sg_end hlt).mp z)) (eB _ hlt).symm (fun i hi => Or.inl (va_up_ne _ _ (by omega))) (fun i hi _ => (hlaD i hi).imp id (fun z => ⟨z.1, rfl, z.2⟩)) (fun z => absurd (fi_end.mpr ⟨by omega, by omega⟩) z) (fun z => absurd z (by omega)) (fun _ => ⟨fi_end.mpr ⟨by omega, by omega⟩, u3, Or.inr ⟨rfl, va_up_self _ _ _⟩⟩)
  have s320 := hn.1.2.1
  have oq5 := hn.1.1
  have h11 : tg_s x = 0 ∨ tg_s x = 1 ∨ tg_s x = 2 ∨ tg_s x = 3 ∨ tg_s x = 4 ∨ tg_s x = 5 ∨ tg_s x = 6 ∨ tg_s x = 7 ∨ tg_s x = 8 ∨ tg_s x = 9 ∨ tg_s x = 10 := by omega
  rcases h11 with e0 | e0 | e0 | e0 | e0 | e0 | e0 | e0 | e0 | e0 | e0
  · have s320 : jh_r h q 320 = some (jg_c g 103) := by rw [s320, e0]; rfl
    refine jw_gst rfl kz_24 y_P_129 ?_
    refine jw_aload_n rfl rfl ?_
    refine jw_gr rfl g_P_135 (oq5) (s320) ?_
    refine jw_ord (x := 3) rfl mx_P_138 od_sameS od_selS kq_103 kf_ordinal_103 (by omega) (Nat.le_of_ble_eq_true rfl) ?_
    refine jw_kiald (3) rfl kt_300 rfl (by first | omega | decide) (by decide) ?_
    refine jw_tableOut 87 rfl (by decide) rfl ?_
    exact at87 (by omega)
  · have s320 : jh_r h q 320 = some (jg_c g 102) := by rw [s320, e0]; rfl
    refine jw_gst rfl kz_24 y_P_129 ?_
    refine jw_aload_n rfl rfl ?_
    refine jw_gr rfl g_P_135 (oq5) (s320) ?_
    refine jw_ord (x := 2) rfl mx_P_138 od_sameS od_selS kq_102 kf_ordinal_102 (by omega) (Nat.le_of_ble_eq_true rfl) ?_
    refine jw_kiald (2) rfl kt_300 rfl (by first | omega | decide) (by decide) ?_
    refine jw_tableOut 87 rfl (by decide) rfl ?_
    exact at87 (by omega)
  · have s320 : jh_r h q 320 = some (jg_c g 104) := by rw [s320, e0]; rfl
    refine jw_gst rfl kz_24 y_P_129 ?_
    refine jw_aload_n rfl rfl ?_
    refine jw_gr rfl g_P_135 (oq5) (s320) ?_
    refine jw_ord (x := 4) rfl mx_P_138 od_sameS od_selS kq_104 kf_ordinal_104 (by omega) (Nat.le_of_ble_eq_true rfl) ?_
    refine jw_kiald (4) rfl kt_300 rfl (by first | omega | decide) (by decide) ?_
    refine jw_tableOut 87 rfl (by decide) rfl ?_
    exact at87 (by omega)
  · have s320 : jh_r h q 320 = some (jg_c g 106) := by rw [s320, e0]; rfl
    refine jw_gst rfl kz_24 y_P_129 ?_
    refine jw_aload_n rfl rfl ?_
    refine jw_gr rfl g_P_135 (oq5) (s320) ?_
    refine jw_ord (x := 6) rfl mx_P_138 od_sameS od_selS kq_106 kf_ordinal_106 (by omega) (Nat.le_of_ble_eq_true rfl) ?_
    refine jw_kiald (6) rfl kt_300 rfl (by first | omega | decide) (by decide) ?_
    refine jw_tableIn 52 rfl (by decide) (by decide) rfl rfl ?_
    exact at52 (by omega)
  · have s320 : jh_r h q 320 = some (jg_c g 107) := by rw [s320, e0]; rfl
    refine jw_gst rfl kz_24 y_P_129 ?_
    refine jw_aload_n rfl rfl ?_
    refine jw_gr rfl g_P_135 (oq5) (s320) ?_
    refine jw_ord (x := 7) rfl mx_P_138 od_sameS od_selS kq_107 kf_ordinal_107 (by omega) (Nat.le_of_ble_eq_true rfl) ?_
    refine jw_kiald (7) rfl kt_300 rfl (by first | omega | decide) (by decide) ?_
    refine jw_tableIn 52 rfl (by decide) (by decide) rfl rfl ?_
    exact at52 (by omega)
  · have s320 : jh_r h q 320 = some (jg_c g 108) := by rw [s320, e0]; rfl
    refine jw_gst rfl kz_24 y_P_129 ?_
    refine jw_aload_n rfl rfl ?_
    refine jw_gr rfl g_P_135 (oq5) (s320) ?_
    refine jw_ord (x := 8) rfl mx_P_138 od_sameS od_selS kq_108 kf_ordinal_108 (by omega) (Nat.le_of_ble_eq_true rfl) ?_
    refine jw_kiald (8) rfl kt_300 rfl (by first | omega | decide) (by decide) ?_
    refine jw_tableIn 52 rfl (by decide) (by decide) rfl rfl ?_
    exact at52 (by omega)
  · have s320 : jh_r h q 320 = some (jg_c g 109) := by rw [s320, e0]; rfl
    refine jw_gst rfl kz_24 y_P_129 ?_
    refine jw_aload_n rfl rfl ?_
    refine jw_gr rfl g_P_135 (oq5) (s320) ?_
    refine jw_ord (x := 9) rfl mx_P_138 od_sameS od_selS kq_109 kf_ordinal_109 (by omega) (Nat.le_of_ble_eq_true rfl) ?_
    refine jw_kiald (9) rfl kt_300 rfl (by first | omega | decide) (by decide) ?_
    refine jw_tableIn 58 rfl (by decide) (by decide) rfl rfl ?_
    exact at58 e0
  · have s320 : jh_r h q 320 = some (jg_c g 110) := by rw [s320, e0]; rfl
    refine jw_gst rfl kz_24 y_P_129 ?_
    refine jw_aload_n rfl rfl ?_
    refine jw_gr rfl g_P_135 (oq5) (s320) ?_
    refine jw_ord (x := 10) rfl mx_P_138 od_sameS od_selS kq_110 kf_ordinal_110 (by omega) (Nat.le_of_ble_eq_true rfl) ?_
    refine jw_kiald (10) rfl kt_300 rfl (by first | omega | decide) (by decide) ?_
    refine jw_tableIn 63 rfl (by decide) (by decide) rfl rfl ?_
    refine jw_aload_n rfl rfl ?_
    refine jw_gst rfl kz_6 y_P_148 ?_
    refine js_call (As := [.inr (.inr (some (jg_c g 106)))]) rfl l_P_endBlock c_P_151 i_P_endBlock s_P_endBlock jc_o4 rfl t1.1 rfl (fin (jg_c g 106) (by omega) (by rw [e0]; rfl) _ (fun v hv h' hq' => ?_)) (by omega) (Nat.le_of_ble_eq_true rfl) (by omega) (by omega) rfl
    refine jw_ireturn rfl rfl ?_ ?_
    · rcases hv with rfl | rfl <;> rfl
    · exact hq'
  · have s320 : jh_r h q 320 = some (jg_c g 111) := by rw [s320, e0]; rfl
    refine jw_gst rfl kz_24 y_P_129 ?_
    refine jw_aload_n rfl rfl ?_
    refine jw_gr rfl g_P_135 (oq5) (s320) ?_
    refine jw_ord (x := 11) rfl mx_P_138 od_sameS od_selS kq_111 kf_ordinal_111 (by omega) (Nat.le_of_ble_eq_true rfl) ?_
    refine jw_kiald (11) rfl kt_300 rfl (by first | omega | decide) (by decide) ?_
    refine jw_tableIn 71 rfl (by decide) (by decide) rfl rfl ?_
    refine jw_aload_n rfl rfl ?_
    refine jw_gst rfl kz_7 y_P_155 ?_
    refine js_call (As := [.inr (.inr (some (jg_c g 107)))]) rfl l_P_endBlock c_P_151 i_P_endBlock s_P_endBlock jc_o4 rfl t1.1 rfl (fin (jg_c g 107) (by omega) (by rw [e0]; rfl) _ (fun v hv h' hq' => ?_)) (by omega) (Nat.le_of_ble_eq_true rfl) (by omega) (by omega) rfl
    refine jw_ireturn rfl rfl ?_ ?_
    · rcases hv with rfl | rfl <;> rfl
    · exact hq'
  · have s320 : jh_r h q 320 = some (jg_c g 112) := by rw [s320, e0]; rfl
    refine jw_gst rfl kz_24 y_P_129 ?_
    refine jw_aload_n rfl rfl ?_
    refine jw_gr rfl g_P_135 (oq5) (s320) ?_
    refine jw_ord (x := 12) rfl mx_P_138 od_sameS od_selS kq_112 kf_ordinal_112 (by omega) (Nat.le_of_ble_eq_true rfl) ?_
    refine jw_kiald (12) rfl kt_300 rfl (by first | omega | decide) (by decide) ?_
    refine jw_tableIn 79 rfl (by decide) (by decide) rfl rfl ?_
    refine jw_aload_n rfl rfl ?_
    refine jw_gst rfl kz_8 y_P_158 ?_
    refine js_call (As := [.inr (.inr (some (jg_c g 108)))]) rfl l_P_endBlock c_P_151 i_P_endBlock s_P_endBlock jc_o4 rfl t1.1 rfl (fin (jg_c g 108) (by omega) (by rw [e0]; rfl) _ (fun v hv h' hq' => ?_)) (by omega) (Nat.le_of_ble_eq_true rfl) (by omega) (by omega) rfl
    refine jw_ireturn rfl rfl ?_ ?_
    · rcases hv with rfl | rfl <;> rfl
    · exact hq'
  · have s320 : jh_r h q 320 = some (jg_c g 105) := by rw [s320, e0]; rfl
    refine jw_gst rfl kz_24 y_P_129 ?_
    refine jw_aload_n rfl rfl ?_
    refine jw_gr rfl g_P_135 (oq5) (s320) ?_
    refine jw_ord (x := 5) rfl mx_P_138 od_sameS od_selS kq_105 kf_ordinal_105 (by omega) (Nat.le_of_ble_eq_true rfl) ?_
    refine jw_kiald (5) rfl kt_300 rfl (by first | omega | decide) (by decide) ?_
    refine jw_tableOut 87 rfl (by decide) rfl ?_
    exact at87 (by omega)

