/-! cells that stay as they are; the model's constructor -/
def jh_eq (h h' : jh_H) (b : Nat) : Prop := (b ∈ jh_L h → b ∈ jh_L h') ∧ jh_K h' b = jh_K h b ∧ (∀ k, jh_i h' b k = jh_i h b k) ∧ (∀ k, jh_g h' b k = jh_g h b k) ∧ (∀ k, jh_r h' b k = jh_r h b k) ∧ (∀ k, jh_I h' b k = jh_I h b k) ∧ (∀ k, jh_G h' b k = jh_G h b k) ∧ ∀ k, jh_R h' b k = jh_R h b k
theorem jh_eq.rf {h : jh_H} {b : Nat} : jh_eq h h b := ⟨fun z => z, rfl, fun _ => rfl, fun _ => rfl, fun _ => rfl, fun _ => rfl, fun _ => rfl, fun _ => rfl⟩
theorem jh_eq.tr {h h1 h2 : jh_H} {b : Nat} (a : jh_eq h h1 b) (c : jh_eq h1 h2 b) : jh_eq h h2 b := ⟨fun z => c.1 (a.1 z), c.2.1.trans a.2.1, fun k => (c.2.2.1 k).trans (a.2.2.1 k), fun k => (c.2.2.2.1 k).trans (a.2.2.2.1 k), fun k => (c.2.2.2.2.1 k).trans (a.2.2.2.2.1 k), fun k => (c.2.2.2.2.2.1 k).trans (a.2.2.2.2.2.1 k), fun k => (c.2.2.2.2.2.2.1 k).trans (a.2.2.2.2.2.2.1 k), fun k => (c.2.2.2.2.2.2.2 k).trans (a.2.2.2.2.2.2.2 k)⟩
theorem jh_eq.si {h h0 : jh_H} {a b k : Nat} {v : Int32} (e : jh_eq h0 h b) (hb : b ≠ a) : jh_eq h0 (jh_si h a k v) b := e.tr ⟨fun z => z, rfl, fun k => jh_u_a _ _ _ _ hb, fun _ => rfl, fun _ => rfl, fun _ => rfl, fun _ => rfl, fun _ => rfl⟩
theorem jh_eq.sg {h h0 : jh_H} {a b k : Nat} {v : Int64} (e : jh_eq h0 h b) (hb : b ≠ a) : jh_eq h0 (jh_sg h a k v) b := e.tr ⟨fun z => z, rfl, fun _ => rfl, fun k => jh_u_a _ _ _ _ hb, fun _ => rfl, fun _ => rfl, fun _ => rfl, fun _ => rfl⟩
theorem jh_eq.sr {h h0 : jh_H} {a b k : Nat} {v : Option Nat} (e : jh_eq h0 h b) (hb : b ≠ a) : jh_eq h0 (jh_sr h a k v) b := e.tr ⟨fun z => z, rfl, fun _ => rfl, fun _ => rfl, fun k => jh_u_a _ _ _ _ hb, fun _ => rfl, fun _ => rfl, fun _ => rfl⟩
theorem jh_eq.sI {h h0 : jh_H} {a b k : Nat} {v : Int32} (e : jh_eq h0 h b) (hb : b ≠ a) : jh_eq h0 (jh_sI h a k v) b := e.tr ⟨fun z => z, rfl, fun _ => rfl, fun _ => rfl, fun _ => rfl, fun k => jh_u_a _ _ _ _ hb, fun _ => rfl, fun _ => rfl⟩
theorem jh_eq.sG {h h0 : jh_H} {a b k : Nat} {v : Int64} (e : jh_eq h0 h b) (hb : b ≠ a) : jh_eq h0 (jh_sG h a k v) b := e.tr ⟨fun z => z, rfl, fun _ => rfl, fun _ => rfl, fun _ => rfl, fun _ => rfl, fun k => jh_u_a _ _ _ _ hb, fun _ => rfl⟩
theorem jh_eq.sR {h h0 : jh_H} {a b k : Nat} {v : Option Nat} (e : jh_eq h0 h b) (hb : b ≠ a) : jh_eq h0 (jh_sR h a k v) b := e.tr ⟨fun z => z, rfl, fun _ => rfl, fun _ => rfl, fun _ => rfl, fun _ => rfl, fun _ => rfl, fun k => jh_u_a _ _ _ _ hb⟩
theorem jh_eq.nw {h h0 : jh_H} {q b kd n : Nat} (e : jh_eq h0 h b) (hb : b ≠ q) : jh_eq h0 (jh_nw h q kd n) b := e.tr ⟨fun z => List.mem_append_left _ z, va_up_ne _ _ hb, fun k => jh_z_a _ _ _ hb, fun k => jh_z_a _ _ _ hb, fun k => jh_z_a _ _ _ hb, fun k => jh_z_a _ _ _ hb, fun k => jh_z_a _ _ _ hb, fun k => jh_z_a _ _ _ hb⟩
theorem jh_nw_O {h : jh_H} {q ci : Nat} : jh_O (jh_nw h q ci (jc_q ci).2.2) q ci := ⟨List.mem_append_right _ (List.mem_singleton.mpr rfl), va_up_self _ _ _⟩
theorem jh_nw_A {h : jh_H} {q t n : Nat} : jh_A (jh_nw h q (100 + t) n) q t n := ⟨List.mem_append_right _ (List.mem_singleton.mpr rfl), va_up_self _ _ _⟩
theorem jh_nwO {h : jh_H} {q kd n a ci : Nat} (ho : jh_O h a ci) (hq : q ∉ jh_L h) : jh_O (jh_nw h q kd n) a ci := ⟨List.mem_append_left _ ho.1, (va_up_ne _ _ (fun e => hq (by rw [← e]; exact ho.1))).trans ho.2⟩
theorem jh_nwA {h : jh_H} {q kd m a t n : Nat} (ho : jh_A h a t n) (hq : q ∉ jh_L h) : jh_A (jh_nw h q kd m) a t n := ⟨List.mem_append_left _ ho.1, (va_up_ne _ _ (fun e => hq (by rw [← e]; exact ho.1))).trans ho.2⟩
theorem jh_eq.O {h h' : jh_H} {b ci : Nat} (e : jh_eq h h' b) (ho : jh_O h b ci) : jh_O h' b ci := ⟨e.1 ho.1, e.2.1.trans ho.2⟩
theorem jh_eq.A {h h' : jh_H} {b t n : Nat} (e : jh_eq h h' b) (ho : jh_A h b t n) : jh_A h' b t n := ⟨e.1 ho.1, e.2.1.trans ho.2⟩
def ci_n (k : Nat) : Int32 := if k = 515 then -1 else 0
def ci_I (h0 h : jh_H) (mo s : Nat) (ar : Nat → Nat) : Prop := jh_O h mo 8 ∧ (∀ k, jh_i h mo k = ci_n k) ∧ (∀ x ∈ mo_T.take s, jh_r h mo x.1 = some (ar x.1) ∧ jh_A h (ar x.1) x.2.1 x.2.2 ∧ ar x.1 ∉ jh_L h0 ∧ (∀ j, jh_I h (ar x.1) j = 0) ∧ ar x.1 ≠ mo) ∧ (∀ x ∈ mo_T.take s, ∀ y ∈ mo_T.take s, ar x.1 = ar y.1 → x.1 = y.1) ∧ ∀ b, b ∈ jh_L h0 → b ≠ mo → jh_eq h0 h b
set_option maxHeartbeats 4000000 in
set_option maxRecDepth 100000 in
theorem ci_take {s : Nat} {x : Nat × Nat × Nat} (hs : mo_T[s]? = some x) : mo_T.take (s + 1) = mo_T.take s ++ [x] := by
  rw [List.take_add_one, hs]; rfl
set_option maxHeartbeats 4000000 in
set_option maxRecDepth 100000 in
theorem ci_new : ∀ s, s < 34 → ∀ x ∈ mo_T.take s, ∀ y, mo_T[s]? = some y → x.1 ≠ y.1 := by decide +kernel
set_option maxHeartbeats 4000000 in
set_option maxRecDepth 100000 in
theorem ci_step {h0 h : jh_H} {mo s K t n q : Nat} {ar : Nat → Nat} (I : ci_I h0 h mo s ar) (hs : mo_T[s]? = some (K, t, n)) (hlt : s < 34) (hq : q ∉ jh_L h) : ci_I h0 (jh_sr (jh_nw h q (100 + t) n) mo K (some q)) mo (s + 1) (va_up ar K q) := by
  obtain ⟨h1, h2, h3, h4, h5⟩ := I
  have hmq : mo ≠ q := fun e => hq (e ▸ h1.1)
  have hnew := ci_new s hlt
  have old : ∀ x ∈ mo_T.take s, va_up ar K q x.1 = ar x.1 := fun x hx => va_up_ne _ _ (hnew x hx _ hs)
  have aq : ∀ x ∈ mo_T.take s, ar x.1 ≠ q := fun x hx e => hq (e ▸ (h3 x hx).2.1.1)
  rw [ci_I, ci_take hs]
  refine ⟨⟨List.mem_append_left _ h1.1, (va_up_ne _ _ hmq).trans h1.2⟩, fun k => ?_, fun x hx => ?_, fun x hx y hy e => ?_, fun b hb hbm => ?_⟩
  · exact (jh_z_a _ _ _ hmq).trans (h2 k)
  · rcases List.mem_append.mp hx with hx | hx
    · obtain ⟨r1, r2, r3, r4, r5⟩ := h3 x hx
      rw [old x hx]
      refine ⟨(jh_u_k _ _ _ _ (hnew x hx _ hs)).trans ((jh_z_a _ _ _ hmq).trans r1), ⟨List.mem_append_left _ r2.1, (va_up_ne _ _ (aq x hx)).trans r2.2⟩, r3, fun j => (jh_z_a _ _ _ (aq x hx)).trans (r4 j), r5⟩
    · have hx : x = (K, t, n) := by simpa using hx
      subst hx
      rw [va_up_self]
      refine ⟨jh_u_s _ _ _ _, jh_nw_A, fun z => hq ?_, fun j => jh_z_s _ _ _ _, fun e => hmq e.symm⟩
      by_cases e : q = mo
      · exact e ▸ h1.1
      · exact (h5 q z e).1 z
  · rcases List.mem_append.mp hx with hx | hx
    · rcases List.mem_append.mp hy with hy | hy
      · rw [old x hx, old y hy] at e; exact h4 x hx y hy e
      · have hy : y = (K, t, n) := by simpa using hy
        subst hy
        rw [old x hx, va_up_self] at e
        exact absurd e (aq x hx)
    · have hx : x = (K, t, n) := by simpa using hx
      subst hx
      rcases List.mem_append.mp hy with hy | hy
      · rw [va_up_self, old y hy] at e
        exact absurd e.symm (aq y hy)
      · have hy : y = (K, t, n) := by simpa using hy
        subst hy; rfl
  · have : b ≠ q := fun e => hq (e ▸ (h5 b hb hbm).1 hb)
    exact ((h5 b hb hbm).nw this).sr hbm
set_option maxHeartbeats 4000000 in
set_option maxRecDepth 100000 in
theorem ci_si {h0 h : jh_H} {mo s k : Nat} {ar : Nat → Nat} {v : Int32} (I : ci_I h0 h mo s ar) (hv : v = ci_n k) : ci_I h0 (jh_si h mo k v) mo s ar := by
  obtain ⟨h1, h2, h3, h4, h5⟩ := I
  refine ⟨h1, fun j => ?_, h3, h4, fun b hb hbm => (h5 b hb hbm).si hbm⟩
  by_cases e : j = k
  · subst e; exact (jh_u_s _ _ _ _).trans hv
  · exact (jh_u_k _ _ _ _ e).trans (h2 j)
set_option maxHeartbeats 4000000 in
set_option maxRecDepth 100000 in
theorem cm_init {g : jg_G} (hg : (jg_l g).stackTraces = false) {h : jh_H} {mo : Nat} {Q : jw_O → jh_H → Prop} (ho : jh_O h mo 8) (hz : ∀ k, jh_i h mo k = 0)
    (hq : ∀ h' ar, mo_ok h' mo ar → (∀ k, jh_i h' mo k = ci_n k) → (∀ x ∈ mo_T, (∀ j, jh_I h' (ar x.1) j = 0) ∧ ar x.1 ∉ jh_L h ∧ ar x.1 ≠ mo) → (∀ b, b ∈ jh_L h → b ≠ mo → jh_eq h h' b) → Q (.inl none) h') : jw_C g 1 34 16043 m_M_init [.inr (.inr (some mo))] h Q := by
  refine jw_intro (ls := [some (.inr (.inr (some mo)))]) (by decide) k_M_init rfl (by simp [lo_fit, jv_c]) hg ?_
  refine jw_aload_n rfl rfl ?_
  refine jw_obj rfl oi_M_1 (by decide) (by decide) ?_
  refine jw_aload_n rfl rfl ?_
  refine js_iconst (x := 0) rfl rfl ?_
  refine jw_pi rfl p_M_init_7 ho ?_
  refine jw_aload_n rfl rfl ?_
  refine js_iconst (x := 0) rfl rfl ?_
  refine jw_pi rfl p_M_init_13 ho ?_
  refine jw_aload_n rfl rfl ?_
  refine js_iconst (x := 0) rfl rfl ?_
  refine jw_pi rfl p_M_init_16 ho ?_
  refine jw_aload_n rfl rfl ?_
  refine js_iconst (x := (-1)) rfl rfl ?_
  refine jw_pi rfl p_M_init_19 ho ?_
  refine jw_aload_n rfl rfl ?_
  refine js_iconst (x := 0) rfl rfl ?_
  refine jw_pi rfl p_M_init_22 ho ?_
  refine jw_aload_n rfl rfl ?_
  refine js_iconst (x := 0) rfl rfl ?_
  refine jw_pi rfl p_M_init_25 ho ?_
  refine jw_aload_n rfl rfl ?_
  refine js_iconst (x := 0) rfl rfl ?_
  refine jw_pi rfl p_M_init_28 ho ?_
  have I0 : ci_I h (jh_si (jh_si (jh_si (jh_si (jh_si (jh_si (jh_si h mo 512 0) mo 513 0) mo 514 0) mo 515 (-1)) mo 516 0) mo 517 0) mo 518 0) mo 0 (fun _ => 0) := by
    refine ⟨ho, fun k => ?_, fun x hx => absurd hx (by simp), fun x hx => absurd hx (by simp), fun b hb hbm => jh_eq.si (jh_eq.si (jh_eq.si (jh_eq.si (jh_eq.si (jh_eq.si (jh_eq.si jh_eq.rf hbm) hbm) hbm) hbm) hbm) hbm) hbm⟩
    show jh_u (jh_u (jh_u (jh_u (jh_u (jh_u (jh_u (jh_i h) mo 512 0) mo 513 0) mo 514 0) mo 515 (-1)) mo 516 0) mo 517 0) mo 518 0 mo k = ci_n k
    simp only [jh_u, if_true, ci_n, hz]
    by_cases e : k = 515
    · subst e; rfl
    · simp only [if_neg e]; repeat (split; rfl)
      rfl
  generalize jh_si (jh_si (jh_si (jh_si (jh_si (jh_si (jh_si h mo 512 0) mo 513 0) mo 514 0) mo 515 (-1)) mo 516 0) mo 517 0) mo 518 0 = h0 at I0 ⊢
  refine jw_aload_n rfl rfl ?_
  refine js_sipush (x := 200) rfl rfl ?_
  refine jw_newa (t := 0) (n := 200) rfl (by decide) rfl (Or.inl ⟨rfl, rfl⟩) v_0 rfl (by decide) (by decide) (by decide) (by decide) (fun q0 hq0 => ?_)
  refine jw_pr rfl p_M_init_31 (jh_nwO I0.1 hq0) ?_
  have I1 := ci_step I0 (show mo_T[0]? = some (519, 0, 200) from rfl) (by decide) hq0
  generalize jh_sr (jh_nw h0 q0 (100 + 0) 200) mo 519 (some q0) = h1 at I1 ⊢
  refine jw_aload_n rfl rfl ?_
  refine js_bipush (x := 60) rfl rfl ?_
  refine jw_newa (t := 1) (n := 60) rfl (by decide) rfl (Or.inl ⟨rfl, rfl⟩) v_1 rfl (by decide) (by decide) (by decide) (by decide) (fun q1 hq1 => ?_)
  refine jw_pr rfl p_M_init_35 (jh_nwO I1.1 hq1) ?_
  have I2 := ci_step I1 (show mo_T[1]? = some (520, 1, 60) from rfl) (by decide) hq1
  generalize jh_sr (jh_nw h1 q1 (100 + 1) 60) mo 520 (some q1) = h2 at I2 ⊢
  refine jw_aload_n rfl rfl ?_
  refine js_bipush (x := 60) rfl rfl ?_
  refine jw_newa (t := 1) (n := 60) rfl (by decide) rfl (Or.inl ⟨rfl, rfl⟩) v_1 rfl (by decide) (by decide) (by decide) (by decide) (fun q2 hq2 => ?_)
  refine jw_pr rfl p_M_init_39 (jh_nwO I2.1 hq2) ?_
  have I3 := ci_step I2 (show mo_T[2]? = some (521, 1, 60) from rfl) (by decide) hq2
  generalize jh_sr (jh_nw h2 q2 (100 + 1) 60) mo 521 (some q2) = h3 at I3 ⊢
  refine jw_aload_n rfl rfl ?_
  refine js_sipush (x := 3000) rfl rfl ?_
  refine jw_newa (t := 1) (n := 3000) rfl (by decide) rfl (Or.inl ⟨rfl, rfl⟩) v_1 rfl (by decide) (by decide) (by decide) (by decide) (fun q3 hq3 => ?_)
  refine jw_pr rfl p_M_init_42 (jh_nwO I3.1 hq3) ?_
  have I4 := ci_step I3 (show mo_T[3]? = some (522, 1, 3000) from rfl) (by decide) hq3
  generalize jh_sr (jh_nw h3 q3 (100 + 1) 3000) mo 522 (some q3) = h4 at I4 ⊢
  refine jw_aload_n rfl rfl ?_
  refine js_sipush (x := 600) rfl rfl ?_
  refine jw_newa (t := 1) (n := 600) rfl (by decide) rfl (Or.inl ⟨rfl, rfl⟩) v_1 rfl (by decide) (by decide) (by decide) (by decide) (fun q4 hq4 => ?_)
  refine jw_pr rfl p_M_init_45 (jh_nwO I4.1 hq4) ?_
  have I5 := ci_step I4 (show mo_T[4]? = some (523, 1, 600) from rfl) (by decide) hq4
  generalize jh_sr (jh_nw h4 q4 (100 + 1) 600) mo 523 (some q4) = h5 at I5 ⊢
  refine jw_aload_n rfl rfl ?_
  refine js_sipush (x := 600) rfl rfl ?_
  refine jw_newa (t := 2) (n := 600) rfl (by decide) rfl (Or.inr rfl) v_2 rfl (by decide) (by decide) (by decide) (by decide) (fun q5 hq5 => ?_)
  refine jw_pr rfl p_M_init_48 (jh_nwO I5.1 hq5) ?_
  have I6 := ci_step I5 (show mo_T[5]? = some (524, 2, 600) from rfl) (by decide) hq5
  generalize jh_sr (jh_nw h5 q5 (100 + 2) 600) mo 524 (some q5) = h6 at I6 ⊢
  refine jw_aload_n rfl rfl ?_
  refine js_bipush (x := 60) rfl rfl ?_
  refine jw_newa (t := 3) (n := 60) rfl (by decide) rfl (Or.inl ⟨rfl, rfl⟩) v_3 rfl (by decide) (by decide) (by decide) (by decide) (fun q6 hq6 => ?_)
  refine jw_pr rfl p_M_init_52 (jh_nwO I6.1 hq6) ?_
  have I7 := ci_step I6 (show mo_T[6]? = some (525, 3, 60) from rfl) (by decide) hq6
  generalize jh_sr (jh_nw h6 q6 (100 + 3) 60) mo 525 (some q6) = h7 at I7 ⊢
  refine jw_aload_n rfl rfl ?_
  refine js_sipush (x := 1000) rfl rfl ?_
  refine jw_newa (t := 0) (n := 1000) rfl (by decide) rfl (Or.inl ⟨rfl, rfl⟩) v_0 rfl (by decide) (by decide) (by decide) (by decide) (fun q7 hq7 => ?_)
  refine jw_pr rfl p_M_init_56 (jh_nwO I7.1 hq7) ?_
  have I8 := ci_step I7 (show mo_T[7]? = some (526, 0, 1000) from rfl) (by decide) hq7
  generalize jh_sr (jh_nw h7 q7 (100 + 0) 1000) mo 526 (some q7) = h8 at I8 ⊢
  refine jw_aload_n rfl rfl ?_
  refine js_iconst (x := 5) rfl rfl ?_
  refine jw_newa (t := 1) (n := 5) rfl (by decide) rfl (Or.inl ⟨rfl, rfl⟩) v_1 rfl (by decide) (by decide) (by decide) (by decide) (fun q8 hq8 => ?_)
  refine jw_pr rfl p_M_init_59 (jh_nwO I8.1 hq8) ?_
  have I9 := ci_step I8 (show mo_T[8]? = some (527, 1, 5) from rfl) (by decide) hq8
  generalize jh_sr (jh_nw h8 q8 (100 + 1) 5) mo 527 (some q8) = h9 at I9 ⊢
  refine jw_aload_n rfl rfl ?_
  refine js_iconst (x := 5) rfl rfl ?_
  refine jw_newa (t := 1) (n := 5) rfl (by decide) rfl (Or.inl ⟨rfl, rfl⟩) v_1 rfl (by decide) (by decide) (by decide) (by decide) (fun q9 hq9 => ?_)
  refine jw_pr rfl p_M_init_62 (jh_nwO I9.1 hq9) ?_
  have I10 := ci_step I9 (show mo_T[9]? = some (528, 1, 5) from rfl) (by decide) hq9
  generalize jh_sr (jh_nw h9 q9 (100 + 1) 5) mo 528 (some q9) = h10 at I10 ⊢
  refine jw_aload_n rfl rfl ?_
  refine js_iconst (x := 4) rfl rfl ?_
  refine jw_newa (t := 3) (n := 4) rfl (by decide) rfl (Or.inl ⟨rfl, rfl⟩) v_3 rfl (by decide) (by decide) (by decide) (by decide) (fun q10 hq10 => ?_)
  refine jw_pr rfl p_M_init_65 (jh_nwO I10.1 hq10) ?_
  have I11 := ci_step I10 (show mo_T[10]? = some (529, 3, 4) from rfl) (by decide) hq10
  generalize jh_sr (jh_nw h10 q10 (100 + 3) 4) mo 529 (some q10) = h11 at I11 ⊢
  refine jw_aload_n rfl rfl ?_
  refine js_sipush (x := 250) rfl rfl ?_
  refine jw_newa (t := 1) (n := 250) rfl (by decide) rfl (Or.inl ⟨rfl, rfl⟩) v_1 rfl (by decide) (by decide) (by decide) (by decide) (fun q11 hq11 => ?_)
  refine jw_pr rfl p_M_init_68 (jh_nwO I11.1 hq11) ?_
  have I12 := ci_step I11 (show mo_T[11]? = some (530, 1, 250) from rfl) (by decide) hq11
  generalize jh_sr (jh_nw h11 q11 (100 + 1) 250) mo 530 (some q11) = h12 at I12 ⊢
  refine jw_aload_n rfl rfl ?_
  refine js_sipush (x := 250) rfl rfl ?_
  refine jw_newa (t := 1) (n := 250) rfl (by decide) rfl (Or.inl ⟨rfl, rfl⟩) v_1 rfl (by decide) (by decide) (by decide) (by decide) (fun q12 hq12 => ?_)
  refine jw_pr rfl p_M_init_71 (jh_nwO I12.1 hq12) ?_
  have I13 := ci_step I12 (show mo_T[12]? = some (531, 1, 250) from rfl) (by decide) hq12
  generalize jh_sr (jh_nw h12 q12 (100 + 1) 250) mo 531 (some q12) = h13 at I13 ⊢
  refine jw_aload_n rfl rfl ?_
  refine js_sipush (x := 250) rfl rfl ?_
  refine jw_newa (t := 1) (n := 250) rfl (by decide) rfl (Or.inl ⟨rfl, rfl⟩) v_1 rfl (by decide) (by decide) (by decide) (by decide) (fun q13 hq13 => ?_)
  refine jw_pr rfl p_M_init_74 (jh_nwO I13.1 hq13) ?_
  have I14 := ci_step I13 (show mo_T[13]? = some (532, 1, 250) from rfl) (by decide) hq13
  generalize jh_sr (jh_nw h13 q13 (100 + 1) 250) mo 532 (some q13) = h14 at I14 ⊢
  refine jw_aload_n rfl rfl ?_
  refine js_sipush (x := 250) rfl rfl ?_
  refine jw_newa (t := 1) (n := 250) rfl (by decide) rfl (Or.inl ⟨rfl, rfl⟩) v_1 rfl (by decide) (by decide) (by decide) (by decide) (fun q14 hq14 => ?_)
  refine jw_pr rfl p_M_init_77 (jh_nwO I14.1 hq14) ?_
  have I15 := ci_step I14 (show mo_T[14]? = some (533, 1, 250) from rfl) (by decide) hq14
  generalize jh_sr (jh_nw h14 q14 (100 + 1) 250) mo 533 (some q14) = h15 at I15 ⊢
  refine jw_aload_n rfl rfl ?_
  refine js_sipush (x := 250) rfl rfl ?_
  refine jw_newa (t := 1) (n := 250) rfl (by decide) rfl (Or.inl ⟨rfl, rfl⟩) v_1 rfl (by decide) (by decide) (by decide) (by decide) (fun q15 hq15 => ?_)
  refine jw_pr rfl p_M_init_80 (jh_nwO I15.1 hq15) ?_
  have I16 := ci_step I15 (show mo_T[15]? = some (534, 1, 250) from rfl) (by decide) hq15
  generalize jh_sr (jh_nw h15 q15 (100 + 1) 250) mo 534 (some q15) = h16 at I16 ⊢
  refine jw_aload_n rfl rfl ?_
  refine js_sipush (x := 250) rfl rfl ?_
  refine jw_newa (t := 1) (n := 250) rfl (by decide) rfl (Or.inl ⟨rfl, rfl⟩) v_1 rfl (by decide) (by decide) (by decide) (by decide) (fun q16 hq16 => ?_)
  refine jw_pr rfl p_M_init_83 (jh_nwO I16.1 hq16) ?_
  have I17 := ci_step I16 (show mo_T[16]? = some (535, 1, 250) from rfl) (by decide) hq16
  generalize jh_sr (jh_nw h16 q16 (100 + 1) 250) mo 535 (some q16) = h17 at I17 ⊢
  refine jw_aload_n rfl rfl ?_
  refine js_sipush (x := 250) rfl rfl ?_
  refine jw_newa (t := 1) (n := 250) rfl (by decide) rfl (Or.inl ⟨rfl, rfl⟩) v_1 rfl (by decide) (by decide) (by decide) (by decide) (fun q17 hq17 => ?_)
  refine jw_pr rfl p_M_init_86 (jh_nwO I17.1 hq17) ?_
  have I18 := ci_step I17 (show mo_T[17]? = some (536, 1, 250) from rfl) (by decide) hq17
  generalize jh_sr (jh_nw h17 q17 (100 + 1) 250) mo 536 (some q17) = h18 at I18 ⊢
  refine jw_aload_n rfl rfl ?_
  refine js_iconst (x := 4) rfl rfl ?_
  refine jw_newa (t := 1) (n := 4) rfl (by decide) rfl (Or.inl ⟨rfl, rfl⟩) v_1 rfl (by decide) (by decide) (by decide) (by decide) (fun q18 hq18 => ?_)
  refine jw_pr rfl p_M_init_89 (jh_nwO I18.1 hq18) ?_
  have I19 := ci_step I18 (show mo_T[18]? = some (537, 1, 4) from rfl) (by decide) hq18
  generalize jh_sr (jh_nw h18 q18 (100 + 1) 4) mo 537 (some q18) = h19 at I19 ⊢
  refine jw_aload_n rfl rfl ?_
  refine js_bipush (x := 18) rfl rfl ?_
  refine jw_newa (t := 1) (n := 18) rfl (by decide) rfl (Or.inl ⟨rfl, rfl⟩) v_1 rfl (by decide) (by decide) (by decide) (by decide) (fun q19 hq19 => ?_)
  refine jw_pr rfl p_M_init_92 (jh_nwO I19.1 hq19) ?_
  have I20 := ci_step I19 (show mo_T[19]? = some (538, 1, 18) from rfl) (by decide) hq19
  generalize jh_sr (jh_nw h19 q19 (100 + 1) 18) mo 538 (some q19) = h20 at I20 ⊢
  refine jw_aload_n rfl rfl ?_
  refine js_bipush (x := 18) rfl rfl ?_
  refine jw_newa (t := 1) (n := 18) rfl (by decide) rfl (Or.inl ⟨rfl, rfl⟩) v_1 rfl (by decide) (by decide) (by decide) (by decide) (fun q20 hq20 => ?_)
  refine jw_pr rfl p_M_init_95 (jh_nwO I20.1 hq20) ?_
  have I21 := ci_step I20 (show mo_T[20]? = some (539, 1, 18) from rfl) (by decide) hq20
  generalize jh_sr (jh_nw h20 q20 (100 + 1) 18) mo 539 (some q20) = h21 at I21 ⊢
  refine jw_aload_n rfl rfl ?_
  refine js_bipush (x := 18) rfl rfl ?_
  refine jw_newa (t := 1) (n := 18) rfl (by decide) rfl (Or.inl ⟨rfl, rfl⟩) v_1 rfl (by decide) (by decide) (by decide) (by decide) (fun q21 hq21 => ?_)
  refine jw_pr rfl p_M_init_98 (jh_nwO I21.1 hq21) ?_
  have I22 := ci_step I21 (show mo_T[21]? = some (540, 1, 18) from rfl) (by decide) hq21
  generalize jh_sr (jh_nw h21 q21 (100 + 1) 18) mo 540 (some q21) = h22 at I22 ⊢
  refine jw_aload_n rfl rfl ?_
  refine js_sipush (x := 7200) rfl rfl ?_
  refine jw_newa (t := 0) (n := 7200) rfl (by decide) rfl (Or.inl ⟨rfl, rfl⟩) v_0 rfl (by decide) (by decide) (by decide) (by decide) (fun q22 hq22 => ?_)
  refine jw_pr rfl p_M_init_101 (jh_nwO I22.1 hq22) ?_
  have I23 := ci_step I22 (show mo_T[22]? = some (541, 0, 7200) from rfl) (by decide) hq22
  generalize jh_sr (jh_nw h22 q22 (100 + 0) 7200) mo 541 (some q22) = h23 at I23 ⊢
  refine jw_aload_n rfl rfl ?_
  refine js_sipush (x := 401) rfl rfl ?_
  refine jw_newa (t := 0) (n := 401) rfl (by decide) rfl (Or.inl ⟨rfl, rfl⟩) v_0 rfl (by decide) (by decide) (by decide) (by decide) (fun q23 hq23 => ?_)
  refine jw_pr rfl p_M_init_104 (jh_nwO I23.1 hq23) ?_
  have I24 := ci_step I23 (show mo_T[23]? = some (542, 0, 401) from rfl) (by decide) hq23
  generalize jh_sr (jh_nw h23 q23 (100 + 0) 401) mo 542 (some q23) = h24 at I24 ⊢
  refine jw_aload_n rfl rfl ?_
  refine js_sipush (x := 400) rfl rfl ?_
  refine jw_newa (t := 0) (n := 400) rfl (by decide) rfl (Or.inl ⟨rfl, rfl⟩) v_0 rfl (by decide) (by decide) (by decide) (by decide) (fun q24 hq24 => ?_)
  refine jw_pr rfl p_M_init_107 (jh_nwO I24.1 hq24) ?_
  have I25 := ci_step I24 (show mo_T[24]? = some (543, 0, 400) from rfl) (by decide) hq24
  generalize jh_sr (jh_nw h24 q24 (100 + 0) 400) mo 543 (some q24) = h25 at I25 ⊢
  refine jw_aload_n rfl rfl ?_
  refine js_sipush (x := 400) rfl rfl ?_
  refine jw_newa (t := 0) (n := 400) rfl (by decide) rfl (Or.inl ⟨rfl, rfl⟩) v_0 rfl (by decide) (by decide) (by decide) (by decide) (fun q25 hq25 => ?_)
  refine jw_pr rfl p_M_init_110 (jh_nwO I25.1 hq25) ?_
  have I26 := ci_step I25 (show mo_T[25]? = some (544, 0, 400) from rfl) (by decide) hq25
  generalize jh_sr (jh_nw h25 q25 (100 + 0) 400) mo 544 (some q25) = h26 at I26 ⊢
  refine jw_aload_n rfl rfl ?_
  refine js_iconst (x := 0) rfl rfl ?_
  refine jw_pi rfl p_M_init_113 I26.1 ?_
  have I27 := ci_si I26 (show (0 : Int32) = ci_n 545 from rfl)
  generalize jh_si h26 mo 545 0 = h27 at I27 ⊢
  refine jw_aload_n rfl rfl ?_
  refine js_iconst (x := 0) rfl rfl ?_
  refine jw_pi rfl p_M_init_116 I27.1 ?_
  have I28 := ci_si I27 (show (0 : Int32) = ci_n 546 from rfl)
  generalize jh_si h27 mo 546 0 = h28 at I28 ⊢
  refine jw_aload_n rfl rfl ?_
  refine js_iconst (x := 0) rfl rfl ?_
  refine jw_pi rfl p_M_init_119 I28.1 ?_
  have I29 := ci_si I28 (show (0 : Int32) = ci_n 547 from rfl)
  generalize jh_si h28 mo 547 0 = h29 at I29 ⊢
  refine jw_aload_n rfl rfl ?_
  refine js_iconst (x := 0) rfl rfl ?_
  refine jw_pi rfl p_M_init_122 I29.1 ?_
  have I30 := ci_si I29 (show (0 : Int32) = ci_n 548 from rfl)
  generalize jh_si h29 mo 548 0 = h30 at I30 ⊢
  refine jw_aload_n rfl rfl ?_
  refine js_iconst (x := 0) rfl rfl ?_
  refine jw_pi rfl p_M_init_125 I30.1 ?_
  have I31 := ci_si I30 (show (0 : Int32) = ci_n 549 from rfl)
  generalize jh_si h30 mo 549 0 = h31 at I31 ⊢
  refine jw_aload_n rfl rfl ?_
  refine js_iconst (x := 0) rfl rfl ?_
  refine jw_pi rfl p_M_init_128 I31.1 ?_
  have I32 := ci_si I31 (show (0 : Int32) = ci_n 550 from rfl)
  generalize jh_si h31 mo 550 0 = h32 at I32 ⊢
  refine jw_aload_n rfl rfl ?_
  refine js_iconst (x := 0) rfl rfl ?_
  refine jw_pi rfl p_M_init_131 I32.1 ?_
  have I33 := ci_si I32 (show (0 : Int32) = ci_n 551 from rfl)
  generalize jh_si h32 mo 551 0 = h33 at I33 ⊢
  refine jw_aload_n rfl rfl ?_
  refine js_bipush (x := 20) rfl rfl ?_
  refine jw_newa (t := 1) (n := 20) rfl (by decide) rfl (Or.inl ⟨rfl, rfl⟩) v_1 rfl (by decide) (by decide) (by decide) (by decide) (fun q26 hq26 => ?_)
  refine jw_pr rfl p_M_init_134 (jh_nwO I33.1 hq26) ?_
  have I34 := ci_step I33 (show mo_T[26]? = some (552, 1, 20) from rfl) (by decide) hq26
  generalize jh_sr (jh_nw h33 q26 (100 + 1) 20) mo 552 (some q26) = h34 at I34 ⊢
  refine jw_aload_n rfl rfl ?_
  refine js_bipush (x := 20) rfl rfl ?_
  refine jw_newa (t := 1) (n := 20) rfl (by decide) rfl (Or.inl ⟨rfl, rfl⟩) v_1 rfl (by decide) (by decide) (by decide) (by decide) (fun q27 hq27 => ?_)
  refine jw_pr rfl p_M_init_137 (jh_nwO I34.1 hq27) ?_
  have I35 := ci_step I34 (show mo_T[27]? = some (553, 1, 20) from rfl) (by decide) hq27
  generalize jh_sr (jh_nw h34 q27 (100 + 1) 20) mo 553 (some q27) = h35 at I35 ⊢
  refine jw_aload_n rfl rfl ?_
  refine js_bipush (x := 20) rfl rfl ?_
  refine jw_newa (t := 1) (n := 20) rfl (by decide) rfl (Or.inl ⟨rfl, rfl⟩) v_1 rfl (by decide) (by decide) (by decide) (by decide) (fun q28 hq28 => ?_)
  refine jw_pr rfl p_M_init_140 (jh_nwO I35.1 hq28) ?_
  have I36 := ci_step I35 (show mo_T[28]? = some (554, 1, 20) from rfl) (by decide) hq28
  generalize jh_sr (jh_nw h35 q28 (100 + 1) 20) mo 554 (some q28) = h36 at I36 ⊢
  refine jw_aload_n rfl rfl ?_
  refine js_bipush (x := 20) rfl rfl ?_
  refine jw_newa (t := 1) (n := 20) rfl (by decide) rfl (Or.inl ⟨rfl, rfl⟩) v_1 rfl (by decide) (by decide) (by decide) (by decide) (fun q29 hq29 => ?_)
  refine jw_pr rfl p_M_init_143 (jh_nwO I36.1 hq29) ?_
  have I37 := ci_step I36 (show mo_T[29]? = some (555, 1, 20) from rfl) (by decide) hq29
  generalize jh_sr (jh_nw h36 q29 (100 + 1) 20) mo 555 (some q29) = h37 at I37 ⊢
  refine jw_aload_n rfl rfl ?_
  refine js_bipush (x := 60) rfl rfl ?_
  refine jw_newa (t := 1) (n := 60) rfl (by decide) rfl (Or.inl ⟨rfl, rfl⟩) v_1 rfl (by decide) (by decide) (by decide) (by decide) (fun q30 hq30 => ?_)
  refine jw_pr rfl p_M_init_146 (jh_nwO I37.1 hq30) ?_
  have I38 := ci_step I37 (show mo_T[30]? = some (556, 1, 60) from rfl) (by decide) hq30
  generalize jh_sr (jh_nw h37 q30 (100 + 1) 60) mo 556 (some q30) = h38 at I38 ⊢
  refine jw_aload_n rfl rfl ?_
  refine js_bipush (x := 60) rfl rfl ?_
  refine jw_newa (t := 1) (n := 60) rfl (by decide) rfl (Or.inl ⟨rfl, rfl⟩) v_1 rfl (by decide) (by decide) (by decide) (by decide) (fun q31 hq31 => ?_)
  refine jw_pr rfl p_M_init_149 (jh_nwO I38.1 hq31) ?_
  have I39 := ci_step I38 (show mo_T[31]? = some (557, 1, 60) from rfl) (by decide) hq31
  generalize jh_sr (jh_nw h38 q31 (100 + 1) 60) mo 557 (some q31) = h39 at I39 ⊢
  refine jw_aload_n rfl rfl ?_
  refine js_bipush (x := 20) rfl rfl ?_
  refine jw_newa (t := 3) (n := 20) rfl (by decide) rfl (Or.inl ⟨rfl, rfl⟩) v_3 rfl (by decide) (by decide) (by decide) (by decide) (fun q32 hq32 => ?_)
  refine jw_pr rfl p_M_init_152 (jh_nwO I39.1 hq32) ?_
  have I40 := ci_step I39 (show mo_T[32]? = some (558, 3, 20) from rfl) (by decide) hq32
  generalize jh_sr (jh_nw h39 q32 (100 + 3) 20) mo 558 (some q32) = h40 at I40 ⊢
  refine jw_aload_n rfl rfl ?_
  refine js_bipush (x := 20) rfl rfl ?_
  refine jw_newa (t := 3) (n := 20) rfl (by decide) rfl (Or.inl ⟨rfl, rfl⟩) v_3 rfl (by decide) (by decide) (by decide) (by decide) (fun q33 hq33 => ?_)
  refine jw_pr rfl p_M_init_155 (jh_nwO I40.1 hq33) ?_
  have I41 := ci_step I40 (show mo_T[33]? = some (559, 3, 20) from rfl) (by decide) hq33
  generalize jh_sr (jh_nw h40 q33 (100 + 3) 20) mo 559 (some q33) = h41 at I41 ⊢
  refine jw_return rfl rfl ?_
  obtain ⟨i1, i2, i3, i4, i5⟩ := I41
  exact hq _ _ ⟨i1, fun x hx => ⟨(i3 x hx).1, (i3 x hx).2.1⟩, i4⟩ i2 (fun x hx => ⟨(i3 x hx).2.2.2.1, (i3 x hx).2.2.1, (i3 x hx).2.2.2.2⟩) i5

