/-! RENDERER: a new one -/
/-- cells made since h0, by codes: all are new and no two are one -/
def rc (h0 h : jh_H) (a : Nat) (R : Nat → Nat) (S : Nat → Prop) : Prop := R 0 = a ∧ S 0 ∧ a ∈ jh_L h0 ∧ (∀ i, S i → R i ∈ jh_L h) ∧ (∀ i, S i → i ≠ 0 → R i ∉ jh_L h0) ∧ (∀ i j, S i → S j → R i = R j → i = j) ∧ fr (fun b => b = a) h0 h
theorem rc.go {h0 h h' : jh_H} {a : Nat} {R : Nat → Nat} {S F : Nat → Prop} (hc : rc h0 h a R S) (f : fr F h h') (hF : ∀ x, x ∈ jh_L h0 → F x → x = a) : rc h0 h' a R S := by
  obtain ⟨c1, c2, c3, c4, c5, c6, c7⟩ := hc
  exact ⟨c1, c2, c3, fun i hi => (f.1 _ (c4 i hi)).1, c5, c6, c7.tr f hF⟩
theorem rc.add {h0 h h' : jh_H} {a k q : Nat} {R : Nat → Nat} {S F : Nat → Prop} (hc : rc h0 h a R S) (f : fr F h h') (hF : ∀ x, x ∈ jh_L h0 → F x → x = a) (hq : q ∉ jh_L h) (hq' : q ∈ jh_L h') (hk : ¬ S k) : rc h0 h' a (va_up R k q) (fun i => S i ∨ i = k) := by
  obtain ⟨c1, c2, c3, c4, c5, c6, c7⟩ := hc
  have hne : ∀ i, S i → va_up R k q i = R i := fun i hi => va_up_ne _ _ (fun e => hk (by rw [← e]; exact hi))
  refine ⟨(hne 0 c2).trans c1, Or.inl c2, c3, fun i hi => ?_, fun i hi h0' => ?_, fun i j hi hj e => ?_, c7.tr f hF⟩
  · rcases hi with hi | rfl
    · rw [hne i hi]; exact (f.1 _ (c4 i hi)).1
    · rw [va_up_self]; exact hq'
  · rcases hi with hi | rfl
    · rw [hne i hi]; exact c5 i hi h0'
    · rw [va_up_self]; exact fun z => hq (c7.1 _ z).1
  · rcases hi with hi | rfl <;> rcases hj with hj | rfl
    · rw [hne i hi, hne j hj] at e; exact c6 i j hi hj e
    · rw [hne i hi, va_up_self] at e
      exact absurd (by rw [← e]; exact c4 i hi) hq
    · rw [hne j hj, va_up_self] at e
      exact absurd (by rw [e]; exact c4 j hj) hq
    · rfl
theorem rc.set {h0 h : jh_H} {a : Nat} {R : Nat → Nat} {S S' : Nat → Prop} (hc : rc h0 h a R S) (h1 : ∀ i, S' i → S i) (h2 : S' 0) : rc h0 h a R S' := by
  obtain ⟨c1, c2, c3, c4, c5, c6, c7⟩ := hc
  exact ⟨c1, h2, c3, fun i hi => c4 i (h1 i hi), fun i hi => c5 i (h1 i hi), fun i j hi hj => c6 i j (h1 i hi) (h1 j hj), c7⟩
/-- what is there before the slots -/
def rk_ok (h : jh_H) (R : Nat → Nat) : Prop := jh_O h (R 0) 3 ∧ jh_r h (R 0) 192 = some (R 1) ∧ jh_A h (R 1) 4 13 ∧ jh_r h (R 0) 194 = some (R 2) ∧ jh_A h (R 2) 4 13 ∧ rv_ok h R ∧ jh_r h (R 0) 198 = some (R 8) ∧ tx_is h (R 8) (R 9) 400 [] ∧ jh_r h (R 0) 199 = some (R 10) ∧ tx_is h (R 10) (R 11) 400 [] ∧ jh_i h (R 0) 204 = 0
theorem rk_ok.cg {h : jh_H} {R R' : Nat → Nat} (hk : rk_ok h R) (e : ∀ i, i ≤ 11 → R' i = R i) : rk_ok h R' := by
  unfold rk_ok rv_ok at *
  rw [e 0 (by decide), e 1 (by decide), e 2 (by decide), e 3 (by decide), e 4 (by decide), e 5 (by decide), e 6 (by decide), e 7 (by decide), e 8 (by decide), e 9 (by decide), e 10 (by decide), e 11 (by decide)]
  exact hk
theorem rk_ok.go {h h' : jh_H} {R : Nat → Nat} {S : Nat → Prop} (hk : rk_ok h R) (f : fr S h h') (hS : ∀ i, i ≤ 11 → i ≠ 2 → ¬ S (R i)) : rk_ok h' R := by
  obtain ⟨k1, k2, k3, k4, k5, k6, k7, k8, k9, k10, k11⟩ := hk
  have e := f.2 _ k1.1 (hS 0 (by decide) (by decide))
  exact ⟨e.O k1, (e.2.2.2.2.1 192).trans k2, f.A k3, (e.2.2.2.2.1 194).trans k4, f.A k5, k6.mv f (hS 0 (by decide) (by decide)) (hS 3 (by decide) (by decide)) (hS 4 (by decide) (by decide)) (hS 5 (by decide) (by decide)) (hS 6 (by decide) (by decide)) (hS 7 (by decide) (by decide)), (e.2.2.2.2.1 198).trans k7, k8.fr f (hS 8 (by decide) (by decide)) (hS 9 (by decide) (by decide)), (e.2.2.2.2.1 199).trans k9, k10.fr f (hS 10 (by decide) (by decide)) (hS 11 (by decide) (by decide)), (e.2.2.1 204).trans k11⟩
def rUj (j i : Nat) : Prop := i ≤ 11 ∨ (100 ≤ i ∧ i < 100 + j) ∨ (200 ≤ i ∧ i < 200 + j) ∨ (300 ≤ i ∧ i < 300 + j)
set_option maxRecDepth 100000 in
set_option maxHeartbeats 4000000 in
set_option maxRecDepth 100000 in
theorem cr_init {g : jg_G} (hg : (jg_l g).stackTraces = false) {d mc ms : Nat} {h : jh_H} {a : Nat} {Q : jw_O → jh_H → Prop} (ho : jh_O h a 3) (hz : jh_i h a 204 = 0) (hd : 10 ≤ d) (hmc : 60 ≤ mc) (hms : 7000 ≤ ms) (hq : ∀ h' R, R 0 = a → (∀ i, rU i → i ≠ 0 → R i ∉ jh_L h) → (∀ i j, rU i → rU j → R i = R j → i = j) → rb_ok h' R → tx_is h' (R 10) (R 11) 400 [] → jh_i h' (R 0) 204 = 0 → fr (fun b => b = a) h h' → Q (.inl none) h') : jw_C g d mc ms m_R_init [.inr (.inr (some a))] h Q := by
  refine jw_intro (ls := [some (.inr (.inr (some a))), none]) (by decide) k_R_init rfl (by simp [lo_fit, jv_c]) hg ?_
  have e1 : (jc_q 1).2.2 = 2 := rfl
  have c0 : rc h h a (fun _ => a) (fun i => i = 0) := ⟨rfl, rfl, ho.1, fun i _ => ho.1, fun i h1 h2 => absurd h1 h2, fun i j h1 h2 _ => h1.trans h2.symm, fr.rf⟩
  have aL : ∀ {x}, x ∉ jh_L h → a ≠ x := fun z e => z (by rw [← e]; exact ho.1)
  -- the slots
  have loop : ∀ m j hj R kc ks, j + m = 13 → 3 * m ≤ kc → 410 * m ≤ ks → rc h hj a R (rUj j) → rk_ok hj R → (∀ i, i < j → jh_R hj (R 2) i = some (R (100 + i)) ∧ vl_txt hj (R (100 + i)) (R (200 + i)) (R (300 + i)) 400 []) → jw_J g d m_R_init jw_T0 88 [some (.inr (.inr (some a))), some (.inl (nI j))] [] hj kc ks Q := by
    intro m
    induction m with
    | zero =>
      intro j hj R kc ks hm hkc hks cj kj sj
      have e13 : j = 13 := by omega
      subst e13
      have ea : R 0 = a := cj.1
      rw [← ea]
      refine jw_iload_n rfl rfl ?_
      refine jw_aload_n rfl rfl ?_
      refine jw_gr rfl g_R_17 (kj.1) (kj.2.2.2.1) ?_
      refine js_alen rfl (kj.2.2.2.2.1) (by decide) ?_
      refine jw_icmp_ge 122 rfl rfl (fun _ => ?_) (fun z => absurd (by decide) z)
      refine jw_return rfl rfl ?_
      obtain ⟨k1, k2, k3, k4, k5, k6, k7, k8, k9, k10, k11⟩ := kj
      refine hq hj R ea (fun i hi => cj.2.2.2.2.1 i hi) (fun i l hi hl => cj.2.2.2.2.2.1 i l hi hl) ⟨k1, k2, k3, k4, k5, fun i hi => ⟨(sj i hi).1, ?_⟩, k6, k7, ⟨_, k8⟩, k9⟩ k10 k11 cj.2.2.2.2.2.2
      obtain ⟨w1, w2, w3, w4, w5⟩ := (sj i hi).2
      exact ⟨w1, w3, ⟨_, w4⟩, w5⟩
    | succ m ih =>
      intro j hj R kc ks hm hkc hks cj kj sj
      have ea : R 0 = a := cj.1
      have oa : jh_O hj a 3 := by rw [← ea]; exact kj.1
      have ra : jh_r hj a 194 = some (R 2) := by rw [← ea]; exact kj.2.2.2.1
      refine jw_iload_n rfl rfl ?_
      refine jw_aload_n rfl rfl ?_
      refine jw_gr rfl g_R_17 (oa) (ra) ?_
      refine js_alen rfl (kj.2.2.2.2.1) (by decide) ?_
      refine jw_icmp_ge 122 rfl rfl (fun z => absurd z (fun z => absurd ((nI_leI (b := j) (a := 13) (by decide) (by omega)).mp z) (by omega))) (fun _ => ?_)
      refine jw_aload_n rfl rfl ?_
      refine jw_gr rfl g_R_17 (oa) (ra) ?_
      refine jw_iload_n rfl rfl ?_
      refine jw_new rfl jc_o1 n_R_28 a_1 b_1 e_1 (by omega) (by omega) (fun q102 hq102 => ?_)
      refine jw_dup rfl rfl ?_
      refine js_sipush (x := 400) rfl rfl ?_
      have n0 : ∀ {x}, x ∈ jh_L hj → x ≠ q102 := fun z e => hq102 (by rw [← e]; exact z)
      refine js_callI (As := [.inl (nI 400)]) rfl l_T_init c_R_30 i_T_init rfl rfl rfl (ct_Tinit (d := d - 1) (mc := 1) (ms := 400) hg jh_nw_O (jh_z_s _ _ _ _) (by omega) (by omega) (by omega) (by omega) (fun h1 qc hqc t1 f1 => ?_)) (by omega) (Nat.le_of_ble_eq_true rfl) (by omega) (by omega) rfl
      have fa : fr (fun _ => False) hj (jh_nw hj q102 1 (jc_q 1).2.2) := fr.nw fr.rf hq102
      have F1 : fr (fun _ => False) hj h1 := fa.tr f1 (fun x hx z => n0 hx z)
      refine js_callS (As := [.inr (.inr (some q102))]) rfl l_V_ofText c_R_46 i_V_ofText rfl (cv_ofText (d := d - 1) (mc := 1) (ms := 7) hg t1 (by omega) (by omega) (by omega) (fun h2 qv hqv t2 f2 => ?_)) (by omega) (Nat.le_of_ble_eq_true rfl) (by omega) (by omega) rfl
      have F2 : fr (fun _ => False) hj h2 := F1.tr f2 (fun _ _ z => z)
      have A2 : jh_A h2 (R 2) 4 13 := F2.A kj.2.2.2.2.1
      refine js_aast (j) rfl (A2) (t2.1) (by decide) jc_o2 (by rfl) rfl (by omega) (by omega) ?_
      refine js_iinc rfl rfl (nI_1 j) rfl (by decide) rfl ?_
      refine jw_goto 88 rfl rfl ?_
      obtain ⟨h3, eh3⟩ : ∃ z, z = jh_sR h2 (R 2) j (some qv) := ⟨_, rfl⟩
      rw [← eh3]
      have f3 : fr (fun b => b = R 2) h2 h3 := by rw [eh3]; exact fr.sR fr.rf rfl
      have F3 : fr (fun b => b = R 2) hj h3 := (F2.mono (fun _ _ z => absurd z id)).tr f3 (fun _ _ z => z)
      have hU2 : rUj j 2 := Or.inl (by decide)
      have inj : ∀ i l, rUj j i → rUj j l → R i = R l → i = l := cj.2.2.2.2.2.1
      have a2 : a ≠ R 2 := fun e => absurd (inj 0 2 (Or.inl (by decide)) hU2 (ea.trans e)) (by decide)
      have L2 : ∀ x, x ∈ jh_L h2 → x ∈ jh_L h3 := fun x hx => (f3.1 x hx).1
      have qcj : qc ∉ jh_L hj := fun z => hqc ((fa.1 _ z).1)
      have qvj : qv ∉ jh_L hj := fun z => hqv ((F1.1 _ z).1)
      have d1 : q102 ≠ qc := fun e => jOA_ne t1.1.1 t1.1.2.1 (by decide) e
      have d2 : q102 ≠ qv := fun e => hqv (by rw [← e]; exact t1.1.1.1)
      have d3 : qc ≠ qv := fun e => hqv (by rw [← e]; exact t1.1.2.1.1)
      obtain ⟨R1, eR1⟩ : ∃ z, z = va_up (va_up (va_up R (200 + j) q102) (300 + j) qc) (100 + j) qv := ⟨_, rfl⟩
      have eold : ∀ i, i ≠ 100 + j → i ≠ 200 + j → i ≠ 300 + j → R1 i = R i := fun i z1 z2 z3 => by rw [eR1]; exact (va_up_ne _ _ z1).trans ((va_up_ne _ _ z3).trans (va_up_ne _ _ z2))
      have en1 : R1 (100 + j) = qv := by rw [eR1]; exact va_up_self _ _ _
      have en2 : R1 (200 + j) = q102 := by rw [eR1]; exact (va_up_ne _ _ (by omega)).trans ((va_up_ne _ _ (by omega)).trans (va_up_self _ _ _))
      have en3 : R1 (300 + j) = qc := by rw [eR1]; exact (va_up_ne _ _ (by omega)).trans (va_up_self _ _ _)
      have oL : ∀ x, x ∈ jh_L h → x ∈ jh_L hj := fun x hx => (cj.2.2.2.2.2.2.1 x hx).1
      have c3 : rc h h3 a R1 (rUj (j + 1)) := by
        have g1 := cj.add fa (fun _ _ z => absurd z id) hq102 (k := 200 + j) (jh_nw_O (ci := 1)).1 (by unfold rUj; omega)
        have g2 := g1.add f1 (fun x hx z => absurd (oL x hx) (by rw [z]; exact hq102)) hqc (k := 300 + j) t1.1.2.1.1 (by unfold rUj; omega)
        have g3 := g2.add f2 (fun _ _ z => absurd z id) hqv (k := 100 + j) t2.1.1 (by unfold rUj; omega)
        have g4 := g3.go f3 (fun x hx z => absurd hx (by rw [z]; exact cj.2.2.2.2.1 2 hU2 (by decide)))
        rw [eR1]
        exact g4.set (fun i hi => by unfold rUj at hi ⊢; omega) (Or.inl (by decide))
      refine ih (j + 1) h3 R1 _ _ (by omega) (by omega) (by omega) c3 ?_ ?_
      · refine rk_ok.cg (R := R) (kj.go F3 (fun i h1 h2 e => h2 (inj i 2 (Or.inl h1) hU2 e))) (fun i hi => eold i (by omega) (by omega) (by omega))
      · intro i hi
        rw [eold 2 (by omega) (by omega) (by omega)]
        by_cases c : i = j
        · subst c
          rw [en1, en2, en3]
          exact ⟨by rw [eh3]; exact jh_u_s _ _ _ _, t2.eq (f3.2 _ t2.1.1 (fun e => jOA_ne t2.1 A2 (by decide) e)) (f3.2 _ t2.2.2.2.1.1.1.1 (fun e => jOA_ne t2.2.2.2.1.1.1 A2 (by decide) e)) (f3.2 _ t2.2.2.2.1.1.2.1.1 (fun e => jA_ne t2.2.2.2.1.1.2.1 A2 (by decide) e))⟩
        · rw [eold (100 + i) (by omega) (by omega) (by omega), eold (200 + i) (by omega) (by omega) (by omega), eold (300 + i) (by omega) (by omega) (by omega)]
          obtain ⟨x1, x2⟩ := sj i (by omega)
          have y2 := F2.2 _ kj.2.2.2.2.1.1 id
          refine ⟨?_, x2.eq (F3.2 _ x2.1.1 (fun e => jOA_ne x2.1 kj.2.2.2.2.1 (by decide) e)) (F3.2 _ x2.2.2.2.1.1.1.1 (fun e => jOA_ne x2.2.2.2.1.1.1 kj.2.2.2.2.1 (by decide) e)) (F3.2 _ x2.2.2.2.1.1.2.1.1 (fun e => jA_ne x2.2.2.2.1.1.2.1 kj.2.2.2.2.1 (by decide) e))⟩
          rw [eh3]
          exact (jh_u_k _ _ _ _ (by omega)).trans ((y2.2.2.2.2.2.2.2 i).trans x1)
  refine jw_aload_n rfl rfl ?_
  refine jw_obj rfl oi_R_3 (by omega) (Nat.le_of_ble_eq_true rfl) ?_
  refine jw_aload_n rfl rfl ?_
  refine js_bipush (x := 13) rfl rfl ?_
  refine jw_newq (t := 4) (n := 13) rfl (by decide) rfl n_R_9 rfl (by decide) (by omega) (by omega) (fun q7 hq7 => ?_)
  refine jw_pr rfl p_R_init_11 (jh_nwO ho hq7) ?_
  have n7 : fr (fun _ => False) h (jh_nw h q7 104 13) := fr.nw fr.rf hq7
  have g1 := c0.add n7 (fun _ _ z => absurd z id) hq7 (k := 1) (jh_nw_A (t := 4) (n := 13)).1 (by decide)
  obtain ⟨h1, eh1⟩ : ∃ z, z = jh_sr (jh_nw h q7 104 13) a 192 (some q7) := ⟨_, rfl⟩
  have A1 : jh_A h1 q7 4 13 := by rw [eh1]; exact jh_nw_A (h := h) (q := q7) (t := 4) (n := 13)
  have o1 : jh_O h1 a 3 := by rw [eh1]; exact jh_nwO ho hq7
  have f1 : fr (fun b => b = a) (jh_nw h q7 104 13) h1 := by rw [eh1]; exact fr.sr fr.rf rfl
  have r1 : jh_r h1 a 192 = some q7 := by rw [eh1]; exact jh_u_s _ _ _ _
  have i1 : jh_i h1 a 204 = 0 := by rw [eh1]; exact ((n7.2 _ ho.1 id).2.2.1 204).trans hz
  have g1 := g1.go f1 (fun _ _ z => z)
  rw [← eh1]
  refine jw_aload_n rfl rfl ?_
  refine js_bipush (x := 13) rfl rfl ?_
  refine jw_newq (t := 4) (n := 13) rfl (by decide) rfl n_R_9 rfl (by decide) (by omega) (by omega) (fun q16 hq16 => ?_)
  refine jw_pr rfl p_R_init_17 (jh_nwO o1 hq16) ?_
  have n16 : fr (fun _ => False) h1 (jh_nw h1 q16 104 13) := fr.nw fr.rf hq16
  have g2 := g1.add n16 (fun _ _ z => absurd z id) hq16 (k := 2) (jh_nw_A (t := 4) (n := 13)).1 (by decide)
  obtain ⟨h2, eh2⟩ : ∃ z, z = jh_sr (jh_nw h1 q16 104 13) a 194 (some q16) := ⟨_, rfl⟩
  have A2 : jh_A h2 q16 4 13 := by rw [eh2]; exact jh_nw_A (h := h1) (q := q16) (t := 4) (n := 13)
  have B2 : jh_A h2 q7 4 13 := by rw [eh2]; exact jh_nwA A1 hq16
  have f2 : fr (fun b => b = a) (jh_nw h1 q16 104 13) h2 := by rw [eh2]; exact fr.sr fr.rf rfl
  have o2 : jh_O h2 a 3 := by rw [eh2]; exact jh_nwO o1 hq16
  have r2 : jh_r h2 a 192 = some q7 ∧ jh_r h2 a 194 = some q16 ∧ jh_i h2 a 204 = 0 := by
    rw [eh2]
    exact ⟨(jh_u_k _ _ _ _ (by decide)).trans (((n16.2 _ o1.1 id).2.2.2.2.1 192).trans r1), jh_u_s _ _ _ _, ((n16.2 _ o1.1 id).2.2.1 204).trans i1⟩
  have g2 := g2.go f2 (fun _ _ z => z)
  rw [← eh2]
  refine jw_aload_n rfl rfl ?_
  refine js_iconst (x := 0) rfl rfl ?_
  refine js_callS (As := [.inl 0]) rfl l_V_ofNumber c_R_20 i_V_ofNumber rfl (cv_ofNumber (d := d - 1) (mc := 1) (ms := 7) hg (by omega) (by omega) (by omega) (fun h3 qv hqv t3 f3 => ?_)) (by omega) (Nat.le_of_ble_eq_true rfl) (by omega) (by omega) rfl
  have o3 : jh_O h3 a 3 := f3.O o2
  refine jw_pr rfl p_R_init_24 (o3) ?_
  have g3 := g2.add f3 (fun _ _ z => absurd z id) hqv (k := 3) t3.1.1 (by decide)
  obtain ⟨h4, eh4⟩ : ∃ z, z = jh_sr h3 a 195 (some qv) := ⟨_, rfl⟩
  have f4 : fr (fun b => b = a) h3 h4 := by rw [eh4]; exact fr.sr fr.rf rfl
  have o4 : jh_O h4 a 3 := by rw [eh4]; exact o3
  have y3 := f3.2 _ o2.1 id
  have r4 : jh_r h4 a 192 = some q7 ∧ jh_r h4 a 194 = some q16 ∧ jh_r h4 a 195 = some qv ∧ jh_i h4 a 204 = 0 := by
    rw [eh4]
    exact ⟨(jh_u_k _ _ _ _ (by decide)).trans ((y3.2.2.2.2.1 192).trans r2.1), (jh_u_k _ _ _ _ (by decide)).trans ((y3.2.2.2.2.1 194).trans r2.2.1), jh_u_s _ _ _ _, (y3.2.2.1 204).trans r2.2.2⟩
  have g4 := g3.go f4 (fun _ _ z => z)
  have av : a ≠ qv := fun e => hqv (by rw [← e]; exact o2.1)
  have z4 : jh_A h4 q7 4 13 ∧ jh_A h4 q16 4 13 ∧ vl_num h4 qv 0 := ⟨f4.A (f3.A B2), f4.A (f3.A A2), t3.eq (f4.2 _ t3.1.1 (fun e => av e.symm))⟩
  rw [← eh4]
  refine jw_aload_n rfl rfl ?_
  refine jw_new rfl jc_o1 n_R_28 a_1 b_1 e_1 (by omega) (by omega) (fun q31 hq31 => ?_)
  refine jw_dup rfl rfl ?_
  refine js_sipush (x := 400) rfl rfl ?_
  have fn0 : fr (fun _ => False) h4 (jh_nw h4 q31 1 (jc_q 1).2.2) := fr.nw fr.rf hq31
  have nq0 : ∀ {x}, x ∈ jh_L h4 → x ≠ q31 := fun z e => hq31 (by rw [← e]; exact z)
  refine js_callI (As := [.inl (nI 400)]) rfl l_T_init c_R_30 i_T_init rfl rfl rfl (ct_Tinit (d := d - 1) (mc := 1) (ms := 400) hg jh_nw_O (jh_z_s _ _ _ _) (by omega) (by omega) (by omega) (by omega) (fun ht0 qc0 hqc0 tt0 ft0 => ?_)) (by omega) (Nat.le_of_ble_eq_true rfl) (by omega) (by omega) rfl
  have FT0 : fr (fun _ => False) h4 ht0 := fn0.tr ft0 (fun x hx z => nq0 hx z)
  have oA0 : jh_O ht0 a 3 := FT0.O o4
  refine jw_pr rfl p_R_init_33 (oA0) ?_
  have ga0 := g4.add fn0 (fun _ _ z => absurd z id) hq31 (k := 4) (jh_nw_O (ci := 1)).1 (by decide)
  have gb0 := ga0.add ft0 (fun x hx z => absurd ((g4.2.2.2.2.2.2.1 x hx).1) (by rw [z]; exact hq31)) hqc0 (k := 5) tt0.1.2.1.1 (by decide)
  obtain ⟨hp0, ehp0⟩ : ∃ z, z = jh_sr ht0 a 196 (some q31) := ⟨_, rfl⟩
  have fp0 : fr (fun b => b = a) ht0 hp0 := by rw [ehp0]; exact fr.sr fr.rf rfl
  have gc0 := gb0.go fp0 (fun _ _ z => z)
  have op0 : jh_O hp0 a 3 := by rw [ehp0]; exact oA0
  have y10 := FT0.2 _ o4.1 id
  have rp0 : jh_r hp0 a 192 = some q7 ∧ jh_r hp0 a 194 = some q16 ∧ jh_r hp0 a 195 = some qv ∧ jh_r hp0 a 196 = some q31 ∧ jh_i hp0 a 204 = 0 := by
    rw [ehp0]
    exact ⟨(jh_u_k _ _ _ _ (by decide)).trans ((y10.2.2.2.2.1 192).trans r4.1), (jh_u_k _ _ _ _ (by decide)).trans ((y10.2.2.2.2.1 194).trans r4.2.1), (jh_u_k _ _ _ _ (by decide)).trans ((y10.2.2.2.2.1 195).trans r4.2.2.1), jh_u_s _ _ _ _, (y10.2.2.1 204).trans r4.2.2.2⟩
  have zp0 : jh_A hp0 q7 4 13 ∧ jh_A hp0 q16 4 13 ∧ vl_num hp0 qv 0 ∧ tx_is hp0 q31 qc0 400 [] := ⟨fp0.A (FT0.A z4.1), fp0.A (FT0.A z4.2.1), z4.2.2.eq ((FT0.2 _ z4.2.2.1.1 id).tr (fp0.2 _ (FT0.O z4.2.2.1).1 (fun e => jO_ne oA0 (FT0.O z4.2.2.1) (by decide) e.symm))), tt0.fr fp0 (fun e => jO_ne oA0 tt0.1.1 (by decide) e.symm) (fun e => jOA_ne oA0 tt0.1.2.1 (by decide) e.symm)⟩
  rw [← ehp0]
  refine jw_aload_n rfl rfl ?_
  refine jw_new rfl jc_o1 n_R_28 a_1 b_1 e_1 (by omega) (by omega) (fun q45 hq45 => ?_)
  refine jw_dup rfl rfl ?_
  refine js_sipush (x := 400) rfl rfl ?_
  have fn1 : fr (fun _ => False) hp0 (jh_nw hp0 q45 1 (jc_q 1).2.2) := fr.nw fr.rf hq45
  have nq1 : ∀ {x}, x ∈ jh_L hp0 → x ≠ q45 := fun z e => hq45 (by rw [← e]; exact z)
  refine js_callI (As := [.inl (nI 400)]) rfl l_T_init c_R_30 i_T_init rfl rfl rfl (ct_Tinit (d := d - 1) (mc := 1) (ms := 400) hg jh_nw_O (jh_z_s _ _ _ _) (by omega) (by omega) (by omega) (by omega) (fun ht1 qc1 hqc1 tt1 ft1 => ?_)) (by omega) (Nat.le_of_ble_eq_true rfl) (by omega) (by omega) rfl
  have FT1 : fr (fun _ => False) hp0 ht1 := fn1.tr ft1 (fun x hx z => nq1 hx z)
  have oA1 : jh_O ht1 a 3 := FT1.O op0
  refine jw_pr rfl p_R_init_37 (oA1) ?_
  have ga1 := gc0.add fn1 (fun _ _ z => absurd z id) hq45 (k := 6) (jh_nw_O (ci := 1)).1 (by decide)
  have gb1 := ga1.add ft1 (fun x hx z => absurd ((gc0.2.2.2.2.2.2.1 x hx).1) (by rw [z]; exact hq45)) hqc1 (k := 7) tt1.1.2.1.1 (by decide)
  obtain ⟨hp1, ehp1⟩ : ∃ z, z = jh_sr ht1 a 197 (some q45) := ⟨_, rfl⟩
  have fp1 : fr (fun b => b = a) ht1 hp1 := by rw [ehp1]; exact fr.sr fr.rf rfl
  have gc1 := gb1.go fp1 (fun _ _ z => z)
  have op1 : jh_O hp1 a 3 := by rw [ehp1]; exact oA1
  have y11 := FT1.2 _ op0.1 id
  have rp1 : jh_r hp1 a 192 = some q7 ∧ jh_r hp1 a 194 = some q16 ∧ jh_r hp1 a 195 = some qv ∧ jh_r hp1 a 196 = some q31 ∧ jh_r hp1 a 197 = some q45 ∧ jh_i hp1 a 204 = 0 := by
    rw [ehp1]
    exact ⟨(jh_u_k _ _ _ _ (by decide)).trans ((y11.2.2.2.2.1 192).trans rp0.1), (jh_u_k _ _ _ _ (by decide)).trans ((y11.2.2.2.2.1 194).trans rp0.2.1), (jh_u_k _ _ _ _ (by decide)).trans ((y11.2.2.2.2.1 195).trans rp0.2.2.1), (jh_u_k _ _ _ _ (by decide)).trans ((y11.2.2.2.2.1 196).trans rp0.2.2.2.1), jh_u_s _ _ _ _, (y11.2.2.1 204).trans rp0.2.2.2.2⟩
  have zp1 : jh_A hp1 q7 4 13 ∧ jh_A hp1 q16 4 13 ∧ vl_num hp1 qv 0 ∧ tx_is hp1 q31 qc0 400 [] ∧ tx_is hp1 q45 qc1 400 [] := ⟨fp1.A (FT1.A zp0.1), fp1.A (FT1.A zp0.2.1), zp0.2.2.1.eq ((FT1.2 _ zp0.2.2.1.1.1 id).tr (fp1.2 _ (FT1.O zp0.2.2.1.1).1 (fun e => jO_ne oA1 (FT1.O zp0.2.2.1.1) (by decide) e.symm))), (zp0.2.2.2.fr FT1 id id).fr fp1 (fun e => jO_ne oA1 (FT1.O zp0.2.2.2.1.1) (by decide) e.symm) (fun e => jOA_ne oA1 (FT1.A zp0.2.2.2.1.2.1) (by decide) e.symm), tt1.fr fp1 (fun e => jO_ne oA1 tt1.1.1 (by decide) e.symm) (fun e => jOA_ne oA1 tt1.1.2.1 (by decide) e.symm)⟩
  rw [← ehp1]
  refine jw_aload_n rfl rfl ?_
  refine jw_new rfl jc_o1 n_R_28 a_1 b_1 e_1 (by omega) (by omega) (fun q59 hq59 => ?_)
  refine jw_dup rfl rfl ?_
  refine js_sipush (x := 400) rfl rfl ?_
  have fn2 : fr (fun _ => False) hp1 (jh_nw hp1 q59 1 (jc_q 1).2.2) := fr.nw fr.rf hq59
  have nq2 : ∀ {x}, x ∈ jh_L hp1 → x ≠ q59 := fun z e => hq59 (by rw [← e]; exact z)
  refine js_callI (As := [.inl (nI 400)]) rfl l_T_init c_R_30 i_T_init rfl rfl rfl (ct_Tinit (d := d - 1) (mc := 1) (ms := 400) hg jh_nw_O (jh_z_s _ _ _ _) (by omega) (by omega) (by omega) (by omega) (fun ht2 qc2 hqc2 tt2 ft2 => ?_)) (by omega) (Nat.le_of_ble_eq_true rfl) (by omega) (by omega) rfl
  have FT2 : fr (fun _ => False) hp1 ht2 := fn2.tr ft2 (fun x hx z => nq2 hx z)
  have oA2 : jh_O ht2 a 3 := FT2.O op1
  refine jw_pr rfl p_R_init_40 (oA2) ?_
  have ga2 := gc1.add fn2 (fun _ _ z => absurd z id) hq59 (k := 8) (jh_nw_O (ci := 1)).1 (by decide)
  have gb2 := ga2.add ft2 (fun x hx z => absurd ((gc1.2.2.2.2.2.2.1 x hx).1) (by rw [z]; exact hq59)) hqc2 (k := 9) tt2.1.2.1.1 (by decide)
  obtain ⟨hp2, ehp2⟩ : ∃ z, z = jh_sr ht2 a 198 (some q59) := ⟨_, rfl⟩
  have fp2 : fr (fun b => b = a) ht2 hp2 := by rw [ehp2]; exact fr.sr fr.rf rfl
  have gc2 := gb2.go fp2 (fun _ _ z => z)
  have op2 : jh_O hp2 a 3 := by rw [ehp2]; exact oA2
  have y12 := FT2.2 _ op1.1 id
  have rp2 : jh_r hp2 a 192 = some q7 ∧ jh_r hp2 a 194 = some q16 ∧ jh_r hp2 a 195 = some qv ∧ jh_r hp2 a 196 = some q31 ∧ jh_r hp2 a 197 = some q45 ∧ jh_r hp2 a 198 = some q59 ∧ jh_i hp2 a 204 = 0 := by
    rw [ehp2]
    exact ⟨(jh_u_k _ _ _ _ (by decide)).trans ((y12.2.2.2.2.1 192).trans rp1.1), (jh_u_k _ _ _ _ (by decide)).trans ((y12.2.2.2.2.1 194).trans rp1.2.1), (jh_u_k _ _ _ _ (by decide)).trans ((y12.2.2.2.2.1 195).trans rp1.2.2.1), (jh_u_k _ _ _ _ (by decide)).trans ((y12.2.2.2.2.1 196).trans rp1.2.2.2.1), (jh_u_k _ _ _ _ (by decide)).trans ((y12.2.2.2.2.1 197).trans rp1.2.2.2.2.1), jh_u_s _ _ _ _, (y12.2.2.1 204).trans rp1.2.2.2.2.2⟩
  have zp2 : jh_A hp2 q7 4 13 ∧ jh_A hp2 q16 4 13 ∧ vl_num hp2 qv 0 ∧ tx_is hp2 q31 qc0 400 [] ∧ tx_is hp2 q45 qc1 400 [] ∧ tx_is hp2 q59 qc2 400 [] := ⟨fp2.A (FT2.A zp1.1), fp2.A (FT2.A zp1.2.1), zp1.2.2.1.eq ((FT2.2 _ zp1.2.2.1.1.1 id).tr (fp2.2 _ (FT2.O zp1.2.2.1.1).1 (fun e => jO_ne oA2 (FT2.O zp1.2.2.1.1) (by decide) e.symm))), (zp1.2.2.2.1.fr FT2 id id).fr fp2 (fun e => jO_ne oA2 (FT2.O zp1.2.2.2.1.1.1) (by decide) e.symm) (fun e => jOA_ne oA2 (FT2.A zp1.2.2.2.1.1.2.1) (by decide) e.symm), (zp1.2.2.2.2.fr FT2 id id).fr fp2 (fun e => jO_ne oA2 (FT2.O zp1.2.2.2.2.1.1) (by decide) e.symm) (fun e => jOA_ne oA2 (FT2.A zp1.2.2.2.2.1.2.1) (by decide) e.symm), tt2.fr fp2 (fun e => jO_ne oA2 tt2.1.1 (by decide) e.symm) (fun e => jOA_ne oA2 tt2.1.2.1 (by decide) e.symm)⟩
  rw [← ehp2]
  refine jw_aload_n rfl rfl ?_
  refine jw_new rfl jc_o1 n_R_28 a_1 b_1 e_1 (by omega) (by omega) (fun q73 hq73 => ?_)
  refine jw_dup rfl rfl ?_
  refine js_sipush (x := 400) rfl rfl ?_
  have fn3 : fr (fun _ => False) hp2 (jh_nw hp2 q73 1 (jc_q 1).2.2) := fr.nw fr.rf hq73
  have nq3 : ∀ {x}, x ∈ jh_L hp2 → x ≠ q73 := fun z e => hq73 (by rw [← e]; exact z)
  refine js_callI (As := [.inl (nI 400)]) rfl l_T_init c_R_30 i_T_init rfl rfl rfl (ct_Tinit (d := d - 1) (mc := 1) (ms := 400) hg jh_nw_O (jh_z_s _ _ _ _) (by omega) (by omega) (by omega) (by omega) (fun ht3 qc3 hqc3 tt3 ft3 => ?_)) (by omega) (Nat.le_of_ble_eq_true rfl) (by omega) (by omega) rfl
  have FT3 : fr (fun _ => False) hp2 ht3 := fn3.tr ft3 (fun x hx z => nq3 hx z)
  have oA3 : jh_O ht3 a 3 := FT3.O op2
  refine jw_pr rfl p_R_init_43 (oA3) ?_
  have ga3 := gc2.add fn3 (fun _ _ z => absurd z id) hq73 (k := 10) (jh_nw_O (ci := 1)).1 (by decide)
  have gb3 := ga3.add ft3 (fun x hx z => absurd ((gc2.2.2.2.2.2.2.1 x hx).1) (by rw [z]; exact hq73)) hqc3 (k := 11) tt3.1.2.1.1 (by decide)
  obtain ⟨hp3, ehp3⟩ : ∃ z, z = jh_sr ht3 a 199 (some q73) := ⟨_, rfl⟩
  have fp3 : fr (fun b => b = a) ht3 hp3 := by rw [ehp3]; exact fr.sr fr.rf rfl
  have gc3 := gb3.go fp3 (fun _ _ z => z)
  have op3 : jh_O hp3 a 3 := by rw [ehp3]; exact oA3
  have y13 := FT3.2 _ op2.1 id
  have rp3 : jh_r hp3 a 192 = some q7 ∧ jh_r hp3 a 194 = some q16 ∧ jh_r hp3 a 195 = some qv ∧ jh_r hp3 a 196 = some q31 ∧ jh_r hp3 a 197 = some q45 ∧ jh_r hp3 a 198 = some q59 ∧ jh_r hp3 a 199 = some q73 ∧ jh_i hp3 a 204 = 0 := by
    rw [ehp3]
    exact ⟨(jh_u_k _ _ _ _ (by decide)).trans ((y13.2.2.2.2.1 192).trans rp2.1), (jh_u_k _ _ _ _ (by decide)).trans ((y13.2.2.2.2.1 194).trans rp2.2.1), (jh_u_k _ _ _ _ (by decide)).trans ((y13.2.2.2.2.1 195).trans rp2.2.2.1), (jh_u_k _ _ _ _ (by decide)).trans ((y13.2.2.2.2.1 196).trans rp2.2.2.2.1), (jh_u_k _ _ _ _ (by decide)).trans ((y13.2.2.2.2.1 197).trans rp2.2.2.2.2.1), (jh_u_k _ _ _ _ (by decide)).trans ((y13.2.2.2.2.1 198).trans rp2.2.2.2.2.2.1), jh_u_s _ _ _ _, (y13.2.2.1 204).trans rp2.2.2.2.2.2.2⟩
  have zp3 : jh_A hp3 q7 4 13 ∧ jh_A hp3 q16 4 13 ∧ vl_num hp3 qv 0 ∧ tx_is hp3 q31 qc0 400 [] ∧ tx_is hp3 q45 qc1 400 [] ∧ tx_is hp3 q59 qc2 400 [] ∧ tx_is hp3 q73 qc3 400 [] := ⟨fp3.A (FT3.A zp2.1), fp3.A (FT3.A zp2.2.1), zp2.2.2.1.eq ((FT3.2 _ zp2.2.2.1.1.1 id).tr (fp3.2 _ (FT3.O zp2.2.2.1.1).1 (fun e => jO_ne oA3 (FT3.O zp2.2.2.1.1) (by decide) e.symm))), (zp2.2.2.2.1.fr FT3 id id).fr fp3 (fun e => jO_ne oA3 (FT3.O zp2.2.2.2.1.1.1) (by decide) e.symm) (fun e => jOA_ne oA3 (FT3.A zp2.2.2.2.1.1.2.1) (by decide) e.symm), (zp2.2.2.2.2.1.fr FT3 id id).fr fp3 (fun e => jO_ne oA3 (FT3.O zp2.2.2.2.2.1.1.1) (by decide) e.symm) (fun e => jOA_ne oA3 (FT3.A zp2.2.2.2.2.1.1.2.1) (by decide) e.symm), (zp2.2.2.2.2.2.fr FT3 id id).fr fp3 (fun e => jO_ne oA3 (FT3.O zp2.2.2.2.2.2.1.1) (by decide) e.symm) (fun e => jOA_ne oA3 (FT3.A zp2.2.2.2.2.2.1.2.1) (by decide) e.symm), tt3.fr fp3 (fun e => jO_ne oA3 tt3.1.1 (by decide) e.symm) (fun e => jOA_ne oA3 tt3.1.2.1 (by decide) e.symm)⟩
  rw [← ehp3]
  refine js_iconst (x := 0) rfl rfl ?_
  refine js_istore_n rfl rfl (by decide) rfl ?_
  refine loop 13 0 _ _ _ _ rfl (by omega) (by omega) (gc3.set (S' := rUj 0) (fun i hi => by unfold rUj at hi; omega) (Or.inl (by decide))) ?_ (fun i hi => absurd hi (by omega))
  obtain ⟨w1, w2, w3, w4, w5, w6, w7, w8⟩ := rp3
  obtain ⟨z1, z2, z3, z5, z6, z7, z8⟩ := zp3
  exact ⟨op3, w1, z1, w2, z2, ⟨op3, w3, z3.1, z3.2.2.2, w4, ⟨_, z5⟩, w5, ⟨_, z6⟩⟩, w6, z7, w7, z8, w8⟩

