/-! MODEL: the steps, 5: compile -/
theorem mt_ok.eqs {h h' : jh_H} {ar : Nat → Nat} {a n : Nat} {T T' : pp_T} {ot la : pp_O} (hm : mt_ok h ar a n T ot la) (e : ∀ K j, 530 ≤ K → K ≤ 536 → a ≤ j → j < a + n → jh_I h' (ar K) j = jh_I h (ar K) j) (eT : ∀ i, i < n → T' i = T i) : mt_ok h' ar a n T' ot la := by
  intro i hi
  rw [eT i hi]
  obtain ⟨a1, a2, a3, a4, a5, a6, a7⟩ := hm i hi
  exact ⟨(e 530 _ (by decide) (by decide) (by omega) (by omega)).trans a1, (e 532 _ (by decide) (by decide) (by omega) (by omega)).trans a2, (e 533 _ (by decide) (by decide) (by omega) (by omega)).trans a3, (e 531 _ (by decide) (by decide) (by omega) (by omega)).trans a4, (e 534 _ (by decide) (by decide) (by omega) (by omega)).trans a5, (e 535 _ (by decide) (by decide) (by omega) (by omega)).trans a6, (e 536 _ (by decide) (by decide) (by omega) (by omega)).trans a7⟩
theorem go_T.eqs {h h' : jh_H} {ar t t' : Nat → Nat} {k : Nat} {o : Option tp_X} (hT : go_T h ar t k o) (e0 : ∀ K, 527 ≤ K → K ≤ 529 → jh_I h' (ar K) k = jh_I h (ar K) k) (e : ∀ K j, 530 ≤ K → K ≤ 536 → k * 50 ≤ j → j < k * 50 + 50 → jh_I h' (ar K) j = jh_I h (ar K) j) (et : ∀ i, i < 200 → t' (i + k * 200) = t (i + k * 200)) : go_T h' ar t' k o := by
  cases o with
  | none => exact (e0 529 (by decide) (by decide)).trans hT
  | some X =>
    obtain ⟨h1, h2, h3, h4, h5, h6⟩ := hT
    have l200 := h2.1
    have l50 := h2.2.2
    exact ⟨(e0 529 (by decide) (by decide)).trans h1, h2, fun i hi => (et i (by omega)).trans (h3 i hi), (e0 527 (by decide) (by decide)).trans h4, (e0 528 (by decide) (by decide)).trans h5, h6.eqs (fun K j a b c d => e K j a b c (by omega)) (fun _ _ => rfl)⟩
theorem mM_compile {g : jg_G} (hg : (jg_l g).stackTraces = false) {h : jh_H} {mo n sn tw k : Nat} {col ar t : Nat → Nat} {ln O : List Nat} {D : sd_D} {TP : Nat → Option tp_X} {er kk b : Int32} {S' : SS} {Q : jw_O → jh_H → Prop} (hc : mc9 col mo ar) (hs : ms h mo ar t (ln, n, D, TP, er, O, sn, tw)) (st : st_com ln n D TP er O sn tw kk k b S') (hq : ∀ b' h', (k = 0 → b' = b) → mpost h col mo ar h' S' (nI k) → Q (.inl (some (.inl b'))) h') : jw_C g 9 0 0 m_M_compile [.inr (.inr (some mo)), .inl kk] h Q := by
  obtain ⟨s1, s2, s3, s4, s5, s6, s7, s8, s9, s10, s11⟩ := hs.out
  have hl := s6.2.1
  have no : ∀ q, q < 4 → ¬ (nI q < 0 ∨ 3 < nI q) := by
    rintro q hq (z | z)
    · exact absurd ((nI_ltI (b := 0) (by omega) (by decide)).mp z) (Nat.not_lt_zero _)
    · have := (nI_ltI (a := 3) (by decide) (by omega)).mp z
      omega
  refine cm_compile (ln := fun i => ln.getD i 0) hg s1 hl s6.1 s6.2.2 s3 (fun z => ?_) (fun q hq3 e1 h1 t1 ht1 f1 x1 => ?_)
  · rcases st with ⟨rfl, -, rfl⟩ | ⟨q, q1, rfl, -⟩
    · exact hq _ _ (fun e => absurd e (by decide)) (hs.rf hc fr.rf)
    · exact absurd z (no q q1)
  have hq4 : q < 4 := by omega
  have H : sh_ok t1 (tL ln) 800 ln.length := fun i hi => by
    rw [ht1, if_pos (by omega), Nat.add_sub_cancel]
  have t1o : ∀ i, i < 800 → t1 i = t i := fun i hi => by rw [ht1, if_neg (by omega)]
  have r1 : ∀ K j, mk_K K → (K < 526 ∨ 537 < K) → jh_I h1 (ar K) j = jh_I h (ar K) j := fun K j hK hn => f1.2.2.2.2.2.2.2 _ _ (fun q hq => by
    unfold ta_F at hq
    exact ar_ne s1 hK (by unfold mk_K; omega) (by omega))
  have r2 : ∀ K j, 527 ≤ K → K ≤ 529 → j < 4 → jh_I h1 (ar K) j = jh_I h (ar K) j := fun K j a b c => f1.2.2.2.2.2.2.2 _ _ (fun q hq => by
    unfold ta_F at hq
    exact ar_ne s1 (mkK (by omega)) (by unfold mk_K; omega) (by omega))
  have r3 : ∀ K j, 530 ≤ K → K ≤ 536 → j < 200 → jh_I h1 (ar K) j = jh_I h (ar K) j := fun K j a b c => f1.2.2.2.2.2.2.2 _ _ (fun q hq => by
    unfold ta_F at hq
    exact ar_ne s1 (mkK (by omega)) (by unfold mk_K; omega) (by omega))
  have ei1 : ∀ q, jh_i h1 mo q = jh_i h mo q := fun q => by rw [f1.2.2.1]
  have T1 : ∀ j, j < 4 → go_T h1 ar t1 j (TP j) := fun j hj => (s4 j hj).eqs (fun K a b => r2 K j a b hj) (fun K i a b c d => r3 K i a b (by omega)) (fun i hi => t1o _ (by omega))
  have D1 : mo_D h1 ar n D := s2.eqs (fun K j a b => r1 K j (mkK (by omega)) (by omega)) (fun j => by rw [f1.2.2.2.2.2.1])
  have R1 : rs_is h1 mo ar O := s8.eqs (fun j => r1 544 j (mkK (by decide)) (by decide)) (ei1 _)
  have ok1 := f1.ok s1
  have F1 := f1.fr hc
  rcases st with ⟨rfl, y, rfl⟩ | ⟨q', q1, e3, y⟩
  · subst e1; exact absurd y (no q hq4)
  · obtain rfl : q = q' := nI_inj (by omega) (by omega) (e1.symm.trans e3)
    have hA := sh_all H
    rw [Nat.add_comm ln.length 800] at hA
    rcases y with ⟨z, y1, rfl, rfl⟩ | ⟨m, U', ot', la', y1, rfl, rfl, rfl⟩
    · rw [y1] at hA
      have hA : pp_all t1 800 (800 + ln.length) = .inl (z + 800) := hA
      rw [hA]
      show Q _ _
      rw [Nat.add_sub_cancel]
      have hs2 : ms (jh_si (jh_si h1 mo 515 (nI z)) mo 514 0) mo ar t1 ([], n, D, TP, nI z, O, sn, tw) := ms.mk ⟨ok1, D1, x1, T1, (jh_u_k _ _ _ _ (by decide)).trans ((jh_u_k _ _ _ _ (by decide)).trans ((ei1 _).trans s5)), ⟨jh_u_s _ _ _ _, by decide, fun i hi => absurd hi (Nat.not_lt_zero _)⟩, (jh_u_k _ _ _ _ (by decide)).trans (jh_u_s _ _ _ _), R1.eqs (fun _ => rfl) ((jh_u_k _ _ _ _ (by decide)).trans (jh_u_k _ _ _ _ (by decide))), (jh_u_k _ _ _ _ (by decide)).trans ((jh_u_k _ _ _ _ (by decide)).trans ((ei1 _).trans s9)), (jh_u_k _ _ _ _ (by decide)).trans ((jh_u_k _ _ _ _ (by decide)).trans ((ei1 _).trans s10)), s11⟩
      exact hq _ _ (fun e => absurd e (by decide)) (hs2.rf hc (fr.si (fr.si F1 hc.1) hc.1))
    · rw [y1] at hA
      obtain ⟨U, hU, hUe⟩ : ∃ U, pp_all t1 800 (800 + ln.length) = .inr (m, U, ot', la') ∧ ∀ i, i < m → U i = sx 800 (U' i) := hA
      rw [hU]
      intro m50 hB h3 f3 x3 mt3 i527 i528 i529
      have r4 : ∀ K j, mk_K K → (K < 526 ∨ 537 < K) → jh_I h3 (ar K) j = jh_I h1 (ar K) j := fun K j hK hn => f3.2.2.2.2.2.2.2 _ _ (fun k hk => by
        unfold cp_F at hk
        exact ar_ne s1 hK (by unfold mk_K; omega) (by omega))
      have r5 : ∀ K j, 527 ≤ K → K ≤ 529 → j ≠ q → jh_I h3 (ar K) j = jh_I h1 (ar K) j := fun K j a b c => f3.2.2.2.2.2.2.2 _ _ (fun k hk => by
        unfold cp_F at hk
        exact ar_ne s1 (mkK (by omega)) (by unfold mk_K; omega) (by omega))
      have r6 : ∀ K j, 530 ≤ K → K ≤ 536 → (j < q * 50 ∨ q * 50 + 50 ≤ j) → jh_I h3 (ar K) j = jh_I h1 (ar K) j := fun K j a b c => f3.2.2.2.2.2.2.2 _ _ (fun k hk => by
        unfold cp_F at hk
        exact ar_ne s1 (mkK (by omega)) (by unfold mk_K; omega) (by omega))
      have ei3 : ∀ k, k ≠ 514 → k ≠ 515 → jh_i h3 mo k = jh_i h mo k := fun k h1 h2 => by
        rw [f3.2.2.1]
        exact (jh_u_k _ _ _ _ h1).trans ((jh_u_k _ _ _ _ h2).trans (ei1 k))
      have i515 : jh_i h3 mo 515 = -1 := by
        rw [f3.2.2.1]
        exact (jh_u_k _ _ _ _ (by decide)).trans (jh_u_s _ _ _ _)
      have i514 : jh_i h3 mo 514 = 0 := by
        rw [f3.2.2.1]
        exact jh_u_s _ _ _ _
      have T3 : ∀ j, j < 4 → go_T h3 ar (fun j => if q * 200 ≤ j ∧ j < q * 200 + ln.length then t1 (800 + (j - q * 200)) else t1 j) j (va_up TP q (some (ln, m, U', ot', la')) j) := by
        intro j hj
        by_cases cj : j = q
        · subst cj
          rw [va_up_self]
          refine ⟨i529, ⟨hl, y1, m50⟩, fun i hi => ?_, i527, i528, mt3.eqs (fun _ _ _ _ _ _ => rfl) (fun i hi => ?_)⟩
          · have hi : i < ln.length := hi
            show (if j * 200 ≤ i + j * 200 ∧ i + j * 200 < j * 200 + ln.length then t1 (800 + (i + j * 200 - j * 200)) else _) = _
            rw [if_pos (by omega), Nat.add_sub_cancel, Nat.add_comm 800 i, H i hi]
            rfl
          · have hi : i < m := hi
            rw [hUe i hi]
            show sx (j * 200) (U' i) = cp_sh j (sx 800 (U' i))
            unfold sx cp_sh
            simp only [Prod.mk.injEq]
            refine ⟨?_, ?_, ?_, ?_, trivial⟩ <;> omega
        · rw [va_up_ne _ _ cj]
          refine (T1 j hj).eqs (fun K a b => r5 K j a b cj) (fun K i a b c d => r6 K i a b (by omega)) (fun i hi => ?_)
          show (if q * 200 ≤ i + j * 200 ∧ i + j * 200 < q * 200 + ln.length then _ else t1 (i + j * 200)) = t1 (i + j * 200)
          rw [if_neg (by omega)]
      have hs3 : ms h3 mo ar (fun j => if q * 200 ≤ j ∧ j < q * 200 + ln.length then t1 (800 + (j - q * 200)) else t1 j) ([], n, D, va_up TP q (some (ln, m, U', ot', la')), -1, O, sn, tw) := ms.mk ⟨f3.ok ok1, D1.eqs (fun K j a b => r4 K j (mkK (by omega)) (by omega)) (fun j => by rw [f3.2.2.2.2.2.1]; rfl), x3, T3, (ei3 _ (by decide) (by decide)).trans s5, ⟨i514, by decide, fun i hi => absurd hi (Nat.not_lt_zero _)⟩, i515, R1.eqs (fun j => r4 544 j (mkK (by decide)) (by decide)) ((ei3 _ (by decide) (by decide)).trans (ei1 _).symm), (ei3 _ (by decide) (by decide)).trans s9, (ei3 _ (by decide) (by decide)).trans s10, s11⟩
      exact hq _ _ (fun _ => rfl) (hs3.fine hc ((fr.si (fr.si F1 hc.1) hc.1).tr (f3.fr hc) (fun _ _ z => z)))

