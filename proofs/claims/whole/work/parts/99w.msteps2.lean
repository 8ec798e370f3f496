/-! MODEL: the steps, 2 -/
theorem mM_text {g : jg_G} (hg : (jg_l g).stackTraces = false) {h : jh_H} {mo n sn tw k : Nat} {col ar t : Nat → Nat} {ln O : List Nat} {D : sd_D} {TP : Nat → Option tp_X} {er b : Int32} {S' : SS} {Q : jw_O → jh_H → Prop} (hc : mc9 col mo ar) (hs : ms h mo ar t (ln, n, D, TP, er, O, sn, tw)) (st : st_new ln n D TP er O sn tw [] 1 (nI ln.length) (fun j => ln.getD j 0) k b S') (hq : ∀ b' h', (k = 0 → b' = b) → mpost h col mo ar h' S' (nI k) → Q (.inl (some (.inl b'))) h') : jw_C g 2 0 0 m_M_text [.inr (.inr (some mo))] h Q := by
  obtain ⟨s1, s2, s3, s4, s5, s6, s7, s8, s9, s10, s11⟩ := hs.out
  have hl := s6.2.1
  refine cm_text (ln := fun i => ln.getD i 0) hg s1 s5 s2.1 s6.1 hl s6.2.2 (fun z => ?_) (fun z h1 fx i514 tx => ?_)
  · rcases st with ⟨rfl, -, rfl⟩ | ⟨rfl, y, -⟩
    · exact hq _ _ (fun e => absurd e (by decide)) (hs.rf hc fr.rf)
    · omega
  · rcases st with ⟨rfl, y, rfl⟩ | ⟨rfl, y, rfl, rfl⟩
    · omega
    · have hcl : (nI ln.length).toNatClampNeg = ln.length := nI_cl (by omega)
      have r1 : ∀ K j, mk_K K → (K ≠ 522 ∨ j < n * 50) → jh_I h1 (ar K) j = jh_I h (ar K) j := fun K j hK hn => fx.2.2.2.2.2.2.2 _ _ (fun q hq => by
        unfold tt_F at hq
        refine ar_ne s1 hK (mkK (by omega)) (by omega))
      have rd : ∀ K j, mk_K K → (K ≠ 520 ∨ j ≠ n) → (K ≠ 521 ∨ j ≠ n) → jh_I (mo_mk h1 mo ar n 1 (nI ln.length)) (ar K) j = jh_I h1 (ar K) j := fun K j hK u1 u2 => (rdI (h1 := jh_sI h1 (ar 520) n 1) s1 hK (mkK (by decide)) u2).trans (rdI s1 hK (mkK (by decide)) u1)
      have rr : ∀ K j, mk_K K → K ≠ 522 → K ≠ 520 → K ≠ 521 → jh_I (mo_mk h1 mo ar n 1 (nI ln.length)) (ar K) j = jh_I h (ar K) j := fun K j hK u1 u2 u3 => (rd K j hK (Or.inl u2) (Or.inl u3)).trans (r1 K j hK (Or.inl u1))
      have e12 : ∀ q, q ≠ 516 → q ≠ 512 → jh_i (mo_mk h1 mo ar n 1 (nI ln.length)) mo q = jh_i h1 mo q := fun q u1 u2 => (jh_u_k _ _ _ _ u2).trans (jh_u_k _ _ _ _ u1)
      have e1 : ∀ q, q ≠ 514 → jh_i h1 mo q = jh_i h mo q := fun q u => fx.rdi u
      have D' : mo_D (mo_mk h1 mo ar n 1 (nI ln.length)) ar (n + 1) (sd_up D n 1 (nI ln.length) (fun j => ln.getD j 0)) := by
        refine s2.up s1 z (by decide) (fun i hi => (rd 520 i (mkK (by decide)) (Or.inr (by omega)) (Or.inl (by decide))).trans (r1 520 i (mkK (by decide)) (Or.inl (by decide)))) (fun i hi => (rd 521 i (mkK (by decide)) (Or.inl (by decide)) (Or.inr (by omega))).trans (r1 521 i (mkK (by decide)) (Or.inl (by decide)))) (fun j hj => (rd 522 j (mkK (by decide)) (Or.inl (by decide)) (Or.inl (by decide))).trans (r1 522 j (mkK (by decide)) (Or.inr hj))) (fun j => rr 523 j (mkK (by decide)) (by decide) (by decide) (by decide)) (fun j => by show jh_G h1 (ar 524) j = _; rw [fx.2.2.2.2.1]) ?_ (jh_u_s _ _ _ _) (fun _ => by rw [hcl]) (fun _ => ?_) (fun u => absurd u (by decide))
        · exact (rdI (h1 := jh_sI h1 (ar 520) n 1) s1 (mkK (by decide)) (mkK (by decide)) (Or.inl (by decide))).trans (jh_u_s _ _ _ _)
        · rw [hcl]
          refine ⟨hl, fun j hj => ⟨?_, (s6.2.2 j hj).2⟩⟩
          rw [rd 522 _ (mkK (by decide)) (Or.inl (by decide)) (Or.inl (by decide))]
          exact tx j hj
      have R' : sd_rk (n + 1) (sd_up D n 1 (nI ln.length) (fun j => ln.getD j 0)) := rk_new s11 (fun x hx => ⟨(sd_up_o hx).1, (sd_up_o hx).2.2.1, fun _ => rfl⟩) (fun u => by
        rw [sd_up_k.1] at u
        omega)
      refine hq _ _ (fun _ => rfl) ⟨⟨t, ms.mk ⟨fx.ok s1, D', s3.eqs (fun j => rr 526 j (mkK (by decide)) (by decide) (by decide) (by decide)), fun k hk => go_T.eq (fun K j a b => rr K j (mkK (by omega)) (by omega) (by omega) (by omega)) (s4 k hk), (jh_u_k _ _ _ _ (by decide)).trans (jh_u_s _ _ _ _), ⟨(e12 514 (by decide) (by decide)).trans i514, by decide, fun i hi => absurd hi (Nat.not_lt_zero _)⟩, ((e12 _ (by decide) (by decide)).trans (e1 _ (by decide))).trans s7, s8.eqs (fun j => rr 544 j (mkK (by decide)) (by decide) (by decide) (by decide)) ((e12 _ (by decide) (by decide)).trans (e1 _ (by decide))), ((e12 _ (by decide) (by decide)).trans (e1 _ (by decide))).trans s9, ((e12 _ (by decide) (by decide)).trans (e1 _ (by decide))).trans s10, R'⟩⟩, jh_u_s _ _ _ _, fr.si (fr.si (fr.sI (fr.sI (fx.fr hc) (hc.2 _)) (hc.2 _)) hc.1) hc.1⟩
theorem ms.fine {h0 h : jh_H} {mo : Nat} {col ar t : Nat → Nat} {S : SS} (hc : mc9 col mo ar) (f : fr (mF col) h0 h) (hs : ms h mo ar t S) : mpost h0 col mo ar (jh_si h mo 512 0) S 0 := ⟨⟨t, hs.si (by decide)⟩, jh_u_s _ _ _ _, fr.si f hc.1⟩
theorem mM_kind {g : jg_G} (hg : (jg_l g).stackTraces = false) {h : jh_H} {mo n sn tw k : Nat} {col ar t : Nat → Nat} {ln O : List Nat} {D : sd_D} {TP : Nat → Option tp_X} {er x b : Int32} {S' : SS} {Q : jw_O → jh_H → Prop} (hc : mc9 col mo ar) (hs : ms h mo ar t (ln, n, D, TP, er, O, sn, tw)) (st : st_ask ln n D TP er O sn tw n (fun i => nI (sd_k D i)) x k b S') (hq : ∀ b' h', (k = 0 → b' = b) → mpost h col mo ar h' S' (nI k) → Q (.inl (some (.inl b'))) h') : jw_C g 1 0 0 m_M_kind [.inr (.inr (some mo)), .inl x] h Q := by
  obtain ⟨s1, s2, s3, s4, s5, s6, s7, s8, s9, s10, s11⟩ := hs.out
  have hn := s2.1
  refine cm_kind hg s1 s5 hn (fun z => ?_) (fun i hi ex => ?_)
  · rcases st with ⟨rfl, -, rfl⟩ | ⟨rfl, i, i1, rfl, -⟩
    · exact hq _ _ (fun e => absurd e (by decide)) (hs.rf hc fr.rf)
    · exact absurd z (ix_no i1 (by omega))
  · rcases st with ⟨rfl, z, rfl⟩ | ⟨rfl, j, j1, j2, rfl, rfl⟩
    · subst ex; exact absurd z (ix_no hi (by omega))
    · have : i = j := nI_inj (by omega) (by omega) (ex.symm.trans j2)
      subst this
      exact hq _ _ (fun _ => (s2.2 i hi).1) (hs.fine hc fr.rf)
theorem mM_size {g : jg_G} (hg : (jg_l g).stackTraces = false) {h : jh_H} {mo n sn tw k : Nat} {col ar t : Nat → Nat} {ln O : List Nat} {D : sd_D} {TP : Nat → Option tp_X} {er x b : Int32} {S' : SS} {Q : jw_O → jh_H → Prop} (hc : mc9 col mo ar) (hs : ms h mo ar t (ln, n, D, TP, er, O, sn, tw)) (st : st_ask ln n D TP er O sn tw n (fun i => nI (sv_len D (sv_of D i))) x k b S') (hq : ∀ b' h', (k = 0 → b' = b) → mpost h col mo ar h' S' (nI k) → Q (.inl (some (.inl b'))) h') : jw_C g 5 0 0 m_M_size [.inr (.inr (some mo)), .inl x] h Q := by
  obtain ⟨s1, s2, s3, s4, s5, s6, s7, s8, s9, s10, s11⟩ := hs.out
  have hn := s2.1
  refine cm_size hg s1 s2 (rk_dp hn s11) s5 (fun z => ?_) (fun i hi ex h1 fx => ?_)
  · rcases st with ⟨rfl, -, rfl⟩ | ⟨rfl, i, i1, rfl, -⟩
    · exact hq _ _ (fun e => absurd e (by decide)) (hs.rf hc fr.rf)
    · exact absurd z (ix_no i1 (by omega))
  · rcases st with ⟨rfl, z, rfl⟩ | ⟨rfl, j, j1, j2, rfl, rfl⟩
    · subst ex; exact absurd z (ix_no hi (by omega))
    · have : i = j := nI_inj (by omega) (by omega) (ex.symm.trans j2)
      subst this
      exact hq _ _ (fun _ => rfl) ((hs.fx fx (fun k j z => by unfold go_F at z; exact ⟨by unfold mk_K; omega, by omega⟩) (fun k hk z => by unfold go_G at z; omega)).fine hc (fx.fr hc))
theorem mM_at {g : jg_G} (hg : (jg_l g).stackTraces = false) {h : jh_H} {mo n sn tw k : Nat} {col ar t : Nat → Nat} {ln O : List Nat} {D : sd_D} {TP : Nat → Option tp_X} {er x b : Int32} {S' : SS} {Q : jw_O → jh_H → Prop} (hc : mc9 col mo ar) (hs : ms h mo ar t (ln, n, D, TP, er, O, sn, tw)) (st : st_ask ln n D TP er O sn tw O.length (fun i => nI (O.getD i 0)) x k b S') (hq : ∀ b' h', (k = 0 → b' = b) → mpost h col mo ar h' S' (nI k) → Q (.inl (some (.inl b'))) h') : jw_C g 1 0 0 m_M_at [.inr (.inr (some mo)), .inl x] h Q := by
  obtain ⟨s1, s2, s3, s4, s5, s6, s7, s8, s9, s10, s11⟩ := hs.out
  have hn := s8.2.1
  refine cm_at hg s1 s8.1 hn (fun z => ?_) (fun i hi ex => ?_)
  · rcases st with ⟨rfl, -, rfl⟩ | ⟨rfl, i, i1, rfl, -⟩
    · exact hq _ _ (fun e => absurd e (by decide)) (hs.rf hc fr.rf)
    · exact absurd z (ix_no i1 (by omega))
  · rcases st with ⟨rfl, z, rfl⟩ | ⟨rfl, j, j1, j2, rfl, rfl⟩
    · subst ex; exact absurd z (ix_no hi (by omega))
    · have : i = j := nI_inj (by omega) (by omega) (ex.symm.trans j2)
      subst this
      exact hq _ _ (fun _ => (s8.2.2 i hi).1) (hs.fine hc fr.rf)
theorem mM_errorAt {g : jg_G} (hg : (jg_l g).stackTraces = false) {h : jh_H} {mo n sn tw : Nat} {col ar t : Nat → Nat} {ln O : List Nat} {D : sd_D} {TP : Nat → Option tp_X} {er : Int32} {Q : jw_O → jh_H → Prop} (hc : mc9 col mo ar) (hs : ms h mo ar t (ln, n, D, TP, er, O, sn, tw)) (hq : ∀ h', mpost h col mo ar h' (ln, n, D, TP, er, O, sn, tw) 0 → Q (.inl (some (.inl er))) h') : jw_C g 1 0 0 m_M_errorAt [.inr (.inr (some mo))] h Q := by
  obtain ⟨s1, s2, s3, s4, s5, s6, s7, s8, s9, s10, s11⟩ := hs.out
  refine cm_errorAt hg s1.1 ?_
  rw [s7]
  exact hq _ (hs.fine hc fr.rf)
theorem mM_count {g : jg_G} (hg : (jg_l g).stackTraces = false) {h : jh_H} {mo n sn tw : Nat} {col ar t : Nat → Nat} {ln O : List Nat} {D : sd_D} {TP : Nat → Option tp_X} {er w : Int32} {Q : jw_O → jh_H → Prop} (hc : mc9 col mo ar) (hs : ms h mo ar t (ln, n, D, TP, er, O, sn, tw)) (hq : ∀ h', mpost h col mo ar h' (ln, n, D, TP, er, O, sn, tw) 0 → Q (.inl (some (.inl (ct_ans (nI n) (nI ln.length) (nI (tp_cnt TP 4)) (nI O.length) (nI sn) (nI tw) w)))) h') : jw_C g 0 0 0 m_M_count [.inr (.inr (some mo)), .inl w] h Q := by
  obtain ⟨s1, s2, s3, s4, s5, s6, s7, s8, s9, s10, s11⟩ := hs.out
  refine cm_count hg s1 s4 ?_
  rw [s5, s6.1, s8.1, s9, s10]
  exact hq _ (hs.fine hc fr.rf)
-- an entry is set
theorem mo_D.set {h h' : jh_H} {ar : Nat → Nat} {n l i x : Nat} {w : Int64} {D : sd_D} (hD : mo_D h ar n D) (hl : l < n) (hx : x < n) (hk : 2 ≤ sd_k D l) (hi : i < 10) (hic : i ≤ sd_c D l) (e0 : ∀ j, jh_I h' (ar 520) j = jh_I h (ar 520) j) (e1 : ∀ j, j ≠ l → jh_I h' (ar 521) j = jh_I h (ar 521) j) (n1 : jh_I h' (ar 521) l = nI (max (sd_c D l) (i + 1))) (e2 : ∀ j, jh_I h' (ar 522) j = jh_I h (ar 522) j) (e3 : ∀ j, j ≠ l * 10 + i → jh_I h' (ar 523) j = jh_I h (ar 523) j) (n3 : jh_I h' (ar 523) (l * 10 + i) = nI x) (eG : ∀ j, j ≠ l * 10 + i → jh_G h' (ar 524) j = jh_G h (ar 524) j) (nG : sd_k D l = 3 → jh_G h' (ar 524) (l * 10 + i) = w) : mo_D h' ar n (sd_set D l i x w) := by
  refine ⟨hD.1, fun y hy => ?_⟩
  have hc10 := ((hD.2 l hl).2.2.2.2.2.1 hk).1
  have ecl : sd_c (sd_set D l i x w) l = max (sd_c D l) (i + 1) := sd_set_l (by omega)
  obtain ⟨d1, d2, d3, d4, d5, d6, d7⟩ := hD.2 y hy
  by_cases c : y = l
  · subst c
    have ev : sd_v (sd_set D y i x w) y = nI (max (sd_c D y) (i + 1)) := va_up_self _ _ _
    refine ⟨(e0 y).trans d1, d2, n1.trans ev.symm, fun _ => by rw [ecl, ev], fun z => absurd z (by show sd_k D y ≠ 1; omega), fun _ => ⟨by rw [ecl]; omega, fun j hj => ?_⟩, fun z j hj => ?_⟩
    · rw [ecl] at hj
      by_cases cj : j = i
      · subst cj
        have e : sd_p (sd_set D y j x w) y j = x := up2_s
        rw [e]
        exact ⟨n3, hx⟩
      · have e : sd_p (sd_set D y i x w) y j = sd_p D y j := up2_n (fun z => cj z.2)
        rw [e, e3 _ (by omega)]
        exact (d6 hk).2 j (by omega)
    · rw [ecl] at hj
      by_cases cj : j = i
      · subst cj
        have e : sd_n (sd_set D y j x w) y j = w := up2_s
        rw [e]
        exact nG z
      · have e : sd_n (sd_set D y i x w) y j = sd_n D y j := up2_n (fun z => cj z.2)
        rw [e, eG _ (by omega)]
        exact d7 z j (by omega)
  · obtain ⟨o1, o2⟩ := sd_set_o (D := D) (i := i) (x := x) (w := w) c
    have ep : ∀ j, sd_p (sd_set D l i x w) y j = sd_p D y j := fun j => up2_n (fun z => c z.1)
    have en : ∀ j, sd_n (sd_set D l i x w) y j = sd_n D y j := fun j => up2_n (fun z => c z.1)
    unfold mo_D1
    rw [o1, o2]
    refine ⟨(e0 y).trans d1, d2, (e1 y c).trans d3, d4, fun z => ⟨(d5 z).1, fun j hj => by rw [e2]; exact (d5 z).2 j hj⟩, fun z => ⟨(d6 z).1, fun j hj => ?_⟩, fun z j hj => ?_⟩
    · have := (d6 z).1
      rw [ep, e3 _ (by omega)]
      exact (d6 z).2 j hj
    · have h3 : sd_k D y = 3 := z
      have := (d6 (by omega)).1
      rw [en, eG _ (by omega)]
      exact d7 z j hj
theorem rk_set {n l i x : Nat} {w : Int64} {D : sd_D} (h : sd_rk n D) (hx : x < n) (hno : ¬ sd_in D x l) (hi : i < 10) (hc : sd_c D l ≤ 10) (hic : i ≤ sd_c D l) : sd_rk n (sd_set D l i x w) := by
  refine rk_edge (l := l) h hx hno (fun y hy => rfl) (fun y hy j hj h2 => ?_)
  by_cases cy : y = l
  · subst cy
    rw [sd_set_l (by omega)] at hj
    by_cases cj : j = i
    · subst cj
      exact Or.inr ⟨rfl, up2_s⟩
    · exact Or.inl ⟨by omega, up2_n (fun z => cj z.2)⟩
  · rw [(sd_set_o cy).2] at hj
    exact Or.inl ⟨hj, up2_n (fun z => cy z.1)⟩

