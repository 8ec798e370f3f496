/-! MODEL: the steps, 1 -/
theorem rdI {h h1 : jh_H} {mo : Nat} {ar : Nat → Nat} (hm : mo_ok h mo ar) {K K' j j' : Nat} {v : Int32} (h2 : mk_K K) (h3 : mk_K K') (hn : K ≠ K' ∨ j ≠ j') : jh_I (jh_sI h1 (ar K') j' v) (ar K) j = jh_I h1 (ar K) j := by
  by_cases c : K = K'
  · exact jh_u_k _ _ _ _ (by omega)
  · exact jh_u_a _ _ _ _ (ar_ne hm h2 h3 c)
theorem mkK {K : Nat} (h : 519 ≤ K ∧ K ≤ 544) : mk_K K := Or.inl h
theorem ix_no {x n : Nat} (hx : x < n) (hn : n < 2 ^ 31) : ¬ (nI x < 0 ∨ nI n ≤ nI x) := by
  rintro (z | z)
  · exact absurd ((nI_ltI (b := 0) (by omega) (by decide)).mp z) (Nat.not_lt_zero _)
  · have := (nI_leI (by omega) (by omega)).mp z
    omega
theorem nI_inj {x y : Nat} (hx : x < 2 ^ 31) (hy : y < 2 ^ 31) (e : nI x = nI y) : x = y := (nI_eq hx hy).mp e
/-- what a call answers -/
def out (ex : Nat → String) (k : Nat) (b : Int32) : jw_O := if k = 0 then .inl (some (.inl b)) else .inr (ex k)
section ST
variable (ln : List Nat) (n : Nat) (D : sd_D) (TP : Nat → Option tp_X) (er : Int32) (O : List Nat) (sn tw : Nat)
def st_type (c : Int32) (k : Nat) (b : Int32) (S' : SS) : Prop := (k = 1 ∧ (c < 0 ∨ 127 < c) ∧ S' = (ln, n, D, TP, er, O, sn, tw + 1)) ∨ (k = 2 ∧ (∃ x, x < 128 ∧ c = nI x) ∧ ln.length = 200 ∧ S' = (ln, n, D, TP, er, O, sn, tw + 1)) ∨ (k = 0 ∧ ∃ x, x < 128 ∧ c = nI x ∧ ln.length < 200 ∧ b = nI (ln.length + 1) ∧ S' = (ln ++ [x], n, D, TP, er, O, sn, tw))
def st_new (ln' : List Nat) (kd : Nat) (v : Int32) (t : Nat → Nat) (k : Nat) (b : Int32) (S' : SS) : Prop := (k = 1 ∧ n = 60 ∧ S' = (ln, n, D, TP, er, O, sn, tw + 1)) ∨ (k = 0 ∧ n < 60 ∧ b = nI n ∧ S' = (ln', n + 1, sd_up D n kd v t, TP, er, O, sn, tw))
def st_ask (N : Nat) (f : Nat → Int32) (x : Int32) (k : Nat) (b : Int32) (S' : SS) : Prop := (k = 1 ∧ (x < 0 ∨ nI N ≤ x) ∧ S' = (ln, n, D, TP, er, O, sn, tw + 1)) ∨ (k = 0 ∧ ∃ i, i < N ∧ x = nI i ∧ b = f i ∧ S' = (ln, n, D, TP, er, O, sn, tw))
end ST
theorem mM_type {g : jg_G} (hg : (jg_l g).stackTraces = false) {h : jh_H} {mo n sn tw k : Nat} {col ar t : Nat → Nat} {ln O : List Nat} {D : sd_D} {TP : Nat → Option tp_X} {er c b : Int32} {S' : SS} {Q : jw_O → jh_H → Prop} (hc : mc9 col mo ar) (hs : ms h mo ar t (ln, n, D, TP, er, O, sn, tw)) (st : st_type ln n D TP er O sn tw c k b S') (hq : ∀ b' h', (k = 0 → b' = b) → mpost h col mo ar h' S' (nI k) → Q (.inl (some (.inl b'))) h') : jw_C g 1 0 0 m_M_type [.inr (.inr (some mo)), .inl c] h Q := by
  obtain ⟨s1, s2, s3, s4, s5, s6, s7, s8, s9, s10, s11⟩ := hs.out
  have no : ∀ x, x < 128 → ¬ (nI x < 0 ∨ 127 < nI x) := by
    rintro x hx (z | z)
    · exact absurd ((nI_ltI (b := 0) (by omega) (by decide)).mp z) (Nat.not_lt_zero _)
    · have := (nI_ltI (a := 127) (by decide) (by omega)).mp z
      omega
  have hl := s6.2.1
  refine cm_type hg s1 s6.1 hl (fun z => ?_) (fun x hx ex hn => ?_) (fun x hx ex hn => ?_)
  · rcases st with ⟨rfl, -, rfl⟩ | ⟨rfl, ⟨x, x1, rfl⟩, -, rfl⟩ | ⟨rfl, x, x1, rfl, -⟩
    · exact hq _ _ (fun e => absurd e (by decide)) (hs.rf hc fr.rf)
    · exact absurd z (no x x1)
    · exact absurd z (no x x1)
  · rcases st with ⟨rfl, z, rfl⟩ | ⟨rfl, -, -, rfl⟩ | ⟨rfl, y, y1, y2, y3, -⟩
    · subst ex; exact absurd z (no x hx)
    · exact hq _ _ (fun e => absurd e (by decide)) (hs.rf hc fr.rf)
    · omega
  · rcases st with ⟨rfl, z, rfl⟩ | ⟨rfl, -, y3, rfl⟩ | ⟨rfl, y, y1, y2, y3, rfl, rfl⟩
    · subst ex; exact absurd z (no x hx)
    · omega
    · have exy : x = y := nI_inj (by omega) (by omega) (ex.symm.trans y2)
      subst exy
      have rd : ∀ K j, mk_K K → K ≠ 519 → jh_I (jh_sI h (ar 519) ln.length (nI x)) (ar K) j = jh_I h (ar K) j := fun K j hK hn => rdI s1 hK (mkK (by decide)) (Or.inl hn)
      have e12 : ∀ q, q ≠ 514 → q ≠ 512 → jh_i (jh_si (jh_si (jh_sI h (ar 519) ln.length (nI x)) mo 514 (nI (ln.length + 1))) mo 512 0) mo q = jh_i h mo q := fun q h1 h2 => (jh_u_k _ _ _ _ h2).trans (jh_u_k _ _ _ _ h1)
      refine hq _ _ (fun _ => rfl) ⟨⟨t, ms.mk ⟨s1, s2.eqs (fun K j a b => rd K j (mkK (by omega)) (by omega)) (fun _ => rfl), s3.eqs (fun j => rd 526 j (mkK (by decide)) (by decide)), fun k hk => go_T.eq (fun K j a b => rd K j (mkK (by omega)) (by omega)) (s4 k hk), (e12 _ (by decide) (by decide)).trans s5, ⟨?_, ?_, fun i hi => ?_⟩, (e12 _ (by decide) (by decide)).trans s7, s8.eqs (fun j => rd 544 j (mkK (by decide)) (by decide)) (e12 _ (by decide) (by decide)), (e12 _ (by decide) (by decide)).trans s9, (e12 _ (by decide) (by decide)).trans s10, s11⟩⟩, jh_u_s _ _ _ _, fr.si (fr.si (fr.sI fr.rf (hc.2 _)) hc.1) hc.1⟩
      · rw [List.length_append]
        exact (jh_u_k _ _ _ _ (by decide)).trans (jh_u_s _ _ _ _)
      · rw [List.length_append]
        show ln.length + 1 ≤ 200
        omega
      · rw [List.length_append] at hi
        have hi : i < ln.length + 1 := hi
        show jh_I (jh_sI h (ar 519) ln.length (nI x)) (ar 519) i = _ ∧ _
        by_cases ci : i = ln.length
        · have e : (ln ++ [x]).getD i 0 = x := by rw [ci]; simp
          rw [e, ci]
          exact ⟨jh_u_s _ _ _ _, hx⟩
        · have e : (ln ++ [x]).getD i 0 = ln.getD i 0 := by
            rw [List.getD_eq_getElem?_getD, List.getElem?_append_left (by omega), ← List.getD_eq_getElem?_getD]
          rw [e, rdI s1 (mkK (by decide)) (mkK (by decide)) (Or.inr ci)]
          exact s6.2.2 i (by omega)
-- a new DATA in the model
theorem mo_D.up {h h' : jh_H} {mo : Nat} {ar : Nat → Nat} {n kd : Nat} {D : sd_D} {v : Int32} {t : Nat → Nat} (hm : mo_ok h mo ar) (hD : mo_D h ar n D) (hn : n < 60) (hk : kd ≤ 3) (e0 : ∀ i, i < n → jh_I h' (ar 520) i = jh_I h (ar 520) i) (e1 : ∀ i, i < n → jh_I h' (ar 521) i = jh_I h (ar 521) i) (e2 : ∀ j, j < n * 50 → jh_I h' (ar 522) j = jh_I h (ar 522) j) (e3 : ∀ j, jh_I h' (ar 523) j = jh_I h (ar 523) j) (eG : ∀ j, jh_G h' (ar 524) j = jh_G h (ar 524) j) (n0 : jh_I h' (ar 520) n = nI kd) (n1 : jh_I h' (ar 521) n = v) (nv : kd ≠ 0 → v = nI v.toNatClampNeg) (nt : kd = 1 → v.toNatClampNeg ≤ 200 ∧ ∀ j, j < v.toNatClampNeg → mo_dl (jh_I h' (ar 522) (n * 50 + j / 4)) j = nI (t j) ∧ t j < 128) (nz : 2 ≤ kd → v = 0) : mo_D h' ar (n + 1) (sd_up D n kd v t) := by
  refine ⟨by omega, fun i hi => ?_⟩
  unfold mo_D1
  by_cases c : i = n
  · subst c
    obtain ⟨u1, u2, u3, u4⟩ := sd_up_k (D := D) (n := i) (k := kd) (v := v) (t := t)
    rw [u1, u2, u3, u4]
    refine ⟨n0, hk, n1, nv, nt, fun z => ?_, fun z j hj => ?_⟩
    · rw [nz z]
      exact ⟨by decide, fun j hj => absurd hj (Nat.not_lt_zero _)⟩
    · rw [nz (by omega)] at hj
      exact absurd hj (Nat.not_lt_zero _)
  · obtain ⟨u1, u2, u3, u4⟩ := sd_up_o (D := D) (k := kd) (v := v) (t := t) (show i < n by omega)
    rw [u1, u2, u3, u4]
    obtain ⟨d1, d2, d3, d4, d5, d6, d7⟩ := hD.2 i (by omega)
    refine ⟨(e0 i (by omega)).trans d1, d2, (e1 i (by omega)).trans d3, d4, fun z => ⟨(d5 z).1, fun j hj => ?_⟩, fun z => ⟨(d6 z).1, fun j hj => ?_⟩, fun z j hj => (eG _).trans (d7 z j hj)⟩
    · rw [e2 _ (by have := (d5 z).1; omega)]
      exact (d5 z).2 j hj
    · rw [e3]
      exact ⟨((d6 z).2 j hj).1, by have := ((d6 z).2 j hj).2; show sd_p D i j < n + 1; omega⟩
theorem ms.mk0 {h0 h : jh_H} {mo n sn tw kd : Nat} {col ar t : Nat → Nat} {ln O : List Nat} {D : sd_D} {TP : Nat → Option tp_X} {er v : Int32} (hc : mc9 col mo ar) (f : fr (mF col) h0 h) (hs : ms h mo ar t (ln, n, D, TP, er, O, sn, tw)) (hn : n < 60) (hk : kd = 0 ∨ kd = 2 ∨ kd = 3) (nv : kd ≠ 0 → v = 0) : mpost h0 col mo ar (mo_mk h mo ar n (nI kd) v) (ln, n + 1, sd_up D n kd v (fun _ => 0), TP, er, O, sn, tw) 0 := by
  obtain ⟨s1, s2, s3, s4, s5, s6, s7, s8, s9, s10, s11⟩ := hs.out
  have rd : ∀ K j, mk_K K → (K ≠ 520 ∨ j ≠ n) → (K ≠ 521 ∨ j ≠ n) → jh_I (mo_mk h mo ar n (nI kd) v) (ar K) j = jh_I h (ar K) j := fun K j hK h1 h2 => (rdI (h1 := jh_sI h (ar 520) n (nI kd)) s1 hK (mkK (by decide)) h2).trans (rdI s1 hK (mkK (by decide)) h1)
  have e12 : ∀ q, q ≠ 516 → q ≠ 512 → jh_i (mo_mk h mo ar n (nI kd) v) mo q = jh_i h mo q := fun q h1 h2 => (jh_u_k _ _ _ _ h2).trans (jh_u_k _ _ _ _ h1)
  have D' : mo_D (mo_mk h mo ar n (nI kd) v) ar (n + 1) (sd_up D n kd v (fun _ => 0)) := by
    refine s2.up s1 hn (by omega) (fun i hi => rd 520 i (mkK (by decide)) (Or.inr (by omega)) (Or.inl (by decide))) (fun i hi => rd 521 i (mkK (by decide)) (Or.inl (by decide)) (Or.inr (by omega))) (fun j _ => rd 522 j (mkK (by decide)) (Or.inl (by decide)) (Or.inl (by decide))) (fun j => rd 523 j (mkK (by decide)) (Or.inl (by decide)) (Or.inl (by decide))) (fun _ => rfl) ?_ (jh_u_s _ _ _ _) (fun z => by rw [nv z]; rfl) (fun z => by omega) (fun z => nv (by omega))
    exact (rdI (h1 := jh_sI h (ar 520) n (nI kd)) s1 (mkK (by decide)) (mkK (by decide)) (Or.inl (by decide))).trans (jh_u_s _ _ _ _)
  have R' : sd_rk (n + 1) (sd_up D n kd v (fun _ => 0)) := rk_new s11 (fun x hx => ⟨(sd_up_o hx).1, (sd_up_o hx).2.2.1, fun _ => rfl⟩) (fun z => by
    rw [sd_up_k.1] at z
    rw [sd_up_k.2.2.1, nv (by omega)]
    rfl)
  exact ⟨⟨t, ms.mk ⟨s1, D', s3.eqs (fun j => rd 526 j (mkK (by decide)) (Or.inl (by decide)) (Or.inl (by decide))), fun k hk => go_T.eq (fun K j a b => rd K j (mkK (by omega)) (Or.inl (by omega)) (Or.inl (by omega))) (s4 k hk), (jh_u_k _ _ _ _ (by decide)).trans (jh_u_s _ _ _ _), s6.eqs (fun j => rd 519 j (mkK (by decide)) (Or.inl (by decide)) (Or.inl (by decide))) (e12 _ (by decide) (by decide)), (e12 _ (by decide) (by decide)).trans s7, s8.eqs (fun j => rd 544 j (mkK (by decide)) (Or.inl (by decide)) (Or.inl (by decide))) (e12 _ (by decide) (by decide)), (e12 _ (by decide) (by decide)).trans s9, (e12 _ (by decide) (by decide)).trans s10, R'⟩⟩, jh_u_s _ _ _ _, fr.si (fr.si (fr.sI (fr.sI f (hc.2 _)) (hc.2 _)) hc.1) hc.1⟩
theorem mM_number {g : jg_G} (hg : (jg_l g).stackTraces = false) {h : jh_H} {mo n sn tw k : Nat} {col ar t : Nat → Nat} {ln O : List Nat} {D : sd_D} {TP : Nat → Option tp_X} {er v b : Int32} {S' : SS} {Q : jw_O → jh_H → Prop} (hc : mc9 col mo ar) (hs : ms h mo ar t (ln, n, D, TP, er, O, sn, tw)) (st : st_new ln n D TP er O sn tw ln 0 v (fun _ => 0) k b S') (hq : ∀ b' h', (k = 0 → b' = b) → mpost h col mo ar h' S' (nI k) → Q (.inl (some (.inl b'))) h') : jw_C g 2 0 0 m_M_number [.inr (.inr (some mo)), .inl v] h Q := by
  obtain ⟨s1, s2, s3, s4, s5, s6, s7, s8, s9, s10, s11⟩ := hs.out
  refine cm_number hg s1 s5 s2.1 (fun z => ?_) (fun z => ?_)
  · rcases st with ⟨rfl, -, rfl⟩ | ⟨rfl, y, -⟩
    · exact hq _ _ (fun e => absurd e (by decide)) (hs.rf hc fr.rf)
    · omega
  · rcases st with ⟨rfl, y, rfl⟩ | ⟨rfl, y, rfl, rfl⟩
    · omega
    · exact hq _ _ (fun _ => rfl) (hs.mk0 hc fr.rf z (Or.inl rfl) (fun y => absurd rfl y))
theorem mM_list {g : jg_G} (hg : (jg_l g).stackTraces = false) {h : jh_H} {mo n sn tw k : Nat} {col ar t : Nat → Nat} {ln O : List Nat} {D : sd_D} {TP : Nat → Option tp_X} {er b : Int32} {S' : SS} {Q : jw_O → jh_H → Prop} (hc : mc9 col mo ar) (hs : ms h mo ar t (ln, n, D, TP, er, O, sn, tw)) (st : st_new ln n D TP er O sn tw ln 2 0 (fun _ => 0) k b S') (hq : ∀ b' h', (k = 0 → b' = b) → mpost h col mo ar h' S' (nI k) → Q (.inl (some (.inl b'))) h') : jw_C g 2 0 0 m_M_list [.inr (.inr (some mo))] h Q := by
  obtain ⟨s1, s2, s3, s4, s5, s6, s7, s8, s9, s10, s11⟩ := hs.out
  refine cm_list hg s1 s5 s2.1 (fun z => ?_) (fun z => ?_)
  · rcases st with ⟨rfl, -, rfl⟩ | ⟨rfl, y, -⟩
    · exact hq _ _ (fun e => absurd e (by decide)) (hs.rf hc fr.rf)
    · omega
  · rcases st with ⟨rfl, y, rfl⟩ | ⟨rfl, y, rfl, rfl⟩
    · omega
    · exact hq _ _ (fun _ => rfl) (hs.mk0 (kd := 2) hc fr.rf z (by omega) (fun _ => rfl))
theorem mM_map {g : jg_G} (hg : (jg_l g).stackTraces = false) {h : jh_H} {mo n sn tw k : Nat} {col ar t : Nat → Nat} {ln O : List Nat} {D : sd_D} {TP : Nat → Option tp_X} {er b : Int32} {S' : SS} {Q : jw_O → jh_H → Prop} (hc : mc9 col mo ar) (hs : ms h mo ar t (ln, n, D, TP, er, O, sn, tw)) (st : st_new ln n D TP er O sn tw ln 3 0 (fun _ => 0) k b S') (hq : ∀ b' h', (k = 0 → b' = b) → mpost h col mo ar h' S' (nI k) → Q (.inl (some (.inl b'))) h') : jw_C g 2 0 0 m_M_map [.inr (.inr (some mo))] h Q := by
  obtain ⟨s1, s2, s3, s4, s5, s6, s7, s8, s9, s10, s11⟩ := hs.out
  refine cm_map hg s1 s5 s2.1 (fun z => ?_) (fun z => ?_)
  · rcases st with ⟨rfl, -, rfl⟩ | ⟨rfl, y, -⟩
    · exact hq _ _ (fun e => absurd e (by decide)) (hs.rf hc fr.rf)
    · omega
  · rcases st with ⟨rfl, y, rfl⟩ | ⟨rfl, y, rfl, rfl⟩
    · omega
    · exact hq _ _ (fun _ => rfl) (hs.mk0 (kd := 3) hc fr.rf z (by omega) (fun _ => rfl))

