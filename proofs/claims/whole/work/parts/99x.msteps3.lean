/-! MODEL: the steps, 3 -/
section ST2
variable (ln : List Nat) (n : Nat) (D : sd_D) (TP : Nat → Option tp_X) (er : Int32) (O : List Nat) (sn tw : Nat)
def st_add (ll xx : Int32) (k : Nat) (b : Int32) (S' : SS) : Prop := (k = 1 ∧ ((ll < 0 ∨ nI n ≤ ll) ∨ (xx < 0 ∨ nI n ≤ xx)) ∧ S' = (ln, n, D, TP, er, O, sn, tw + 1)) ∨ ∃ l x, l < n ∧ x < n ∧ ll = nI l ∧ xx = nI x ∧ ((k = 2 ∧ (sd_k D l ≠ 2 ∨ sd_in D x l) ∧ S' = (ln, n, D, TP, er, O, sn, tw + 1)) ∨ (k = 3 ∧ (sd_k D l = 2 ∧ ¬ sd_in D x l) ∧ sd_c D l = 10 ∧ S' = (ln, n, D, TP, er, O, sn, tw + 1)) ∨ (k = 0 ∧ (sd_k D l = 2 ∧ ¬ sd_in D x l) ∧ sd_c D l < 10 ∧ b = nI (sd_c D l + 1) ∧ S' = (ln, n, sd_set D l (sd_c D l) x 0, TP, er, O, sn, tw)))
def st_put (ll xx : Int32) (k : Nat) (b : Int32) (S' : SS) : Prop := (k = 1 ∧ ((ll < 0 ∨ nI n ≤ ll) ∨ (xx < 0 ∨ nI n ≤ xx)) ∧ S' = (ln, n, D, TP, er, O, sn, tw + 1)) ∨ ∃ l x, l < n ∧ x < n ∧ ll = nI l ∧ xx = nI x ∧ ((k = 2 ∧ (sd_k D l ≠ 3 ∨ ¬ nm_ok ln ∨ sd_in D x l) ∧ S' = (ln, n, D, TP, er, O, sn, tw + 1)) ∨ ((sd_k D l = 3 ∧ nm_ok ln ∧ ¬ sd_in D x l) ∧ ((k = 3 ∧ (∀ i, i < sd_c D l → sd_n D l i ≠ nm_c ln 0) ∧ sd_c D l = 10 ∧ S' = (ln, n, D, TP, er, O, sn, tw + 1)) ∨ (k = 0 ∧ (∀ i, i < sd_c D l → sd_n D l i ≠ nm_c ln 0) ∧ sd_c D l < 10 ∧ b = nI (sd_c D l + 1) ∧ S' = ([], n, sd_set D l (sd_c D l) x (nm_c ln 0), TP, er, O, sn, tw)) ∨ (k = 0 ∧ ∃ i, i < sd_c D l ∧ sd_n D l i = nm_c ln 0 ∧ (∀ j, j < i → sd_n D l j ≠ nm_c ln 0) ∧ b = nI (sd_c D l) ∧ S' = ([], n, sd_set D l i x (nm_c ln 0), TP, er, O, sn, tw)))))
def st_ren (kk xx : Int32) (k : Nat) (b : Int32) (S' : SS) : Prop := (k = 1 ∧ (kk < 0 ∨ 3 < kk) ∧ S' = (ln, n, D, TP, er, O, sn, tw + 1)) ∨ ∃ q, q < 4 ∧ kk = nI q ∧ ((k = 2 ∧ (TP q = none ∨ xx < 0 ∨ nI n ≤ xx) ∧ S' = (ln, n, D, TP, er, O, sn, tw + 1)) ∨ ∃ X x, TP q = some X ∧ x < n ∧ xx = nI x ∧ ((∃ c, rn D TP 153 X 0 (fun _ => sv_of D x) 1 none 1 [] 0 = .inl c ∧ k = c ∧ S' = (ln, n, D, TP, er, O, sn, tw + 1)) ∨ (∃ O' s', rn D TP 153 X 0 (fun _ => sv_of D x) 1 none 1 [] 0 = .inr (O', s') ∧ k = 0 ∧ b = nI O'.length ∧ S' = (ln, n, D, TP, er, O', s', tw))))
def st_com (kk : Int32) (k : Nat) (b : Int32) (S' : SS) : Prop := (k = 1 ∧ (kk < 0 ∨ 3 < kk) ∧ S' = (ln, n, D, TP, er, O, sn, tw + 1)) ∨ ∃ q, q < 4 ∧ kk = nI q ∧ ((∃ x, pp_all (tL ln) 0 ln.length = .inl x ∧ k = 2 ∧ S' = ([], n, D, TP, nI x, O, sn, tw + 1)) ∨ (∃ m T ot la, pp_all (tL ln) 0 ln.length = .inr (m, T, ot, la) ∧ k = 0 ∧ b = nI m ∧ S' = ([], n, D, va_up TP q (some (ln, m, T, ot, la)), -1, O, sn, tw)))
end ST2
theorem mM_add {g : jg_G} (hg : (jg_l g).stackTraces = false) {h : jh_H} {mo n sn tw k : Nat} {col ar t : Nat → Nat} {ln O : List Nat} {D : sd_D} {TP : Nat → Option tp_X} {er ll xx b : Int32} {S' : SS} {Q : jw_O → jh_H → Prop} (hc : mc9 col mo ar) (hs : ms h mo ar t (ln, n, D, TP, er, O, sn, tw)) (st : st_add ln n D TP er O sn tw ll xx k b S') (hq : ∀ b' h', (k = 0 → b' = b) → mpost h col mo ar h' S' (nI k) → Q (.inl (some (.inl b'))) h') : jw_C g 1 0 0 m_M_add [.inr (.inr (some mo)), .inl ll, .inl xx] h Q := by
  obtain ⟨s1, s2, s3, s4, s5, s6, s7, s8, s9, s10, s11⟩ := hs.out
  have hn := s2.1
  have no : ∀ l x, l < n → x < n → ¬ ((nI l < 0 ∨ nI n ≤ nI l) ∨ (nI x < 0 ∨ nI n ≤ nI x)) := fun l x h1 h2 z => by
    rcases z with z | z
    · exact ix_no h1 (by omega) z
    · exact ix_no h2 (by omega) z
  have hoF : ∀ k j, ho_F k j → mk_K k ∧ (k = 525 ∨ (537 ≤ k ∧ k ≠ 544)) := fun k j z => by unfold ho_F at z; exact ⟨by unfold mk_K; omega, by omega⟩
  have noG : ∀ k, k = 513 ∨ k = 514 ∨ k = 515 ∨ k = 516 ∨ k = 518 ∨ k = 547 → ¬ no_G k := fun k _ z => z
  refine cm_add hg s1 s2 s5 (fun z => ?_) (fun l x hl hx e1 e2 z h1 fx => ?_) (fun l x hl hx e1 e2 z1 z2 h1 fx => ⟨fun c10 => ?_, fun c10 => ?_⟩)
  · rcases st with ⟨rfl, -, rfl⟩ | ⟨l, x, l1, x1, rfl, rfl, -⟩
    · exact hq _ _ (fun e => absurd e (by decide)) (hs.rf hc fr.rf)
    · exact absurd z (no l x l1 x1)
  · rcases st with ⟨rfl, y, rfl⟩ | ⟨l', x', l1, x1, e3, e4, y⟩
    · subst e1 e2; exact absurd y (no l x hl hx)
    · obtain rfl : l = l' := nI_inj (by omega) (by omega) (e1.symm.trans e3)
      obtain rfl : x = x' := nI_inj (by omega) (by omega) (e2.symm.trans e4)
      rcases y with ⟨rfl, -, rfl⟩ | ⟨rfl, ⟨y1, y2⟩, -⟩ | ⟨rfl, ⟨y1, y2⟩, -⟩
      · exact hq _ _ (fun e => absurd e (by decide)) ((hs.fx fx hoF noG).rf hc (fx.fr hc))
      · rcases z with z | z; exact absurd y1 z; exact absurd z y2
      · rcases z with z | z; exact absurd y1 z; exact absurd z y2
  · rcases st with ⟨rfl, y, rfl⟩ | ⟨l', x', l1, x1, e3, e4, y⟩
    · subst e1 e2; exact absurd y (no l x hl hx)
    · obtain rfl : l = l' := nI_inj (by omega) (by omega) (e1.symm.trans e3)
      obtain rfl : x = x' := nI_inj (by omega) (by omega) (e2.symm.trans e4)
      rcases y with ⟨rfl, y, rfl⟩ | ⟨rfl, ⟨y1, y2⟩, y3, rfl⟩ | ⟨rfl, ⟨y1, y2⟩, y3, -⟩
      · rcases y with y | y; exact absurd z1 y; exact absurd y z2
      · exact hq _ _ (fun e => absurd e (by decide)) ((hs.fx fx hoF noG).rf hc (fx.fr hc))
      · omega
  · rcases st with ⟨rfl, y, rfl⟩ | ⟨l', x', l1, x1, e3, e4, y⟩
    · subst e1 e2; exact absurd y (no l x hl hx)
    · obtain rfl : l = l' := nI_inj (by omega) (by omega) (e1.symm.trans e3)
      obtain rfl : x = x' := nI_inj (by omega) (by omega) (e2.symm.trans e4)
      rcases y with ⟨rfl, y, rfl⟩ | ⟨rfl, ⟨y1, y2⟩, y3, rfl⟩ | ⟨rfl, ⟨y1, y2⟩, y3, rfl, rfl⟩
      · rcases y with y | y; exact absurd z1 y; exact absurd y z2
      · omega
      · have hs1 := hs.fx fx hoF noG
        obtain ⟨u1, u2, u3, u4, u5, u6, u7, u8, u9, u10, u11⟩ := hs1.out
        have rd : ∀ K j, mk_K K → (K ≠ 523 ∨ j ≠ l * 10 + sd_c D l) → (K ≠ 521 ∨ j ≠ l) → jh_I (jh_si (jh_sI (jh_sI h1 (ar 523) (l * 10 + sd_c D l) (nI x)) (ar 521) l (nI (sd_c D l + 1))) mo 512 0) (ar K) j = jh_I h1 (ar K) j := fun K j hK v1 v2 => (rdI (h1 := jh_sI h1 (ar 523) (l * 10 + sd_c D l) (nI x)) s1 hK (mkK (by decide)) v2).trans (rdI s1 hK (mkK (by decide)) v1)
        have ei : ∀ q, q ≠ 512 → jh_i (jh_si (jh_sI (jh_sI h1 (ar 523) (l * 10 + sd_c D l) (nI x)) (ar 521) l (nI (sd_c D l + 1))) mo 512 0) mo q = jh_i h1 mo q := fun q hq => jh_u_k _ _ _ _ hq
        have em : max (sd_c D l) (sd_c D l + 1) = sd_c D l + 1 := by omega
        have D' : mo_D (jh_si (jh_sI (jh_sI h1 (ar 523) (l * 10 + sd_c D l) (nI x)) (ar 521) l (nI (sd_c D l + 1))) mo 512 0) ar n (sd_set D l (sd_c D l) x 0) := by
          refine u2.set hl hx (by omega) c10 (Nat.le_refl _) (fun j => rd 520 j (mkK (by decide)) (Or.inl (by decide)) (Or.inl (by decide))) (fun j hj => rd 521 j (mkK (by decide)) (Or.inl (by decide)) (Or.inr hj)) ?_ (fun j => rd 522 j (mkK (by decide)) (Or.inl (by decide)) (Or.inl (by decide))) (fun j hj => rd 523 j (mkK (by decide)) (Or.inr hj) (Or.inl (by decide))) ?_ (fun j _ => rfl) (fun z => by omega)
          · rw [em]; exact jh_u_s _ _ _ _
          · exact (rdI (h1 := jh_sI h1 (ar 523) (l * 10 + sd_c D l) (nI x)) s1 (mkK (by decide)) (mkK (by decide)) (Or.inl (by decide))).trans (jh_u_s _ _ _ _)
        exact hq _ _ (fun _ => rfl) ⟨⟨t, ms.mk ⟨u1, D', u3.eqs (fun j => rd 526 j (mkK (by decide)) (Or.inl (by decide)) (Or.inl (by decide))), fun k hk => go_T.eq (fun K j a b => rd K j (mkK (by omega)) (Or.inl (by omega)) (Or.inl (by omega))) (u4 k hk), (ei _ (by decide)).trans u5, u6.eqs (fun j => rd 519 j (mkK (by decide)) (Or.inl (by decide)) (Or.inl (by decide))) (ei _ (by decide)), (ei _ (by decide)).trans u7, u8.eqs (fun j => rd 544 j (mkK (by decide)) (Or.inl (by decide)) (Or.inl (by decide))) (ei _ (by decide)), (ei _ (by decide)).trans u9, (ei _ (by decide)).trans u10, rk_set u11 hx y2 c10 (by omega) (Nat.le_refl _)⟩⟩, jh_u_s _ _ _ _, fr.si (fr.sI (fr.sI (fx.fr hc) (hc.2 _)) (hc.2 _)) hc.1⟩
theorem ln_nm_of {ln : List Nat} : ln_nm (fun i => ln.getD i 0) ln.length = (if 1 ≤ ln.length ∧ ln.length ≤ 8 ∧ ln.all sp_lt = true then nm_c ln 0 else 0) := by
  have e : (List.range ln.length).map (fun i => ln.getD i 0) = ln := by
    refine List.ext_getElem (by simp) (fun i h1 h2 => ?_)
    simp [List.getElem_map, h2]
  have ea : (∀ i, i < ln.length → sp_lt (ln.getD i 0) = true) ↔ ln.all sp_lt = true := by
    rw [List.all_eq_true]
    constructor
    · intro h x hx
      obtain ⟨i, hi, rfl⟩ := List.mem_iff_getElem.mp hx
      have := h i hi
      rw [List.getD_eq_getElem?_getD, List.getElem?_eq_getElem hi] at this
      exact this
    · intro h i hi
      rw [List.getD_eq_getElem?_getD, List.getElem?_eq_getElem hi]
      exact h _ (List.getElem_mem hi)
  unfold ln_nm
  rw [e]
  by_cases c : ln.length ≤ 8 ∧ ∀ i, i < ln.length → sp_lt (ln.getD i 0) = true
  · rw [if_pos c]
    by_cases c0 : 1 ≤ ln.length
    · rw [if_pos ⟨c0, c.1, ea.mp c.2⟩]
    · rw [if_neg (fun z => c0 z.1)]
      have : ln = [] := List.eq_nil_of_length_eq_zero (by omega)
      rw [this]
      rfl
  · rw [if_neg c, if_neg (fun z => c ⟨z.2.1, ea.mpr z.2.2⟩)]
theorem mM_put {g : jg_G} (hg : (jg_l g).stackTraces = false) {h : jh_H} {mo n sn tw k : Nat} {col ar t : Nat → Nat} {ln O : List Nat} {D : sd_D} {TP : Nat → Option tp_X} {er ll xx b : Int32} {S' : SS} {Q : jw_O → jh_H → Prop} (hc : mc9 col mo ar) (hs : ms h mo ar t (ln, n, D, TP, er, O, sn, tw)) (st : st_put ln n D TP er O sn tw ll xx k b S') (hq : ∀ b' h', (k = 0 → b' = b) → mpost h col mo ar h' S' (nI k) → Q (.inl (some (.inl b'))) h') : jw_C g 2 0 0 m_M_put [.inr (.inr (some mo)), .inl ll, .inl xx] h Q := by
  obtain ⟨s1, s2, s3, s4, s5, s6, s7, s8, s9, s10, s11⟩ := hs.out
  have hn := s2.1
  have no : ∀ l x, l < n → x < n → ¬ ((nI l < 0 ∨ nI n ≤ nI l) ∨ (nI x < 0 ∨ nI n ≤ nI x)) := fun l x h1 h2 z => by
    rcases z with z | z
    · exact ix_no h1 (by omega) z
    · exact ix_no h2 (by omega) z
  have hoF : ∀ k j, ho_F k j → mk_K k ∧ (k = 525 ∨ (537 ≤ k ∧ k ≠ 544)) := fun k j z => by unfold ho_F at z; exact ⟨by unfold mk_K; omega, by omega⟩
  have noG : ∀ k, k = 513 ∨ k = 514 ∨ k = 515 ∨ k = 516 ∨ k = 518 ∨ k = 547 → ¬ no_G k := fun k _ z => z
  have lnm : nm_ok ln → ln_nm (fun i => ln.getD i 0) ln.length = nm_c ln 0 := fun z => ln_nm_of.trans (if_pos z)
  have ln0 : ln_nm (fun i => ln.getD i 0) ln.length ≠ 0 → nm_ok ln := fun z => by
    by_cases c : nm_ok ln
    · exact c
    · exact absurd (ln_nm_of.trans (if_neg c)) z
  refine cm_put (ln := fun i => ln.getD i 0) hg s1 s2 s5 s6.1 s6.2.1 s6.2.2 (fun z => ?_) (fun l x hl hx e1 e2 z h1 fx => ?_) (fun l x hl hx e1 e2 z1 z2 z3 h1 fx => ?_)
  · rcases st with ⟨rfl, -, rfl⟩ | ⟨l, x, l1, x1, rfl, rfl, -⟩
    · exact hq _ _ (fun e => absurd e (by decide)) (hs.rf hc fr.rf)
    · exact absurd z (no l x l1 x1)
  · rcases st with ⟨rfl, y, rfl⟩ | ⟨l', x', l1, x1, e3, e4, y⟩
    · subst e1 e2; exact absurd y (no l x hl hx)
    · obtain rfl : l = l' := nI_inj (by omega) (by omega) (e1.symm.trans e3)
      obtain rfl : x = x' := nI_inj (by omega) (by omega) (e2.symm.trans e4)
      rcases y with ⟨rfl, -, rfl⟩ | ⟨⟨y1, y2, y3⟩, -⟩
      · exact hq _ _ (fun e => absurd e (by decide)) ((hs.fx fx hoF noG).rf hc (fx.fr hc))
      · rcases z with z | z | z
        · exact absurd y1 z
        · exact absurd z y3
        · rw [lnm y2] at z
          exact absurd z (nm_pos y2).2.1
  · have cm := ln0 z3
    rw [lnm cm]
    rcases st with ⟨rfl, y, rfl⟩ | ⟨l', x', l1, x1, e3, e4, y⟩
    · subst e1 e2; exact absurd y (no l x hl hx)
    · obtain rfl : l = l' := nI_inj (by omega) (by omega) (e1.symm.trans e3)
      obtain rfl : x = x' := nI_inj (by omega) (by omega) (e2.symm.trans e4)
      have hs1 := hs.fx fx hoF noG
      obtain ⟨u1, u2, u3, u4, u5, u6, u7, u8, u9, u10, u11⟩ := hs1.out
      have hc10 := ((u2.2 l hl).2.2.2.2.2.1 (by omega)).1
      rcases y with ⟨rfl, y, rfl⟩ | ⟨⟨y1, y2, y3⟩, y⟩
      · rcases y with y | y | y
        · exact absurd z1 y
        · exact absurd cm y
        · exact absurd y z2
      refine ⟨fun hno => ⟨fun c10 => ?_, fun c10 => ?_⟩, fun i hi ei1 ei2 => ?_⟩
      · rcases y with ⟨rfl, -, -, rfl⟩ | ⟨rfl, -, y, -⟩ | ⟨rfl, i, i1, i2, -⟩
        · exact hq _ _ (fun e => absurd e (by decide)) (hs1.rf hc (fx.fr hc))
        · omega
        · exact absurd i2 (hno i i1)
      · rcases y with ⟨rfl, -, y, rfl⟩ | ⟨rfl, -, y, rfl, rfl⟩ | ⟨rfl, i, i1, i2, -⟩
        · omega
        · have rd : ∀ K j, mk_K K → (K ≠ 521 ∨ j ≠ l) → (K ≠ 523 ∨ j ≠ l * 10 + sd_c D l) → jh_I (jh_si (jh_sI (jh_sG (jh_sI (jh_si h1 mo 514 0) (ar 521) l (nI (sd_c D l + 1))) (ar 524) (l * 10 + sd_c D l) (nm_c ln 0)) (ar 523) (l * 10 + sd_c D l) (nI x)) mo 512 0) (ar K) j = jh_I h1 (ar K) j := fun K j hK v1 v2 => (rdI (h1 := jh_sI h1 (ar 521) l (nI (sd_c D l + 1))) s1 hK (mkK (by decide)) v2).trans (rdI s1 hK (mkK (by decide)) v1)
          have ei : ∀ q, q ≠ 512 → q ≠ 514 → jh_i (jh_si (jh_sI (jh_sG (jh_sI (jh_si h1 mo 514 0) (ar 521) l (nI (sd_c D l + 1))) (ar 524) (l * 10 + sd_c D l) (nm_c ln 0)) (ar 523) (l * 10 + sd_c D l) (nI x)) mo 512 0) mo q = jh_i h1 mo q := fun q h1 h2 => (jh_u_k _ _ _ _ h1).trans (jh_u_k _ _ _ _ h2)
          have em : max (sd_c D l) (sd_c D l + 1) = sd_c D l + 1 := by omega
          have D' : mo_D (jh_si (jh_sI (jh_sG (jh_sI (jh_si h1 mo 514 0) (ar 521) l (nI (sd_c D l + 1))) (ar 524) (l * 10 + sd_c D l) (nm_c ln 0)) (ar 523) (l * 10 + sd_c D l) (nI x)) mo 512 0) ar n (sd_set D l (sd_c D l) x (nm_c ln 0)) := by
            refine u2.set hl hx (by omega) c10 (Nat.le_refl _) (fun j => rd 520 j (mkK (by decide)) (Or.inl (by decide)) (Or.inl (by decide))) (fun j hj => rd 521 j (mkK (by decide)) (Or.inr hj) (Or.inl (by decide))) ?_ (fun j => rd 522 j (mkK (by decide)) (Or.inl (by decide)) (Or.inl (by decide))) (fun j hj => rd 523 j (mkK (by decide)) (Or.inl (by decide)) (Or.inr hj)) (jh_u_s _ _ _ _) (fun j hj => jh_u_k _ _ _ _ hj) (fun _ => jh_u_s _ _ _ _)
            rw [em]
            exact (rdI (h1 := jh_sI h1 (ar 521) l (nI (sd_c D l + 1))) s1 (mkK (by decide)) (mkK (by decide)) (Or.inl (by decide))).trans (jh_u_s _ _ _ _)
          exact hq _ _ (fun _ => rfl) ⟨⟨t, ms.mk ⟨u1, D', u3.eqs (fun j => rd 526 j (mkK (by decide)) (Or.inl (by decide)) (Or.inl (by decide))), fun k hk => go_T.eq (fun K j a b => rd K j (mkK (by omega)) (Or.inl (by omega)) (Or.inl (by omega))) (u4 k hk), (ei _ (by decide) (by decide)).trans u5, ⟨(jh_u_k _ _ _ _ (by decide)).trans (jh_u_s _ _ _ _), by decide, fun i hi => absurd hi (Nat.not_lt_zero _)⟩, (ei _ (by decide) (by decide)).trans u7, u8.eqs (fun j => rd 544 j (mkK (by decide)) (Or.inl (by decide)) (Or.inl (by decide))) (ei _ (by decide) (by decide)), (ei _ (by decide) (by decide)).trans u9, (ei _ (by decide) (by decide)).trans u10, rk_set u11 hx y3 c10 (by omega) (Nat.le_refl _)⟩⟩, jh_u_s _ _ _ _, fr.si (fr.sI (fr.sG (fr.sI (fr.si (fx.fr hc) hc.1) (hc.2 _)) (hc.2 _)) (hc.2 _)) hc.1⟩
        · exact absurd i2 (hno i i1)
      · rcases y with ⟨rfl, y, -, rfl⟩ | ⟨rfl, y, -⟩ | ⟨rfl, i', i1, i2, i3, rfl, rfl⟩
        · exact absurd ei1 (y i hi)
        · exact absurd ei1 (y i hi)
        · obtain rfl : i = i' := by
            rcases Nat.lt_trichotomy i i' with z | z | z
            · exact absurd ei1 (i3 i z)
            · exact z
            · exact absurd i2 (ei2 i' z)
          have rd : ∀ K j, mk_K K → (K ≠ 523 ∨ j ≠ l * 10 + i) → jh_I (jh_si (jh_sI (jh_si h1 mo 514 0) (ar 523) (l * 10 + i) (nI x)) mo 512 0) (ar K) j = jh_I h1 (ar K) j := fun K j hK v1 => rdI (h1 := jh_si h1 mo 514 0) s1 hK (mkK (by decide)) v1
          have ei : ∀ q, q ≠ 512 → q ≠ 514 → jh_i (jh_si (jh_sI (jh_si h1 mo 514 0) (ar 523) (l * 10 + i) (nI x)) mo 512 0) mo q = jh_i h1 mo q := fun q h1 h2 => (jh_u_k _ _ _ _ h1).trans (jh_u_k _ _ _ _ h2)
          have em : max (sd_c D l) (i + 1) = sd_c D l := by omega
          have D' : mo_D (jh_si (jh_sI (jh_si h1 mo 514 0) (ar 523) (l * 10 + i) (nI x)) mo 512 0) ar n (sd_set D l i x (nm_c ln 0)) := by
            refine u2.set hl hx (by omega) (by omega) (by omega) (fun j => rd 520 j (mkK (by decide)) (Or.inl (by decide))) (fun j hj => rd 521 j (mkK (by decide)) (Or.inl (by decide))) ?_ (fun j => rd 522 j (mkK (by decide)) (Or.inl (by decide))) (fun j hj => rd 523 j (mkK (by decide)) (Or.inr hj)) (jh_u_s _ _ _ _) (fun j hj => rfl) (fun z => ?_)
            · rw [em, rd 521 l (mkK (by decide)) (Or.inl (by decide)), (u2.2 l hl).2.2.1]
              exact (u2.2 l hl).2.2.2.1 (by omega)
            · exact ((u2.2 l hl).2.2.2.2.2.2 z i hi).trans ei1
          exact hq _ _ (fun _ => rfl) ⟨⟨t, ms.mk ⟨u1, D', u3.eqs (fun j => rd 526 j (mkK (by decide)) (Or.inl (by decide))), fun k hk => go_T.eq (fun K j a b => rd K j (mkK (by omega)) (Or.inl (by omega))) (u4 k hk), (ei _ (by decide) (by decide)).trans u5, ⟨(jh_u_k _ _ _ _ (by decide)).trans (jh_u_s _ _ _ _), by decide, fun i hi => absurd hi (Nat.not_lt_zero _)⟩, (ei _ (by decide) (by decide)).trans u7, u8.eqs (fun j => rd 544 j (mkK (by decide)) (Or.inl (by decide))) (ei _ (by decide) (by decide)), (ei _ (by decide) (by decide)).trans u9, (ei _ (by decide) (by decide)).trans u10, rk_set u11 hx y3 (by omega) (by omega) (by omega)⟩⟩, jh_u_s _ _ _ _, fr.si (fr.sI (fr.si (fx.fr hc) hc.1) (hc.2 _)) hc.1⟩

