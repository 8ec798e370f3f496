/-! ENGINE: an entry is set -/
def up2 {α : Type} (f : Nat → Nat → α) (a i : Nat) (v : α) : Nat → Nat → α := fun b j => if b = a ∧ j = i then v else f b j
theorem up2_s {α : Type} {f : Nat → Nat → α} {a i : Nat} {v : α} : up2 f a i v a i = v := if_pos ⟨rfl, rfl⟩
theorem up2_n {α : Type} {f : Nat → Nat → α} {a i b j : Nat} {v : α} (h : ¬ (b = a ∧ j = i)) : up2 f a i v b j = f b j := if_neg h
def sd_set (D : sd_D) (l i x : Nat) (w : Int64) : sd_D := (D.1, va_up D.2.1 l (nI (max (sd_c D l) (i + 1))), D.2.2.1, up2 D.2.2.2.1 l i x, up2 D.2.2.2.2 l i w)
theorem sd_set_l {D : sd_D} {l i x : Nat} {w : Int64} (h : max (sd_c D l) (i + 1) < 2 ^ 31) : sd_c (sd_set D l i x w) l = max (sd_c D l) (i + 1) := (congrArg Int32.toNatClampNeg (va_up_self _ _ _)).trans (nI_cl h)
theorem sd_set_o {D : sd_D} {l i x y : Nat} {w : Int64} (h : y ≠ l) : sd_v (sd_set D l i x w) y = sd_v D y ∧ sd_c (sd_set D l i x w) y = sd_c D y := ⟨va_up_ne _ _ h, congrArg Int32.toNatClampNeg (va_up_ne _ _ h)⟩
/-- the cells of one DATA that an entry's setting writes -/
def se_S (E : cd_E) (l b : Nat) : Prop := b = E.1 l ∨ b = E.2.1 l ∨ b = E.2.2 l
theorem ed.set {h : jh_H} {col ad : Nat → Nat} {E : cd_E} {n se l i x : Nat} {wm w : Int64} {D : sd_D} (hd : ed h col ad E n D se) (hcl : ∀ b, col b ≠ 0 → b ∈ jh_L h) (c3 : col (ad 3) = 7) (hl : l < n) (hx : x < n) (hk : 2 ≤ sd_k D l) (hi : i < 10) (hic : i ≤ sd_c D l) (hno : ¬ sd_in D x l) (hw : if sd_k D l = 3 then ∃ L, nm_ok L ∧ wm = nm_c L 0 ∧ w = nc7 L 0 else w = 0) :
    ed (jh_si (jh_sG (jh_sR h (E.2.1 l) i (some (E.1 x))) (E.2.2 l) i w) (E.1 l) 133 (nI (max (sd_c D l) (i + 1)))) col ad E n (sd_set D l i x wm) se ∧ fr (se_S E l) h (jh_si (jh_sG (jh_sR h (E.2.1 l) i (some (E.1 x))) (E.2.2 l) i w) (E.1 l) 133 (nI (max (sd_c D l) (i + 1)))) ∧ ∀ b, se_S E l b → col b = 1 := by
  obtain ⟨d1, d2, d3, d4, d5, d6, d7⟩ := hd
  obtain ⟨p1, p2, p3, p4, p5⟩ := d3.2 l hl
  obtain ⟨a1, a2, a3, a4, a5, a6, a7, a8, a9, a10, a11⟩ := p5 hk
  have a1 : col (E.2.1 l) = 1 := a1
  have a2 : col (E.2.2 l) = 1 := a2
  have p1 : col (E.1 l) = 1 := p1
  have cS : ∀ b, se_S E l b → col b = 1 := fun b z => by rcases z with z | z | z; exact z ▸ p1; exact z ▸ a1; exact z ▸ a2
  obtain ⟨h', eh'⟩ : ∃ z, z = jh_si (jh_sG (jh_sR h (E.2.1 l) i (some (E.1 x))) (E.2.2 l) i w) (E.1 l) 133 (nI (max (sd_c D l) (i + 1))) := ⟨_, rfl⟩
  rw [← eh']
  have f : fr (se_S E l) h h' := by rw [eh']; exact fr.si (fr.sG (fr.sR fr.rf (Or.inr (Or.inl rfl))) (Or.inr (Or.inr rfl))) (Or.inl rfl)
  have ei : ∀ b k, ¬ (b = E.1 l ∧ k = 133) → jh_i h' b k = jh_i h b k := fun b k z => by
    rw [eh']
    by_cases c : b = E.1 l
    · exact jh_u_k _ _ _ _ (fun e => z ⟨c, e⟩)
    · exact jh_u_a _ _ _ _ c
  have er : jh_r h' = jh_r h := by rw [eh']; rfl
  have eR : ∀ b k, ¬ (b = E.2.1 l ∧ k = i) → jh_R h' b k = jh_R h b k := fun b k z => by
    rw [eh']
    by_cases c : b = E.2.1 l
    · exact jh_u_k _ _ _ _ (fun e => z ⟨c, e⟩)
    · exact jh_u_a _ _ _ _ c
  have eG : ∀ b k, ¬ (b = E.2.2 l ∧ k = i) → jh_G h' b k = jh_G h b k := fun b k z => by
    rw [eh']
    by_cases c : b = E.2.2 l
    · exact jh_u_k _ _ _ _ (fun e => z ⟨c, e⟩)
    · exact jh_u_a _ _ _ _ c
  have cx : max (sd_c D l) (i + 1) ≤ 10 := by omega
  have ecl : sd_c (sd_set D l i x wm) l = max (sd_c D l) (i + 1) := sd_set_l (by omega)
  refine ⟨⟨f.A d1, fun y hy => (eR _ _ (fun z => ?_)).trans (d2 y hy), ⟨d3.1, fun y hy => ?_⟩, fun y hy => ?_, d5, d6, ?_⟩, f, cS⟩
  · have := c3
    rw [z.1, a1] at this
    cases this
  · by_cases cy : y = l
    · subst cy
      refine ⟨p1, p2, fun z => absurd z (by show sd_k D y ≠ 0; omega), fun z => absurd z (by show sd_k D y ≠ 1; omega), fun _ => ⟨a1, a2, f.O a3, (ei _ _ (fun z => by cases z.2)).trans a4, by rw [er]; exact a5, by rw [er]; exact a6, f.A a7, f.A a8, ?_, by rw [ecl]; exact cx, fun j hj => ?_⟩⟩
      · rw [ecl, eh']
        exact jh_u_s _ _ _ _
      · rw [ecl] at hj
        by_cases cj : j = i
        · subst cj
          have e1 : sd_p (sd_set D y j x wm) y j = x := up2_s
          have e2 : sd_n (sd_set D y j x wm) y j = wm := up2_s
          rw [e1]
          refine ⟨by rw [eh']; exact jh_u_s _ _ _ _, hx, ?_⟩
          have eGj : jh_G h' (E.2.2 y) j = w := by rw [eh']; exact jh_u_s _ _ _ _
          rw [eGj]
          unfold nm_rel
          rw [e2]
          exact hw
        · obtain ⟨b1, b2, b3⟩ := a11 j (by omega)
          have e1 : sd_p (sd_set D y i x wm) y j = sd_p D y j := up2_n (fun z => cj z.2)
          have e2 : sd_n (sd_set D y i x wm) y j = sd_n D y j := up2_n (fun z => cj z.2)
          rw [e1]
          refine ⟨(eR _ _ (fun z => cj z.2)).trans b1, b2, ?_⟩
          rw [eG _ _ (fun z => cj z.2)]
          unfold nm_rel at b3 ⊢
          rw [e2]
          exact b3
    · obtain ⟨o1, o2⟩ := sd_set_o (D := D) (i := i) (x := x) (w := wm) cy
      have ep : ∀ j, sd_p (sd_set D l i x wm) y j = sd_p D y j := fun j => up2_n (fun z => cy z.1)
      have en : ∀ j, sd_n (sd_set D l i x wm) y j = sd_n D y j := fun j => up2_n (fun z => cy z.1)
      obtain ⟨h1, h2, h3, h4, h5⟩ := d3.2 y hy
      have Oy := (cd_size (d3.2 y hy)).1
      have ny : ¬ se_S E l (E.1 y) := fun z => by
        rcases z with z | z | z
        · exact cy (d5 y l hy hl z)
        · exact jOA_ne Oy a7 (by decide) z
        · exact jOA_ne Oy a8 (by decide) z
      have ey := f.2 _ Oy.1 ny
      refine ⟨h1, h2, fun z => by rw [o1]; exact (h3 z).eq ey, fun z => ?_, fun z => ?_⟩
      · obtain ⟨tb, ch, cap, t1, t2, t3⟩ := h4 z
        refine ⟨tb, ch, cap, t1, t2, ?_⟩
        rw [o2]
        have tO := t3.2.2.2.1.1.1
        have tA := t3.2.2.2.1.1.2.1
        refine t3.eq ey (f.2 _ tO.1 (fun q => ?_)) (f.2 _ tA.1 (fun q => ?_))
        · rcases q with q | q | q
          · exact jO_ne tO a3 (by decide) q
          · exact jOA_ne tO a7 (by decide) q
          · exact jOA_ne tO a8 (by decide) q
        · rcases q with q | q | q
          · exact jOA_ne a3 tA (by decide) q.symm
          · exact jA_ne tA a7 (by decide) q
          · exact jA_ne tA a8 (by decide) q
      · obtain ⟨g1, g2, g3, g4, g5, g6, g7, g8, g9, g10, g11⟩ := h5 z
        rw [o2]
        refine ⟨g1, g2, ey.O g3, (ey.2.2.1 128).trans g4, (ey.2.2.2.2.1 131).trans g5, (ey.2.2.2.2.1 132).trans g6, f.A g7, f.A g8, (ey.2.2.1 133).trans g9, g10, fun j hj => ?_⟩
        obtain ⟨b1, b2, b3⟩ := g11 j hj
        rw [ep]
        refine ⟨(eR _ _ (fun q => cy (d6 y l hy hl z hk (Or.inl q.1)))).trans b1, b2, ?_⟩
        rw [eG _ _ (fun q => cy (d6 y l hy hl z hk (Or.inr q.1)))]
        unfold nm_rel at b3 ⊢
        rw [en]
        exact b3
  · obtain ⟨s, s1, s2⟩ := d4 y hy
    exact ⟨s, s1, (ei _ _ (fun z => by cases z.2)).trans s2⟩
  · refine rk_edge (l := l) d7 hx hno (fun y hy => rfl) (fun y hy j hj h2 => ?_)
    by_cases cy : y = l
    · subst cy
      rw [ecl] at hj
      by_cases cj : j = i
      · subst cj
        exact Or.inr ⟨rfl, up2_s⟩
      · exact Or.inl ⟨by omega, up2_n (fun z => cj z.2)⟩
    · rw [(sd_set_o cy).2] at hj
      exact Or.inl ⟨hj, up2_n (fun z => cy z.1)⟩
theorem ce.set {g : jg_G} {h : jh_H} {col ad R : Nat → Nat} {E : cd_E} {se n tw sn l i x : Nat} {wm w : Int64} {ln O : List Nat} {D : sd_D} {TP : Nat → Option tp_X} {er : Int32} (hc : ce g h col ad R E se (ln, n, D, TP, er, O, sn, tw)) (hl : l < n) (hx : x < n) (hk : 2 ≤ sd_k D l) (hi : i < 10) (hic : i ≤ sd_c D l) (hno : ¬ sd_in D x l) (hw : if sd_k D l = 3 then ∃ L, nm_ok L ∧ wm = nm_c L 0 ∧ w = nc7 L 0 else w = 0) :
    ce g (jh_si (jh_sG (jh_sR h (E.2.1 l) i (some (E.1 x))) (E.2.2 l) i w) (E.1 l) 133 (nI (max (sd_c D l) (i + 1)))) col ad R E se (ln, n, sd_set D l i x wm, TP, er, O, sn, tw) ∧ fr (cF col) h (jh_si (jh_sG (jh_sR h (E.2.1 l) i (some (E.1 x))) (E.2.2 l) i w) (E.1 l) 133 (nI (max (sd_c D l) (i + 1)))) := by
  obtain ⟨c1, c2, c3, c4, c5, c6⟩ := hc.out
  obtain ⟨k1, k2, k3, k4, k5, k6, k7, k8⟩ := id c6
  obtain ⟨e1, f, cS⟩ := c3.set k7 k6 hl hx hk hi hic hno hw
  have nc : ∀ {b}, col b ≠ 1 → ¬ se_S E l b := fun hb z => hb (cS _ z)
  exact ⟨ce.mk ⟨c1.mv f (nc (by rw [k3]; decide)), c2.fr f (nc (by rw [k4]; decide)) (nc (by rw [k5]; decide)), e1, c4.mv f (fun b hb => nc (by rw [hb]; decide)) (nc (by rw [k8]; decide)), c5.mv f (fun i hi => nc (by rw [k2 i hi]; decide)), c6.sm f⟩, f.mono (fun b _ z => ⟨by rw [cS b z]; decide, by rw [cS b z]; decide⟩)⟩
theorem sw_f.fr {n se : Nat} {E : cd_E} {h h' : jh_H} (f : sw_f n se E h h') : fr (fun b => ∃ y, y < n ∧ b = E.1 y) h h' := by
  obtain ⟨e1, e2, e3, e4, e5, e6, e7, e8, -⟩ := f
  refine ⟨fun b hb => ⟨by rw [e1]; exact hb, by rw [e2]⟩, fun b hb hn => ⟨fun _ => by rw [e1]; exact hb, by rw [e2], fun k => e8 b k (fun _ y hy e => hn ⟨y, hy, e⟩), fun k => by rw [e3], fun k => by rw [e4], fun k => by rw [e5], fun k => by rw [e6], fun k => by rw [e7]⟩⟩
theorem ce.sw {g : jg_G} {h h' : jh_H} {col ad R : Nat → Nat} {E : cd_E} {se n tw sn : Nat} {ln O : List Nat} {D : sd_D} {TP : Nat → Option tp_X} {er : Int32} (hc : ce g h col ad R E se (ln, n, D, TP, er, O, sn, tw)) (f : sw_f n (se + 1) E (jh_si h (ad 0) 3 (nI (se + 1))) h') : ce g h' col ad R E (se + 1) (ln, n, D, TP, er, O, sn, tw) ∧ fr (cF col) h h' := by
  obtain ⟨c1, c2, c3, c4, c5, c6⟩ := hc.out
  obtain ⟨k1, k2, k3, k4, k5, k6, k7, k8⟩ := id c6
  obtain ⟨h1, eh1⟩ : ∃ z, z = jh_si h (ad 0) 3 (nI (se + 1)) := ⟨_, rfl⟩
  have f1 : fr (fun b => b = ad 0) h h1 := by rw [eh1]; exact fr.si fr.rf rfl
  rw [← eh1] at f
  have f2 := f.fr
  have nc : ∀ {b}, col b ≠ 4 → b ≠ ad 0 := fun hb e => hb (by rw [e]; exact k3)
  have cS : ∀ b, (∃ y, y < n ∧ b = E.1 y) → col b = 1 := fun b ⟨y, hy, e⟩ => by rw [e]; exact (c3.2.2.1.2 y hy).1
  have nS : ∀ {b}, col b ≠ 1 → ¬ (∃ y, y < n ∧ b = E.1 y) := fun hb z => hb (cS _ z)
  have d1 : ed h1 col ad E n D se := c3.mv f1 (nc (by rw [k6]; decide)) (fun b hb _ => nc (by rw [hb]; decide)) k7
  refine ⟨ce.mk ⟨?_, (c2.fr f1 (nc (by rw [k4]; decide)) (nc (by rw [k5]; decide))).fr f2 (nS (by rw [k4]; decide)) (nS (by rw [k5]; decide)), ?_, (c4.mv f1 (fun b hb => nc (by rw [hb]; decide)) (nc (by rw [k8]; decide))).mv f2 (fun b hb => nS (by rw [hb]; decide)) (nS (by rw [k8]; decide)), (c5.mv f1 (fun i hi => nc (by rw [k2 i hi]; decide))).mv f2 (fun i hi => nS (by rw [k2 i hi]; decide)), (c6.sm f1).sm f2⟩, ?_⟩
  · obtain ⟨a1, a2, a3, a4, a5, a6, a7, a8, a9⟩ := c1
    have e4 : jh_r h' = jh_r h := by rw [f.2.2.2.1, eh1]; rfl
    have ei : ∀ k, k ≠ 134 → k ≠ 3 → jh_i h' (ad 0) k = jh_i h (ad 0) k := fun k h1 h2 => (f.i _ _ h1).trans (by rw [eh1]; exact jh_u_k _ _ _ _ h2)
    exact ⟨f2.O (f1.O a1), by rw [e4]; exact a2, by rw [e4]; exact a3, by rw [e4]; exact a4, by rw [e4]; exact a5, (ei 2 (by decide) (by decide)).trans a6, (f.i _ _ (by decide)).trans (by rw [eh1]; exact jh_u_s _ _ _ _), (ei 5 (by decide) (by decide)).trans a8, (ei 7 (by decide) (by decide)).trans a9⟩
  · obtain ⟨d1, d2, d3, d4, d5⟩ := d1
    refine ⟨f2.A d1, fun x hx => by rw [f.2.2.2.2.2.2.1]; exact d2 x hx, d3.sw f, fun y hy => ?_, d5⟩
    obtain ⟨s, s1, s2⟩ := d4 y hy
    rcases f.2.2.2.2.2.2.2.2 (E.1 y) with e | e
    · exact ⟨s, by omega, e.trans s2⟩
    · exact ⟨se + 1, Nat.le_refl _, e⟩
  · exact (f1.mono (S := cF col) (fun b _ z => ⟨by rw [z, k3]; decide, by rw [z, k3]; decide⟩)).tr (f2.mono (S := cF col) (fun b _ z => ⟨by rw [cS b z]; decide, by rw [cS b z]; decide⟩)) (fun _ _ z => z)

