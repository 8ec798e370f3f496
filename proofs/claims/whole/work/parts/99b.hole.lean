/-! READER: where the next part is hung; the whole tree -/
theorem TB.step {L : List Nat} {n : Nat} {T : pp_T} {ot la ot' la' : pp_O} {x : Nat × Nat × Nat × Nat × Nat} (ht : TB (L, n, T, ot, la)) (hot : ∀ i, i < n → ot' i = ot i ∨ (ot i = none ∧ ot' i = some n)) (hla : ∀ i, i < n → bl (L, n, T, ot, la) i → la' i = la i ∨ (la i = none ∧ la' i = some n)) (hnn : ¬ pt_end (L, n + 1, va_up T n x, ot', la') n → ot' n = none ∧ la' n = none) : TB (L, n + 1, va_up T n x, ot', la') := by
  intro i hi hb
  have hlt : i < n ∨ i = n := by
    have : ¬ (n + 1 ≤ i) := fun z => hi (Or.inl z)
    omega
  rcases hlt with c | c
  · have hni : ¬ pt_end (L, n, T, ot, la) i := fun z => hi ((sg_end c).mpr z)
    have hbi : bl (L, n, T, ot, la) i := by unfold bl at hb ⊢; rw [sg_s c (ot := ot) (la := la)] at hb; exact hb
    obtain ⟨t1, t2⟩ := ht i hni hbi
    refine ⟨fun z hz => ?_, fun z hz => ?_⟩
    · have hz : ot' i = some z := hz
      show z < n + 1
      rcases hot i c with e | ⟨-, e⟩
      · have := t1 z (e.symm.trans hz)
        have : z < n := this
        omega
      · have := Option.some.inj (e.symm.trans hz)
        omega
    · have hz : la' i = some z := hz
      show z < n + 1
      rcases hla i c hbi with e | ⟨-, e⟩
      · have := t2 z (e.symm.trans hz)
        have : z < n := this
        omega
      · have := Option.some.inj (e.symm.trans hz)
        omega
  · subst c
    obtain ⟨n1, n2⟩ := hnn hi
    exact ⟨fun z hz => absurd (n1.symm.trans hz) (by simp), fun z hz => absurd (n2.symm.trans hz) (by simp)⟩
/-- what a table gives for the hole: where the touched block is b, or the new tag itself -/
theorem HO.step {L : List Nat} {n : Nat} {T : pp_T} {ot la ot' la' : pp_O} {x : Nat × Nat × Nat × Nat × Nat} {A B : Nat → Nat} {rt : Nat} {ha hk : Nat} (ht : TB (L, n, T, ot, la)) (hd : dj (L, n + 1, va_up T n x, ot', la') A B) (hrt : ∀ i, ¬ pt_end (L, n + 1, va_up T n x, ot', la') i → rt ≠ B i) (hkk : hk = 325 ∨ hk = 326 ∨ hk = 327)
    (b : Nat) (hb : ¬ pt_end (L, n + 1, va_up T n x, ot', la') b) (hha : ha = B b)
    (hot : ∀ i, i < n → ot' i = ot i ∨ (i = b ∧ hk = 327 ∧ ot i = none ∧ ot' i = some n)) (hla : ∀ i, i < n → bl (L, n, T, ot, la) i → la' i = la i ∨ (i = b ∧ hk = 325 ∧ la i = none ∧ la' i = some n)) (hnn : ¬ pt_end (L, n + 1, va_up T n x, ot', la') n → ot' n = none ∧ la' n = none)
    (h1 : b = n → (hk = 325 ∧ ¬ bl (L, n + 1, va_up T n x, ot', la') n) ∨ (hk = 326 ∧ bl (L, n + 1, va_up T n x, ot', la') n)) (h2 : b < n → pt_end (L, n + 1, va_up T n x, ot', la') n ∧ bl (L, n, T, ot, la) b ∧ ((hk = 327 ∧ ot' b = some n) ∨ (hk = 325 ∧ la' b = some n))) : HO (L, n + 1, va_up T n x, ot', la') A B rt ha hk := by
  have hbn : b < n ∨ b = n := by
    have : ¬ (n + 1 ≤ b) := fun z => hb (Or.inl z)
    omega
  have inj : ∀ i, ¬ pt_end (L, n + 1, va_up T n x, ot', la') i → (B i = ha ↔ i = b) := fun i hi => ⟨fun e => hd.1 i b hi hb (e.trans hha), fun e => by rw [e, hha]⟩
  refine ⟨⟨fun z => absurd (z.1.trans hha) (hrt b hb), fun z => absurd (show 0 = n + 1 from z) (by omega)⟩, fun i hi => ?_, fun i hi hti => by rw [hha]; exact hd.2.2 i b hi hti hb, hkk⟩
  have hlt : i < n ∨ i = n := by
    have : ¬ (n + 1 ≤ i) := fun z => hi (Or.inl z)
    omega
  have mp : ∀ o : Option Nat, o.map (· + 1) = some (n + 1) ↔ o = some n := fun o => by
    cases o with
    | none => simp
    | some l => simp
  refine ⟨?_, fun hbl => ⟨?_, ?_⟩⟩
  · rw [inj i hi]
    show _ ↔ nx (L, n + 1, va_up T n x, ot', la') i = some (n + 1)
    unfold nx
    rcases hlt with c | c
    · have hni : ¬ pt_end (L, n, T, ot, la) i := fun z => hi ((sg_end c).mpr z)
      by_cases cb : bl (L, n + 1, va_up T n x, ot', la') i
      · have cb0 : bl (L, n, T, ot, la) i := by unfold bl at cb ⊢; rw [sg_s c (ot := ot) (la := la)] at cb; exact cb
        rw [if_pos cb]
        show _ ↔ (la' i).map (· + 1) = some (n + 1)
        rw [mp]
        constructor
        · rintro ⟨e1, e2⟩
          have : b < n := by omega
          rcases (h2 this).2.2 with ⟨e3, -⟩ | ⟨-, e4⟩
          · omega
          · rw [e1]; exact e4
        · intro e
          rcases hla i c cb0 with e3 | ⟨e3, e4, -⟩
          · have := (ht i hni cb0).2 n (e3.symm.trans e)
            exact absurd (show n < n from this) (Nat.lt_irrefl _)
          · exact ⟨e3, e4.symm⟩
      · rw [if_neg cb]
        constructor
        · rintro ⟨e1, e2⟩
          exfalso
          have : b < n := by omega
          have := (h2 this).2.1
          rw [← e1] at this
          exact cb (by unfold bl at this ⊢; rw [sg_s c (ot := ot) (la := la)]; exact this)
        · intro e
          have := Option.some.inj e
          omega
    · subst c
      by_cases cb : bl (L, i + 1, va_up T i x, ot', la') i
      · rw [if_pos cb]
        show _ ↔ (la' i).map (· + 1) = some (i + 1)
        rw [mp, (hnn hi).2]
        constructor
        · rintro ⟨e1, e2⟩
          rcases h1 e1.symm with ⟨-, e3⟩ | ⟨e3, -⟩
          · exact absurd cb e3
          · omega
        · intro e; cases e
      · rw [if_neg cb]
        constructor
        · intro _; rfl
        · intro _
          rcases hbn with c | c
          · exact absurd (h2 c).1 hi
          · rcases h1 c with ⟨e3, -⟩ | ⟨-, e3⟩
            · exact ⟨c.symm, e3.symm⟩
            · exact absurd e3 cb
  · rw [inj i hi]
    show _ ↔ i + 1 = n + 1
    rcases hlt with c | c
    · constructor
      · rintro ⟨e1, e2⟩
        exfalso
        have : b < n := by omega
        rcases (h2 this).2.2 with ⟨e3, -⟩ | ⟨e3, -⟩ <;> omega
      · intro e; omega
    · subst c
      constructor
      · intro _; rfl
      · intro _
        rcases hbn with c | c
        · exact absurd (h2 c).1 hi
        · rcases h1 c with ⟨-, e3⟩ | ⟨e3, -⟩
          · exact absurd hbl e3
          · exact ⟨c.symm, e3.symm⟩
  · rw [inj i hi]
    show _ ↔ (ot' i).map (· + 1) = some (n + 1)
    rw [mp]
    rcases hlt with c | c
    · have hni : ¬ pt_end (L, n, T, ot, la) i := fun z => hi ((sg_end c).mpr z)
      have cb0 : bl (L, n, T, ot, la) i := by unfold bl at hbl ⊢; rw [sg_s c (ot := ot) (la := la)] at hbl; exact hbl
      constructor
      · rintro ⟨e1, e2⟩
        have : b < n := by omega
        rcases (h2 this).2.2 with ⟨-, e4⟩ | ⟨e3, -⟩
        · rw [e1]; exact e4
        · omega
      · intro e
        rcases hot i c with e3 | ⟨e3, e4, -⟩
        · have := (ht i hni cb0).1 n (e3.symm.trans e)
          exact absurd (show n < n from this) (Nat.lt_irrefl _)
        · exact ⟨e3, e4.symm⟩
    · subst c
      rw [(hnn hi).1]
      constructor
      · rintro ⟨e1, e2⟩
        rcases h1 e1.symm with ⟨e3, -⟩ | ⟨e3, -⟩ <;> omega
      · intro e; cases e
theorem BI.full {g : jg_G} {h0 h : jh_H} {X : tp_X} {A B : Nat → Nat} {rt : Nat} {W : Option Nat} {P : Nat → Prop} (hb : BI g h0 h X A B rt W) (ht : TB X) (hP : ∀ b, b ∉ jh_L h0 → P b) (hrt : P rt) (hcl : ∀ i, ¬ pt_end X i → bl X i → ∃ l, X.2.2.2.2 i = some l) (hW : W = if rn_text X X.2.1 = [] then none else some (A X.2.1)) (hA : rn_text X X.2.1 ≠ [] → bt_pl g h0 h X A X.2.1 none) : pt_ok g h P X A B rt := by
  obtain ⟨b1, b2, b3, b4, b5, b6⟩ := hb
  have lj : ∀ j, j ≤ X.2.1 → lw X A B W (some j) = pt_hd X A B j := by
    intro j hj
    show (if j < X.2.1 then _ else W) = _
    unfold pt_hd
    by_cases c : j < X.2.1
    · rw [if_pos c]
    · have : j = X.2.1 := by omega
      rw [if_neg c, this, hW, show pt_tl X B X.2.1 = none from if_pos (Or.inl (Nat.le_refl _))]
  have pl : ∀ i nxt, bt_pl g h0 h X A i nxt → nxt = pt_tl X B i → pt_pl g h P X A B i := by
    rintro i nxt ⟨p1, p2, p3, ⟨tb, ch, cap, p4, p5, p6, p7⟩, p8⟩ rfl
    exact ⟨hP _ p2, p1, p3, ⟨tb, ch, cap, p4, hP _ p5.1, hP _ p6.1, p7⟩, p8⟩
  refine ⟨hrt, b1, by rw [b3, lj 0 (by omega)], fun i hi hti => ?_, fun i hi => ?_⟩
  · by_cases c : i < X.2.1
    · exact pl i _ (b4 i c hti) rfl
    · have : i = X.2.1 := by omega
      subst this
      exact pl _ _ (hA hti) (if_pos (Or.inl (Nat.le_refl _))).symm
  · obtain ⟨p1, p2, p3, p4, p5, p6, p7, p8⟩ := b5 i hi
    have hlt : i < X.2.1 := by unfold pt_end at hi; omega
    refine ⟨hP _ p2, p1, p3, ?_, p6, fun z1 z2 => ?_, fun z1 z2 => ?_⟩
    · rw [p5]
      unfold nx rn_after
      by_cases c : bl X i
      · obtain ⟨l, hl⟩ := hcl i hi c
        have := (ht i hi c).2 l hl
        rw [if_pos c, if_pos c, hl]
        exact lj (l + 1) (by omega)
      · rw [if_neg c, if_neg c]
        exact lj (i + 1) (by omega)
    · obtain ⟨e, x1, x2⟩ := p7 z1 z2
      exact ⟨e, x1, x2.mono (fun b p _ _ _ => hP b p.1)⟩
    · obtain ⟨y1, y2⟩ := p8 ⟨z1, z2⟩
      refine ⟨by rw [y1, lj (i + 1) (by omega)], ?_⟩
      rw [y2]
      cases ho : X.2.2.2.1 i with
      | none => rfl
      | some q => exact lj (q + 1) (by have := (ht i hi ⟨z1, z2⟩).1 q ho; omega)

