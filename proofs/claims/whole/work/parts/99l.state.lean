/-! ENGINE: its state -/
theorem op_mono {g : jg_G} {h : jh_H} {P P' : Nat → Prop} {o : ex_O} {a : Nat} (ho : op_ok g h P o a) (hP : ∀ b, P b → P' b) : op_ok g h P' o a := ho.mono (fun b p _ _ _ => hP b p)
theorem pt_ok.mono {g : jg_G} {h : jh_H} {P P' : Nat → Prop} {X : tp_X} {A T : Nat → Nat} {rt : Nat} (hp : pt_ok g h P X A T rt) (hP : ∀ b, P b → P' b) : pt_ok g h P' X A T rt := by
  obtain ⟨p1, p2, p3, p4, p5⟩ := hp
  refine ⟨hP _ p1, p2, p3, fun i hi ht => ?_, fun i hi => ?_⟩
  · obtain ⟨a1, a2, a3, ⟨tb, ch, cap, a4, a5, a6, a7⟩, a8⟩ := p4 i hi ht
    exact ⟨hP _ a1, a2, a3, ⟨tb, ch, cap, a4, hP _ a5, hP _ a6, a7⟩, a8⟩
  · obtain ⟨a1, a2, a3, a4, a5, a6, a7⟩ := p5 i hi
    refine ⟨hP _ a1, a2, a3, a4, a5, fun z1 z2 => ?_, a7⟩
    obtain ⟨e, e1, e2⟩ := a6 z1 z2
    exact ⟨e, e1, e2.mono (fun b p _ _ _ => hP b p)⟩
theorem pt_all.mono {g : jg_G} {h : jh_H} {P P' : Nat → Prop} {TP : Nat → Option tp_X} {tp : Nat} (hp : pt_all g h P TP tp) (hP : ∀ b, P b → P' b) : pt_all g h P' TP tp := by
  obtain ⟨p1, p2, p3⟩ := hp
  refine ⟨hP _ p1, p2, fun k hk => ?_⟩
  have := p3 k hk
  cases hT : TP k with
  | none => rw [hT] at this; exact this
  | some X =>
    rw [hT] at this
    obtain ⟨x0, A, T, rt, x1, x2⟩ := this
    exact ⟨x0, A, T, rt, x1, x2.mono hP⟩
set_option maxHeartbeats 4000000 in
set_option maxRecDepth 100000 in
theorem cd_1.mono {h : jh_H} {n x : Nat} {D : sd_D} {E : cd_E} {P P' : Nat → Prop} (hc : cd_1 h n D E P x) (hP : ∀ b, P b → P' b) : cd_1 h n D E P' x := by
  obtain ⟨h1, h2, h3, h4, h5⟩ := hc
  refine ⟨hP _ h1, h2, h3, fun z => ?_, fun z => ?_⟩
  · obtain ⟨tb, ch, cap, a1, a2, a3⟩ := h4 z
    exact ⟨tb, ch, cap, hP _ a1, hP _ a2, a3⟩
  · obtain ⟨a1, a2, a3⟩ := h5 z
    exact ⟨hP _ a1, hP _ a2, a3⟩
set_option maxHeartbeats 4000000 in
set_option maxRecDepth 100000 in
theorem cd_ok.mono {h : jh_H} {n : Nat} {D : sd_D} {E : cd_E} {P P' : Nat → Prop} (hc : cd_ok h n D E P) (hP : ∀ b, P b → P' b) : cd_ok h n D E P' := ⟨hc.1, fun x hx => (hc.2 x hx).mono hP⟩
/-- line, count, DATA, templates, fault, text rendered, tags met, calls that threw -/
abbrev SS : Type := List Nat × Nat × sd_D × (Nat → Option tp_X) × Int32 × List Nat × Nat × Nat
/-- the engine's own fields -/
def ea (h : jh_H) (ad : Nat → Nat) (r0 n se : Nat) (er : Int32) (tw : Nat) : Prop := jh_O h (ad 0) 0 ∧ jh_r h (ad 0) 0 = some (ad 1) ∧ jh_r h (ad 0) 1 = some (ad 3) ∧ jh_r h (ad 0) 4 = some (ad 4) ∧ jh_r h (ad 0) 6 = some r0 ∧ jh_i h (ad 0) 2 = nI n ∧ jh_i h (ad 0) 3 = nI se ∧ jh_i h (ad 0) 5 = er ∧ jh_i h (ad 0) 7 = nI tw
/-- its DATA -/
def ed (h : jh_H) (col ad : Nat → Nat) (E : cd_E) (n : Nat) (D : sd_D) (se : Nat) : Prop := jh_A h (ad 3) 4 60 ∧ (∀ x, x < n → jh_R h (ad 3) x = some (E.1 x)) ∧ cd_ok h n D E (fun b => col b = 1) ∧ (∀ y, y < n → ∃ s, s ≤ se ∧ jh_i h (E.1 y) 134 = nI s) ∧ (∀ x y, x < n → y < n → E.1 x = E.1 y → x = y) ∧ (∀ x y, x < n → y < n → 2 ≤ sd_k D x → 2 ≤ sd_k D y → E.2.1 x = E.2.1 y ∨ E.2.2 x = E.2.2 y → x = y) ∧ sd_rk n D
/-- its renderer -/
def en (h : jh_H) (R : Nat → Nat) (O : List Nat) (sn : Nat) : Prop := rb_ok h R ∧ tx_is h (R 10) (R 11) 400 O ∧ jh_i h (R 0) 204 = nI sn
/-- whose each cell is -/
def ec (h : jh_H) (col ad R : Nat → Nat) : Prop := (∀ i j, rU i → rU j → R i = R j → i = j) ∧ (∀ i, rU i → col (R i) = 3) ∧ col (ad 0) = 4 ∧ col (ad 1) = 5 ∧ col (ad 2) = 6 ∧ col (ad 3) = 7 ∧ (∀ b, col b ≠ 0 → b ∈ jh_L h) ∧ col (ad 4) = 8
/-- its templates -/
def et (g : jg_G) (h : jh_H) (P : Nat → Prop) (TP : Nat → Option tp_X) (tp : Nat) : Prop := jh_A h tp 5 4 ∧ ∀ k, k < 4 → match TP k with
  | none => jh_R h tp k = none
  | some X => tp_ok X ∧ ∃ A T rt, jh_R h tp k = some rt ∧ pt_ok g h P X A T rt
theorem et.all {g : jg_G} {h : jh_H} {P P' : Nat → Prop} {TP : Nat → Option tp_X} {tp : Nat} (he : et g h P TP tp) (hP : ∀ b, P b → P' b) (ht : P' tp) : pt_all g h P' TP tp := by
  refine ⟨ht, he.1, fun k hk => ?_⟩
  have := he.2 k hk
  cases hT : TP k with
  | none => rw [hT] at this; exact this
  | some X =>
    rw [hT] at this
    obtain ⟨x0, A, T, rt, x1, x2⟩ := this
    exact ⟨x0, A, T, rt, x1, x2.mono hP⟩
theorem et.mono {g : jg_G} {h : jh_H} {P P' : Nat → Prop} {TP : Nat → Option tp_X} {tp : Nat} (he : et g h P TP tp) (hP : ∀ b, P b → P' b) : et g h P' TP tp := by
  refine ⟨he.1, fun k hk => ?_⟩
  have := he.2 k hk
  cases hT : TP k with
  | none => rw [hT] at this; exact this
  | some X =>
    rw [hT] at this
    obtain ⟨x0, A, T, rt, x1, x2⟩ := this
    exact ⟨x0, A, T, rt, x1, x2.mono hP⟩
theorem et.mv {g : jg_G} {h h' : jh_H} {P S : Nat → Prop} {TP : Nat → Option tp_X} {tp : Nat} (he : et g h P TP tp) (f : fr S h h') (hS : ∀ b, P b → ¬ S b) (ht : ¬ S tp) : et g h' P TP tp := by
  have e := f.2 _ he.1.1 ht
  refine ⟨e.A he.1, fun k hk => ?_⟩
  have := he.2 k hk
  cases hT : TP k with
  | none => rw [hT] at this; exact (e.2.2.2.2.2.2.2 k).trans this
  | some X =>
    rw [hT] at this
    obtain ⟨x0, A, T, rt, x1, x2⟩ := this
    exact ⟨x0, A, T, rt, (e.2.2.2.2.2.2.2 k).trans x1, x2.fr f hS⟩
def ce (g : jg_G) (h : jh_H) (col ad R : Nat → Nat) (E : cd_E) (se : Nat) (S : SS) : Prop := ea h ad (R 0) S.2.1 se S.2.2.2.2.1 S.2.2.2.2.2.2.2 ∧ tx_is h (ad 1) (ad 2) 200 S.1 ∧ ed h col ad E S.2.1 S.2.2.1 se ∧ et g h (fun b => col b = 2) S.2.2.2.1 (ad 4) ∧ en h R S.2.2.2.2.2.1 S.2.2.2.2.2.2.1 ∧ ec h col ad R
theorem ce.out {g : jg_G} {h : jh_H} {col ad R : Nat → Nat} {E : cd_E} {se n tw sn : Nat} {ln O : List Nat} {D : sd_D} {TP : Nat → Option tp_X} {er : Int32} (hc : ce g h col ad R E se (ln, n, D, TP, er, O, sn, tw)) : ea h ad (R 0) n se er tw ∧ tx_is h (ad 1) (ad 2) 200 ln ∧ ed h col ad E n D se ∧ et g h (fun b => col b = 2) TP (ad 4) ∧ en h R O sn ∧ ec h col ad R := hc
theorem ce.mk {g : jg_G} {h : jh_H} {col ad R : Nat → Nat} {E : cd_E} {se n tw sn : Nat} {ln O : List Nat} {D : sd_D} {TP : Nat → Option tp_X} {er : Int32} (hc : ea h ad (R 0) n se er tw ∧ tx_is h (ad 1) (ad 2) 200 ln ∧ ed h col ad E n D se ∧ et g h (fun b => col b = 2) TP (ad 4) ∧ en h R O sn ∧ ec h col ad R) : ce g h col ad R E se (ln, n, D, TP, er, O, sn, tw) := hc
/-- cells that the engine may write -/
def cF (col : Nat → Nat) (b : Nat) : Prop := 1 ≤ col b ∧ col b ≤ 8
/-- how a call leaves it -/
def cpost (g : jg_G) (h : jh_H) (col ad : Nat → Nat) (se : Nat) (h' : jh_H) (S' : SS) : Prop := ∃ col' R' E' se', ce g h' col' ad R' E' se' S' ∧ (∀ b, b ∈ jh_L h → col' b = col b) ∧ fr (cF col) h h' ∧ se' ≤ se + 1
theorem ea.mv {h h' : jh_H} {ad : Nat → Nat} {r0 n se tw : Nat} {er : Int32} {S : Nat → Prop} (ha : ea h ad r0 n se er tw) (f : fr S h h') (hS : ¬ S (ad 0)) : ea h' ad r0 n se er tw := by
  obtain ⟨a1, a2, a3, a4, a5, a6, a7, a8, a9⟩ := ha
  have e := f.2 _ a1.1 hS
  exact ⟨e.O a1, (e.2.2.2.2.1 0).trans a2, (e.2.2.2.2.1 1).trans a3, (e.2.2.2.2.1 4).trans a4, (e.2.2.2.2.1 6).trans a5, (e.2.2.1 2).trans a6, (e.2.2.1 3).trans a7, (e.2.2.1 5).trans a8, (e.2.2.1 7).trans a9⟩
theorem ea.tw {h : jh_H} {ad : Nat → Nat} {r0 n se tw tw' : Nat} {er : Int32} (ha : ea h ad r0 n se er tw) : ea (jh_si h (ad 0) 7 (nI tw')) ad r0 n se er tw' := by
  obtain ⟨a1, a2, a3, a4, a5, a6, a7, a8, a9⟩ := ha
  exact ⟨a1, a2, a3, a4, a5, (jh_u_k _ _ _ _ (by decide)).trans a6, (jh_u_k _ _ _ _ (by decide)).trans a7, (jh_u_k _ _ _ _ (by decide)).trans a8, jh_u_s _ _ _ _⟩
set_option maxHeartbeats 4000000 in
set_option maxRecDepth 100000 in
theorem cd_mem {h : jh_H} {n : Nat} {D : sd_D} {E : cd_E} {P : Nat → Prop} (hc : cd_ok h n D E P) {x : Nat} (hx : x < n) : P (E.1 x) := (hc.2 x hx).1
theorem ed.mv {h h' : jh_H} {col ad : Nat → Nat} {E : cd_E} {n se : Nat} {D : sd_D} {S : Nat → Prop} (hd : ed h col ad E n D se) (f : fr S h h') (h3 : ¬ S (ad 3)) (h1 : ∀ b, col b = 1 → b ∈ jh_L h → ¬ S b) (hcl : ∀ b, col b ≠ 0 → b ∈ jh_L h) : ed h' col ad E n D se := by
  obtain ⟨d1, d2, d3, d4, d5⟩ := hd
  have e := f.2 _ d1.1 h3
  have eP : ∀ b, col b = 1 → jh_eq h h' b := fun b hb => f.2 b (hcl b (by rw [hb]; decide)) (h1 b hb (hcl b (by rw [hb]; decide)))
  refine ⟨e.A d1, fun x hx => (e.2.2.2.2.2.2.2 x).trans (d2 x hx), d3.eq eP, fun y hy => ?_, d5⟩
  obtain ⟨s, s1, s2⟩ := d4 y hy
  exact ⟨s, s1, ((eP _ (cd_mem d3 hy)).2.2.1 134).trans s2⟩
theorem en.mv {h h' : jh_H} {R : Nat → Nat} {O : List Nat} {sn : Nat} {S : Nat → Prop} (hn : en h R O sn) (f : fr S h h') (hS : ∀ i, rU i → ¬ S (R i)) : en h' R O sn := by
  obtain ⟨⟨b1, b2, b3, b4, b5, b6, b7, b8, ⟨Z, b9⟩, b10⟩, n2, n3⟩ := hn
  have nS : ∀ {i}, i ≤ 11 → ¬ S (R i) := fun hi => hS _ (rU_n hi)
  have e := f.2 _ b1.1 (nS (by decide))
  have e2 := f.2 _ b5.1 (nS (by decide))
  refine ⟨⟨e.O b1, (e.2.2.2.2.1 192).trans b2, f.A b3, (e.2.2.2.2.1 194).trans b4, e2.A b5, fun j hj => ⟨(e2.2.2.2.2.2.2.2 j).trans (b6 j hj).1, ?_⟩, b7.mv f (nS (by decide)) (nS (by decide)) (nS (by decide)) (nS (by decide)) (nS (by decide)) (nS (by decide)), (e.2.2.2.2.1 198).trans b8, ⟨Z, b9.fr f (nS (by decide)) (nS (by decide))⟩, (e.2.2.2.2.1 199).trans b10⟩, n2.fr f (nS (by decide)) (nS (by decide)), (e.2.2.1 204).trans n3⟩
  obtain ⟨u1, u2, u3⟩ := rU_1 hj
  exact (b6 j hj).2.mv f (hS _ u1) (hS _ u2) (hS _ u3)
/-- new cells get the colour c -/
def cnew (h h' : jh_H) (col : Nat → Nat) (c b : Nat) : Nat := if b ∈ jh_L h then col b else if b ∈ jh_L h' then c else 0
theorem cnew_old {h h' : jh_H} {col : Nat → Nat} {c b : Nat} (hb : b ∈ jh_L h) : cnew h h' col c b = col b := if_pos hb
theorem cnew_new {h h' : jh_H} {col : Nat → Nat} {c b : Nat} (hb : b ∉ jh_L h) (hb' : b ∈ jh_L h') : cnew h h' col c b = c := by unfold cnew; rw [if_neg hb, if_pos hb']
theorem cnew_is {h h' : jh_H} {col : Nat → Nat} {c k b : Nat} (hcl : ∀ b, col b ≠ 0 → b ∈ jh_L h) (hk : k ≠ 0) (e : col b = k) : cnew h h' col c b = k := by
  rw [cnew_old (hcl b (by rw [e]; exact hk)), e]
theorem cnew_in {h h' : jh_H} {col : Nat → Nat} {c b : Nat} (hs : ∀ b, b ∈ jh_L h → b ∈ jh_L h') (hb : cnew h h' col c b ≠ 0) : b ∈ jh_L h' := by
  unfold cnew at hb
  by_cases c1 : b ∈ jh_L h
  · exact hs b c1
  · rw [if_neg c1] at hb
    by_cases c2 : b ∈ jh_L h'
    · exact c2
    · rw [if_neg c2] at hb
      exact absurd rfl hb
theorem ec.mv {h h' : jh_H} {col ad R : Nat → Nat} {c : Nat} {S : Nat → Prop} (hc : ec h col ad R) (f : fr S h h') : ec h' (cnew h h' col c) ad R := by
  obtain ⟨c1, c2, c3, c4, c5, c6, c7, c8⟩ := hc
  exact ⟨c1, fun i hi => cnew_is c7 (by decide) (c2 i hi), cnew_is c7 (by decide) c3, cnew_is c7 (by decide) c4, cnew_is c7 (by decide) c5, cnew_is c7 (by decide) c6, fun b hb => cnew_in (fun b hb => (f.1 b hb).1) hb, cnew_is c7 (by decide) c8⟩
theorem ec.sm {h h' : jh_H} {col ad R : Nat → Nat} {S : Nat → Prop} (hc : ec h col ad R) (f : fr S h h') : ec h' col ad R := by
  obtain ⟨c1, c2, c3, c4, c5, c6, c7, c8⟩ := hc
  exact ⟨c1, c2, c3, c4, c5, c6, fun b hb => (f.1 b (c7 b hb)).1, c8⟩
theorem ed.cl {h : jh_H} {col col' ad : Nat → Nat} {E : cd_E} {n se : Nat} {D : sd_D} (hd : ed h col ad E n D se) (hc : ∀ b, col b = 1 → col' b = 1) : ed h col' ad E n D se := ⟨hd.1, hd.2.1, hd.2.2.1.mono hc, hd.2.2.2⟩
-- the frame: whatever was written is the engine's
theorem fr.ne {S : Nat → Prop} {col : Nat → Nat} {h h' : jh_H} (f : fr S h h') (hS : ∀ b, b ∈ jh_L h → S b → cF col b) : fr (cF col) h h' := f.mono hS
-- the counter of calls that threw, up
theorem ce.tw {g : jg_G} {h : jh_H} {col ad R : Nat → Nat} {E : cd_E} {se n tw sn tw' : Nat} {ln O : List Nat} {D : sd_D} {TP : Nat → Option tp_X} {er : Int32} (hc : ce g h col ad R E se (ln, n, D, TP, er, O, sn, tw)) : ce g (jh_si h (ad 0) 7 (nI tw')) col ad R E se (ln, n, D, TP, er, O, sn, tw') ∧ fr (cF col) h (jh_si h (ad 0) 7 (nI tw')) := by
  obtain ⟨c1, c2, c3, c4, c5, c6⟩ := hc
  have f : fr (fun b => b = ad 0) h (jh_si h (ad 0) 7 (nI tw')) := fr.si fr.rf rfl
  obtain ⟨k1, k2, k3, k4, k5, k6, k7, k8⟩ := id c6
  have nc : ∀ {b}, col b ≠ 4 → b ≠ ad 0 := fun hb e => hb (by rw [e]; exact k3)
  refine ⟨⟨c1.tw, c2.fr f (nc (by rw [k4]; decide)) (nc (by rw [k5]; decide)), c3.mv f (nc (by rw [k6]; decide)) (fun b hb _ => nc (by rw [hb]; decide)) k7, c4.mv f (fun b hb => nc (by rw [hb]; decide)) (nc (by rw [k8]; decide)), c5.mv f (fun i hi => nc (by rw [k2 i hi]; decide)), c6.sm f⟩, f.mono (fun b _ e => ?_)⟩
  rw [e]
  exact ⟨by rw [k3]; decide, by rw [k3]; decide⟩
theorem ce.po {g : jg_G} {h h' : jh_H} {col ad R : Nat → Nat} {E : cd_E} {se : Nat} {S' : SS} (hc : ce g h' col ad R E se S') (f : fr (cF col) h h') : cpost g h col ad se h' S' := ⟨col, R, E, se, hc, fun _ _ => rfl, f, by omega⟩

