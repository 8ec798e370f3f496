/-! RENDERER: the tree of parts; the state of a rendering -/
def pt_srt (s : Nat) : Nat := if s = 0 then 103 else if s = 1 then 102 else if s = 2 then 104 else if s = 3 then 106 else if s = 4 then 107 else if s = 5 then 108 else 105
abbrev pt_end (X : tp_X) (i : Nat) : Prop := X.2.1 ≤ i ∨ (6 ≤ rn_s X i ∧ rn_s X i ≤ 9)
def pt_tl (X : tp_X) (T : Nat → Nat) (i : Nat) : Option Nat := if pt_end X i then none else some (T i)
def pt_hd (X : tp_X) (A T : Nat → Nat) (i : Nat) : Option Nat := if rn_text X i = [] then pt_tl X T i else some (A i)
def pt_el (X : tp_X) (A T : Nat → Nat) (o : Option Nat) : Option Nat := match o with
  | none => none
  | some o => pt_hd X A T (o + 1)
/-- the plain part before tag i -/
def pt_pl (g : jg_G) (h : jh_H) (P0 : Nat → Prop) (X : tp_X) (A T : Nat → Nat) (i : Nat) : Prop := P0 (A i) ∧ jh_O h (A i) 5 ∧ jh_r h (A i) 320 = some (jg_c g 101) ∧ (∃ tb ch cap, jh_r h (A i) 322 = some tb ∧ P0 tb ∧ P0 ch ∧ tx_is h tb ch cap (rn_text X i)) ∧ jh_r h (A i) 325 = pt_tl X T i
/-- the part of tag i -/
def pt_tg (g : jg_G) (h : jh_H) (P0 : Nat → Prop) (X : tp_X) (A T : Nat → Nat) (i : Nat) : Prop := P0 (T i) ∧ jh_O h (T i) 5 ∧ jh_r h (T i) 320 = some (jg_c g (pt_srt (rn_s X i))) ∧ jh_r h (T i) 325 = pt_hd X A T (rn_after X i) ∧ (rn_s X i = 10 → jh_i h (T i) 324 = nI (rn_pt X i)) ∧ (rn_s X i ≠ 2 → rn_s X i ≠ 10 → ∃ e, jh_r h (T i) 323 = some e ∧ xp_ok g h P0 (rn_ex X i) e) ∧ (3 ≤ rn_s X i → rn_s X i ≤ 5 → jh_r h (T i) 326 = pt_hd X A T (i + 1) ∧ jh_r h (T i) 327 = pt_el X A T (X.2.2.2.1 i))
def pt_ok (g : jg_G) (h : jh_H) (P0 : Nat → Prop) (X : tp_X) (A T : Nat → Nat) (rt : Nat) : Prop := P0 rt ∧ jh_O h rt 5 ∧ jh_r h rt 326 = pt_hd X A T 0 ∧ (∀ i, i ≤ X.2.1 → rn_text X i ≠ [] → pt_pl g h P0 X A T i) ∧ ∀ i, ¬ pt_end X i → pt_tg g h P0 X A T i
theorem pt_pl.fr {g : jg_G} {h h' : jh_H} {P0 S : Nat → Prop} {X : tp_X} {A T : Nat → Nat} {i : Nat} (hp : pt_pl g h P0 X A T i) (f : fr S h h') (hS : ∀ b, P0 b → ¬ S b) : pt_pl g h' P0 X A T i := by
  obtain ⟨p1, p2, p3, ⟨tb, ch, cap, p4, p5, p6, p7⟩, p8⟩ := hp
  have e := f.2 _ p2.1 (hS _ p1)
  exact ⟨p1, e.O p2, (e.2.2.2.2.1 320).trans p3, ⟨tb, ch, cap, (e.2.2.2.2.1 322).trans p4, p5, p6, p7.fr f (hS _ p5) (hS _ p6)⟩, (e.2.2.2.2.1 325).trans p8⟩
theorem pt_tg.fr {g : jg_G} {h h' : jh_H} {P0 S : Nat → Prop} {X : tp_X} {A T : Nat → Nat} {i : Nat} (hp : pt_tg g h P0 X A T i) (f : fr S h h') (hS : ∀ b, P0 b → ¬ S b) : pt_tg g h' P0 X A T i := by
  obtain ⟨p1, p2, p3, p4, p5, p6, p7⟩ := hp
  have e := f.2 _ p2.1 (hS _ p1)
  refine ⟨p1, e.O p2, (e.2.2.2.2.1 320).trans p3, (e.2.2.2.2.1 325).trans p4, fun z => (e.2.2.1 324).trans (p5 z), fun z1 z2 => ?_, fun z1 z2 => ⟨(e.2.2.2.2.1 326).trans (p7 z1 z2).1, (e.2.2.2.2.1 327).trans (p7 z1 z2).2⟩⟩
  obtain ⟨x, x1, x2⟩ := p6 z1 z2
  exact ⟨x, (e.2.2.2.2.1 323).trans x1, x2.fr f hS⟩
theorem pt_ok.fr {g : jg_G} {h h' : jh_H} {P0 S : Nat → Prop} {X : tp_X} {A T : Nat → Nat} {rt : Nat} (hp : pt_ok g h P0 X A T rt) (f : fr S h h') (hS : ∀ b, P0 b → ¬ S b) : pt_ok g h' P0 X A T rt := by
  obtain ⟨p1, p2, p3, p4, p5⟩ := hp
  have e := f.2 _ p2.1 (hS _ p1)
  exact ⟨p1, e.O p2, (e.2.2.2.2.1 326).trans p3, fun i h1 h2 => (p4 i h1 h2).fr f hS, fun i h1 => (p5 i h1).fr f hS⟩
/-- the templates: their row, and each one's tree -/
def pt_all (g : jg_G) (h : jh_H) (P0 : Nat → Prop) (TP : Nat → Option tp_X) (tp : Nat) : Prop := P0 tp ∧ jh_A h tp 5 4 ∧ ∀ k, k < 4 → match TP k with
  | none => jh_R h tp k = none
  | some X => tp_ok X ∧ ∃ A T rt, jh_R h tp k = some rt ∧ pt_ok g h P0 X A T rt
theorem pt_all.fr {g : jg_G} {h h' : jh_H} {P0 S : Nat → Prop} {TP : Nat → Option tp_X} {tp : Nat} (hp : pt_all g h P0 TP tp) (f : fr S h h') (hS : ∀ b, P0 b → ¬ S b) : pt_all g h' P0 TP tp := by
  obtain ⟨p1, p2, p3⟩ := hp
  have e := f.2 _ p2.1 (hS _ p1)
  refine ⟨p1, e.A p2, fun k hk => ?_⟩
  have := p3 k hk
  cases hT : TP k with
  | none => rw [hT] at this; exact (e.2.2.2.2.2.2.2 k).trans this
  | some X =>
    rw [hT] at this
    obtain ⟨x0, A, T, rt, x1, x2⟩ := this
    exact ⟨x0, A, T, rt, (e.2.2.2.2.2.2.2 k).trans x1, x2.fr f hS⟩
/-- cells of the renderer by their codes -/
def rS (R : Nat → Nat) (I : Nat → Prop) (b : Nat) : Prop := ∃ i, rU i ∧ I i ∧ b = R i
theorem rS.no {P0 : Nat → Prop} {R : Nat → Nat} {I : Nat → Prop} {j : Nat} (hR : rR P0 R) (hj : rU j) (h : ¬ I j) : ¬ rS R I (R j) := fun ⟨i, h1, h2, h3⟩ => h (by rw [hR.1 j i hj h1 h3]; exact h2)
theorem rS.noP {P0 : Nat → Prop} {R : Nat → Nat} {I : Nat → Prop} (hR : rR P0 R) (b : Nat) (hb : P0 b) : ¬ rS R I b := fun ⟨i, h1, _, h3⟩ => hR.2 i h1 (by rw [← h3]; exact hb)
theorem rS.mono {R : Nat → Nat} {I J : Nat → Prop} {b : Nat} (h : rS R I b) (hI : ∀ i, rU i → I i → J i) : rS R J b := by
  obtain ⟨i, h1, h2, h3⟩ := h
  exact ⟨i, h1, hI i h1 h2, h3⟩
/-- codes of what a rendering at depth k may write -/
def rI (k i : Nat) : Prop := i ≠ 2 ∧ i ≠ 10 ∧ i ≠ 11 ∧ ¬ (100 ≤ i ∧ i < 100 + k) ∧ ¬ (200 ≤ i ∧ i < 200 + k) ∧ ¬ (300 ≤ i ∧ i < 300 + k)
theorem rI.mono {k k' i : Nat} (h : rI k' i) (hk : k ≤ k') : rI k i := by unfold rI at *; omega
theorem rS.noK {P0 : Nat → Prop} {R : Nat → Nat} {I : Nat → Prop} {k b : Nat} (hR : rR P0 R) (hk : k ≤ 13) (h : rP P0 R k b) (hI : ∀ i, rU i → I i → rI k i) : ¬ rS R I b := fun ⟨i, h1, h2, h3⟩ => by
  have := hI i h1 h2
  refine rP.no hR h1 hk ?_ (by rw [← h3]; exact h)
  unfold rI at this
  unfold rU at h1
  omega
theorem sl_ok.mv {h h' : jh_H} {R : Nat → Nat} {S : Nat → Prop} {j : Nat} (hs : sl_ok h R j) (f : fr S h h') (n1 : ¬ S (R (100 + j))) (n2 : ¬ S (R (200 + j))) (n3 : ¬ S (R (300 + j))) : sl_ok h' R j := by
  obtain ⟨s1, s2, ⟨Z, s3⟩, s4⟩ := hs
  have e := f.2 _ s1.1 n1
  exact ⟨e.O s1, (e.2.2.2.2.1 130).trans s2, ⟨Z, s3.fr f n2 n3⟩, (e.2.2.1 133).trans s4⟩
theorem rv_ok.mv {h h' : jh_H} {R : Nat → Nat} {S : Nat → Prop} (hv : rv_ok h R) (f : fr S h h') (n0 : ¬ S (R 0)) (n3 : ¬ S (R 3)) (n4 : ¬ S (R 4)) (n5 : ¬ S (R 5)) (n6 : ¬ S (R 6)) (n7 : ¬ S (R 7)) : rv_ok h' R := by
  obtain ⟨v1, v2, v3, v4, v5, ⟨Z, v6⟩, v7, ⟨Z', v8⟩⟩ := hv
  have e := f.2 _ v1.1 n0
  have e3 := f.2 _ v3.1 n3
  exact ⟨e.O v1, (e.2.2.2.2.1 195).trans v2, e3.O v3, (e3.2.2.1 133).trans v4, (e.2.2.2.2.1 196).trans v5, ⟨Z, v6.fr f n4 n5⟩, (e.2.2.2.2.1 197).trans v7, ⟨Z', v8.fr f n6 n7⟩⟩
/-- the renderer's own cells -/
def rb_ok (h : jh_H) (R : Nat → Nat) : Prop := jh_O h (R 0) 3 ∧ jh_r h (R 0) 192 = some (R 1) ∧ jh_A h (R 1) 4 13 ∧ jh_r h (R 0) 194 = some (R 2) ∧ jh_A h (R 2) 4 13 ∧ (∀ j, j < 13 → jh_R h (R 2) j = some (R (100 + j)) ∧ sl_ok h R j) ∧ rv_ok h R ∧ jh_r h (R 0) 198 = some (R 8) ∧ (∃ Z, tx_is h (R 8) (R 9) 400 Z) ∧ jh_r h (R 0) 199 = some (R 10)
theorem rU_n {i : Nat} (h : i ≤ 11) : rU i := Or.inl h
theorem rU_1 {j : Nat} (h : j < 13) : rU (100 + j) ∧ rU (200 + j) ∧ rU (300 + j) := ⟨Or.inr (Or.inl (by omega)), Or.inr (Or.inr (Or.inl (by omega))), Or.inr (Or.inr (Or.inr (by omega)))⟩
theorem rb_ok.mv {P0 : Nat → Prop} {h h' : jh_H} {R : Nat → Nat} {I : Nat → Prop} (hR : rR P0 R) (hb : rb_ok h R) (f : fr (rS R I) h h') (n0 : ¬ I 0) (n2 : ¬ I 2) (sl : ∀ j, j < 13 → (I (100 + j) ∨ I (200 + j) ∨ I (300 + j)) → sl_ok h' R j) (rv : (I 3 ∨ I 4 ∨ I 5 ∨ I 6 ∨ I 7) → rv_ok h' R) (tx : (I 8 ∨ I 9) → ∃ Z, tx_is h' (R 8) (R 9) 400 Z) : rb_ok h' R := by
  obtain ⟨b1, b2, b3, b4, b5, b6, b7, b8, ⟨Z, b9⟩, b10⟩ := hb
  have nI : ∀ {j}, j ≤ 11 → ¬ I j → ¬ rS R I (R j) := fun h1 h2 => rS.no hR (rU_n h1) h2
  have e := f.2 _ b1.1 (nI (by decide) n0)
  have e2 := f.2 _ b5.1 (nI (by decide) n2)
  refine ⟨e.O b1, (e.2.2.2.2.1 192).trans b2, f.A b3, (e.2.2.2.2.1 194).trans b4, e2.A b5, fun j hj => ⟨(e2.2.2.2.2.2.2.2 j).trans (b6 j hj).1, ?_⟩, ?_, (e.2.2.2.2.1 198).trans b8, ?_, (e.2.2.2.2.1 199).trans b10⟩
  · by_cases z : I (100 + j) ∨ I (200 + j) ∨ I (300 + j)
    · exact sl j hj z
    · obtain ⟨u1, u2, u3⟩ := rU_1 hj
      exact (b6 j hj).2.mv f (rS.no hR u1 (fun y => z (Or.inl y))) (rS.no hR u2 (fun y => z (Or.inr (Or.inl y)))) (rS.no hR u3 (fun y => z (Or.inr (Or.inr y))))
  · by_cases z : I 3 ∨ I 4 ∨ I 5 ∨ I 6 ∨ I 7
    · exact rv z
    · exact b7.mv f (nI (by decide) n0) (nI (by decide) (fun y => z (Or.inl y))) (nI (by decide) (fun y => z (Or.inr (Or.inl y)))) (nI (by decide) (fun y => z (Or.inr (Or.inr (Or.inl y))))) (nI (by decide) (fun y => z (Or.inr (Or.inr (Or.inr (Or.inl y)))))) (nI (by decide) (fun y => z (Or.inr (Or.inr (Or.inr (Or.inr y))))))
  · by_cases z : I 8 ∨ I 9
    · exact tx z
    · exact ⟨Z, b9.fr f (nI (by decide) (fun y => z (Or.inl y))) (nI (by decide) (fun y => z (Or.inr y)))⟩
-- an int of the renderer itself is written
theorem rb_ok.i {P0 : Nat → Prop} {h : jh_H} {R : Nat → Nat} {q : Nat} {v : Int32} (hR : rR P0 R) (hb : rb_ok h R) : rb_ok (jh_si h (R 0) q v) R := by
  obtain ⟨b1, b2, b3, b4, b5, b6, b7, b8, ⟨Z, b9⟩, b10⟩ := hb
  have f : fr (rS R (fun i => i = 0)) h (jh_si h (R 0) q v) := fr.si fr.rf ⟨0, rU_n (by decide), rfl, rfl⟩
  have nI : ∀ {j}, j ≤ 11 → j ≠ 0 → ¬ rS R (fun i => i = 0) (R j) := fun h1 h2 => rS.no hR (rU_n h1) h2
  refine ⟨b1, b2, b3, b4, b5, fun j hj => ⟨(b6 j hj).1, ?_⟩, ?_, b8, ⟨Z, b9.fr f (nI (by decide) (by decide)) (nI (by decide) (by decide))⟩, b10⟩
  · obtain ⟨u1, u2, u3⟩ := rU_1 hj
    exact (b6 j hj).2.mv f (rS.no hR u1 (by omega)) (rS.no hR u2 (by omega)) (rS.no hR u3 (by omega))
  · obtain ⟨v1, v2, v3, v4, v5, ⟨Z, v6⟩, v7, ⟨Z', v8⟩⟩ := b7
    exact ⟨v1, v2, v3, (jh_u_a _ _ _ _ (hR.ne (rU_n (by decide)) (rU_n (by decide)) (by decide))).trans v4, v5, ⟨Z, v6.fr f (nI (by decide) (by decide)) (nI (by decide) (by decide))⟩, v7, ⟨Z', v8.fr f (nI (by decide) (by decide)) (nI (by decide) (by decide))⟩⟩
/-- what lasts of a rendering, however it ends -/
def rx_S (h0 h : jh_H) (R : Nat → Nat) : Prop := fr (rS R (rI 0)) h0 h ∧ rb_ok h R ∧ jh_i h (R 0) 204 = jh_i h0 (R 0) 204
/-- relative to where the call began: cells below stay -/
def rq_S (h0 he h : jh_H) (R : Nat → Nat) (k cn : Nat) : Prop := rx_S h0 h R ∧ fr (rS R (rI k)) he h ∧ ∀ i, i < cn → jh_R h (R 1) i = jh_R he (R 1) i
def rs_S (h0 he h : jh_H) (n : Nat) (D : sd_D) (E : cd_E) (P0 : Nat → Prop) (R : Nat → Nat) (k cn : Nat) (C : Nat → sv_T) (tn : Option Nat) (uw : Nat) (O : List Nat) (sn tp : Nat) : Prop := rq_S h0 he h R k cn ∧ rc_ok h n D E P0 R k cn C tn ∧ tx_is h (R 8) (R 9) 400 O ∧ jh_i h (R 0) 203 = nI sn ∧ sn ≤ 600 ∧ jh_i h (R 0) 201 = nI uw ∧ jh_r h (R 0) 200 = some tp
theorem rq_S.si {P0 : Nat → Prop} {h0 he h : jh_H} {R : Nat → Nat} {k cn q : Nat} {v : Int32} (hR : rR P0 R) (hs : rq_S h0 he h R k cn) (hq : q ≠ 204) : rq_S h0 he (jh_si h (R 0) q v) R k cn := by
  obtain ⟨⟨x1, x2, x3⟩, x4, x5⟩ := hs
  exact ⟨⟨fr.si x1 ⟨0, rU_n (by decide), by unfold rI; omega, rfl⟩, x2.i hR, (jh_u_k _ _ _ _ (Ne.symm hq)).trans x3⟩, fr.si x4 ⟨0, rU_n (by decide), by unfold rI; omega, rfl⟩, x5⟩
theorem rq_S.sR {P0 : Nat → Prop} {h0 he h : jh_H} {R : Nat → Nat} {k cn q : Nat} {v : Option Nat} (hR : rR P0 R) (hs : rq_S h0 he h R k cn) (hq : cn ≤ q) : rq_S h0 he (jh_sR h (R 1) q v) R k cn := by
  obtain ⟨⟨x1, x2, x3⟩, x4, x5⟩ := hs
  have f : fr (rS R (fun i => i = 1)) h (jh_sR h (R 1) q v) := fr.sR fr.rf ⟨1, rU_n (by decide), rfl, rfl⟩
  exact ⟨⟨fr.sR x1 ⟨1, rU_n (by decide), by unfold rI; omega, rfl⟩, x2.mv hR f (by decide) (by decide) (fun j _ z => by omega) (fun z => by omega) (fun z => by omega), x3⟩, fr.sR x4 ⟨1, rU_n (by decide), by unfold rI; omega, rfl⟩, fun i hi => (jh_u_k _ _ _ _ (by omega)).trans (x5 i hi)⟩
theorem rq_S.mv {P0 : Nat → Prop} {h0 he h h' : jh_H} {R : Nat → Nat} {k cn : Nat} {I : Nat → Prop} (hR : rR P0 R) (hs : rq_S h0 he h R k cn) (f : fr (rS R I) h h') (hI : ∀ i, rU i → I i → rI k i) (n0 : ¬ I 0) (n1 : ¬ I 1) (hb : rb_ok h' R) : rq_S h0 he h' R k cn := by
  obtain ⟨⟨x1, x2, x3⟩, x4, x5⟩ := hs
  have e0 := f.2 _ x2.1.1 (rS.no hR (rU_n (by decide)) n0)
  have e1 := f.2 _ x2.2.2.1.1 (rS.no hR (rU_n (by decide)) n1)
  exact ⟨⟨x1.tr f (fun _ _ z => z.mono (fun i h1 h2 => (hI i h1 h2).mono (by omega))), hb, (e0.2.2.1 204).trans x3⟩, x4.tr f (fun _ _ z => z.mono hI), fun i hi => (e1.2.2.2.2.2.2.2 i).trans (x5 i hi)⟩
theorem rc_ok.mv {P0 : Nat → Prop} {h h' : jh_H} {n : Nat} {D : sd_D} {E : cd_E} {R : Nat → Nat} {k cn : Nat} {C : Nat → sv_T} {tn : Option Nat} {I : Nat → Prop} (hR : rR P0 R) (hs : rc_ok h n D E P0 R k cn C tn) (f : fr (rS R I) h h') (hk : k ≤ 13) (hI : ∀ i, rU i → I i → rI k i) (n0 : ¬ I 0) (n1 : ¬ I 1) : rc_ok h' n D E P0 R k cn C tn := by
  obtain ⟨r1, r2, r3, r4, r5, r6, r7, r8⟩ := hs
  have e0 := f.2 _ r1.1 (rS.no hR (rU_n (by decide)) n0)
  have e1 := f.2 _ r3.1 (rS.no hR (rU_n (by decide)) n1)
  refine ⟨e0.O r1, (e0.2.2.2.2.1 192).trans r2, e1.A r3, (e0.2.2.1 193).trans r4, r5, fun i hi => ?_, (e0.2.2.1 202).trans r7, r8⟩
  rw [e1.2.2.2.2.2.2.2 i]
  exact (r6 i hi).fr f (fun b hb => rS.noK hR hk hb hI)
-- nothing of the renderer itself and of the contexts is written
theorem rs_S.mv {P0 : Nat → Prop} {h0 he h h' : jh_H} {n : Nat} {D : sd_D} {E : cd_E} {R : Nat → Nat} {k cn uw sn tp : Nat} {C : Nat → sv_T} {tn : Option Nat} {O O' : List Nat} {I : Nat → Prop} (hR : rR P0 R) (hs : rs_S h0 he h n D E P0 R k cn C tn uw O sn tp) (f : fr (rS R I) h h') (hk : k ≤ 13) (hI : ∀ i, rU i → I i → rI k i) (n0 : ¬ I 0) (n1 : ¬ I 1) (hb : rb_ok h' R) (ht : tx_is h' (R 8) (R 9) 400 O') : rs_S h0 he h' n D E P0 R k cn C tn uw O' sn tp := by
  obtain ⟨q, c, t, s1, s2, s3, s4⟩ := hs
  have e0 := f.2 _ c.1.1 (rS.no hR (rU_n (by decide)) n0)
  exact ⟨q.mv hR f hI n0 n1 hb, c.mv hR f hk hI n0 n1, ht, (e0.2.2.1 203).trans s1, s2, (e0.2.2.1 201).trans s3, (e0.2.2.2.2.1 200).trans s4⟩
def rE (k i : Nat) : Prop := (3 ≤ i ∧ i ≤ 7) ∨ i = 100 + k ∨ i = 200 + k ∨ i = 300 + k
theorem ev_rS {R : Nat → Nat} {k b : Nat} (hk : k < 13) (h : ev_S R k b) : rS R (rE k) b := by
  obtain ⟨u1, u2, u3⟩ := rU_1 hk
  rcases h with h | h | h | h | h | h | h | h
  · exact ⟨3, rU_n (by decide), by unfold rE; omega, h⟩
  · exact ⟨4, rU_n (by decide), by unfold rE; omega, h⟩
  · exact ⟨5, rU_n (by decide), by unfold rE; omega, h⟩
  · exact ⟨6, rU_n (by decide), by unfold rE; omega, h⟩
  · exact ⟨7, rU_n (by decide), by unfold rE; omega, h⟩
  · exact ⟨_, u1, by unfold rE; omega, h⟩
  · exact ⟨_, u2, by unfold rE; omega, h⟩
  · exact ⟨_, u3, by unfold rE; omega, h⟩
-- an evaluation
theorem rb_ok.ev {P0 : Nat → Prop} {h h' : jh_H} {R : Nat → Nat} {k : Nat} (hR : rR P0 R) (hk : k < 13) (hb : rb_ok h R) (hv : rv_st h h' R k) : rb_ok h' R := by
  have f : fr (rS R (rE k)) h h' := hv.1.mono (fun _ _ z => ev_rS hk z)
  refine hb.mv hR f (by unfold rE; omega) (by unfold rE; omega) (fun j hj z => ?_) (fun _ => hv.2.1) (fun z => by unfold rE at z; omega)
  have : j = k := by unfold rE at z; omega
  rw [this]; exact hv.2.2
theorem rs_S.ev {P0 : Nat → Prop} {h0 he h h' : jh_H} {n : Nat} {D : sd_D} {E : cd_E} {R : Nat → Nat} {k cn uw sn tp : Nat} {C : Nat → sv_T} {tn : Option Nat} {O : List Nat} (hR : rR P0 R) (hk : k < 13) (hs : rs_S h0 he h n D E P0 R k cn C tn uw O sn tp) (hv : rv_st h h' R k) : rs_S h0 he h' n D E P0 R k cn C tn uw O sn tp := by
  have f : fr (rS R (rE k)) h h' := hv.1.mono (fun _ _ z => ev_rS hk z)
  exact hs.mv hR f (by omega) (fun i hi z => by unfold rE at z; unfold rI; unfold rU at hi; omega) (by unfold rE; omega) (by unfold rE; omega) (hs.1.1.2.1.ev hR hk hv) (hs.2.2.1.fr f (rS.no hR (rU_n (by decide)) (by unfold rE; omega)) (rS.no hR (rU_n (by decide)) (by unfold rE; omega)))
theorem tx_rS {R : Nat → Nat} {i j b : Nat} {I : Nat → Prop} (hi : rU i) (hj : rU j) (h1 : I i) (h2 : I j) (h : tx_S (R i) (R j) b) : rS R I b := by
  rcases h with h | h
  · exact ⟨i, hi, h1, h⟩
  · exact ⟨j, hj, h2, h⟩
-- the result grows
theorem rs_S.tx {P0 : Nat → Prop} {h0 he h h' : jh_H} {n : Nat} {D : sd_D} {E : cd_E} {R : Nat → Nat} {k cn uw sn tp : Nat} {C : Nat → sv_T} {tn : Option Nat} {O O' : List Nat} (hR : rR P0 R) (hk : k ≤ 13) (hs : rs_S h0 he h n D E P0 R k cn C tn uw O sn tp) (ht : tx_is h' (R 8) (R 9) 400 O') (f' : fr (tx_S (R 8) (R 9)) h h') : rs_S h0 he h' n D E P0 R k cn C tn uw O' sn tp := by
  have f : fr (rS R (fun i => i = 8 ∨ i = 9)) h h' := f'.mono (fun _ _ z => tx_rS (rU_n (by decide)) (rU_n (by decide)) (Or.inl rfl) (Or.inr rfl) z)
  exact hs.mv hR f hk (fun i _ z => by unfold rI; omega) (by decide) (by decide) (hs.1.1.2.1.mv hR f (by decide) (by decide) (fun j _ z => by omega) (fun z => by omega) (fun _ => ⟨_, ht⟩)) ht
-- the left Text changes
theorem rs_S.lf {P0 : Nat → Prop} {h0 he h h' : jh_H} {n : Nat} {D : sd_D} {E : cd_E} {R : Nat → Nat} {k cn uw sn tp : Nat} {C : Nat → sv_T} {tn : Option Nat} {O Z : List Nat} (hR : rR P0 R) (hk : k ≤ 13) (hs : rs_S h0 he h n D E P0 R k cn C tn uw O sn tp) (ht : tx_is h' (R 4) (R 5) 400 Z) (f' : fr (tx_S (R 4) (R 5)) h h') : rs_S h0 he h' n D E P0 R k cn C tn uw O sn tp := by
  have f : fr (rS R (fun i => i = 4 ∨ i = 5)) h h' := f'.mono (fun _ _ z => tx_rS (rU_n (by decide)) (rU_n (by decide)) (Or.inl rfl) (Or.inr rfl) z)
  have no : ∀ {j}, j ≤ 11 → j ≠ 4 → j ≠ 5 → ¬ rS R (fun i => i = 4 ∨ i = 5) (R j) := fun h1 h2 h3 => rS.no hR (rU_n h1) (by omega)
  refine hs.mv hR f hk (fun i _ z => by unfold rI; omega) (by decide) (by decide) (hs.1.1.2.1.mv hR f (by decide) (by decide) (fun j _ z => by omega) (fun _ => ?_) (fun z => by omega)) (hs.2.2.1.fr f (no (by decide) (by decide) (by decide)) (no (by decide) (by decide) (by decide)))
  obtain ⟨v1, v2, v3, v4, v5, ⟨Z, v6⟩, v7, ⟨Z', v8⟩⟩ := hs.1.1.2.1.2.2.2.2.2.2.1
  have e0 := f.2 _ v1.1 (no (by decide) (by decide) (by decide))
  have e3 := f.2 _ v3.1 (no (by decide) (by decide) (by decide))
  exact ⟨e0.O v1, (e0.2.2.2.2.1 195).trans v2, e3.O v3, (e3.2.2.1 133).trans v4, (e0.2.2.2.2.1 196).trans v5, ⟨_, ht⟩, (e0.2.2.2.2.1 197).trans v7, ⟨Z', v8.fr f (no (by decide) (by decide) (by decide)) (no (by decide) (by decide) (by decide))⟩⟩
-- back out of a call that began at h1
theorem rs_S.back {P0 : Nat → Prop} {h0 he h h1 h2 h3 : jh_H} {n : Nat} {D : sd_D} {E : cd_E} {R : Nat → Nat} {k cn uw sn tp k' cn' uw' sn' : Nat} {C C' : Nat → sv_T} {tn tn' : Option Nat} {O O' : List Nat} (hR : rR P0 R) (hk : k' ≤ 13) (hs : rs_S h0 he h n D E P0 R k cn C tn uw O sn tp) (f1 : fr (rS R (fun i => i ≤ 1)) h h1) (c1 : ∀ i, i < cn → jh_R h1 (R 1) i = jh_R h (R 1) i) (hs2 : rs_S h0 h1 h2 n D E P0 R k' cn' C' tn' uw' O' sn' tp) (hkk : k ≤ k') (hcc : cn ≤ cn') (f3 : fr (rS R (fun i => i = 0)) h2 h3) (q3 : rx_S h0 h3 R) (e1 : jh_i h3 (R 0) 193 = nI cn) (e2 : jh_i h3 (R 0) 202 = jh_i h (R 0) 202) (e3 : jh_i h3 (R 0) 201 = nI uw) (e4 : jh_i h3 (R 0) 203 = nI sn') (e5 : jh_r h3 (R 0) 200 = some tp) : rs_S h0 he h3 n D E P0 R k cn C tn uw O' sn' tp := by
  obtain ⟨⟨qa, qb, qc⟩, c, t, s1, s2, s3, s4⟩ := hs
  obtain ⟨⟨qa2, qb2, qc2⟩, c2, t2, s12, s22, s32, s42⟩ := hs2
  obtain ⟨r1, r2, r3, r4, r5, r6, r7, r8⟩ := c
  have x3 := f3.2 _ qa2.2.1.2.2.1.1 (rS.no hR (rU_n (by decide)) (by decide))
  have rd : ∀ i, i < cn → jh_R h3 (R 1) i = jh_R h (R 1) i := fun i hi => (x3.2.2.2.2.2.2.2 i).trans ((qc2 i (by omega)).trans (c1 i hi))
  refine ⟨⟨q3, ?_, fun i hi => (rd i hi).trans (qc i hi)⟩, ⟨q3.2.1.1, q3.2.1.2.1, q3.2.1.2.2.1, e1, r5, fun i hi => ?_, e2.trans r7, r8⟩, t2.fr f3 (rS.no hR (rU_n (by decide)) (by decide)) (rS.no hR (rU_n (by decide)) (by decide)), e4, s22, e3, e5⟩
  · exact ((qb.tr f1 (fun _ _ z => z.mono (fun i hi hz => by unfold rI; omega))).tr qb2 (fun _ _ z => z.mono (fun i _ hz => hz.mono hkk))).tr f3 (fun _ _ z => z.mono (fun i _ hz => by unfold rI; omega))
  · rw [rd i hi]
    exact (((r6 i hi).fr f1 (fun b hb => rS.noK hR (by omega) hb (fun i _ hz => by unfold rI; omega))).fr qb2 (fun b hb => rS.noK hR (by omega) hb (fun i _ hz => hz.mono hkk))).fr f3 (fun b hb => rS.noK hR (by omega) hb (fun i _ hz => by unfold rI; omega))
/-- which exception a fault is -/
def rn_E (c : Nat) : String := if c = 2 then "java/util/NoSuchElementException" else if c = 3 then "java/lang/ArithmeticException" else "java/lang/IllegalStateException"
def rn_post (h0 he : jh_H) (n : Nat) (D : sd_D) (E : cd_E) (P0 : Nat → Prop) (R : Nat → Nat) (k cn : Nat) (C : Nat → sv_T) (tn : Option Nat) (uw tp : Nat) (r : rn_R) (Q : jw_O → jh_H → Prop) : Prop := match r with
  | .inl c => ∀ h', rx_S h0 h' R → Q (.inr (rn_E c)) h'
  | .inr (O, sn) => ∀ h', rs_S h0 he h' n D E P0 R k cn C tn uw O sn tp → Q (.inl none) h'

