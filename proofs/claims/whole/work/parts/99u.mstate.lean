/-! MODEL: its state -/
def mk_K (K : Nat) : Prop := (519 ≤ K ∧ K ≤ 544) ∨ (552 ≤ K ∧ K ≤ 559)
theorem mk_in {K : Nat} (h : mk_K K) : ∃ x ∈ mo_T, x.1 = K := by
  have h0 : ∀ q, q < 41 → (519 + q ≤ 544 ∨ 552 ≤ 519 + q) → (mo_T.map (fun x => x.1)).contains (519 + q) = true := by decide +kernel
  have h1 := h0 (K - 519) (by unfold mk_K at h; omega) (by unfold mk_K at h; omega)
  rw [show 519 + (K - 519) = K by unfold mk_K at h; omega] at h1
  have h2 : K ∈ mo_T.map (fun x => x.1) := by simpa using h1
  obtain ⟨x, hx, e⟩ := List.mem_map.mp h2
  exact ⟨x, hx, e⟩
theorem ar_ne {h : jh_H} {mo : Nat} {ar : Nat → Nat} (hm : mo_ok h mo ar) {K K' : Nat} (h1 : mk_K K) (h2 : mk_K K') (hn : K ≠ K') : ar K ≠ ar K' := by
  obtain ⟨x, hx, rfl⟩ := mk_in h1
  obtain ⟨y, hy, rfl⟩ := mk_in h2
  exact fun e => hn (hm.2.2 x hx y hy e)
theorem ar_mo {h : jh_H} {mo : Nat} {ar : Nat → Nat} (hm : mo_ok h mo ar) {K : Nat} (h1 : mk_K K) : mo ≠ ar K := by
  obtain ⟨x, hx, rfl⟩ := mk_in h1
  have := (hm.2.1 x hx).2
  exact fun e => by
    have h1 := hm.1.2
    rw [e, this.2] at h1
    have h1 : 100 + x.2.1 = 8 := congrArg Prod.fst h1
    omega
/-- the line, as the model has it -/
def msl (h : jh_H) (mo : Nat) (ar : Nat → Nat) (ln : List Nat) : Prop := jh_i h mo 514 = nI ln.length ∧ ln.length ≤ 200 ∧ ∀ i, i < ln.length → jh_I h (ar 519) i = nI (ln.getD i 0) ∧ ln.getD i 0 < 128
def ms (h : jh_H) (mo : Nat) (ar t : Nat → Nat) (S : SS) : Prop := mo_ok h mo ar ∧ mo_D h ar S.2.1 S.2.2.1 ∧ mo_tx h ar t ∧ (∀ k, k < 4 → go_T h ar t k (S.2.2.2.1 k)) ∧ jh_i h mo 516 = nI S.2.1 ∧ msl h mo ar S.1 ∧ jh_i h mo 515 = S.2.2.2.2.1 ∧ rs_is h mo ar S.2.2.2.2.2.1 ∧ jh_i h mo 518 = nI S.2.2.2.2.2.2.1 ∧ jh_i h mo 513 = nI S.2.2.2.2.2.2.2 ∧ sd_rk S.2.1 S.2.2.1
theorem ms.out {h : jh_H} {mo n tw sn : Nat} {ar t : Nat → Nat} {ln O : List Nat} {D : sd_D} {TP : Nat → Option tp_X} {er : Int32} (hs : ms h mo ar t (ln, n, D, TP, er, O, sn, tw)) : mo_ok h mo ar ∧ mo_D h ar n D ∧ mo_tx h ar t ∧ (∀ k, k < 4 → go_T h ar t k (TP k)) ∧ jh_i h mo 516 = nI n ∧ msl h mo ar ln ∧ jh_i h mo 515 = er ∧ rs_is h mo ar O ∧ jh_i h mo 518 = nI sn ∧ jh_i h mo 513 = nI tw ∧ sd_rk n D := hs
theorem ms.mk {h : jh_H} {mo n tw sn : Nat} {ar t : Nat → Nat} {ln O : List Nat} {D : sd_D} {TP : Nat → Option tp_X} {er : Int32} (hs : mo_ok h mo ar ∧ mo_D h ar n D ∧ mo_tx h ar t ∧ (∀ k, k < 4 → go_T h ar t k (TP k)) ∧ jh_i h mo 516 = nI n ∧ msl h mo ar ln ∧ jh_i h mo 515 = er ∧ rs_is h mo ar O ∧ jh_i h mo 518 = nI sn ∧ jh_i h mo 513 = nI tw ∧ sd_rk n D) : ms h mo ar t (ln, n, D, TP, er, O, sn, tw) := hs
theorem mo_D.eqs {h h' : jh_H} {ar : Nat → Nat} {n : Nat} {D : sd_D} (hD : mo_D h ar n D) (eI : ∀ K j, 520 ≤ K → K ≤ 524 → jh_I h' (ar K) j = jh_I h (ar K) j) (eG : ∀ j, jh_G h' (ar 524) j = jh_G h (ar 524) j) : mo_D h' ar n D := by
  refine ⟨hD.1, fun i hi => ?_⟩
  obtain ⟨d1, d2, d3, d4, d5, d6, d7⟩ := hD.2 i hi
  exact ⟨(eI 520 _ (by decide) (by decide)).trans d1, d2, (eI 521 _ (by decide) (by decide)).trans d3, d4, fun z => ⟨(d5 z).1, fun j hj => by rw [eI 522 _ (by decide) (by decide)]; exact (d5 z).2 j hj⟩, fun z => ⟨(d6 z).1, fun j hj => by rw [eI 523 _ (by decide) (by decide)]; exact (d6 z).2 j hj⟩, fun z j hj => (eG _).trans (d7 z j hj)⟩
theorem mo_tx.eqs {h h' : jh_H} {ar t : Nat → Nat} (ht : mo_tx h ar t) (eI : ∀ j, jh_I h' (ar 526) j = jh_I h (ar 526) j) : mo_tx h' ar t := fun i hi => by rw [eI]; exact ht i hi
theorem msl.eqs {h h' : jh_H} {mo : Nat} {ar : Nat → Nat} {ln : List Nat} (hl : msl h mo ar ln) (eI : ∀ j, jh_I h' (ar 519) j = jh_I h (ar 519) j) (ei : jh_i h' mo 514 = jh_i h mo 514) : msl h' mo ar ln := ⟨ei.trans hl.1, hl.2.1, fun i hi => by rw [eI]; exact hl.2.2 i hi⟩
theorem rs_is.eqs {h h' : jh_H} {mo : Nat} {ar : Nat → Nat} {X : List Nat} (hl : rs_is h mo ar X) (eI : ∀ j, jh_I h' (ar 544) j = jh_I h (ar 544) j) (ei : jh_i h' mo 547 = jh_i h mo 547) : rs_is h' mo ar X := ⟨ei.trans hl.1, hl.2.1, fun i hi => by rw [eI]; exact hl.2.2 i hi⟩
theorem ms.eqs {h h' : jh_H} {mo : Nat} {ar t : Nat → Nat} {S : SS} (hs : ms h mo ar t S) (hok : mo_ok h' mo ar) (eI : ∀ K j, mk_K K → K ≤ 544 → (K < 537 ∨ K = 544) → K ≠ 525 → jh_I h' (ar K) j = jh_I h (ar K) j) (eG : ∀ j, jh_G h' (ar 524) j = jh_G h (ar 524) j) (ei : ∀ k, k = 513 ∨ k = 514 ∨ k = 515 ∨ k = 516 ∨ k = 518 ∨ k = 547 → jh_i h' mo k = jh_i h mo k) : ms h' mo ar t S := by
  obtain ⟨s1, s2, s3, s4, s5, s6, s7, s8, s9, s10, s11⟩ := hs
  have kk : ∀ {K}, 519 ≤ K → K ≤ 544 → mk_K K := fun a b => Or.inl ⟨a, b⟩
  exact ⟨hok, s2.eqs (fun K j a b => eI K j (kk (by omega) (by omega)) (by omega) (by omega) (by omega)) eG, s3.eqs (fun j => eI 526 j (kk (by decide) (by decide)) (by decide) (by decide) (by decide)), fun k hk => go_T.eq (fun K j a b => eI K j (kk (by omega) (by omega)) (by omega) (by omega) (by omega)) (s4 k hk), (ei _ (by decide)).trans s5, s6.eqs (fun j => eI 519 j (kk (by decide) (by decide)) (by decide) (by decide) (by decide)) (ei _ (by decide)), (ei _ (by decide)).trans s7, s8.eqs (fun j => eI 544 j (kk (by decide) (by decide)) (by decide) (by decide) (by decide)) (ei _ (by decide)), (ei _ (by decide)).trans s9, (ei _ (by decide)).trans s10, s11⟩
theorem mo_ok.si {h : jh_H} {mo k : Nat} {ar : Nat → Nat} {v : Int32} (hm : mo_ok h mo ar) : mo_ok (jh_si h mo k v) mo ar := hm
theorem ms.si {h : jh_H} {mo k : Nat} {ar t : Nat → Nat} {S : SS} {v : Int32} (hs : ms h mo ar t S) (hk : k ≠ 513 ∧ k ≠ 514 ∧ k ≠ 515 ∧ k ≠ 516 ∧ k ≠ 518 ∧ k ≠ 547) : ms (jh_si h mo k v) mo ar t S := hs.eqs hs.1 (fun _ _ _ _ _ _ => rfl) (fun _ => rfl) (fun q hq => jh_u_k _ _ _ _ (by omega))
-- the model's own cells
def mF (col : Nat → Nat) (b : Nat) : Prop := col b = 9
/-- how a call of the model ends -/
def mpost (h : jh_H) (col : Nat → Nat) (mo : Nat) (ar : Nat → Nat) (h' : jh_H) (S' : SS) (c : Int32) : Prop := (∃ t', ms h' mo ar t' S') ∧ jh_i h' mo 512 = c ∧ fr (mF col) h h'
/-- the model's cells by their colour -/
def mc9 (col : Nat → Nat) (mo : Nat) (ar : Nat → Nat) : Prop := col mo = 9 ∧ ∀ k, col (ar k) = 9
theorem mo_fx.fr {h h' : jh_H} {mo : Nat} {col ar : Nat → Nat} {F : Nat → Nat → Prop} {G : Nat → Prop} (f : mo_fx h h' mo ar F G) (hc : mc9 col mo ar) : fr (mF col) h h' := by
  obtain ⟨e1, e2, e3, e4, e5, e6, e7, e8⟩ := f
  exact ⟨fun b hb => ⟨by rw [e1]; exact hb, by rw [e2]⟩, fun b hb hn => ⟨fun _ => by rw [e1]; exact hb, by rw [e2], fun k => e7 b k (fun e => absurd (by rw [e]; exact hc.1) hn), fun k => by rw [e3], fun k => by rw [e4], fun j => e8 b j (fun k _ e => hn (by rw [e]; exact hc.2 k)), fun k => by rw [e5], fun k => by rw [e6]⟩⟩
theorem mo_fr.fr {h h' : jh_H} {mo : Nat} {col ar : Nat → Nat} {F : Nat → Nat → Prop} (f : mo_fr h h' ar F) (hc : mc9 col mo ar) : fr (mF col) h h' := by
  obtain ⟨e1, e2, e3, e4, e5, e6, e7, e8⟩ := f
  exact ⟨fun b hb => ⟨by rw [e1]; exact hb, by rw [e2]⟩, fun b hb hn => ⟨fun _ => by rw [e1]; exact hb, by rw [e2], fun k => by rw [e3], fun k => by rw [e4], fun k => by rw [e5], fun j => e8 b j (fun k _ e => hn (by rw [e]; exact hc.2 k)), fun k => by rw [e6], fun k => by rw [e7]⟩⟩
-- a refusal
theorem ms.rf {h0 h : jh_H} {mo n tw sn : Nat} {col ar t : Nat → Nat} {ln O : List Nat} {D : sd_D} {TP : Nat → Option tp_X} {er c : Int32} (hc : mc9 col mo ar) (f : fr (mF col) h0 h) (hs : ms h mo ar t (ln, n, D, TP, er, O, sn, tw)) : mpost h0 col mo ar (mo_rf h mo c) (ln, n, D, TP, er, O, sn, tw + 1) c := by
  obtain ⟨s1, s2, s3, s4, s5, s6, s7, s8, s9, s10, s11⟩ := hs.out
  refine ⟨⟨t, ms.mk ⟨s1, s2, s3, s4, ?_, ⟨?_, s6.2⟩, ?_, ⟨?_, s8.2⟩, ?_, ?_, s11⟩⟩, ?_, ?_⟩
  · exact (jh_u_k _ _ _ _ (by decide)).trans ((jh_u_k _ _ _ _ (by decide)).trans s5)
  · exact (jh_u_k _ _ _ _ (by decide)).trans ((jh_u_k _ _ _ _ (by decide)).trans s6.1)
  · exact (jh_u_k _ _ _ _ (by decide)).trans ((jh_u_k _ _ _ _ (by decide)).trans s7)
  · exact (jh_u_k _ _ _ _ (by decide)).trans ((jh_u_k _ _ _ _ (by decide)).trans s8.1)
  · exact (jh_u_k _ _ _ _ (by decide)).trans ((jh_u_k _ _ _ _ (by decide)).trans s9)
  · refine (jh_u_s _ _ _ _).trans ?_
    rw [s10]
    exact nI_1 tw
  · exact (jh_u_k _ _ _ _ (by decide)).trans (jh_u_s _ _ _ _)
  · exact fr.si (fr.si f hc.1) hc.1
-- what the class does leaves the model alone
theorem ms.mv {h h' : jh_H} {mo : Nat} {ar t : Nat → Nat} {S : SS} {Sf : Nat → Prop} (hs : ms h mo ar t S) (f : fr Sf h h') (h1 : ¬ Sf mo) (h2 : ∀ k, ¬ Sf (ar k)) : ms h' mo ar t S := by
  have hm := hs.1
  have e := f.2 _ hm.1.1 h1
  have eK : ∀ K, mk_K K → jh_eq h h' (ar K) := fun K hK => by
    obtain ⟨x, hx, rfl⟩ := mk_in hK
    exact f.2 _ (hm.2.1 x hx).2.1 (h2 _)
  exact hs.eqs ⟨e.O hm.1, fun x hx => ⟨(e.2.2.2.2.1 _).trans (hm.2.1 x hx).1, f.A (hm.2.1 x hx).2⟩, hm.2.2⟩ (fun K j hK _ _ _ => (eK K hK).2.2.2.2.2.1 j) (fun j => (eK 524 (Or.inl (by decide))).2.2.2.2.2.2.1 j) (fun k _ => e.2.2.1 k)
-- helping rows and numbers
theorem ms.fx {h h' : jh_H} {mo : Nat} {ar t : Nat → Nat} {S : SS} {F : Nat → Nat → Prop} {G : Nat → Prop} (hs : ms h mo ar t S) (f : mo_fx h h' mo ar F G) (hF : ∀ k j, F k j → mk_K k ∧ (k = 525 ∨ (537 ≤ k ∧ k ≠ 544))) (hG : ∀ k, k = 513 ∨ k = 514 ∨ k = 515 ∨ k = 516 ∨ k = 518 ∨ k = 547 → ¬ G k) : ms h' mo ar t S := by
  refine hs.eqs (f.ok hs.1) (fun K j hK h1 h2 h3 => f.2.2.2.2.2.2.2 _ _ (fun k hk e => ?_)) (fun j => by rw [f.2.2.2.2.1]) (fun k hk => f.rdi (hG k hk))
  obtain ⟨z1, z2⟩ := hF k j hk
  exact ar_ne hs.1 hK z1 (by omega) e

