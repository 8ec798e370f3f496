/-! RENDERING, as a function; what of the model it may change, and what stays -/
def go_F (k _j : Nat) : Prop := (538 ≤ k ∧ k ≤ 543) ∨ (552 ≤ k ∧ k ≤ 559)
def go_G (k : Nat) : Prop := k = 517 ∨ (545 ≤ k ∧ k ≤ 551 ∧ k ≠ 547)
theorem go_F_in {k j : Nat} (h : go_F k j) : ∃ x ∈ mo_T, x.1 = k := by
  have h1 : ∀ q, q < 560 → ((538 ≤ q ∧ q ≤ 543) ∨ (552 ≤ q ∧ q ≤ 559)) → mo_T.any (fun x => x.1 == q) = true := by decide +kernel
  obtain ⟨x, hx, he⟩ := List.any_eq_true.mp (h1 k (by rcases h with h | h <;> omega) h)
  exact ⟨x, hx, eq_of_beq he⟩
theorem go_F.rg {r k j : Nat} (h : rg_F r k j) : go_F k j := Or.inl (by have := rg_F_k h; omega)
theorem go_F.rd {k j : Nat} (h : rd_F k j) : go_F k j := by rcases h with h | h | h <;> unfold go_F <;> omega
theorem go_F.xp {k j : Nat} (h : xp_F k j) : go_F k j := by
  rcases h with h | h | h | h
  · exact go_F.rd h
  · exact go_F.rg h
  · exact go_F.rg h
  · exact go_F.rg h
theorem go_F.sh {k j : Nat} (h : sh_F k j) : go_F k j := by
  rcases h with h | h
  · exact go_F.rd h
  · exact Or.inl (by have : k = 543 := h; omega)
theorem go_G.sr {k : Nat} (h : sr_G k) : go_G k := by rcases h with (h | h) | h <;> unfold go_G <;> omega
theorem go_G.sh {k : Nat} (h : sh_G k) : go_G k := by
  rcases h with h | h | h
  · exact go_G.sr h
  · unfold go_G; omega
  · unfold go_G; omega
/-- a template: its characters, how many tags, where they are, whose else and end is where -/
abbrev tp_X : Type := List Nat × Nat × pp_T × pp_O × pp_O
def tx (X : tp_X) (i : Nat) : Nat := X.1.getD i 0
def tp_ok (X : tp_X) : Prop := X.1.length ≤ 200 ∧ pp_all (tx X) 0 X.1.length = .inr X.2 ∧ X.2.1 ≤ 50
def go_T (h : jh_H) (ar t : Nat → Nat) (k : Nat) (o : Option tp_X) : Prop := match o with
  | none => jh_I h (ar 529) k = 0
  | some X => jh_I h (ar 529) k = 1 ∧ tp_ok X ∧ sh_ok t (tx X) (k * 200) X.1.length ∧ jh_I h (ar 527) k = nI X.1.length ∧ jh_I h (ar 528) k = nI X.2.1 ∧ mt_ok h ar (k * 50) X.2.1 (fun i => sx (k * 200) (X.2.2.1 i)) X.2.2.2.1 X.2.2.2.2
def go_D (h : jh_H) (mo : Nat) (ar : Nat → Nat) (n : Nat) (D : sd_D) (TP : Nat → Option tp_X) (t : Nat → Nat) : Prop := mo_ok h mo ar ∧ mo_D h ar n D ∧ (∀ x, x < n → sd_dp D 60 x) ∧ mo_tx h ar t ∧ ∀ k, k < 4 → go_T h ar t k (TP k)
theorem go_T.eq {h h' : jh_H} {ar t : Nat → Nat} {k : Nat} {o : Option tp_X} (e : ∀ K j, 526 ≤ K → K ≤ 536 → jh_I h' (ar K) j = jh_I h (ar K) j) (hT : go_T h ar t k o) : go_T h' ar t k o := by
  cases o with
  | none => exact (e 529 k (by decide) (by decide)).trans hT
  | some X =>
    obtain ⟨h1, h2, h3, h4, h5, h6⟩ := hT
    refine ⟨(e 529 k (by decide) (by decide)).trans h1, h2, h3, (e 527 k (by decide) (by decide)).trans h4, (e 528 k (by decide) (by decide)).trans h5, fun i hi => ?_⟩
    obtain ⟨a1, a2, a3, a4, a5, a6, a7⟩ := h6 i hi
    exact ⟨(e 530 _ (by decide) (by decide)).trans a1, (e 532 _ (by decide) (by decide)).trans a2, (e 533 _ (by decide) (by decide)).trans a3, (e 531 _ (by decide) (by decide)).trans a4, (e 534 _ (by decide) (by decide)).trans a5, (e 535 _ (by decide) (by decide)).trans a6, (e 536 _ (by decide) (by decide)).trans a7⟩
theorem go_rd {h h' h0 : jh_H} {mo : Nat} {ar : Nat → Nat} {F : Nat → Nat → Prop} {G : Nat → Prop} (hm : mo_ok h0 mo ar) (hf : mo_fx h h' mo ar F G) (hF : ∀ k j, F k j → go_F k j) (K j : Nat) (h1 : 526 ≤ K) (h2 : K ≤ 536) : jh_I h' (ar K) j = jh_I h (ar K) j := by
  have h3 : ∀ q, q < 11 → ∃ t n, mo_T[q + 7]? = some (q + 526, t, n) := by
    intro q hq
    have : ∀ q, q < 11 → (mo_T[q + 7]?.map (fun x => x.1)) = some (q + 526) := by decide +kernel
    have h4 := this q hq
    cases h5 : mo_T[q + 7]? with
    | none => rw [h5] at h4; cases h4
    | some x =>
      obtain ⟨a, b, c⟩ := x
      rw [h5] at h4
      cases h4
      exact ⟨b, c, rfl⟩
  obtain ⟨t, n, h4⟩ := h3 (K - 526) (by omega)
  rw [show K - 526 + 526 = K by omega] at h4
  exact mo_fx.rd hm hf _ h4 (fun k z => ⟨fun e => by have := hF k j z; unfold go_F at this; omega, go_F_in (hF k j z)⟩)
theorem go_D.fx {h h' : jh_H} {mo : Nat} {ar t : Nat → Nat} {n : Nat} {D : sd_D} {TP : Nat → Option tp_X} {F : Nat → Nat → Prop} {G : Nat → Prop} (hD : go_D h mo ar n D TP t) (hf : mo_fx h h' mo ar F G) (hF : ∀ k j, F k j → go_F k j) : go_D h' mo ar n D TP t := by
  obtain ⟨h1, h2, h3, h4, h5⟩ := hD
  refine ⟨mo_fx.ok hf h1, mo_D.fx h1 hf (fun k j z => ⟨by have := hF k j z; unfold go_F at this; omega, go_F_in (hF k j z)⟩) h2, h3, fun i hi => ?_, fun k hk => go_T.eq (fun K j a b => go_rd h1 hf hF K j a b) (h5 k hk)⟩
  rw [go_rd h1 hf hF 526 i (by decide) (by decide)]
  exact h4 i hi
-- no cell of what is under way
theorem un_ok.fx {h h' h0 : jh_H} {mo : Nat} {ar : Nat → Nat} {F : Nat → Nat → Prop} {G : Nat → Prop} {m : Nat} {Fr : Nat → fr_T} (hm : mo_ok h0 mo ar) (hf : mo_fx h h' mo ar F G) (hF : ∀ k j, F k j → go_F k j ∧ (k < 552 ∨ k = 556 ∨ k = 557)) (hG : ¬ G 549) (hu : un_ok h mo ar m Fr) : un_ok h' mo ar m Fr := by
  refine ⟨by rw [mo_fx.rdi hf hG]; exact hu.1, hu.2.1, fun u hlt => ?_⟩
  obtain ⟨u1, u2, u3, u4, u5, u6, u7, u8, u8b, u9⟩ := hu.2.2 u hlt
  have rd : ∀ (i : Nat) {K t nn j : Nat}, mo_T[i]? = some (K, t, nn) → (K < 538 ∨ 551 < K) → K ≠ 556 → K ≠ 557 → jh_I h' (ar K) j = jh_I h (ar K) j := fun i K t nn j hi hK h1 h2 => mo_fx.rd hm hf i hi (fun k z => ⟨by have := hF k _ z; unfold go_F at this; omega, go_F_in (hF k _ z).1⟩)
  exact ⟨(rd 26 rfl (by decide) (by decide) (by decide)).trans u1, (rd 27 rfl (by decide) (by decide) (by decide)).trans u2, u3, (rd 15 rfl (by decide) (by decide) (by decide)).trans u4, u5, (rd 33 rfl (by decide) (by decide) (by decide)).trans u6, (rd 32 rfl (by decide) (by decide) (by decide)).trans u7, (rd 28 rfl (by decide) (by decide) (by decide)).trans u8, u8b, (rd 29 rfl (by decide) (by decide) (by decide)).trans u9⟩
-- no register from 3 on
set_option maxHeartbeats 4000000 in
set_option maxRecDepth 100000 in
theorem cx_ok.fx {h h' h0 : jh_H} {mo : Nat} {ar : Nat → Nat} {F : Nat → Nat → Prop} {G : Nat → Prop} {n cn : Nat} {D : sd_D} {C : Nat → sv_T} (hm : mo_ok h0 mo ar) (hf : mo_fx h h' mo ar F G) (hF : ∀ k j, F k j → go_F k j ∧ ∀ i, i < cn → ¬ rg_F (3 + i) k j) (hG : ¬ G 548) (hu : cx_ok h mo ar n D cn C) : cx_ok h' mo ar n D cn C := by
  refine ⟨by rw [mo_fx.rdi hf hG]; exact hu.1, hu.2.1, fun i hi => ?_⟩
  have := hu.2.1
  exact mo_R.fx hm hf (fun k j z => ⟨go_F_in (hF k j z).1, (hF k j z).2 i hi⟩) (by omega) (hu.2.2 i hi)
theorem ou_ok.fx {h h' h0 : jh_H} {mo : Nat} {ar : Nat → Nat} {F : Nat → Nat → Prop} {G : Nat → Prop} {X : List Nat} (hm : mo_ok h0 mo ar) (hf : mo_fx h h' mo ar F G) (hF : ∀ k j, F k j → go_F k j ∧ k ≠ 543) (hG : ¬ G 546) (hu : ou_ok h mo ar X) : ou_ok h' mo ar X := by
  refine ⟨by rw [mo_fx.rdi hf hG]; exact hu.1, hu.2.1, fun j hj => ⟨?_, (hu.2.2 j hj).2⟩⟩
  rw [mo_fx.rd hm hf 24 rfl (fun k z => ⟨(hF k j z).2, go_F_in (hF k j z).1⟩)]
  exact (hu.2.2 j hj).1
theorem xp_un {k j : Nat} (h : xp_F k j) : go_F k j ∧ (k < 552 ∨ k = 556 ∨ k = 557) := ⟨go_F.xp h, by have := (xp_in h).1.2; omega⟩
theorem xp_cx {k j : Nat} (h : xp_F k j) (i : Nat) : ¬ rg_F (3 + i) k j := fun z => by
  have h1 := (xp_in h).1.2
  rcases z with ⟨z, e⟩ | ⟨z, e⟩ <;> omega
theorem xp_ou {k j : Nat} (h : xp_F k j) : go_F k j ∧ k ≠ 543 := ⟨go_F.xp h, by have := (xp_in h).1.2; omega⟩
/-- the fault's number; or what is rendered and how many tags were come to -/
abbrev rn_R : Type := Nat ⊕ (List Nat × Nat)
def rn_stop (X : tp_X) (i : Nat) : Nat := if i < X.2.1 then tg_b (X.2.2.1 i) else X.1.length
def rn_text (X : tp_X) (i : Nat) : List Nat := sp_sub (tx X) (tp_at X.2.2.1 i) (rn_stop X i - tp_at X.2.2.1 i)
def rn_s (X : tp_X) (i : Nat) : Nat := tg_s (X.2.2.1 i)
def rn_xo (s : Nat) : Nat := if s ≤ 1 then 0 else if s = 3 then 4 else 6
def rn_ex (X : tp_X) (i : Nat) : ex_E := ex_ex (tx X) (tg_f (X.2.2.1 i) + rn_xo (rn_s X i)) (tg_q (X.2.2.1 i))
def rn_pt (X : tp_X) (i : Nat) : Nat := tx X (tg_f (X.2.2.1 i) + 2) - 97
def rn_many (D : sd_D) (v : sv_T) : Nat := match v with
  | some (.inr (.inr x)) => sd_c D x
  | _ => 0
def rn_over (v : sv_T) : Nat := match v with
  | some (.inr (.inr x)) => x
  | _ => 0
def rn_first (D : sd_D) (s : Nat) (v : sv_T) : Bool := if s = 3 then !sv_false D v else if s = 5 then v.isSome else decide (0 < rn_many D v)
def rn_part (D : sd_D) (v : sv_T) (j : Nat) : sv_T := sv_of D (sd_p D (rn_over v) j)
def rn_after (X : tp_X) (i : Nat) : Nat := if 3 ≤ rn_s X i ∧ rn_s X i ≤ 5 then (X.2.2.2.2 i).getD 0 + 1 else i + 1
def rn_then (r : rn_R) (k : List Nat → Nat → rn_R) : rn_R := match r with
  | .inl c => .inl c
  | .inr (O, s) => k O s
def rn_each (body : Nat → List Nat → Nat → rn_R) : Nat → Nat → List Nat → Nat → rn_R
  | 0, _, O, s => .inr (O, s)
  | m + 1, j, O, s => rn_then (body j O s) (rn_each body m (j + 1))
abbrev rn_F : Type := tp_X → Nat → (Nat → sv_T) → Nat → Option Nat → Nat → List Nat → Nat → rn_R
def rn_show (D : sd_D) (plain : Bool) (v : sv_T) (O : List Nat) (sn : Nat) : rn_R := if (sv_raw D v).length ≤ 400 ∧ O.length + (es_L plain (sv_raw D v)).length ≤ 400 then .inr (O ++ es_L plain (sv_raw D v), sn) else .inl 4
def rn_block (D : sd_D) (R : rn_F) (X : tp_X) (i : Nat) (C : Nat → sv_T) (cn : Nat) (tn : Option Nat) (uw : Nat) (O : List Nat) (sn : Nat) (v : sv_T) : rn_R :=
  if rn_first D (rn_s X i) v then
    (if rn_s X i = 3 then R X (i + 1) C cn tn uw O sn
    else if rn_s X i = 5 then R X (i + 1) (va_up C cn v) (cn + 1) tn uw O sn
    else rn_each (fun j => R X (i + 1) (va_up C cn (rn_part D v j)) (cn + 1) (some j) uw) (rn_many D v) 0 O sn)
  else match X.2.2.2.1 i with
    | none => .inr (O, sn)
    | some o => R X (o + 1) C cn tn uw O sn
/-- what the tag i does -/
def rn_do (D : sd_D) (TP : Nat → Option tp_X) (R : rn_F) (X : tp_X) (i : Nat) (C : Nat → sv_T) (cn : Nat) (tn : Option Nat) (uw : Nat) (O : List Nat) (sn : Nat) : rn_R :=
  if rn_s X i = 2 then .inr (O, sn)
  else if rn_s X i = 10 then (match TP (rn_pt X i) with
    | none => .inl 2
    | some Y => if uw = 3 then .inl 3 else R Y 0 C cn none (uw + 1) O sn)
  else match ev_ex D C cn tn (rn_ex X i) with
    | none => .inl 4
    | some v => if rn_s X i ≤ 1 then rn_show D (decide (rn_s X i = 1)) v O sn else rn_block D R X i C cn tn uw O sn v
def rn (D : sd_D) (TP : Nat → Option tp_X) : Nat → rn_F
  | 0 => fun _ _ _ _ _ _ _ _ => .inl 0
  | f + 1 => fun X i C cn tn uw O sn =>
    if 400 < O.length + (rn_text X i).length then .inl 4
    else if X.2.1 ≤ i ∨ (6 ≤ rn_s X i ∧ rn_s X i ≤ 9) then .inr (O ++ rn_text X i, sn)
    else if sn = 600 then .inl 4
    else rn_then (rn_do D TP (rn D TP f) X i C cn tn uw (O ++ rn_text X i) (sn + 1)) (rn D TP f X (rn_after X i) C cn tn uw)

