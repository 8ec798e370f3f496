/-! TAKING A TEMPLATE APART, as a function: the tags' table, what is open, whose else and end is where -/
abbrev pp_T : Type := Nat → Nat × Nat × Nat × Nat × Nat
abbrev pp_O : Type := Nat → Option Nat
def pp_fit (i s : Nat) (so : Nat → Nat) (d : Nat) (os : Nat → Nat) (ot la : pp_O) : Option (Nat × (Nat → Nat) × pp_O × pp_O) :=
  if 2 < s ∧ s < 6 then (if d = 4 then none else some (d + 1, va_up os d i, ot, la))
  else if s ≤ 2 ∨ s = 10 then some (d, os, ot, la)
  else if d = 0 then none
  else if s = 6 then (if (ot (os (d - 1))).isSome then none else some (d, os, va_up ot (os (d - 1)) (some i), va_up la i (some (os (d - 1)))))
  else if so (os (d - 1)) ≠ s - 4 then none
  else some (d - 1, os, ot, va_up (va_up la i (some (os (d - 1)))) (os (d - 1)) (some i))
def pp_new (t : Nat → Nat) (p e s : Nat) : Nat × Nat × Nat × Nat × Nat := (sp_k t p e, sp_f t p e, sp_q t p e, sp_q t p e + sp_n (sp_th t p e), s)
/-- from p on, with n tags taken: the fault's place, or the table -/
def pp (t : Nat → Nat) (e : Nat) : Nat → Nat → Nat → pp_T → Nat → (Nat → Nat) → pp_O → pp_O → Nat ⊕ (Nat × pp_T × pp_O × pp_O)
  | 0, p, _, _, _, _, _, _ => .inl p
  | f + 1, p, n, T, d, os, ot, la =>
    if e ≤ sp_k t p e then (if 0 < d then .inl (T (os (d - 1))).1 else .inr (n, T, ot, la))
    else if e ≤ sp_q t p e then .inl (sp_k t p e)
    else match sp_sort t (sp_f t p e) (sp_q t p e) (sp_th t p e) with
      | none => .inl (sp_k t p e)
      | some s => match pp_fit n s (fun x => (va_up T n (pp_new t p e s) x).2.2.2.2) d os (va_up ot n none) (va_up la n none) with
        | none => .inl (sp_k t p e)
        | some (d', os', ot', la') => pp t e f (sp_q t p e + sp_n (sp_th t p e)) (n + 1) (va_up T n (pp_new t p e s)) d' os' ot' la'
def pp_all (t : Nat → Nat) (p e : Nat) : Nat ⊕ (Nat × pp_T × pp_O × pp_O) := pp t e (e - p + 1) p 0 (fun _ => (0, 0, 0, 0, 0)) 0 (fun _ => 0) (fun _ => none) (fun _ => none)
/-- which cells of which rows may have changed -/
def mo_fr (h h' : jh_H) (ar : Nat → Nat) (F : Nat → Nat → Prop) : Prop := jh_L h' = jh_L h ∧ jh_K h' = jh_K h ∧ jh_i h' = jh_i h ∧ jh_g h' = jh_g h ∧ jh_r h' = jh_r h ∧ jh_G h' = jh_G h ∧ jh_R h' = jh_R h ∧ ∀ b j, (∀ k, F k j → b ≠ ar k) → jh_I h' b j = jh_I h b j
theorem mo_fr.rf {h : jh_H} {ar : Nat → Nat} {F : Nat → Nat → Prop} : mo_fr h h ar F := ⟨rfl, rfl, rfl, rfl, rfl, rfl, rfl, fun _ _ _ => rfl⟩
theorem mo_fr.sI {h h' : jh_H} {ar : Nat → Nat} {F : Nat → Nat → Prop} (hf : mo_fr h h' ar F) {k j : Nat} {v : Int32} (hk : F k j) : mo_fr h (jh_sI h' (ar k) j v) ar F := by
  obtain ⟨h1, h2, h3, h4, h5, h6, h7, h8⟩ := hf
  refine ⟨h1, h2, h3, h4, h5, h6, h7, fun b i hb => ?_⟩
  rw [← h8 b i hb]
  show jh_u (jh_I h') (ar k) j v b i = jh_I h' b i
  by_cases q : b = ar k
  · by_cases q2 : i = j
    · subst q2; exact absurd q (hb k hk)
    · exact jh_u_k _ _ _ _ q2
  · exact jh_u_a _ _ _ _ q
theorem mo_fr.ok {h h' : jh_H} {mo : Nat} {ar : Nat → Nat} {F : Nat → Nat → Prop} (hf : mo_fr h h' ar F) (hm : mo_ok h mo ar) : mo_ok h' mo ar := by
  obtain ⟨h1, h2, h3, h4, h5, h6, h7, h8⟩ := hf
  refine ⟨⟨by rw [h1]; exact hm.1.1, by rw [h2]; exact hm.1.2⟩, fun x hx => ⟨by rw [h5]; exact (hm.2.1 x hx).1, ?_⟩, hm.2.2⟩
  have := (hm.2.1 x hx).2
  exact ⟨by rw [h1]; exact this.1, by rw [h2]; exact this.2⟩
/-- the rows hold the table of n tags, from place a on -/
def mt_o (a : Nat) (r : Option Nat) : Int32 := match r with
  | none => -1
  | some x => nI (a + x)
def mt_at (h : jh_H) (ar : Nat → Nat) (a i : Nat) (x : Nat × Nat × Nat × Nat × Nat) (o l : Option Nat) : Prop := jh_I h (ar 530) (a + i) = nI x.1 ∧ jh_I h (ar 532) (a + i) = nI x.2.1 ∧ jh_I h (ar 533) (a + i) = nI x.2.2.1 ∧ jh_I h (ar 531) (a + i) = nI x.2.2.2.1 ∧ jh_I h (ar 534) (a + i) = nI x.2.2.2.2 ∧ jh_I h (ar 535) (a + i) = mt_o a o ∧ jh_I h (ar 536) (a + i) = mt_o a l
def mt_ok (h : jh_H) (ar : Nat → Nat) (a n : Nat) (T : pp_T) (ot la : pp_O) : Prop := ∀ i, i < n → mt_at h ar a i (T i) (ot i) (la i)
/-- what takeApart may change -/
def ta_F (k j : Nat) : Prop := (k = 526 ∧ 800 ≤ j) ∨ (530 ≤ k ∧ k ≤ 536 ∧ 200 ≤ j) ∨ k = 537 ∨ (k = 528 ∧ j = 4)
theorem mt_o_neg (a : Nat) {r : Option Nat} (hr : ∀ x, r = some x → a + x < 1000) : 0 ≤ mt_o a r ↔ r.isSome = true := by
  cases r with
  | none => constructor
            · intro h; exact absurd (show (0 : Int32) ≤ -1 from h) (by decide)
            · intro h; cases h
  | some x => constructor
              · intro _; rfl
              · intro _; exact nI_pos' (by have := hr x rfl; omega)
theorem tg_530 {h h0 : jh_H} {mo : Nat} {ar : Nat → Nat} (hm : mo_ok h0 mo ar) (j k f q n : Nat) (s : Option Nat) (x : Nat) : jh_I (tg_set h ar j k f q n s) (ar 530) x = if x = j then nI k else jh_I h (ar 530) x := by
  show (jh_u (jh_u (jh_u (jh_u (jh_u (jh_u (jh_u (jh_I h) (ar 530) j (nI k)) (ar 532) j (nI f)) (ar 533) j (nI q)) (ar 531) j (nI (q + n))) (ar 534) j (sp_o s)) (ar 535) j (-1)) (ar 536) j (-1)) (ar 530) x = _
  rw [jh_u_a _ _ _ _ (mo_ne hm 11 17 rfl rfl (by decide)), jh_u_a _ _ _ _ (mo_ne hm 11 16 rfl rfl (by decide)), jh_u_a _ _ _ _ (mo_ne hm 11 15 rfl rfl (by decide)), jh_u_a _ _ _ _ (mo_ne hm 11 12 rfl rfl (by decide)), jh_u_a _ _ _ _ (mo_ne hm 11 14 rfl rfl (by decide)), jh_u_a _ _ _ _ (mo_ne hm 11 13 rfl rfl (by decide))]
  by_cases z : x = j
  · subst z; rw [if_pos rfl, jh_u_s]
  · rw [if_neg z, jh_u_k _ _ _ _ z]
theorem tg_532 {h h0 : jh_H} {mo : Nat} {ar : Nat → Nat} (hm : mo_ok h0 mo ar) (j k f q n : Nat) (s : Option Nat) (x : Nat) : jh_I (tg_set h ar j k f q n s) (ar 532) x = if x = j then nI f else jh_I h (ar 532) x := by
  show (jh_u (jh_u (jh_u (jh_u (jh_u (jh_u (jh_u (jh_I h) (ar 530) j (nI k)) (ar 532) j (nI f)) (ar 533) j (nI q)) (ar 531) j (nI (q + n))) (ar 534) j (sp_o s)) (ar 535) j (-1)) (ar 536) j (-1)) (ar 532) x = _
  rw [jh_u_a _ _ _ _ (mo_ne hm 13 17 rfl rfl (by decide)), jh_u_a _ _ _ _ (mo_ne hm 13 16 rfl rfl (by decide)), jh_u_a _ _ _ _ (mo_ne hm 13 15 rfl rfl (by decide)), jh_u_a _ _ _ _ (mo_ne hm 13 12 rfl rfl (by decide)), jh_u_a _ _ _ _ (mo_ne hm 13 14 rfl rfl (by decide))]
  by_cases z : x = j
  · subst z; rw [if_pos rfl, jh_u_s]
  · rw [if_neg z, jh_u_k _ _ _ _ z, jh_u_a _ _ _ _ (mo_ne hm 13 11 rfl rfl (by decide))]
theorem tg_533 {h h0 : jh_H} {mo : Nat} {ar : Nat → Nat} (hm : mo_ok h0 mo ar) (j k f q n : Nat) (s : Option Nat) (x : Nat) : jh_I (tg_set h ar j k f q n s) (ar 533) x = if x = j then nI q else jh_I h (ar 533) x := by
  show (jh_u (jh_u (jh_u (jh_u (jh_u (jh_u (jh_u (jh_I h) (ar 530) j (nI k)) (ar 532) j (nI f)) (ar 533) j (nI q)) (ar 531) j (nI (q + n))) (ar 534) j (sp_o s)) (ar 535) j (-1)) (ar 536) j (-1)) (ar 533) x = _
  rw [jh_u_a _ _ _ _ (mo_ne hm 14 17 rfl rfl (by decide)), jh_u_a _ _ _ _ (mo_ne hm 14 16 rfl rfl (by decide)), jh_u_a _ _ _ _ (mo_ne hm 14 15 rfl rfl (by decide)), jh_u_a _ _ _ _ (mo_ne hm 14 12 rfl rfl (by decide))]
  by_cases z : x = j
  · subst z; rw [if_pos rfl, jh_u_s]
  · rw [if_neg z, jh_u_k _ _ _ _ z, jh_u_a _ _ _ _ (mo_ne hm 14 13 rfl rfl (by decide)), jh_u_a _ _ _ _ (mo_ne hm 14 11 rfl rfl (by decide))]
theorem tg_531 {h h0 : jh_H} {mo : Nat} {ar : Nat → Nat} (hm : mo_ok h0 mo ar) (j k f q n : Nat) (s : Option Nat) (x : Nat) : jh_I (tg_set h ar j k f q n s) (ar 531) x = if x = j then nI (q + n) else jh_I h (ar 531) x := by
  show (jh_u (jh_u (jh_u (jh_u (jh_u (jh_u (jh_u (jh_I h) (ar 530) j (nI k)) (ar 532) j (nI f)) (ar 533) j (nI q)) (ar 531) j (nI (q + n))) (ar 534) j (sp_o s)) (ar 535) j (-1)) (ar 536) j (-1)) (ar 531) x = _
  rw [jh_u_a _ _ _ _ (mo_ne hm 12 17 rfl rfl (by decide)), jh_u_a _ _ _ _ (mo_ne hm 12 16 rfl rfl (by decide)), jh_u_a _ _ _ _ (mo_ne hm 12 15 rfl rfl (by decide))]
  by_cases z : x = j
  · subst z; rw [if_pos rfl, jh_u_s]
  · rw [if_neg z, jh_u_k _ _ _ _ z, jh_u_a _ _ _ _ (mo_ne hm 12 14 rfl rfl (by decide)), jh_u_a _ _ _ _ (mo_ne hm 12 13 rfl rfl (by decide)), jh_u_a _ _ _ _ (mo_ne hm 12 11 rfl rfl (by decide))]
theorem tg_534 {h h0 : jh_H} {mo : Nat} {ar : Nat → Nat} (hm : mo_ok h0 mo ar) (j k f q n : Nat) (s : Option Nat) (x : Nat) : jh_I (tg_set h ar j k f q n s) (ar 534) x = if x = j then sp_o s else jh_I h (ar 534) x := by
  show (jh_u (jh_u (jh_u (jh_u (jh_u (jh_u (jh_u (jh_I h) (ar 530) j (nI k)) (ar 532) j (nI f)) (ar 533) j (nI q)) (ar 531) j (nI (q + n))) (ar 534) j (sp_o s)) (ar 535) j (-1)) (ar 536) j (-1)) (ar 534) x = _
  rw [jh_u_a _ _ _ _ (mo_ne hm 15 17 rfl rfl (by decide)), jh_u_a _ _ _ _ (mo_ne hm 15 16 rfl rfl (by decide))]
  by_cases z : x = j
  · subst z; rw [if_pos rfl, jh_u_s]
  · rw [if_neg z, jh_u_k _ _ _ _ z, jh_u_a _ _ _ _ (mo_ne hm 15 12 rfl rfl (by decide)), jh_u_a _ _ _ _ (mo_ne hm 15 14 rfl rfl (by decide)), jh_u_a _ _ _ _ (mo_ne hm 15 13 rfl rfl (by decide)), jh_u_a _ _ _ _ (mo_ne hm 15 11 rfl rfl (by decide))]
theorem tg_535 {h h0 : jh_H} {mo : Nat} {ar : Nat → Nat} (hm : mo_ok h0 mo ar) (j k f q n : Nat) (s : Option Nat) (x : Nat) : jh_I (tg_set h ar j k f q n s) (ar 535) x = if x = j then -1 else jh_I h (ar 535) x := by
  show (jh_u (jh_u (jh_u (jh_u (jh_u (jh_u (jh_u (jh_I h) (ar 530) j (nI k)) (ar 532) j (nI f)) (ar 533) j (nI q)) (ar 531) j (nI (q + n))) (ar 534) j (sp_o s)) (ar 535) j (-1)) (ar 536) j (-1)) (ar 535) x = _
  rw [jh_u_a _ _ _ _ (mo_ne hm 16 17 rfl rfl (by decide))]
  by_cases z : x = j
  · subst z; rw [if_pos rfl, jh_u_s]
  · rw [if_neg z, jh_u_k _ _ _ _ z, jh_u_a _ _ _ _ (mo_ne hm 16 15 rfl rfl (by decide)), jh_u_a _ _ _ _ (mo_ne hm 16 12 rfl rfl (by decide)), jh_u_a _ _ _ _ (mo_ne hm 16 14 rfl rfl (by decide)), jh_u_a _ _ _ _ (mo_ne hm 16 13 rfl rfl (by decide)), jh_u_a _ _ _ _ (mo_ne hm 16 11 rfl rfl (by decide))]
theorem tg_536 {h h0 : jh_H} {mo : Nat} {ar : Nat → Nat} (hm : mo_ok h0 mo ar) (j k f q n : Nat) (s : Option Nat) (x : Nat) : jh_I (tg_set h ar j k f q n s) (ar 536) x = if x = j then -1 else jh_I h (ar 536) x := by
  show (jh_u (jh_u (jh_u (jh_u (jh_u (jh_u (jh_u (jh_I h) (ar 530) j (nI k)) (ar 532) j (nI f)) (ar 533) j (nI q)) (ar 531) j (nI (q + n))) (ar 534) j (sp_o s)) (ar 535) j (-1)) (ar 536) j (-1)) (ar 536) x = _
  by_cases z : x = j
  · subst z; rw [if_pos rfl, jh_u_s]
  · rw [if_neg z, jh_u_k _ _ _ _ z, jh_u_a _ _ _ _ (mo_ne hm 17 16 rfl rfl (by decide)), jh_u_a _ _ _ _ (mo_ne hm 17 15 rfl rfl (by decide)), jh_u_a _ _ _ _ (mo_ne hm 17 12 rfl rfl (by decide)), jh_u_a _ _ _ _ (mo_ne hm 17 14 rfl rfl (by decide)), jh_u_a _ _ _ _ (mo_ne hm 17 13 rfl rfl (by decide)), jh_u_a _ _ _ _ (mo_ne hm 17 11 rfl rfl (by decide))]
theorem tg_526 {h h0 : jh_H} {mo : Nat} {ar : Nat → Nat} (hm : mo_ok h0 mo ar) (j k f q n : Nat) (s : Option Nat) (x : Nat) : jh_I (tg_set h ar j k f q n s) (ar 526) x = jh_I h (ar 526) x := by
  show (jh_u (jh_u (jh_u (jh_u (jh_u (jh_u (jh_u (jh_I h) (ar 530) j (nI k)) (ar 532) j (nI f)) (ar 533) j (nI q)) (ar 531) j (nI (q + n))) (ar 534) j (sp_o s)) (ar 535) j (-1)) (ar 536) j (-1)) (ar 526) x = _
  rw [jh_u_a _ _ _ _ (mo_ne hm 7 17 rfl rfl (by decide)), jh_u_a _ _ _ _ (mo_ne hm 7 16 rfl rfl (by decide)), jh_u_a _ _ _ _ (mo_ne hm 7 15 rfl rfl (by decide)), jh_u_a _ _ _ _ (mo_ne hm 7 12 rfl rfl (by decide)), jh_u_a _ _ _ _ (mo_ne hm 7 14 rfl rfl (by decide)), jh_u_a _ _ _ _ (mo_ne hm 7 13 rfl rfl (by decide)), jh_u_a _ _ _ _ (mo_ne hm 7 11 rfl rfl (by decide))]
theorem tg_537 {h h0 : jh_H} {mo : Nat} {ar : Nat → Nat} (hm : mo_ok h0 mo ar) (j k f q n : Nat) (s : Option Nat) (x : Nat) : jh_I (tg_set h ar j k f q n s) (ar 537) x = jh_I h (ar 537) x := by
  show (jh_u (jh_u (jh_u (jh_u (jh_u (jh_u (jh_u (jh_I h) (ar 530) j (nI k)) (ar 532) j (nI f)) (ar 533) j (nI q)) (ar 531) j (nI (q + n))) (ar 534) j (sp_o s)) (ar 535) j (-1)) (ar 536) j (-1)) (ar 537) x = _
  rw [jh_u_a _ _ _ _ (mo_ne hm 18 17 rfl rfl (by decide)), jh_u_a _ _ _ _ (mo_ne hm 18 16 rfl rfl (by decide)), jh_u_a _ _ _ _ (mo_ne hm 18 15 rfl rfl (by decide)), jh_u_a _ _ _ _ (mo_ne hm 18 12 rfl rfl (by decide)), jh_u_a _ _ _ _ (mo_ne hm 18 14 rfl rfl (by decide)), jh_u_a _ _ _ _ (mo_ne hm 18 13 rfl rfl (by decide)), jh_u_a _ _ _ _ (mo_ne hm 18 11 rfl rfl (by decide))]
theorem tg_528 {h h0 : jh_H} {mo : Nat} {ar : Nat → Nat} (hm : mo_ok h0 mo ar) (j k f q n : Nat) (s : Option Nat) (x : Nat) : jh_I (tg_set h ar j k f q n s) (ar 528) x = jh_I h (ar 528) x := by
  show (jh_u (jh_u (jh_u (jh_u (jh_u (jh_u (jh_u (jh_I h) (ar 530) j (nI k)) (ar 532) j (nI f)) (ar 533) j (nI q)) (ar 531) j (nI (q + n))) (ar 534) j (sp_o s)) (ar 535) j (-1)) (ar 536) j (-1)) (ar 528) x = _
  rw [jh_u_a _ _ _ _ (mo_ne hm 9 17 rfl rfl (by decide)), jh_u_a _ _ _ _ (mo_ne hm 9 16 rfl rfl (by decide)), jh_u_a _ _ _ _ (mo_ne hm 9 15 rfl rfl (by decide)), jh_u_a _ _ _ _ (mo_ne hm 9 12 rfl rfl (by decide)), jh_u_a _ _ _ _ (mo_ne hm 9 14 rfl rfl (by decide)), jh_u_a _ _ _ _ (mo_ne hm 9 13 rfl rfl (by decide)), jh_u_a _ _ _ _ (mo_ne hm 9 11 rfl rfl (by decide))]
theorem tg_fr {h h' : jh_H} {ar : Nat → Nat} (hf : mo_fr h h' ar ta_F) {j k f q n : Nat} {s : Option Nat} (hj : 200 ≤ j) : mo_fr h (tg_set h' ar j k f q n s) ar ta_F :=
  mo_fr.sI (mo_fr.sI (mo_fr.sI (mo_fr.sI (mo_fr.sI (mo_fr.sI (mo_fr.sI hf (Or.inr (Or.inl ⟨by decide, by decide, hj⟩))) (Or.inr (Or.inl ⟨by decide, by decide, hj⟩))) (Or.inr (Or.inl ⟨by decide, by decide, hj⟩))) (Or.inr (Or.inl ⟨by decide, by decide, hj⟩))) (Or.inr (Or.inl ⟨by decide, by decide, hj⟩))) (Or.inr (Or.inl ⟨by decide, by decide, hj⟩))) (Or.inr (Or.inl ⟨by decide, by decide, hj⟩))
theorem tg_tx {h h0 : jh_H} {mo : Nat} {ar t : Nat → Nat} (hm : mo_ok h0 mo ar) (ht : mo_tx h ar t) {j k f q n : Nat} {s : Option Nat} : mo_tx (tg_set h ar j k f q n s) ar t := fun i hi => by
  rw [tg_526 hm]; exact ht i hi
theorem tg_mt {h h0 : jh_H} {mo : Nat} {ar : Nat → Nat} (hm : mo_ok h0 mo ar) {a n k f q nn s : Nat} {T : pp_T} {ot la : pp_O} (hmt : mt_ok h ar a n T ot la) : mt_ok (tg_set h ar (a + n) k f q nn (some s)) ar a (n + 1) (va_up T n (k, f, q, q + nn, s)) (va_up ot n none) (va_up la n none) := by
  intro i hi
  rw [mt_at, tg_530 hm, tg_532 hm, tg_533 hm, tg_531 hm, tg_534 hm, tg_535 hm, tg_536 hm]
  by_cases z : i = n
  · subst z
    rw [if_pos rfl, if_pos rfl, if_pos rfl, if_pos rfl, if_pos rfl, if_pos rfl, if_pos rfl, va_up_self, va_up_self, va_up_self]
    exact ⟨rfl, rfl, rfl, rfl, rfl, rfl, rfl⟩
  · have z2 : ¬ a + i = a + n := by omega
    rw [if_neg z2, if_neg z2, if_neg z2, if_neg z2, if_neg z2, if_neg z2, if_neg z2, va_up_ne _ _ z, va_up_ne _ _ z, va_up_ne _ _ z]
    exact hmt i (by omega)

