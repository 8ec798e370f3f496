/-! what stands in a text does not depend on where the text begins: t' i = t (i + a) -/
def sh_ok (t t' : Nat → Nat) (a e : Nat) : Prop := ∀ i, i < e → t (i + a) = t' i
theorem sh_ok.lt {t t' : Nat → Nat} {a e e1 : Nat} (h : sh_ok t t' a e) (h1 : e1 ≤ e) : sh_ok t t' a e1 := fun i hi => h i (by omega)
theorem sh_at {t t' : Nat → Nat} {a e : Nat} (H : sh_ok t t' a e) (p : Nat) : sp_at t (p + a) (e + a) = sp_at t' p e := by
  rw [sp_at, sp_at]
  by_cases h : p < e
  · rw [if_pos h, if_pos (by omega), H p h]
  · rw [if_neg h, if_neg (by omega)]
theorem sh_ln {t t' : Nat → Nat} {a e : Nat} (H : sh_ok t t' a e) : ∀ n p, sp_ln t (e + a) n (p + a) = sp_ln t' e n p := by
  intro n
  induction n with
  | zero => intro p; rfl
  | succ n ih => intro p; rw [sp_ln, sp_ln, sh_at H, Nat.add_right_comm p a 1, ih]
theorem sh_letters {t t' : Nat → Nat} {a e : Nat} (H : sh_ok t t' a e) (p : Nat) : sp_letters t (p + a) (e + a) = sp_letters t' p e := by
  rw [sp_letters, sp_letters, Nat.add_sub_add_right, sh_ln H]
theorem sh_st {t t' : Nat → Nat} {a e : Nat} (H : sh_ok t t' a e) : ∀ w p, sp_st t (e + a) (p + a) w = sp_st t' e p w := by
  intro w
  induction w with
  | nil => intro p; rfl
  | cons c r ih => intro p; rw [sp_st, sp_st, sh_at H, Nat.add_right_comm p a 1, ih]
theorem sh_up {t t' : Nat → Nat} {a e : Nat} (H : sh_ok t t' a e) : ∀ n k, sp_up t (e + a) n (k + a) = sp_up t' e n k + a := by
  intro n
  induction n with
  | zero => intro k; rfl
  | succ n ih =>
    intro k
    rw [sp_up, sp_up, sh_st H, Nat.add_right_comm k a 3, ih]
    split <;> rfl
theorem sh_step {t t' : Nat → Nat} {a e : Nat} (H : sh_ok t t' a e) (k : Nat) : sp_step t (k + a) (e + a) = sp_step t' k e := by
  rw [sp_step, sp_step, Nat.add_right_comm k a 1, sh_letters H, sh_at H]
theorem sh_tail {t t' : Nat → Nat} {a e : Nat} (H : sh_ok t t' a e) : ∀ n k, sp_tail t (e + a) n (k + a) = (sp_tail t' e n k).map (· + a) := by
  intro n
  induction n with
  | zero => intro k; rfl
  | succ n ih =>
    intro k
    rw [sp_tail, sp_tail, sh_at H, sh_step H, Nat.add_right_comm k a, ih]
    split
    · split <;> rfl
    · rfl
theorem sh_pathEnd {t t' : Nat → Nat} {a e : Nat} (H : sh_ok t t' a e) (p : Nat) : sp_pathEnd t (p + a) (e + a) = (sp_pathEnd t' p e).map (· + a) := by
  rw [sp_pathEnd, sp_pathEnd, sh_st H, sh_st H, Nat.add_sub_add_right, sh_up H, sh_letters H, sh_st H, Nat.add_right_comm _ a (sp_letters _ _ _), sh_tail H]
  split
  · show some _ = some _; rw [Nat.add_right_comm]
  · split
    · rfl
    · split
      · show some _ = some _; rw [Nat.add_right_comm]
      · rfl
theorem sh_quote {t t' : Nat → Nat} {a e : Nat} (H : sh_ok t t' a e) : ∀ n k, sp_quote t (e + a) n (k + a) = sp_quote t' e n k + a := by
  intro n
  induction n with
  | zero => intro k; rfl
  | succ n ih =>
    intro k
    rw [sp_quote, sp_quote, Nat.add_right_comm k a 1, ih]
    by_cases hk : k < e
    · rw [H k hk]
      by_cases c : k < e ∧ t' k ≠ 34 ∧ t' k ≠ 125
      · rw [if_pos c, if_pos ⟨by omega, c.2⟩]
      · rw [if_neg c, if_neg (fun z => c ⟨hk, z.2⟩)]
    · rw [if_neg (fun z => hk (by omega)), if_neg (fun z => hk z.1)]
theorem sh_digits {t t' : Nat → Nat} {a e : Nat} (H : sh_ok t t' a e) : ∀ n k, sp_digits t (e + a) n (k + a) = sp_digits t' e n k + a := by
  intro n
  induction n with
  | zero => intro k; rfl
  | succ n ih =>
    intro k
    rw [sp_digits, sp_digits, sh_at H, Nat.add_right_comm k a 1, ih]
    split <;> rfl
theorem sh_operandEnd {t t' : Nat → Nat} {a e : Nat} (H : sh_ok t t' a e) (p : Nat) : sp_operandEnd t (p + a) (e + a) = (sp_operandEnd t' p e).map (· + a) := by
  rw [sp_operandEnd, sp_operandEnd, sh_at H, Nat.add_right_comm p a 1, Nat.add_sub_add_right, sh_quote H, sh_at H, sh_digits H, sh_pathEnd H]
  split
  · split
    · show some _ = some _; rw [Nat.add_right_comm]
    · rfl
  · split <;> rfl
theorem sh_helper {t t' : Nat → Nat} {a e : Nat} (H : sh_ok t t' a e) (p : Nat) : sp_helper t (p + a) (e + a) = sp_helper t' p e := by
  rw [sp_helper, sp_helper, sh_st H, sh_st H, sh_st H, sh_st H, sh_st H, sh_st H]
theorem sh_oe {t t' : Nat → Nat} {a e : Nat} (H : sh_ok t t' a e) (p : Nat) : (sp_operandEnd t (p + a) (e + a) = some (e + a)) ↔ (sp_operandEnd t' p e = some e) := by
  rw [sh_operandEnd H]
  cases sp_operandEnd t' p e with
  | none => exact ⟨fun h => (by cases h), fun h => (by cases h)⟩
  | some k =>
    show some (k + a) = some (e + a) ↔ some k = some e
    rw [Option.some_inj, Option.some_inj]; omega
theorem sh_isExpr {t t' : Nat → Nat} {a e : Nat} (H : sh_ok t t' a e) (p : Nat) : sp_isExpr t (p + a) (e + a) = sp_isExpr t' p e := by
  rw [sp_isExpr, sp_isExpr, sh_helper H, Nat.add_right_comm p a (sp_hs _)]
  by_cases h0 : sp_helper t' p e = 0
  · rw [if_pos h0, if_pos h0]
    exact decide_eq_decide.mpr ⟨fun z => ⟨(sh_oe H p).mp z.1, by omega⟩, fun z => ⟨(sh_oe H p).mpr z.1, by omega⟩⟩
  · rw [if_neg h0, if_neg h0, sh_operandEnd H]
    cases sp_operandEnd t' (p + sp_hs (sp_helper t' p e)) e with
    | none => rfl
    | some k =>
      show (if _ then decide (k + a = e + a) else decide (sp_at t (k + a) (e + a) = 32 ∧ sp_operandEnd t (k + a + 1) (e + a) = some (e + a))) = (if _ then decide (k = e) else decide (sp_at t' k e = 32 ∧ sp_operandEnd t' (k + 1) e = some e))
      split
      · exact decide_eq_decide.mpr (by omega)
      · rw [sh_at H, Nat.add_right_comm k a 1]
        exact decide_eq_decide.mpr ⟨fun z => ⟨z.1, (sh_oe H _).mp z.2⟩, fun z => ⟨z.1, (sh_oe H _).mpr z.2⟩⟩
theorem sh_sort {t t' : Nat → Nat} {a e : Nat} (H : sh_ok t t' a e) (p : Nat) (three : Bool) : sp_sort t (p + a) (e + a) three = sp_sort t' p e three := by
  have h62 : (e + a - (p + a) = 3 ∧ t (p + a + 1) = 32 ∧ 97 ≤ t (p + a + 2) ∧ t (p + a + 2) ≤ 100) = (e - p = 3 ∧ t' (p + 1) = 32 ∧ 97 ≤ t' (p + 2) ∧ t' (p + 2) ≤ 100) := by
    rw [Nat.add_sub_add_right, Nat.add_right_comm p a 1, Nat.add_right_comm p a 2]
    refine propext ⟨fun z => ?_, fun z => ?_⟩
    · rw [H (p + 1) (by omega), H (p + 2) (by omega)] at z; exact z
    · rw [H (p + 1) (by omega), H (p + 2) (by omega)]; exact z
  rw [sp_sort, sp_sort]
  simp only [h62]
  rw [sh_isExpr H, sh_at H, sh_st H, sh_st H, sh_st H, sh_st H, sh_st H, sh_st H, sh_st H, Nat.add_sub_add_right, Nat.add_right_comm p a 4, Nat.add_right_comm p a 6, sh_isExpr H, sh_isExpr H]
theorem sh_fd {t t' : Nat → Nat} {a e : Nat} (H : sh_ok t t' a e) (w : List Nat) : ∀ n k, sp_fd t (e + a) w n (k + a) = sp_fd t' e w n k + a := by
  intro n
  induction n with
  | zero => intro k; rfl
  | succ n ih =>
    intro k
    rw [sp_fd, sp_fd, sh_st H, Nat.add_right_comm k a 1, ih]
    by_cases c : k < e ∧ sp_st t' e k w = false
    · rw [if_pos c, if_pos ⟨by omega, c.2⟩]
    · rw [if_neg c, if_neg (fun z => c ⟨by omega, z.2⟩)]
theorem sh_k {t t' : Nat → Nat} {a e : Nat} (H : sh_ok t t' a e) (p : Nat) : sp_k t (p + a) (e + a) = sp_k t' p e + a := by
  rw [sp_k, sp_k, Nat.add_sub_add_right, sh_fd H]
theorem sh_th {t t' : Nat → Nat} {a e : Nat} (H : sh_ok t t' a e) (p : Nat) : sp_th t (p + a) (e + a) = sp_th t' p e := by
  rw [sp_th, sp_th, sh_k H, sh_st H]
theorem sh_f {t t' : Nat → Nat} {a e : Nat} (H : sh_ok t t' a e) (p : Nat) : sp_f t (p + a) (e + a) = sp_f t' p e + a := by
  rw [sp_f, sp_f, sh_k H, sh_th H, Nat.add_right_comm]
theorem sh_q {t t' : Nat → Nat} {a e : Nat} (H : sh_ok t t' a e) (p : Nat) : sp_q t (p + a) (e + a) = sp_q t' p e + a := by
  rw [sp_q, sp_q, sh_f H, sh_th H, Nat.add_sub_add_right, sh_fd H]
/-- a tag's place, moved -/
def sx (a : Nat) (x : Nat × Nat × Nat × Nat × Nat) : Nat × Nat × Nat × Nat × Nat := (x.1 + a, x.2.1 + a, x.2.2.1 + a, x.2.2.2.1 + a, x.2.2.2.2)
theorem sh_fit {i s d : Nat} {so so' : Nat → Nat} {os : Nat → Nat} {ot la : pp_O} (h : 0 < d → so (os (d - 1)) = so' (os (d - 1))) : pp_fit i s so d os ot la = pp_fit i s so' d os ot la := by
  rw [pp_fit, pp_fit]
  by_cases hd : d = 0
  · rw [if_pos hd, if_pos hd]
  · rw [if_neg hd, if_neg hd, h (by omega)]
theorem sh_pp {t t' : Nat → Nat} {a e : Nat} (H : sh_ok t t' a e) : ∀ f p n T T' d os ot la, p ≤ e → (∀ i, i < n → T i = sx a (T' i)) → (∀ j, j < d → os j < n) → match pp t' e f p n T' d os ot la with
    | .inl z => pp t (e + a) f (p + a) n T d os ot la = .inl (z + a)
    | .inr (m, U', ot', la') => ∃ U, pp t (e + a) f (p + a) n T d os ot la = .inr (m, U, ot', la') ∧ ∀ i, i < m → U i = sx a (U' i) := by
  intro f
  induction f with
  | zero => intro p n T T' d os ot la _ _ _; rfl
  | succ f ih =>
    intro p n T T' d os ot la hp hT ho
    rw [pp, pp, sh_k H, sh_q H, sh_th H, sh_f H]
    by_cases hk : e ≤ sp_k t' p e
    · rw [if_pos hk, if_pos (show e + a ≤ _ by omega)]
      by_cases hd : 0 < d
      · rw [if_pos hd, if_pos hd]
        show Sum.inl _ = Sum.inl _
        rw [hT _ (ho (d - 1) (by omega))]; rfl
      · rw [if_neg hd, if_neg hd]
        exact ⟨T, rfl, hT⟩
    rw [if_neg hk, if_neg (show ¬ e + a ≤ _ by omega)]
    by_cases hq : e ≤ sp_q t' p e
    · rw [if_pos hq, if_pos (show e + a ≤ _ by omega)]
    rw [if_neg hq, if_neg (show ¬ e + a ≤ _ by omega), sh_sort (H.lt (by omega)) _ _]
    have hb := sp_q_le t' hp (by omega) (by omega)
    cases hs : sp_sort t' (sp_f t' p e) (sp_q t' p e) (sp_th t' p e) with
    | none => rfl
    | some s =>
      have enew : pp_new t (p + a) (e + a) s = sx a (pp_new t' p e s) := by
        rw [pp_new, pp_new, sh_k H, sh_f H, sh_q H, sh_th H, sx, Nat.add_right_comm]
      have hT2 : ∀ i, i < n + 1 → va_up T n (pp_new t (p + a) (e + a) s) i = sx a (va_up T' n (pp_new t' p e s) i) := by
        intro i hi
        by_cases z : i = n
        · subst z; rw [va_up_self, va_up_self, enew]
        · rw [va_up_ne _ _ z, va_up_ne _ _ z]; exact hT i (by omega)
      show (match (match pp_fit n s (fun x => (va_up T' n (pp_new t' p e s) x).2.2.2.2) d os (va_up ot n none) (va_up la n none) with
          | none => Sum.inl (sp_k t' p e)
          | some (d', os', ot', la') => pp t' e f (sp_q t' p e + sp_n (sp_th t' p e)) (n + 1) (va_up T' n (pp_new t' p e s)) d' os' ot' la') with
        | .inl z => (match pp_fit n s (fun x => (va_up T n (pp_new t (p + a) (e + a) s) x).2.2.2.2) d os (va_up ot n none) (va_up la n none) with
          | none => Sum.inl (sp_k t' p e + a)
          | some (d', os', ot', la') => pp t (e + a) f (sp_q t' p e + a + sp_n (sp_th t' p e)) (n + 1) (va_up T n (pp_new t (p + a) (e + a) s)) d' os' ot' la') = .inl (z + a)
        | .inr (m, U', ot', la') => ∃ U, (match pp_fit n s (fun x => (va_up T n (pp_new t (p + a) (e + a) s) x).2.2.2.2) d os (va_up ot n none) (va_up la n none) with
          | none => Sum.inl (sp_k t' p e + a)
          | some (d', os', ot', la') => pp t (e + a) f (sp_q t' p e + a + sp_n (sp_th t' p e)) (n + 1) (va_up T n (pp_new t (p + a) (e + a) s)) d' os' ot' la') = .inr (m, U, ot', la') ∧ ∀ i, i < m → U i = sx a (U' i))
      rw [sh_fit (so := fun x => (va_up T n (pp_new t (p + a) (e + a) s) x).2.2.2.2) (so' := fun x => (va_up T' n (pp_new t' p e s) x).2.2.2.2) (fun hd => by show (va_up T n _ _).2.2.2.2 = _; rw [hT2 _ (Nat.lt_succ_of_lt (ho (d - 1) (by omega)))]; rfl)]
      cases hfit : pp_fit n s (fun x => (va_up T' n (pp_new t' p e s) x).2.2.2.2) d os (va_up ot n none) (va_up la n none) with
      | none => rfl
      | some z =>
        obtain ⟨d', os', ot', la'⟩ := z
        show (match pp t' e f (sp_q t' p e + sp_n (sp_th t' p e)) (n + 1) (va_up T' n (pp_new t' p e s)) d' os' ot' la' with
          | .inl z => pp t (e + a) f (sp_q t' p e + a + sp_n (sp_th t' p e)) (n + 1) (va_up T n (pp_new t (p + a) (e + a) s)) d' os' ot' la' = .inl (z + a)
          | .inr (m, U', ot'', la'') => ∃ U, pp t (e + a) f (sp_q t' p e + a + sp_n (sp_th t' p e)) (n + 1) (va_up T n (pp_new t (p + a) (e + a) s)) d' os' ot' la' = .inr (m, U, ot'', la'') ∧ ∀ i, i < m → U i = sx a (U' i))
        rw [Nat.add_right_comm _ a (sp_n _)]
        exact ih _ _ _ _ d' os' ot' la' hb.2.2.2 hT2 (pp_fit_os hfit ho)
theorem sh_all {t t' : Nat → Nat} {a e : Nat} (H : sh_ok t t' a e) : match pp_all t' 0 e with
    | .inl z => pp_all t a (e + a) = .inl (z + a)
    | .inr (m, U', ot', la') => ∃ U, pp_all t a (e + a) = .inr (m, U, ot', la') ∧ ∀ i, i < m → U i = sx a (U' i) := by
  have h := sh_pp H (e + 1) 0 0 (fun _ => (0, 0, 0, 0, 0)) (fun _ => (0, 0, 0, 0, 0)) 0 (fun _ => 0) (fun _ => none) (fun _ => none) (Nat.zero_le _) (fun i hi => absurd hi (by omega)) (fun i hi => absurd hi (by omega))
  rw [Nat.zero_add] at h
  rw [pp_all, pp_all, Nat.sub_zero, Nat.add_sub_cancel]
  exact h
theorem sh_sub {t t' : Nat → Nat} {a e p n : Nat} (H : sh_ok t t' a e) (h : p + n ≤ e) : sp_sub t (p + a) n = sp_sub t' p n := by
  rw [sp_sub, sp_sub]
  refine List.map_congr_left (fun i hi => ?_)
  have := List.mem_range.mp hi
  rw [Nat.add_right_comm, H _ (by omega)]
theorem sh_xtail {t t' : Nat → Nat} {a e : Nat} (H1 : sh_ok t t' a (e + 1)) : ∀ f k, ex_tail t (e + a) f (k + a) = ex_tail t' e f k := by
  have H : sh_ok t t' a e := H1.lt (by omega)
  intro f
  induction f with
  | zero => intro k; rfl
  | succ f ih =>
    intro k
    rw [ex_tail, ex_tail, sh_at H, Nat.add_right_comm k a 1, Nat.add_right_comm k a 2, sh_letters H, Nat.add_right_comm k a (1 + _), ih, ih]
    by_cases h46 : sp_at t' k e = 46
    · have hk : k < e := by
        rcases Nat.lt_or_ge k e with q | q
        · exact q
        · rw [sp_at, if_neg (by omega)] at h46; cases h46
      rw [if_pos h46, if_pos h46, sh_sub H (sp_letters_le t' (by omega)), H1 _ (by omega)]
    · rw [if_neg h46, if_neg h46]
theorem sp_up_le2 (t : Nat → Nat) (e : Nat) : ∀ n k, k ≤ e → sp_up t e n k ≤ e ∧ k ≤ sp_up t e n k := by
  intro n
  induction n with
  | zero => intro k h; exact ⟨h, Nat.le_refl _⟩
  | succ n ih =>
    intro k h
    rw [sp_up]
    split
    case isTrue q =>
      have h1 := sp_st_len t (by decide) (by decide) h q
      have h2 : k + 3 ≤ e := h1
      have := ih (k + 3) h2; omega
    case isFalse q => exact ⟨h, Nat.le_refl _⟩
theorem sh_path {t t' : Nat → Nat} {a e p : Nat} (H1 : sh_ok t t' a (e + 1)) (hp : p ≤ e) : ex_path t (p + a) (e + a) = ex_path t' p e := by
  have H : sh_ok t t' a e := H1.lt (by omega)
  have hu := sp_up_le2 t' e (e - p) p hp
  rw [ex_path, ex_path, Nat.add_sub_add_right, sh_up H, Nat.add_sub_add_right, ex_this, ex_this, sh_letters H, sh_st H, Nat.add_right_comm _ a 4, sh_at H, sh_sub H (sp_letters_le t' hu.1), Nat.add_right_comm _ a (sp_letters _ _ _), sh_xtail H1]
theorem sh_dec {t t' : Nat → Nat} {a e : Nat} (H : sh_ok t t' a e) : ∀ n p v, p + n ≤ e → ex_dec t n (p + a) v = ex_dec t' n p v := by
  intro n
  induction n with
  | zero => intro p v _; rfl
  | succ n ih =>
    intro p v h
    rw [ex_dec, ex_dec, Nat.add_right_comm p a 1, H p (by omega), ih _ _ (by omega)]
theorem sh_op {t t' : Nat → Nat} {a e p : Nat} (H1 : sh_ok t t' a (e + 1)) (hp : p < e) (h2 : t' p = 34 → p + 2 ≤ e) : ex_op t (p + a) (e + a) = ex_op t' p e := by
  have H : sh_ok t t' a e := H1.lt (by omega)
  have e1 : e + a - (p + a) = e - p := by omega
  rw [ex_op, ex_op, H p hp, Nat.add_right_comm p a 1, H1 (p + 1) (by omega), e1, sh_dec H _ _ _ (by omega), sh_path H1 (by omega)]
  by_cases h34 : t' p = 34
  · rw [if_pos h34, if_pos h34, sh_sub H (by have := h2 h34; omega)]
  · rw [if_neg h34, if_neg h34]
theorem sh_ex {t t' : Nat → Nat} {a e p : Nat} (H1 : sh_ok t t' a (e + 1)) (hp : p ≤ e) (hx : sp_isExpr t' p e = true) : ex_ex t (p + a) (e + a) = ex_ex t' p e := by
  have H : sh_ok t t' a e := H1.lt (by omega)
  rw [ex_ex, ex_ex, sh_helper H]
  by_cases h0 : sp_helper t' p e = 0
  · rw [if_pos h0, if_pos h0]
    obtain ⟨ho, hlt⟩ := sp_isExpr_0 hx h0
    rw [sh_op H1 hlt (sp_operandEnd_ge t' hp ho).2]
  · rw [if_neg h0, if_neg h0, Nat.add_right_comm p a (sp_hs _), sh_operandEnd H]
    obtain ⟨k, hk, hk1, hk2⟩ := sp_isExpr_1 hx h0
    have hle := (sp_helper_le t' hp h0).1
    have hkl := sp_operandEnd_le t' hle hk
    have hkg := sp_operandEnd_ge t' hle hk
    rw [hk]
    show (_, ex_op t _ (k + a), if _ then ex_op t (k + a + 1) (e + a) else _) = (_, ex_op t' _ k, if _ then ex_op t' (k + 1) e else _)
    rw [sh_op (H1.lt (by omega)) hkg.1 hkg.2, Nat.add_right_comm k a 1]
    by_cases h3 : 3 < sp_helper t' p e
    · have ho := (hk2 (by omega)).2
      have hkl2 : k + 1 ≤ e := by
        rcases Nat.lt_or_ge k e with q | q
        · exact q
        · have := (hk2 (by omega)).1; rw [sp_at, if_neg (by omega)] at this; cases this
      have hkg2 := sp_operandEnd_ge t' hkl2 ho
      rw [if_pos h3, if_pos h3, sh_op H1 hkg2.1 hkg2.2]
    · rw [if_neg h3, if_neg h3]

