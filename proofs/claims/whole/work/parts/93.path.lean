/-! READER: paths -/
theorem st_mono {t : Nat → Nat} {e e1 : Nat} (he : e1 ≤ e) : ∀ (W : List Nat) (p : Nat), (∀ c ∈ W, c ≠ 0) → sp_st t e1 p W = true → sp_st t e p W = true := by
  intro W
  induction W with
  | nil => intro p _ _; rfl
  | cons c W ih =>
    intro p h0 h
    rw [sp_st] at h ⊢
    by_cases ce : sp_at t p e1 = c
    · rw [if_pos ce] at h
      have hlt : p < e1 := sp_at_lt2 ce (h0 c (List.mem_cons_self ..))
      rw [if_pos (by rw [← ce, sp_at, sp_at, if_pos hlt, if_pos (by omega)])]
      exact ih (p + 1) (fun x hx => h0 x (List.mem_cons_of_mem _ hx)) h
    · rw [if_neg ce] at h; cases h
theorem st_cut {t : Nat → Nat} {e e1 : Nat} (he : e1 ≤ e) : ∀ (W : List Nat) (p : Nat), p + W.length ≤ e1 → sp_st t e p W = true → sp_st t e1 p W = true := by
  intro W
  induction W with
  | nil => intro p _ _; rfl
  | cons c W ih =>
    intro p hp h
    rw [sp_st] at h ⊢
    rw [List.length_cons] at hp
    by_cases ce : sp_at t p e = c
    · rw [if_pos ce] at h
      rw [if_pos (by rw [← ce, sp_at, sp_at, if_pos (by omega), if_pos (by omega)])]
      exact ih (p + 1) (by omega) h
    · rw [if_neg ce] at h; cases h
theorem st_len {t : Nat → Nat} {e p : Nat} {W : List Nat} (hW : W ≠ []) (h0 : ∀ c ∈ W, c ≠ 0) (h : sp_st t e p W = true) : p + W.length ≤ e := by
  rcases Nat.lt_or_ge e (p + W.length) with z | z
  · exact absurd ((st_out hW h0 z).symm.trans h) (by decide)
  · exact z
theorem up_cut {t : Nat → Nat} {e e1 : Nat} (he : e1 ≤ e) : ∀ n k, k ≤ e → e - k ≤ n → sp_up t e n k ≤ e1 → ∀ n1, e1 - k ≤ n1 → sp_up t e1 n1 k = sp_up t e n k := by
  have no : ∀ n1 k, sp_st t e1 k [46, 46, 47] = false → sp_up t e1 n1 k = k := by
    intro n1 k h
    cases n1 with
    | zero => rfl
    | succ n1 => rw [sp_up, h]; rfl
  intro n
  induction n with
  | zero =>
    intro k hk hn hu n1 _
    rw [no n1 k (st_out (by decide) (by decide) (by show e1 < k + 3; omega))]; rfl
  | succ n ih =>
    intro k hk hn hu n1 h1
    rw [sp_up] at hu ⊢
    by_cases c : sp_st t e k [46, 46, 47] = true
    · rw [if_pos c] at hu ⊢
      have h3 : k + 3 ≤ e := st_len (W := [46, 46, 47]) (by decide) (by decide) c
      have h4 : k + 3 ≤ e1 := by have := (sp_up_le2 t e n (k + 3) h3).2; omega
      cases n1 with
      | zero => omega
      | succ n1 =>
        rw [sp_up, if_pos (st_cut he _ _ h4 c)]
        exact ih (k + 3) h3 (by omega) hu n1 (by omega)
    · rw [if_neg c]
      refine no n1 k ?_
      cases cc : sp_st t e1 k [46, 46, 47] with
      | false => rfl
      | true => exact absurd (st_mono he _ _ (by decide) cc) c
theorem ln_cut {t : Nat → Nat} {e e1 : Nat} (he : e1 ≤ e) : ∀ n p, p + n = e → p + sp_ln t e n p ≤ e1 → ∀ n1, p + n1 = e1 → sp_ln t e1 n1 p = sp_ln t e n p := by
  intro n
  induction n with
  | zero =>
    intro p hp hl n1 h1
    have : n1 = 0 := by omega
    subst this; rfl
  | succ n ih =>
    intro p hp hl n1 h1
    rw [sp_ln_1 hp] at hl ⊢
    by_cases c : sp_lt (t p) = true
    · rw [if_pos c] at hl ⊢
      cases n1 with
      | zero => omega
      | succ n1 =>
        rw [sp_ln_1 h1, if_pos c, ih (p + 1) (by omega) (by omega) n1 (by omega)]
    · rw [if_neg c]
      cases n1 with
      | zero => rfl
      | succ n1 => rw [sp_ln_1 h1, if_neg c]
theorem letters_cut {t : Nat → Nat} {e e1 u : Nat} (he : e1 ≤ e) (hu : u + sp_letters t u e ≤ e1) : sp_letters t u e1 = sp_letters t u e := by
  exact ln_cut he (e - u) u (by omega) hu (e1 - u) (by omega)
theorem ln_all {t : Nat → Nat} {e : Nat} : ∀ n p i, p + n = e → i < sp_ln t e n p → sp_lt (t (p + i)) = true := by
  intro n
  induction n with
  | zero => intro p i _ h; exact absurd h (by show ¬ i < 0; omega)
  | succ n ih =>
    intro p i hp h
    rw [sp_ln_1 hp] at h
    by_cases c : sp_lt (t p) = true
    · rw [if_pos c] at h
      cases i with
      | zero => exact c
      | succ i => rw [show p + (i + 1) = p + 1 + i by omega]; exact ih (p + 1) i (by omega) (by omega)
    · rw [if_neg c] at h; omega
theorem sub_nm {t : Nat → Nat} {e u : Nat} (hu : u ≤ e) (h1 : 1 ≤ sp_letters t u e) (h8 : sp_letters t u e ≤ 8) : nm_ok (sp_sub t u (sp_letters t u e)) := by
  refine ⟨by rw [sub_len2]; exact h1, by rw [sub_len2]; exact h8, ?_⟩
  rw [List.all_eq_true]
  intro x hx
  obtain ⟨i, hi, rfl⟩ := List.mem_map.mp hx
  exact ln_all (e - u) u i (by omega) (List.mem_range.mp hi)
theorem nm7_of {L : List Nat} (h : nm_ok L) : nm7 L = nc7 L 0 := if_pos h
theorem nm7_no {L : List Nat} (h : L.length < 1 ∨ 8 < L.length) : nm7 L = 0 := if_neg (fun z => by omega)
theorem dg_w {x : Nat} (h1 : 48 ≤ x) (h2 : x ≤ 57) : (-1 - (nI x - 48) : Int32).toInt64 = -1 - lN (x - 48) ∧ (-1 - lN (x - 48) : Int64) ≠ 0 := by
  have : x = 48 ∨ x = 49 ∨ x = 50 ∨ x = 51 ∨ x = 52 ∨ x = 53 ∨ x = 54 ∨ x = 55 ∨ x = 56 ∨ x = 57 := by omega
  rcases this with rfl | rfl | rfl | rfl | rfl | rfl | rfl | rfl | rfl | rfl <;> exact ⟨by decide, by decide⟩
theorem tail_cut {t : Nat → Nat} {e e1 : Nat} : ∀ n k, k ≤ e → e - k ≤ n → sp_tail t e n k = some e1 → k ≤ e1 ∧ e1 ≤ e ∧ ∀ f, e1 - k ≤ f → ex_tail t e1 f k = ex_tail t e n k := by
  have nil : ∀ f k, k ≤ e1 → e1 ≤ k → ex_tail t e1 f k = [] := by
    intro f k h1 h2
    cases f with
    | zero => rfl
    | succ f => rw [ex_tail, if_neg (by rw [sp_at, if_neg (by omega)]; decide)]
  intro n
  induction n with
  | zero =>
    intro k hk hn h
    have ek : k = e1 := Option.some.inj h
    refine ⟨by omega, by omega, fun f _ => ?_⟩
    rw [nil f k (by omega) (by omega)]; rfl
  | succ n ih =>
    intro k hk hn h
    rw [sp_tail] at h
    by_cases c : sp_at t k e = 46
    · rw [if_pos c] at h
      have hke : k < e := sp_at_lt2 c (by decide)
      have tk : t k = 46 := by rw [sp_at, if_pos hke] at c; exact c
      by_cases cs : sp_step t k e < 1 ∨ 8 < sp_step t k e
      · rw [if_pos cs] at h; cases h
      · rw [if_neg cs] at h
        have hl := sp_letters_le t (p := k + 1) (e := e) (by omega)
        have hs : (sp_letters t (k + 1) e = 0 ∧ sp_dg (sp_at t (k + 1) e) = true ∧ sp_step t k e = 1 ∧ k + 1 < e) ∨ (0 < sp_letters t (k + 1) e ∧ sp_step t k e = sp_letters t (k + 1) e) := by
          by_cases cl : sp_letters t (k + 1) e = 0
          · by_cases cd : sp_dg (sp_at t (k + 1) e) = true
            · refine Or.inl ⟨cl, cd, ?_, ?_⟩
              · rw [sp_step, if_pos ⟨cl, cd⟩]
              · rcases Nat.lt_or_ge (k + 1) e with z | z
                · exact z
                · rw [sp_at, if_neg (by omega)] at cd; exact absurd cd (by decide)
            · exfalso
              have : sp_step t k e = 0 := by rw [sp_step, if_neg (fun z => cd z.2)]; exact cl
              omega
          · exact Or.inr ⟨by omega, by rw [sp_step, if_neg (fun z => cl z.1)]⟩
        rcases hs with ⟨s1, s2, s3, s4⟩ | ⟨s1, s2⟩
        · rw [s3] at h
          obtain ⟨i1, i2, i3⟩ := ih (k + (1 + 1)) (by omega) (by omega) h
          refine ⟨by omega, i2, fun f hf => ?_⟩
          cases f with
          | zero => omega
          | succ f =>
            rw [ex_tail, ex_tail, if_pos c, if_pos (show sp_at t k e1 = 46 by rw [sp_at, if_pos (by omega)]; exact tk), s1, letters_cut i2 (by rw [s1]; omega), s1, if_neg (by decide), if_neg (by decide)]
            have := i3 f (by omega)
            rw [show k + (1 + 1) = k + 2 from rfl] at this
            rw [this]
        · rw [s2] at h
          obtain ⟨i1, i2, i3⟩ := ih (k + (1 + sp_letters t (k + 1) e)) (by omega) (by omega) h
          refine ⟨by omega, i2, fun f hf => ?_⟩
          cases f with
          | zero => omega
          | succ f =>
            rw [ex_tail, ex_tail, if_pos c, if_pos (show sp_at t k e1 = 46 by rw [sp_at, if_pos (by omega)]; exact tk), letters_cut i2 (by omega), if_pos s1, if_pos s1, i3 f (by omega)]
    · rw [if_neg c] at h
      have ek : k = e1 := Option.some.inj h
      refine ⟨by omega, by omega, fun f _ => ?_⟩
      rw [nil f k (by omega) (by omega), ex_tail, if_neg c]
/-- a path that begins with no @ -/
def pX (t : Nat → Nat) (c e : Nat) : Option Nat := if sp_letters t (sp_up t e (e - c) c) e < 1 ∨ 8 < sp_letters t (sp_up t e (e - c) c) e then none
  else if sp_letters t (sp_up t e (e - c) c) e = 4 ∧ sp_st t e (sp_up t e (e - c) c) [116, 104, 105, 115] then some (sp_up t e (e - c) c + 4)
  else sp_tail t e (e - c) (sp_up t e (e - c) c + sp_letters t (sp_up t e (e - c) c) e)
theorem ex_path_this {t : Nat → Nat} {c e u : Nat} (hc : c ≤ e) (eu : sp_up t e (e - c) c = u) (h4 : sp_letters t u e = 4) (hw : sp_st t e u [116, 104, 105, 115] = true) : ex_path t c (u + 4) = ((u - c) / 3, []) := by
  have hue : u ≤ e ∧ c ≤ u := by rw [← eu]; exact sp_up_le2 t e (e - c) c hc
  have hle := sp_letters_le t hue.1
  have e1 : sp_up t (u + 4) (u + 4 - c) c = u := (up_cut (by omega) (e - c) c hc (Nat.le_refl _) (by omega) (u + 4 - c) (Nat.le_refl _)).trans eu
  have e2 : ex_this t u (u + 4) = true := by
    rw [ex_this, letters_cut (e := e) (by omega) (by omega), h4, show sp_st t (u + 4) u [116, 104, 105, 115] = true from st_cut (e := e) (by omega) _ _ (by show u + 4 ≤ u + 4; omega) hw, sp_at, if_neg (by omega)]
    rfl
  rw [ex_path, e1, e2]
  rfl
theorem ex_path_tail {t : Nat → Nat} {c e u e1 : Nat} (hc : c ≤ e) (eu : sp_up t e (e - c) c = u) (h1 : 1 ≤ sp_letters t u e) (hn : ¬ (sp_letters t u e = 4 ∧ sp_st t e u [116, 104, 105, 115] = true)) (ht : sp_tail t e (e - c) (u + sp_letters t u e) = some e1) : ex_path t c e1 = ((u - c) / 3, .inl (sp_sub t u (sp_letters t u e)) :: ex_tail t e (e - c) (u + sp_letters t u e)) := by
  have hue : u ≤ e ∧ c ≤ u := by rw [← eu]; exact sp_up_le2 t e (e - c) c hc
  have hle := sp_letters_le t hue.1
  obtain ⟨i1, i2, i3⟩ := tail_cut (e - c) _ hle (by omega) ht
  have e2 : sp_up t e1 (e1 - c) c = u := (up_cut i2 (e - c) c hc (Nat.le_refl _) (by omega) (e1 - c) (Nat.le_refl _)).trans eu
  have e3 : sp_letters t u e1 = sp_letters t u e := letters_cut i2 i1
  have e4 : ex_this t u e1 = false := by
    rw [ex_this, e3]
    by_cases c4 : sp_letters t u e = 4
    · have : sp_st t e1 u [116, 104, 105, 115] = false := by
        cases cc : sp_st t e1 u [116, 104, 105, 115] with
        | false => rfl
        | true => exact absurd ⟨c4, st_mono i2 _ _ (by decide) cc⟩ hn
      rw [this]; simp
    · simp [c4]
  rw [ex_path, e2, e4, e3, i3 (e1 - c) (by omega)]
  rfl

