/-! words, paths, operands, expressions: where they end; the sort of a tag by its inside -/
def sp_wd (bl : List Nat) : Nat → List Nat
  | 0 => []
  | n + 1 => if bl.getD n 0 = 0 then sp_wd bl n else bl.getD n 0 :: sp_wd bl n
/-- behind all ../ -/
def sp_up (t : Nat → Nat) (e : Nat) : Nat → Nat → Nat
  | 0, k => k
  | n + 1, k => if sp_st t e k [46, 46, 47] then sp_up t e n (k + 3) else k
/-- how many letters, or one digit, stand behind a point at k -/
def sp_step (t : Nat → Nat) (k e : Nat) : Nat := if sp_letters t (k + 1) e = 0 ∧ sp_dg (sp_at t (k + 1) e) then 1 else sp_letters t (k + 1) e
/-- the steps of a path behind its first name -/
def sp_tail (t : Nat → Nat) (e : Nat) : Nat → Nat → Option Nat
  | 0, k => some k
  | n + 1, k => if sp_at t k e = 46 then (if sp_step t k e < 1 ∨ 8 < sp_step t k e then none else sp_tail t e n (k + (1 + sp_step t k e))) else some k
def sp_pathEnd (t : Nat → Nat) (p e : Nat) : Option Nat :=
  if sp_st t e p [64, 105, 110, 100, 101, 120] ∨ sp_st t e p [64, 102, 105, 114, 115, 116] then some (p + 6)
  else if sp_letters t (sp_up t e (e - p) p) e < 1 ∨ 8 < sp_letters t (sp_up t e (e - p) p) e then none
  else if sp_letters t (sp_up t e (e - p) p) e = 4 ∧ sp_st t e (sp_up t e (e - p) p) [116, 104, 105, 115] then some (sp_up t e (e - p) p + 4)
  else sp_tail t e (e - p) (sp_up t e (e - p) p + sp_letters t (sp_up t e (e - p) p) e)
def sp_quote (t : Nat → Nat) (e : Nat) : Nat → Nat → Nat
  | 0, k => k
  | n + 1, k => if k < e ∧ t k ≠ 34 ∧ t k ≠ 125 then sp_quote t e n (k + 1) else k
def sp_digits (t : Nat → Nat) (e : Nat) : Nat → Nat → Nat
  | 0, k => k
  | n + 1, k => if sp_dg (sp_at t k e) then sp_digits t e n (k + 1) else k
def sp_operandEnd (t : Nat → Nat) (p e : Nat) : Option Nat :=
  if sp_at t p e = 34 then (if sp_at t (sp_quote t e (e - (p + 1)) (p + 1)) e = 34 then some (sp_quote t e (e - (p + 1)) (p + 1) + 1) else none)
  else if sp_dg (sp_at t p e) then some (sp_digits t e 5 p) else sp_pathEnd t p e
def sp_helper (t : Nat → Nat) (p e : Nat) : Nat :=
  if sp_st t e p [117, 112, 32] then 1 else if sp_st t e p [108, 101, 110, 32] then 2 else if sp_st t e p [110, 111, 116, 32] then 3 else if sp_st t e p [97, 100, 100, 32] then 4 else if sp_st t e p [101, 113, 32] then 5 else if sp_st t e p [97, 116, 32] then 6 else 0
def sp_hs (h : Nat) : Nat := if h = 1 ∨ 4 < h then 3 else 4
def sp_isExpr (t : Nat → Nat) (p e : Nat) : Bool :=
  if sp_helper t p e = 0 then decide (sp_operandEnd t p e = some e ∧ p < e)
  else match sp_operandEnd t (p + sp_hs (sp_helper t p e)) e with
    | none => false
    | some k => if sp_helper t p e < 4 then decide (k = e) else decide (sp_at t k e = 32 ∧ sp_operandEnd t (k + 1) e = some e)
/-- the sort of a tag by its inside from p up to e; none if it is none -/
def sp_sort (t : Nat → Nat) (p e : Nat) (three : Bool) : Option Nat :=
  if three then (if sp_isExpr t p e then some 1 else none)
  else if sp_at t p e = 33 then some 2
  else if sp_st t e p [35, 105, 102, 32] then (if sp_isExpr t (p + 4) e then some 3 else none)
  else if sp_st t e p [35, 101, 97, 99, 104, 32] then (if sp_isExpr t (p + 6) e then some 4 else none)
  else if sp_st t e p [35, 119, 105, 116, 104, 32] then (if sp_isExpr t (p + 6) e then some 5 else none)
  else if e - p = 4 ∧ sp_st t e p [101, 108, 115, 101] then some 6
  else if e - p = 3 ∧ sp_st t e p [47, 105, 102] then some 7
  else if e - p = 5 ∧ sp_st t e p [47, 101, 97, 99, 104] then some 8
  else if e - p = 5 ∧ sp_st t e p [47, 119, 105, 116, 104] then some 9
  else if sp_at t p e = 62 then (if e - p = 3 ∧ t (p + 1) = 32 ∧ 97 ≤ t (p + 2) ∧ t (p + 2) ≤ 100 then some 10 else none)
  else if sp_isExpr t p e then some 0 else none
theorem sp_st_le (t : Nat → Nat) (e : Nat) : ∀ (w : List Nat) (p : Nat), (∀ c ∈ w, c ≠ 0) → sp_st t e p w = true → p ≤ e ∨ w = [] → p + w.length ≤ e ∨ w = [] := by
  intro w
  induction w with
  | nil => intro p _ _ _; exact Or.inr rfl
  | cons c r ih =>
    intro p hc h hp
    rw [sp_st] at h
    split at h
    case isTrue h0 =>
      have hlt : p < e := by
        rcases Nat.lt_or_ge p e with q | q
        · exact q
        · have : sp_at t p e = 0 := by simp [sp_at, Nat.not_lt.mpr q]
          exact absurd (h0.symm.trans this) (hc c List.mem_cons_self)
      rcases ih (p + 1) (fun x hx => hc x (List.mem_cons_of_mem _ hx)) h (Or.inl hlt) with q | q
      · left; rw [List.length_cons]; omega
      · subst q; left; simp; omega
    case isFalse h0 => cases h
theorem sp_up_le (t : Nat → Nat) (e : Nat) : ∀ n k, k ≤ e → sp_up t e n k ≤ e ∧ k ≤ sp_up t e n k := by
  intro n
  induction n with
  | zero => intro k h; exact ⟨h, Nat.le_refl _⟩
  | succ n ih =>
    intro k h
    rw [sp_up]
    split
    case isTrue h0 =>
      have h1 := sp_st_le t e [46, 46, 47] k (by decide) h0 (Or.inl h)
      have h2 : k + 3 ≤ e := by rcases h1 with q | q; exact q; cases q
      have := ih (k + 3) h2
      omega
    case isFalse h0 => exact ⟨h, Nat.le_refl _⟩

