/-! THE SPECIFICATION, in Lean's own words: what stands in a template's text. t: the characters; p, e: from p up to e -/
def sp_at (t : Nat → Nat) (p e : Nat) : Nat := if p < e then t p else 0
def sp_lt (c : Nat) : Bool := decide (97 ≤ c ∧ c ≤ 122)
def sp_dg (c : Nat) : Bool := decide (48 ≤ c ∧ c ≤ 57)
/-- how many letters from p on -/
def sp_ln (t : Nat → Nat) (e : Nat) : Nat → Nat → Nat
  | 0, _ => 0
  | n + 1, p => if sp_lt (sp_at t p e) then sp_ln t e n (p + 1) + 1 else 0
def sp_letters (t : Nat → Nat) (p e : Nat) : Nat := sp_ln t e (e - p) p
/-- does the word stand at p -/
def sp_st (t : Nat → Nat) (e : Nat) : Nat → List Nat → Bool
  | _, [] => true
  | p, c :: r => if sp_at t p e = c then sp_st t e (p + 1) r else false
theorem sp_ln_end (t : Nat → Nat) (e n p : Nat) (h : e ≤ p) : sp_ln t e n p = 0 := by
  cases n with
  | zero => rfl
  | succ n =>
    have : sp_at t p e = 0 := by simp [sp_at, Nat.not_lt.mpr h]
    simp [sp_ln, this, sp_lt]
theorem sp_ln_le (t : Nat → Nat) (e : Nat) : ∀ n p, p ≤ e → p + sp_ln t e n p ≤ e := by
  intro n
  induction n with
  | zero => intro p h; simpa [sp_ln] using h
  | succ n ih =>
    intro p h
    rcases Nat.lt_or_ge p e with q | q
    · rw [sp_ln]
      split
      · have := ih (p + 1) q; omega
      · omega
    · rw [sp_ln_end t e (n + 1) p q]; omega
theorem sp_letters_le (t : Nat → Nat) {p e : Nat} (h : p ≤ e) : p + sp_letters t p e ≤ e := sp_ln_le t e _ p h

