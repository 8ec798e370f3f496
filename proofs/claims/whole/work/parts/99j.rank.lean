/-! DATA: a rank -/
def sd_rk (n : Nat) (D : sd_D) : Prop := ∃ rk : Nat → Nat, ∀ x, x < n → 2 ≤ sd_k D x → ∀ j, j < sd_c D x → sd_p D x j < n ∧ rk (sd_p D x j) < rk x
theorem rk_dp {n : Nat} {D : sd_D} (hn : n ≤ 60) (h : sd_rk n D) : ∀ x, x < n → sd_dp D 60 x := by
  obtain ⟨rk, hr⟩ := h
  have lt : ∀ u v, v < n → rk v < rk u → ho_c (fun i => !decide (rk i < rk v)) n < ho_c (fun i => !decide (rk i < rk u)) n := by
    intro u v hv hl
    refine ho_c_lt (i := v) (fun i hi => ?_) ?_ ?_ n hv
    · have h1 : ¬ rk i < rk u := by simpa using hi
      show (!decide (rk i < rk v)) = true
      have : ¬ rk i < rk v := by omega
      simp [this]
    · show (!decide (rk v < rk v)) = true
      simp
    · show (!decide (rk v < rk u)) = false
      simp [hl]
  have all : ∀ m, ho_c (fun _ => false) m = m := by
    intro m
    induction m with
    | zero => rfl
    | succ m ih => rw [ho_c, ih]; rfl
  have bd : ∀ x, x < n → ho_c (fun i => !decide (rk i < rk x)) n < n := by
    intro x hx
    have := ho_c_lt (M0 := fun _ => false) (M := fun i => !decide (rk i < rk x)) (i := x) (fun i hi => by cases hi) (by simp) rfl n hx
    rw [all] at this
    exact this
  have go : ∀ m x, x < n → ho_c (fun i => !decide (rk i < rk x)) n < m → sd_dp D m x := by
    intro m
    induction m with
    | zero => intro x _ h; exact absurd h (Nat.not_lt_zero _)
    | succ m ih =>
      intro x hx hc hk j hj
      obtain ⟨h1, h2⟩ := hr x hx hk j hj
      have := lt x _ h1 h2
      exact ih _ h1 (by omega)
  intro x hx
  have := bd x hx
  exact go 60 x hx (by omega)
theorem sd_re_pre {D : sd_D} {y z : Nat} (j : Nat) (hk : 2 ≤ sd_k D y) (hj : j < sd_c D y) (e : sd_p D y j = z) : ∀ k l, sd_re D k z l → sd_re D (k + 1) y l := by
  intro k
  induction k with
  | zero => intro l h; have h : z = l := h; exact ⟨y, j, rfl, hk, hj, by rw [e, h]⟩
  | succ k ih =>
    intro l h
    obtain ⟨w, i, h1, h2, h3, h4⟩ := h
    exact ⟨w, i, ih w h1, h2, h3, h4⟩
theorem rk_edge {n l x : Nat} {D D' : sd_D} (h : sd_rk n D) (hx : x < n) (hno : ¬ sd_in D x l) (hk : ∀ y, y < n → sd_k D' y = sd_k D y) (hp : ∀ y, y < n → ∀ j, j < sd_c D' y → 2 ≤ sd_k D y → (j < sd_c D y ∧ sd_p D' y j = sd_p D y j) ∨ (y = l ∧ sd_p D' y j = x)) : sd_rk n D' := by
  obtain ⟨rk, hr⟩ := h
  classical
  refine ⟨fun y => if sd_in D y l then rk y + rk x + 1 else rk y, fun y hy h2 j hj => ?_⟩
  rw [hk y hy] at h2
  rcases hp y hy j hj h2 with ⟨h3, h4⟩ | ⟨h3, h4⟩
  · rw [h4]
    obtain ⟨h5, h6⟩ := hr y hy h2 j h3
    refine ⟨h5, ?_⟩
    by_cases c : sd_in D (sd_p D y j) l
    · have : sd_in D y l := by
        obtain ⟨k, hk⟩ := c
        exact ⟨k + 1, sd_re_pre j h2 h3 rfl k l hk⟩
      simp only [if_pos c, if_pos this]
      omega
    · simp only [if_neg c]
      split
      · omega
      · exact h6
  · rw [h4]
    refine ⟨hx, ?_⟩
    subst h3
    have : sd_in D y y := ⟨0, rfl⟩
    simp only [if_neg hno, if_pos this]
    omega
theorem rk_new {n : Nat} {D D' : sd_D} (h : sd_rk n D) (h1 : ∀ x, x < n → sd_k D' x = sd_k D x ∧ sd_c D' x = sd_c D x ∧ ∀ j, sd_p D' x j = sd_p D x j) (h2 : 2 ≤ sd_k D' n → sd_c D' n = 0) : sd_rk (n + 1) D' := by
  obtain ⟨rk, hr⟩ := h
  refine ⟨rk, fun x hx hk j hj => ?_⟩
  by_cases c : x = n
  · subst c
    rw [h2 hk] at hj
    exact absurd hj (Nat.not_lt_zero _)
  · obtain ⟨e1, e2, e3⟩ := h1 x (by omega)
    rw [e1] at hk
    rw [e2] at hj
    rw [e3]
    obtain ⟨r1, r2⟩ := hr x (by omega) hk j hj
    exact ⟨by omega, r2⟩

