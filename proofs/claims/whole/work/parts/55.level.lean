/-! the levels of a template's tags: how many blocks are open before each -/
theorem ite_s {c : Prop} {d : Decidable c} {a b : Option Nat} {s : Nat} (h : @ite _ c d a b = some s) : (c ∧ a = some s) ∨ (¬ c ∧ b = some s) := by
  cases d with
  | isTrue z => exact Or.inl ⟨z, h⟩
  | isFalse z => exact Or.inr ⟨z, h⟩
theorem sp_sort_x {t : Nat → Nat} {p e s : Nat} {three : Bool} (hp : p ≤ e) (h : sp_sort t p e three = some s) : (s ≤ 1 → sp_isExpr t p e = true) ∧ (s = 3 → sp_isExpr t (p + 4) e = true ∧ p + 4 ≤ e) ∧ (s = 4 ∨ s = 5 → sp_isExpr t (p + 6) e = true ∧ p + 6 ≤ e) ∧ (s = 10 → p + 3 = e ∧ 97 ≤ t (p + 2) ∧ t (p + 2) ≤ 100) := by
  rw [sp_sort] at h
  rcases ite_s h with ⟨c, h⟩ | ⟨c, h⟩
  · rcases ite_s h with ⟨c2, h⟩ | ⟨c2, h⟩
    · cases h; refine ⟨fun _ => c2, ?_, ?_, ?_⟩ <;> intro z <;> omega
    · cases h
  clear c
  rcases ite_s h with ⟨c, h⟩ | ⟨c, h⟩
  · cases h; refine ⟨?_, ?_, ?_, ?_⟩ <;> intro z <;> omega
  clear c
  rcases ite_s h with ⟨hw, h⟩ | ⟨c, h⟩
  · have h4 : p + 4 ≤ e := sp_st_len t (by decide) (by decide) hp hw
    rcases ite_s h with ⟨c2, h⟩ | ⟨c2, h⟩
    · cases h; refine ⟨?_, fun _ => ⟨c2, h4⟩, ?_, ?_⟩ <;> intro z <;> omega
    · cases h
  clear c
  rcases ite_s h with ⟨hw, h⟩ | ⟨c, h⟩
  · have h4 : p + 6 ≤ e := sp_st_len t (by decide) (by decide) hp hw
    rcases ite_s h with ⟨c2, h⟩ | ⟨c2, h⟩
    · cases h; refine ⟨?_, ?_, fun _ => ⟨c2, h4⟩, ?_⟩ <;> intro z <;> omega
    · cases h
  clear c
  rcases ite_s h with ⟨hw, h⟩ | ⟨c, h⟩
  · have h4 : p + 6 ≤ e := sp_st_len t (by decide) (by decide) hp hw
    rcases ite_s h with ⟨c2, h⟩ | ⟨c2, h⟩
    · cases h; refine ⟨?_, ?_, fun _ => ⟨c2, h4⟩, ?_⟩ <;> intro z <;> omega
    · cases h
  clear c
  rcases ite_s h with ⟨c, h⟩ | ⟨c, h⟩
  · cases h; refine ⟨?_, ?_, ?_, ?_⟩ <;> intro z <;> omega
  clear c
  rcases ite_s h with ⟨c, h⟩ | ⟨c, h⟩
  · cases h; refine ⟨?_, ?_, ?_, ?_⟩ <;> intro z <;> omega
  clear c
  rcases ite_s h with ⟨c, h⟩ | ⟨c, h⟩
  · cases h; refine ⟨?_, ?_, ?_, ?_⟩ <;> intro z <;> omega
  clear c
  rcases ite_s h with ⟨c, h⟩ | ⟨c, h⟩
  · cases h; refine ⟨?_, ?_, ?_, ?_⟩ <;> intro z <;> omega
  clear c
  rcases ite_s h with ⟨c, h⟩ | ⟨c, h⟩
  · rcases ite_s h with ⟨hw, h⟩ | ⟨c2, h⟩
    · cases h; refine ⟨?_, ?_, ?_, fun _ => ⟨by omega, hw.2.2⟩⟩ <;> intro z <;> omega
    · cases h
  clear c
  rcases ite_s h with ⟨c2, h⟩ | ⟨c, h⟩
  · cases h; refine ⟨fun _ => c2, ?_, ?_, ?_⟩ <;> intro z <;> omega
  · cases h
def tg_b (x : Nat × Nat × Nat × Nat × Nat) : Nat := x.1
def tg_f (x : Nat × Nat × Nat × Nat × Nat) : Nat := x.2.1
def tg_q (x : Nat × Nat × Nat × Nat × Nat) : Nat := x.2.2.1
def tg_e (x : Nat × Nat × Nat × Nat × Nat) : Nat := x.2.2.2.1
def tg_s (x : Nat × Nat × Nat × Nat × Nat) : Nat := x.2.2.2.2
/-- where the text before the tag i begins -/
def tp_at (T : pp_T) (i : Nat) : Nat := match i with
  | 0 => 0
  | i + 1 => tg_e (T i)
/-- one tag's place and sort -/
def tg_ok (t : Nat → Nat) (e p : Nat) (x : Nat × Nat × Nat × Nat × Nat) : Prop := p ≤ tg_b x ∧ tg_b x + 2 ≤ tg_f x ∧ tg_f x ≤ tg_q x ∧ tg_q x + 2 ≤ tg_e x ∧ tg_e x ≤ e ∧ tg_s x ≤ 10 ∧ (tg_s x ≤ 1 → sp_isExpr t (tg_f x) (tg_q x) = true) ∧ (tg_s x = 3 → sp_isExpr t (tg_f x + 4) (tg_q x) = true ∧ tg_f x + 4 ≤ tg_q x) ∧ (tg_s x = 4 ∨ tg_s x = 5 → sp_isExpr t (tg_f x + 6) (tg_q x) = true ∧ tg_f x + 6 ≤ tg_q x) ∧ (tg_s x = 10 → tg_f x + 3 = tg_q x ∧ 97 ≤ t (tg_f x + 2) ∧ t (tg_f x + 2) ≤ 100)
/-- the block i, its else and its end -/
def lv_ot (T : pp_T) (ot : pp_O) (lv : Nat → Nat) (m i : Nat) : Prop := ∀ o, ot i = some o → i < o ∧ o < m ∧ lv o = lv i + 1 ∧ lv (o + 1) = lv i + 1 ∧ tg_s (T o) = 6
def lv_la (T : pp_T) (ot la : pp_O) (lv : Nat → Nat) (n i : Nat) : Prop := ∃ l, la i = some l ∧ i < l ∧ l < n ∧ lv l = lv i + 1 ∧ lv (l + 1) = lv i ∧ tg_s (T l) = tg_s (T i) + 4 ∧ lv_ot T ot lv l i
def lv_in (T : pp_T) (ot la : pp_O) (lv : Nat → Nat) (n d : Nat) (os : Nat → Nat) (i : Nat) : Prop :=
  (3 ≤ tg_s (T i) ∧ tg_s (T i) ≤ 5 → lv i < 4 ∧ lv (i + 1) = lv i + 1 ∧ ((∃ j, j < d ∧ os j = i ∧ lv_ot T ot lv n i) ∨ lv_la T ot la lv n i)) ∧
  (tg_s (T i) = 6 → 1 ≤ lv i ∧ lv (i + 1) = lv i) ∧ (7 ≤ tg_s (T i) ∧ tg_s (T i) ≤ 9 → lv i = lv (i + 1) + 1) ∧ (tg_s (T i) ≤ 2 ∨ tg_s (T i) = 10 → lv (i + 1) = lv i)
theorem lv_ot.mv {T T' : pp_T} {ot ot' : pp_O} {lv lv' : Nat → Nat} {m m' i n : Nat} (h : lv_ot T ot lv m i) (hi : i < n) (hm : m ≤ n) (hmm : m ≤ m') (ho : ot' i = ot i) (hT : ∀ j, j < n → T' j = T j) (hl : ∀ j, j ≤ n → lv' j = lv j) : lv_ot T' ot' lv' m' i := by
  intro o h1
  rw [ho] at h1
  have := h o h1
  rw [hl o (by omega), hl (o + 1) (by omega), hl i (by omega), hT o (by omega)]
  exact ⟨this.1, by omega, this.2.2.1, this.2.2.2.1, this.2.2.2.2⟩
theorem lv_la.mv {T T' : pp_T} {ot ot' la la' : pp_O} {lv lv' : Nat → Nat} {i n n' : Nat} (h : lv_la T ot la lv n i) (hi : i < n) (hn : n ≤ n') (ho : ot' i = ot i) (ha : la' i = la i) (hT : ∀ j, j < n → T' j = T j) (hl : ∀ j, j ≤ n → lv' j = lv j) : lv_la T' ot' la' lv' n' i := by
  obtain ⟨l, h1, h2, h3, h4, h5, h6, h7⟩ := h
  refine ⟨l, ha.trans h1, h2, by omega, ?_, ?_, ?_, h7.mv hi (by omega) (Nat.le_refl _) ho hT hl⟩
  · rw [hl l (by omega), hl i (by omega), h4]
  · rw [hl (l + 1) (by omega), hl i (by omega), h5]
  · rw [hT l (by omega), hT i hi, h6]
/-- what was so stays so when the tag n is taken, and the block b is touched (d: how many are open then) -/
theorem lv_in.mv {T T' : pp_T} {ot ot' la la' : pp_O} {lv lv' : Nat → Nat} {n d d' i : Nat} {os os' : Nat → Nat} (h : lv_in T ot la lv n d os i) (hi : i < n) (hT : ∀ j, j < n → T' j = T j) (hl : ∀ j, j ≤ n → lv' j = lv j) (ho : ot' i = ot i) (ha : la' i = la i) (hd : ∀ j, j < d → os j = i → j < d' ∧ os' j = i) : lv_in T' ot' la' lv' (n + 1) d' os' i := by
  rw [lv_in, hT i hi, hl i (by omega), hl (i + 1) (by omega)]
  refine ⟨fun z => ?_, h.2.1, h.2.2.1, h.2.2.2⟩
  obtain ⟨h1, h2, h3⟩ := h.1 z
  refine ⟨h1, h2, ?_⟩
  rcases h3 with ⟨j, hj, hj2, hj3⟩ | h3
  · have := hd j hj hj2
    exact Or.inl ⟨j, this.1, this.2, hj3.mv hi (Nat.le_refl _) (by omega) ho hT hl⟩
  · exact Or.inr (h3.mv hi (by omega) ho ha hT hl)
/-- so far: n tags, d open blocks -/
def lv_so (t : Nat → Nat) (e p n : Nat) (T : pp_T) (d : Nat) (os : Nat → Nat) (ot la : pp_O) : Prop := ∃ lv : Nat → Nat, lv 0 = 0 ∧ lv n = d ∧ d ≤ 4 ∧ p = tp_at T n ∧ (∀ i, i < n → tg_ok t e (tp_at T i) (T i) ∧ lv_in T ot la lv n d os i) ∧ ∀ j, j < d → os j < n ∧ 3 ≤ tg_s (T (os j)) ∧ tg_s (T (os j)) ≤ 5 ∧ lv (os j) = j
theorem lv_fit {t : Nat → Nat} {e p n d d' : Nat} {T : pp_T} {os os' : Nat → Nat} {ot la ot' la' : pp_O} {x : Nat × Nat × Nat × Nat × Nat} (h : lv_so t e p n T d os ot la) (hx : tg_ok t e p x) (hf : pp_fit n (tg_s x) (fun i => (va_up T n x i).2.2.2.2) d os (va_up ot n none) (va_up la n none) = some (d', os', ot', la')) : lv_so t e (tg_e x) (n + 1) (va_up T n x) d' os' ot' la' := by
  obtain ⟨lv, h0, hn, hd4, hp, hi, hj⟩ := h
  have hT : ∀ j, j < n → va_up T n x j = T j := fun j hj => va_up_ne _ _ (by omega)
  have hTn : va_up T n x n = x := va_up_self _ _ _
  have hl : ∀ v j, j ≤ n → va_up lv (n + 1) v j = lv j := fun v j hj => va_up_ne _ _ (by omega)
  have hln : ∀ v, va_up lv (n + 1) v (n + 1) = v := fun v => va_up_self _ _ _
  have hat : ∀ i, i ≤ n → tp_at (va_up T n x) i = tp_at T i := by
    intro i hi
    cases i with
    | zero => rfl
    | succ i => show tg_e _ = tg_e _; rw [hT i (by omega)]
  have hpos : tg_e x = tp_at (va_up T n x) (n + 1) := by show _ = tg_e _; rw [hTn]
  have hok : ∀ i, i < n + 1 → tg_ok t e (tp_at (va_up T n x) i) (va_up T n x i) := by
    intro i hi2
    rw [hat i (by omega)]
    by_cases z : i = n
    · rw [z, hTn, ← hp]; exact hx
    · rw [hT i (by omega)]; exact (hi i (by omega)).1
  have hs10 := hx.2.2.2.2.2.1
  rw [pp_fit] at hf
  by_cases c1 : 2 < tg_s x ∧ tg_s x < 6
  · rw [if_pos c1] at hf
    by_cases c2 : d = 4
    · rw [if_pos c2] at hf; cases hf
    rw [if_neg c2] at hf
    cases hf
    refine ⟨va_up lv (n + 1) (d + 1), (hl _ 0 (by omega)).trans h0, hln _, by omega, hpos, fun i hi2 => ⟨hok i hi2, ?_⟩, fun j hj2 => ?_⟩
    · by_cases z : i = n
      · subst z
        rw [lv_in, hTn, hln, hl _ i (by omega), hn]
        refine ⟨fun _ => ⟨by omega, rfl, Or.inl ⟨d, by omega, va_up_self _ _ _, fun o ho => ?_⟩⟩, ?_, ?_, ?_⟩
        · rw [va_up_self] at ho; cases ho
        all_goals (intro z; omega)
      · refine (hi i (by omega)).2.mv (by omega) hT (hl _) (va_up_ne _ _ z) (va_up_ne _ _ z) (fun j hj2 hj3 => ⟨by omega, ?_⟩)
        rw [va_up_ne _ _ (by omega)]; exact hj3
    · by_cases z : j = d
      · subst z
        rw [va_up_self, hTn, hl _ n (by omega)]
        exact ⟨by omega, by omega, by omega, hn⟩
      · have := hj j (by omega)
        rw [va_up_ne _ _ z, hT _ this.1, hl _ _ (by omega)]
        exact ⟨by omega, this.2.1, this.2.2.1, this.2.2.2⟩
  rw [if_neg c1] at hf
  by_cases c3 : tg_s x ≤ 2 ∨ tg_s x = 10
  · rw [if_pos c3] at hf
    cases hf
    refine ⟨va_up lv (n + 1) d, (hl _ 0 (by omega)).trans h0, hln _, by omega, hpos, fun i hi2 => ⟨hok i hi2, ?_⟩, fun j hj2 => ?_⟩
    · by_cases z : i = n
      · subst z
        rw [lv_in, hTn, hln, hl _ i (by omega), hn]
        refine ⟨?_, ?_, ?_, fun _ => rfl⟩
        all_goals (intro z; omega)
      · exact (hi i (by omega)).2.mv (by omega) hT (hl _) (va_up_ne _ _ z) (va_up_ne _ _ z) (fun j hj2 hj3 => ⟨by omega, hj3⟩)
    · have := hj j (by omega)
      rw [hT _ this.1, hl _ _ (by omega)]
      exact ⟨by omega, this.2.1, this.2.2.1, this.2.2.2⟩
  rw [if_neg c3] at hf
  by_cases c4 : d = 0
  · rw [if_pos c4] at hf; cases hf
  rw [if_neg c4] at hf
  have hb := hj (d - 1) (by omega)
  generalize hB : os (d - 1) = b at *
  have huniq : ∀ j, j < d → os j = b → j = d - 1 := fun j hj2 hj3 => by
    have h1 := (hj j hj2).2.2.2
    rw [hj3] at h1; omega
  have hib1 := ((hi b hb.1).2.1 ⟨hb.2.1, hb.2.2.1⟩).1
  have hib2 := ((hi b hb.1).2.1 ⟨hb.2.1, hb.2.2.1⟩).2.1
  have hibo : lv_ot T ot lv n b := by
    rcases ((hi b hb.1).2.1 ⟨hb.2.1, hb.2.2.1⟩).2.2 with ⟨j, hj2, hj3, hj4⟩ | hla
    · exact hj4
    · obtain ⟨l, _, _, hl3, _, _, _, hl7⟩ := hla
      exact hl7.mv (n := n) hb.1 (by omega) (by omega) rfl (fun _ _ => rfl) (fun _ _ => rfl)
  by_cases c5 : tg_s x = 6
  · rw [if_pos c5] at hf
    by_cases c6 : (va_up ot n none b).isSome = true
    · rw [if_pos c6] at hf; cases hf
    rw [if_neg c6] at hf
    cases hf
    refine ⟨va_up lv (n + 1) d, (hl _ 0 (by omega)).trans h0, hln _, by omega, hpos, fun i hi2 => ⟨hok i hi2, ?_⟩, fun j hj2 => ?_⟩
    · by_cases z : i = n
      · subst z
        rw [lv_in, hTn, hln, hl _ i (by omega), hn]
        refine ⟨?_, fun _ => ⟨by omega, rfl⟩, ?_, ?_⟩
        all_goals (intro z; omega)
      · by_cases zb : i = b
        · subst zb
          have h1 := (hi i (by omega)).2
          rw [lv_in, hT i hb.1, hl _ i (by omega), hl _ (i + 1) (by omega)]
          refine ⟨fun y => ⟨hib1, hib2, Or.inl ⟨d - 1, by omega, hB, ?_⟩⟩, h1.2.1, h1.2.2.1, h1.2.2.2⟩
          intro o ho
          rw [va_up_self] at ho
          cases ho
          rw [hln, hl _ n (by omega), hl _ i (by omega), hTn, hn, hb.2.2.2]
          exact ⟨hb.1, by omega, by omega, by omega, c5⟩
        · exact (hi i (by omega)).2.mv (by omega) hT (hl _) ((va_up_ne _ _ zb).trans (va_up_ne _ _ z)) ((va_up_ne _ _ z).trans (va_up_ne _ _ z)) (fun j hj2 hj3 => ⟨by omega, hj3⟩)
    · have := hj j (by omega)
      rw [hT _ this.1, hl _ _ (by omega)]
      exact ⟨by omega, this.2.1, this.2.2.1, this.2.2.2⟩
  rw [if_neg c5] at hf
  have hso : (va_up T n x b).2.2.2.2 = tg_s (T b) := by rw [hT b hb.1]; rfl
  by_cases c7 : (va_up T n x b).2.2.2.2 ≠ tg_s x - 4
  · rw [if_pos c7] at hf; cases hf
  rw [if_neg c7, ] at hf
  have c8 : tg_s (T b) = tg_s x - 4 := by rw [← hso]; exact Decidable.not_not.mp c7
  cases hf
  refine ⟨va_up lv (n + 1) (d - 1), (hl _ 0 (by omega)).trans h0, hln _, by omega, hpos, fun i hi2 => ⟨hok i hi2, ?_⟩, fun j hj2 => ?_⟩
  · by_cases z : i = n
    · subst z
      rw [lv_in, hTn, hln, hl _ i (by omega), hn]
      refine ⟨?_, ?_, fun _ => by omega, ?_⟩
      all_goals (intro z; omega)
    · by_cases zb : i = b
      · subst zb
        have h1 := (hi i (by omega)).2
        rw [lv_in, hT i hb.1, hl _ i (by omega), hl _ (i + 1) (by omega)]
        refine ⟨fun y => ⟨hib1, hib2, Or.inr ⟨n, va_up_self _ _ _, hb.1, by omega, ?_, ?_, ?_, ?_⟩⟩, h1.2.1, h1.2.2.1, h1.2.2.2⟩
        · rw [hl _ n (by omega), hl _ i (by omega)]; omega
        · rw [hln, hl _ i (by omega)]; omega
        · rw [hTn, hT i hb.1]; omega
        · exact hibo.mv hb.1 (Nat.le_refl _) (Nat.le_refl _) (va_up_ne _ _ z) hT (hl _)
      · refine (hi i (by omega)).2.mv (by omega) hT (hl _) (va_up_ne _ _ z) ?_ (fun j hj2 hj3 => ⟨?_, hj3⟩)
        · exact (va_up_ne _ _ zb).trans ((va_up_ne _ _ z).trans (va_up_ne _ _ z))
        · rcases Nat.lt_or_ge j (d - 1) with q | q
          · exact q
          · have : j = d - 1 := by omega
            subst this; rw [hB] at hj3; exact absurd hj3.symm zb
  · have := hj j (by omega)
    rw [hT _ this.1, hl _ _ (by omega)]
    exact ⟨by omega, this.2.1, this.2.2.1, this.2.2.2⟩
theorem lv_new {t : Nat → Nat} {p e s : Nat} (hp : p ≤ e) (hk : sp_k t p e < e) (hq : sp_q t p e < e) (hs : sp_sort t (sp_f t p e) (sp_q t p e) (sp_th t p e) = some s) : tg_ok t e p (pp_new t p e s) := by
  have hb := sp_q_le t hp hk hq
  have hn : 2 ≤ sp_n (sp_th t p e) := by cases sp_th t p e <;> decide
  have h1 := sp_sort_x hb.2.2.1 hs
  exact ⟨hb.1, hb.2.1, hb.2.2.1, by show _ ≤ sp_q t p e + sp_n (sp_th t p e); show sp_q t p e + 2 ≤ _; omega, hb.2.2.2, sp_sort_le hs, h1.1, h1.2.1, h1.2.2.1, h1.2.2.2⟩
/-- a template taken apart -/
def lv_ok (t : Nat → Nat) (e n : Nat) (T : pp_T) (ot la : pp_O) (lv : Nat → Nat) : Prop := lv 0 = 0 ∧ lv n = 0 ∧ ∀ i, i < n → tg_ok t e (tp_at T i) (T i) ∧ (3 ≤ tg_s (T i) ∧ tg_s (T i) ≤ 5 → lv i < 4 ∧ lv (i + 1) = lv i + 1 ∧ lv_la T ot la lv n i) ∧ (tg_s (T i) = 6 → 1 ≤ lv i ∧ lv (i + 1) = lv i) ∧ (7 ≤ tg_s (T i) ∧ tg_s (T i) ≤ 9 → lv i = lv (i + 1) + 1) ∧ (tg_s (T i) ≤ 2 ∨ tg_s (T i) = 10 → lv (i + 1) = lv i)
theorem lv_pp (t : Nat → Nat) (e : Nat) : ∀ f p n T d os ot la, p ≤ e → lv_so t e p n T d os ot la → ∀ r, pp t e f p n T d os ot la = .inr r → ∃ lv, lv_ok t e r.1 r.2.1 r.2.2.1 r.2.2.2 lv := by
  intro f
  induction f with
  | zero => intro p n T d os ot la _ _ r h; cases h
  | succ f ih =>
    intro p n T d os ot la hp hT r h
    rw [pp] at h
    by_cases hk : e ≤ sp_k t p e
    · rw [if_pos hk] at h
      by_cases hd : 0 < d
      · rw [if_pos hd] at h; cases h
      · rw [if_neg hd] at h; cases h
        obtain ⟨lv, h0, hn, _, _, hi, _⟩ := hT
        refine ⟨lv, h0, by show lv n = 0; omega, fun i hi2 => ⟨(hi i hi2).1, fun z => ?_, (hi i hi2).2.2⟩⟩
        have h1 := (hi i hi2).2.1 z
        refine ⟨h1.1, h1.2.1, ?_⟩
        rcases h1.2.2 with ⟨j, hj, _⟩ | h2
        · omega
        · exact h2
    · rw [if_neg hk] at h
      by_cases hq : e ≤ sp_q t p e
      · rw [if_pos hq] at h; cases h
      · rw [if_neg hq] at h
        have hb := sp_q_le t hp (by omega) (by omega)
        cases hs : sp_sort t (sp_f t p e) (sp_q t p e) (sp_th t p e) with
        | none => rw [hs] at h; cases h
        | some s =>
          simp only [hs] at h
          revert h
          cases hfit : pp_fit n s (fun x => (va_up T n (pp_new t p e s) x).2.2.2.2) d os (va_up ot n none) (va_up la n none) with
          | none => intro h; cases h
          | some z =>
            obtain ⟨d', os', ot', la'⟩ := z
            intro h
            exact ih _ _ _ d' os' ot' la' hb.2.2.2 (lv_fit hT (lv_new hp (by omega) (by omega) hs) hfit) r h
theorem lv_all {t : Nat → Nat} {e n : Nat} {T : pp_T} {ot la : pp_O} (h : pp_all t 0 e = .inr (n, T, ot, la)) : ∃ lv, lv_ok t e n T ot la lv :=
  lv_pp t e _ 0 0 _ 0 _ _ _ (Nat.zero_le _) ⟨fun _ => 0, rfl, rfl, by omega, rfl, fun i hi => absurd hi (by omega), fun i hi => absurd hi (by omega)⟩ _ h

