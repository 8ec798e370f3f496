/-! VALUES of the class: what a pointer stands for -/
def vl_num (h : jh_H) (a : Nat) (x : Int32) : Prop := jh_O h a 2 ∧ jh_i h a 128 = 0 ∧ jh_i h a 129 = x ∧ jh_i h a 133 = 0
def vl_txt (h : jh_H) (a tb ch cap : Nat) (L : List Nat) : Prop := jh_O h a 2 ∧ jh_i h a 128 = 1 ∧ jh_r h a 130 = some tb ∧ tx_is h tb ch cap L ∧ jh_i h a 133 = 0
theorem vl_num.eq {h h' : jh_H} {a : Nat} {x : Int32} (hv : vl_num h a x) (e : jh_eq h h' a) : vl_num h' a x := ⟨e.O hv.1, (e.2.2.1 128).trans hv.2.1, (e.2.2.1 129).trans hv.2.2.1, (e.2.2.1 133).trans hv.2.2.2⟩
theorem vl_txt.eq {h h' : jh_H} {a tb ch cap : Nat} {L : List Nat} (hv : vl_txt h a tb ch cap L) (e : jh_eq h h' a) (e1 : jh_eq h h' tb) (e2 : jh_eq h h' ch) : vl_txt h' a tb ch cap L := ⟨e.O hv.1, (e.2.2.1 128).trans hv.2.1, (e.2.2.2.2.1 130).trans hv.2.2.1, hv.2.2.2.1.eq e1 e2, (e.2.2.1 133).trans hv.2.2.2.2⟩
/-- a NAME's letters -/
def nm_ok (L : List Nat) : Prop := 1 ≤ L.length ∧ L.length ≤ 8 ∧ L.all sp_lt = true
def nm_rel (D : sd_D) (x j : Nat) (w : Int64) : Prop := if sd_k D x = 3 then ∃ L, nm_ok L ∧ sd_n D x j = nm_c L 0 ∧ w = nc7 L 0 else w = 0
abbrev cd_E : Type := (Nat → Nat) × (Nat → Nat) × (Nat → Nat)
/-- the DATA x, as the class has it: dv x, with its entries and names -/
def cd_1 (h : jh_H) (n : Nat) (D : sd_D) (E : cd_E) (P : Nat → Prop) (x : Nat) : Prop := P (E.1 x) ∧ sd_k D x ≤ 3 ∧ (sd_k D x = 0 → vl_num h (E.1 x) (sd_v D x)) ∧ (sd_k D x = 1 → ∃ tb ch cap, P tb ∧ P ch ∧ vl_txt h (E.1 x) tb ch cap ((List.range (sd_c D x)).map (sd_t D x))) ∧ (2 ≤ sd_k D x → P (E.2.1 x) ∧ P (E.2.2 x) ∧ jh_O h (E.1 x) 2 ∧ jh_i h (E.1 x) 128 = nI (sd_k D x) ∧ jh_r h (E.1 x) 131 = some (E.2.1 x) ∧ jh_r h (E.1 x) 132 = some (E.2.2 x) ∧ jh_A h (E.2.1 x) 4 10 ∧ jh_A h (E.2.2 x) 2 10 ∧ jh_i h (E.1 x) 133 = nI (sd_c D x) ∧ sd_c D x ≤ 10 ∧ ∀ j, j < sd_c D x → jh_R h (E.2.1 x) j = some (E.1 (sd_p D x j)) ∧ sd_p D x j < n ∧ nm_rel D x j (jh_G h (E.2.2 x) j))
def cd_ok (h : jh_H) (n : Nat) (D : sd_D) (E : cd_E) (P : Nat → Prop) : Prop := n ≤ 60 ∧ ∀ x, x < n → cd_1 h n D E P x
set_option maxHeartbeats 4000000 in
set_option maxRecDepth 100000 in
theorem cd_1.eq {h h' : jh_H} {n : Nat} {D : sd_D} {E : cd_E} {P : Nat → Prop} {x : Nat} (hc : cd_1 h n D E P x) (hP : ∀ b, P b → jh_eq h h' b) : cd_1 h' n D E P x := by
  obtain ⟨h1, h2, h3, h4, h5⟩ := hc
  refine ⟨h1, h2, fun z => (h3 z).eq (hP _ h1), fun z => ?_, fun z => ?_⟩
  · obtain ⟨tb, ch, cap, a1, a2, a3⟩ := h4 z
    exact ⟨tb, ch, cap, a1, a2, a3.eq (hP _ h1) (hP _ a1) (hP _ a2)⟩
  · obtain ⟨a1, a2, a3, a4, a5, a6, a7, a8, a9, a10, a11⟩ := h5 z
    have e0 := hP _ h1
    have e1 := hP _ a1
    have e2 := hP _ a2
    exact ⟨a1, a2, e0.O a3, (e0.2.2.1 128).trans a4, (e0.2.2.2.2.1 131).trans a5, (e0.2.2.2.2.1 132).trans a6, e1.A a7, e2.A a8, (e0.2.2.1 133).trans a9, a10, fun j hj => ⟨(e1.2.2.2.2.2.2.2 j).trans (a11 j hj).1, (a11 j hj).2.1, by rw [e2.2.2.2.2.2.2.1 j]; exact (a11 j hj).2.2⟩⟩
set_option maxHeartbeats 4000000 in
set_option maxRecDepth 100000 in
theorem cd_ok.eq {h h' : jh_H} {n : Nat} {D : sd_D} {E : cd_E} {P : Nat → Prop} (hc : cd_ok h n D E P) (hP : ∀ b, P b → jh_eq h h' b) : cd_ok h' n D E P := ⟨hc.1, fun x hx => (hc.2 x hx).eq hP⟩
/-- what the pointer p stands for; its own cells are among P -/
def vl_is (h : jh_H) (n : Nat) (D : sd_D) (E : cd_E) (P : Nat → Prop) (p : Option Nat) (v : sv_T) : Prop := match v with
  | none => p = none
  | some (.inl x) => ∃ a, p = some a ∧ P a ∧ vl_num h a x
  | some (.inr (.inl L)) => ∃ a tb ch cap, p = some a ∧ P a ∧ P tb ∧ P ch ∧ vl_txt h a tb ch cap L
  | some (.inr (.inr x)) => p = some (E.1 x) ∧ x < n ∧ 2 ≤ sd_k D x
theorem vl_is.eq {h h' : jh_H} {n : Nat} {D : sd_D} {E : cd_E} {P : Nat → Prop} {p : Option Nat} {v : sv_T} (hv : vl_is h n D E P p v) (hP : ∀ b, P b → jh_eq h h' b) : vl_is h' n D E P p v := by
  rcases v with _ | v | L | x
  · exact hv
  · obtain ⟨a, h1, h2, h3⟩ := hv
    exact ⟨a, h1, h2, h3.eq (hP _ h2)⟩
  · obtain ⟨a, tb, ch, cap, h1, h2, h3, h4, h5⟩ := hv
    exact ⟨a, tb, ch, cap, h1, h2, h3, h4, h5.eq (hP _ h2) (hP _ h3) (hP _ h4)⟩
  · exact hv
theorem vl_is.mono {h : jh_H} {n : Nat} {D : sd_D} {E : cd_E} {P P' : Nat → Prop} {p : Option Nat} {v : sv_T} (hv : vl_is h n D E P p v) (hP : ∀ b, P b → P' b) : vl_is h n D E P' p v := by
  rcases v with _ | v | L | x
  · exact hv
  · obtain ⟨a, h1, h2, h3⟩ := hv
    exact ⟨a, h1, hP _ h2, h3⟩
  · obtain ⟨a, tb, ch, cap, h1, h2, h3, h4, h5⟩ := hv
    exact ⟨a, tb, ch, cap, h1, hP _ h2, hP _ h3, hP _ h4, h5⟩
  · exact hv
theorem vl_of {h : jh_H} {n : Nat} {D : sd_D} {E : cd_E} {P : Nat → Prop} {x : Nat} (hc : cd_ok h n D E P) (hx : x < n) : vl_is h n D E P (some (E.1 x)) (sv_of D x) := by
  obtain ⟨h1, h2, h3, h4, h5⟩ := hc.2 x hx
  rw [sv_of]
  by_cases k0 : sd_k D x = 0
  · rw [if_pos k0]; exact ⟨_, rfl, h1, h3 k0⟩
  · rw [if_neg k0]
    by_cases k1 : sd_k D x = 1
    · rw [if_pos k1]
      obtain ⟨tb, ch, cap, a1, a2, a3⟩ := h4 k1
      exact ⟨_, tb, ch, cap, rfl, h1, a1, a2, a3⟩
    · rw [if_neg k1]; exact ⟨rfl, hx, by omega⟩
theorem nil_or_snoc (L : List Nat) : L = [] ∨ ∃ L' a, L = L' ++ [a] := by
  rcases List.eq_nil_or_concat L with h | ⟨L', a, h⟩
  · exact Or.inl h
  · exact Or.inr ⟨L', a, by rw [h, List.concat_eq_append]⟩
/-- names: the model's and the class's codes tell the same NAMES apart -/
def nn_c (B : Nat) : List Nat → Nat → Nat
  | [], w => w
  | c :: r, w => nn_c B r (w * B + (c - 96))
theorem nn_app (B : Nat) (L : List Nat) (c : Nat) : ∀ w, nn_c B (L ++ [c]) w = nn_c B L w * B + (c - 96) := by
  induction L with
  | nil => intro w; rfl
  | cons a r ih => intro w; exact ih _
theorem nn_lt {B : Nat} (hB : 27 ≤ B) : ∀ (L : List Nat) (w : Nat), L.all sp_lt = true → nn_c B L w < (w + 1) * B ^ L.length := by
  intro L
  induction L with
  | nil => intro w _; show w < (w + 1) * 1; omega
  | cons c r ih =>
    intro w h
    rw [List.all_cons, Bool.and_eq_true] at h
    have hc := of_decide_eq_true h.1
    have h1 := ih (w * B + (c - 96)) h.2
    refine Nat.lt_of_lt_of_le h1 ?_
    rw [List.length_cons, Nat.pow_succ, Nat.mul_comm (B ^ r.length) B, ← Nat.mul_assoc]
    refine Nat.mul_le_mul_right _ ?_
    rw [Nat.add_mul]
    omega
theorem nn_inj {B : Nat} (hB : 27 ≤ B) : ∀ (k : Nat) (L M : List Nat), L.length ≤ k → L.all sp_lt = true → M.all sp_lt = true → nn_c B L 0 = nn_c B M 0 → L = M := by
  intro k
  induction k with
  | zero =>
    intro L M hk hL hM he
    have : L = [] := List.length_eq_zero_iff.mp (by omega)
    subst this
    rcases nil_or_snoc M with rfl | ⟨M', c, rfl⟩
    · rfl
    · rw [nn_app] at he
      rw [List.all_append, Bool.and_eq_true] at hM
      have hc := of_decide_eq_true ((Bool.and_eq_true_iff.mp hM.2).1)
      have : nn_c B [] 0 = 0 := rfl
      omega
  | succ k ih =>
    intro L M hk hL hM he
    rcases nil_or_snoc L with rfl | ⟨L', a, rfl⟩
    · rcases nil_or_snoc M with rfl | ⟨M', c, rfl⟩
      · rfl
      · rw [nn_app] at he
        rw [List.all_append, Bool.and_eq_true] at hM
        have hc := of_decide_eq_true ((Bool.and_eq_true_iff.mp hM.2).1)
        have : nn_c B [] 0 = 0 := rfl
        omega
    · rcases nil_or_snoc M with rfl | ⟨M', c, rfl⟩
      · rw [nn_app] at he
        rw [List.all_append, Bool.and_eq_true] at hL
        have hc := of_decide_eq_true ((Bool.and_eq_true_iff.mp hL.2).1)
        have : nn_c B [] 0 = 0 := rfl
        omega
      · rw [nn_app, nn_app] at he
        rw [List.all_append, Bool.and_eq_true] at hL hM
        have ha := of_decide_eq_true ((Bool.and_eq_true_iff.mp hL.2).1)
        have hc := of_decide_eq_true ((Bool.and_eq_true_iff.mp hM.2).1)
        have e1 : a - 96 = c - 96 := by
          have h1 := congrArg (· % B) he
          simp only [Nat.mul_add_mod_self_right] at h1
          rw [Nat.mod_eq_of_lt (show a - 96 < B by omega), Nat.mod_eq_of_lt (show c - 96 < B by omega)] at h1
          exact h1
        have e2 : nn_c B L' 0 = nn_c B M' 0 := by
          rw [e1] at he
          have : nn_c B L' 0 * B = nn_c B M' 0 * B := by omega
          exact Nat.eq_of_mul_eq_mul_right (by omega) this
        rw [List.length_append] at hk
        have := ih L' M' (by simpa using hk) hL.1 hM.1 e2
        rw [this, show a = c by omega]
theorem nn_32 : ∀ (L : List Nat) (w : Nat), L.all sp_lt = true → nm_c L (lN w) = lN (nn_c 32 L w) := by
  intro L
  induction L with
  | nil => intro w _; rfl
  | cons c r ih =>
    intro w h
    rw [List.all_cons, Bool.and_eq_true] at h
    have hc := of_decide_eq_true h.1
    rw [nm_c, nn_c, ← ih _ h.2, nI_l (by omega)]
    congr 1
    rw [show (32 : Int64) = lN 32 from rfl, show (96 : Int64) = lN 96 from rfl, lN_mul, lN_add, lN_sub (by omega)]
    congr 1; omega
theorem nn_27 : ∀ (L : List Nat) (w : Nat), L.all sp_lt = true → nc7 L (lN w) = lN (nn_c 27 L w) := by
  intro L
  induction L with
  | nil => intro w _; rfl
  | cons c r ih =>
    intro w h
    rw [List.all_cons, Bool.and_eq_true] at h
    have hc := of_decide_eq_true h.1
    have e : nI c - 97 + 1 = nI (c - 96) := by
      rw [show nI c - 97 = nI (c - 97) from pk_sub (b := 97) (by omega), nI_1]; congr 1; omega
    rw [nc7, nn_c, ← ih _ h.2, e, nI_l (by omega)]
    congr 1
    rw [show (27 : Int64) = lN 27 from rfl, lN_mul, lN_add]
theorem nn_small {B : Nat} (hB : 27 ≤ B) (hB2 : B ≤ 32) {L : List Nat} (h : nm_ok L) : nn_c B L 0 < 2 ^ 41 := by
  have h1 := nn_lt hB L 0 h.2.2
  have h2 : B ^ L.length ≤ 32 ^ 8 := Nat.le_trans (Nat.pow_le_pow_left hB2 _) (Nat.pow_le_pow_right (by decide) h.2.1)
  have : (32 : Nat) ^ 8 < 2 ^ 41 := by decide
  omega
theorem lN_eq41 {a b : Nat} (ha : a < 2 ^ 41) (hb : b < 2 ^ 41) (h : lN a = lN b) : a = b := by
  have h1 := congrArg Int64.toInt h
  rw [pk_lT (by omega), pk_lT (by omega)] at h1
  omega
theorem nm_same {L M : List Nat} (hL : nm_ok L) (hM : nm_ok M) : (nm_c L 0 = nm_c M 0 ↔ nc7 L 0 = nc7 M 0) := by
  have a1 := nn_32 L 0 hL.2.2
  have a2 := nn_32 M 0 hM.2.2
  have b1 := nn_27 L 0 hL.2.2
  have b2 := nn_27 M 0 hM.2.2
  constructor
  · intro h
    have h : nm_c L (lN 0) = nm_c M (lN 0) := h
    rw [a1, a2] at h
    have := nn_inj (B := 32) (by decide) _ L M (Nat.le_refl _) hL.2.2 hM.2.2 (lN_eq41 (nn_small (by decide) (by decide) hL) (nn_small (by decide) (by decide) hM) h)
    rw [this]
  · intro h
    have h : nc7 L (lN 0) = nc7 M (lN 0) := h
    rw [b1, b2] at h
    have := nn_inj (B := 27) (by decide) _ L M (Nat.le_refl _) hL.2.2 hM.2.2 (lN_eq41 (nn_small (by decide) (by decide) hL) (nn_small (by decide) (by decide) hM) h)
    rw [this]
theorem nn_pos {B : Nat} (hB : 27 ≤ B) {L : List Nat} (h : nm_ok L) : 0 < nn_c B L 0 := by
  rcases nil_or_snoc L with rfl | ⟨L', a, rfl⟩
  · exact absurd h.1 (by decide)
  · rw [nn_app]
    have h2 := h.2.2
    rw [List.all_append, Bool.and_eq_true] at h2
    have hc := of_decide_eq_true ((Bool.and_eq_true_iff.mp h2.2).1)
    omega
theorem nm_pos {L : List Nat} (h : nm_ok L) : nc7 L 0 ≠ 0 ∧ nm_c L 0 ≠ 0 ∧ ¬ nc7 L 0 < 0 := by
  have b1 : nc7 L 0 = lN (nn_c 27 L 0) := nn_27 L 0 h.2.2
  have b2 : nm_c L 0 = lN (nn_c 32 L 0) := nn_32 L 0 h.2.2
  have p1 := nn_pos (B := 27) (by decide) h
  have p2 := nn_pos (B := 32) (by decide) h
  have s1 := nn_small (B := 27) (by decide) (by decide) h
  have s2 := nn_small (B := 32) (by decide) (by decide) h
  refine ⟨fun z => ?_, fun z => ?_, fun z => ?_⟩
  · rw [b1] at z
    have := lN_eq41 s1 (b := 0) (by decide) z
    omega
  · rw [b2] at z
    have := lN_eq41 s2 (b := 0) (by decide) z
    omega
  · rw [b1] at z
    have h1 := Int64.lt_iff_toInt_lt.mp z
    rw [pk_lT (by omega)] at h1
    have : (0 : Int64).toInt = 0 := rfl
    omega

