/-! THE HEAP AS FUNCTIONS. jh_H: the cells of ours, in the order in which they were made; their kinds (a class's number and how many fields; 100 + an array type's number and the length); int, long and reference fields; ints, longs and references in arrays. -/
abbrev jh_H : Type := List Nat × (Nat → Nat × Nat) × (Nat → Nat → Int32) × (Nat → Nat → Int64) × (Nat → Nat → Option Nat) × (Nat → Nat → Int32) × (Nat → Nat → Int64) × (Nat → Nat → Option Nat)
def jh_L (h : jh_H) : List Nat := h.1
def jh_K (h : jh_H) : Nat → Nat × Nat := h.2.1
def jh_i (h : jh_H) : Nat → Nat → Int32 := h.2.2.1
def jh_g (h : jh_H) : Nat → Nat → Int64 := h.2.2.2.1
def jh_r (h : jh_H) : Nat → Nat → Option Nat := h.2.2.2.2.1
def jh_I (h : jh_H) : Nat → Nat → Int32 := h.2.2.2.2.2.1
def jh_G (h : jh_H) : Nat → Nat → Int64 := h.2.2.2.2.2.2.1
def jh_R (h : jh_H) : Nat → Nat → Option Nat := h.2.2.2.2.2.2.2
def jh_u {α : Type} (f : Nat → Nat → α) (a k : Nat) (v : α) : Nat → Nat → α := fun b j => if b = a then (if j = k then v else f b j) else f b j
def jh_z {α : Type} (f : Nat → Nat → α) (a : Nat) (v : α) : Nat → Nat → α := fun b j => if b = a then v else f b j
def jh_si (h : jh_H) (a k : Nat) (v : Int32) : jh_H := (jh_L h, jh_K h, jh_u (jh_i h) a k v, jh_g h, jh_r h, jh_I h, jh_G h, jh_R h)
def jh_sg (h : jh_H) (a k : Nat) (v : Int64) : jh_H := (jh_L h, jh_K h, jh_i h, jh_u (jh_g h) a k v, jh_r h, jh_I h, jh_G h, jh_R h)
def jh_sr (h : jh_H) (a k : Nat) (v : Option Nat) : jh_H := (jh_L h, jh_K h, jh_i h, jh_g h, jh_u (jh_r h) a k v, jh_I h, jh_G h, jh_R h)
def jh_sI (h : jh_H) (a k : Nat) (v : Int32) : jh_H := (jh_L h, jh_K h, jh_i h, jh_g h, jh_r h, jh_u (jh_I h) a k v, jh_G h, jh_R h)
def jh_sG (h : jh_H) (a k : Nat) (v : Int64) : jh_H := (jh_L h, jh_K h, jh_i h, jh_g h, jh_r h, jh_I h, jh_u (jh_G h) a k v, jh_R h)
def jh_sR (h : jh_H) (a k : Nat) (v : Option Nat) : jh_H := (jh_L h, jh_K h, jh_i h, jh_g h, jh_r h, jh_I h, jh_G h, jh_u (jh_R h) a k v)
def jh_nw (h : jh_H) (q kd n : Nat) : jh_H := (jh_L h ++ [q], va_up (jh_K h) q (kd, n), jh_z (jh_i h) q 0, jh_z (jh_g h) q 0, jh_z (jh_r h) q none, jh_z (jh_I h) q 0, jh_z (jh_G h) q 0, jh_z (jh_R h) q none)
theorem jh_u_s {α : Type} (f : Nat → Nat → α) (a k : Nat) (v : α) : jh_u f a k v a k = v := by simp [jh_u]
theorem jh_u_k {α : Type} (f : Nat → Nat → α) (a b : Nat) {k j : Nat} (v : α) (h : j ≠ k) : jh_u f a k v b j = f b j := by simp [jh_u, h]
theorem jh_u_a {α : Type} (f : Nat → Nat → α) {a b : Nat} (k j : Nat) (v : α) (h : b ≠ a) : jh_u f a k v b j = f b j := by simp [jh_u, h]
theorem jh_z_s {α : Type} (f : Nat → Nat → α) (a j : Nat) (v : α) : jh_z f a v a j = v := by simp [jh_z]
theorem jh_z_a {α : Type} (f : Nat → Nat → α) {a b : Nat} (j : Nat) (v : α) (h : b ≠ a) : jh_z f a v b j = f b j := by simp [jh_z, h]
/-- the sort of a type: 0 as an int, 1 a long, 2 a reference -/
def jc_so (t : FieldType) : Nat := match t with
  | .long => 1
  | .object _ => 2
  | .array _ => 2
  | _ => 0
def jc_q (ci : Nat) : vw_C := jc_cl.getD ci ("", fun _ => ("", "", "", false), 0)
def jh_fv (h : jh_H) (a ci k : Nat) : Value := match jc_so (jc_ty ci k) with
  | 0 => .int (jh_i h a (64 * ci + k))
  | 1 => .long (jh_g h a (64 * ci + k))
  | _ => va_rf (jh_r h a (64 * ci + k))
def jh_ac (h : jh_H) (a t : Nat) : (Nat → Int32) ⊕ (Nat → Int64) ⊕ (Nat → UInt32) ⊕ (Nat → UInt64) ⊕ (Nat → Option Nat) := match jc_so (jc_at t) with
  | 0 => .inl (jh_I h a)
  | 1 => .inr (.inl (jh_G h a))
  | _ => .inr (.inr (.inr (.inr (jh_R h a))))
/-- what is fixed: the launch, the classes' numbers and slots, the arrays' classes, the first address of ours, the addresses of constants -/
abbrev jg_G : Type := Launch × va_G × (Nat → ClassId) × Nat × (Nat → Nat)
abbrev jg_l (g : jg_G) : Launch := g.1
abbrev jg_D (g : jg_G) : va_G := g.2.1
abbrev jg_A (g : jg_G) : Nat → ClassId := g.2.2.1
abbrev jg_b (g : jg_G) : Nat := g.2.2.2.1
abbrev jg_c (g : jg_G) : Nat → Nat := g.2.2.2.2
def jg_S (g : jg_G) : Nat → Prop := fun q => jg_b g ≤ q
def jg_t (g : jg_G) : List (ClassId × FieldType) := (List.range jc_an).map (fun t => (jg_A g t, jc_at t))
theorem jg_t_at (g : jg_G) {t : Nat} (h : t < jc_an) : (jg_t g)[t]? = some (jg_A g t, jc_at t) := by
  simp [jg_t, h]
def jh_E (g : jg_G) (h : jh_H) (a : Nat) : va_E := if (jh_K h a).1 < 100 then .inr ((jh_K h a).1, (List.range (jh_K h a).2).map (jh_fv h a (jh_K h a).1)) else .inl (jg_A g ((jh_K h a).1 - 100), (jh_K h a).2, jh_ac h a ((jh_K h a).1 - 100))
def jh_W (g : jg_G) (h : jh_H) : va_W := va_pl (jh_L h) (jh_E g h)
/-- the heap H holds h -/
def jh_P (g : jg_G) (h : jh_H) (H : Heap) : Prop := va_P (jg_D g) jc_cl (jh_W g h) H ∧ va_D (jg_S g) (jh_W g h)
/-- an object of class ci; an array of type t and length n -/
def jh_O (h : jh_H) (a ci : Nat) : Prop := a ∈ jh_L h ∧ jh_K h a = (ci, (jc_q ci).2.2)
def jh_A (h : jh_H) (a t n : Nat) : Prop := a ∈ jh_L h ∧ jh_K h a = (100 + t, n)
theorem jh_E_O {g : jg_G} {h : jh_H} {a ci : Nat} (hc : ci < 100) (ho : jh_O h a ci) : jh_E g h a = .inr (ci, (List.range (jc_q ci).2.2).map (jh_fv h a ci)) := by
  simp only [jh_E, ho.2, if_pos hc]
theorem jh_E_A {g : jg_G} {h : jh_H} {a t n : Nat} (ho : jh_A h a t n) : jh_E g h a = .inl (jg_A g t, n, jh_ac h a t) := by
  have h1 : ¬ (100 + t < 100) := by omega
  have h2 : 100 + t - 100 = t := by omega
  simp only [jh_E, ho.2, if_neg h1, h2]
theorem jh_at {g : jg_G} {h : jh_H} {a : Nat} (ha : a ∈ jh_L h) : ∃ k : Nat, (jh_W g h)[k]? = some (a, jh_E g h a) := va_pl_get (X := []) ha
/-- one cell changes -/
theorem jh_set {g : jg_G} {h h' : jh_H} {a k : Nat} {e : va_E} (hD : va_D (jg_S g) (jh_W g h)) (ha : a ∈ jh_L h) (hk : (jh_W g h)[k]? = some (a, jh_E g h a)) (hL : jh_L h' = jh_L h) (he : jh_E g h' a = e) (ho : ∀ b, b ≠ a → jh_E g h' b = jh_E g h b) : (jh_W g h).set k (a, e) = jh_W g h' := by
  have h1 := va_pl_set (A := jg_S g) (X := []) (L := jh_L h) (f := jh_E g h) (a := a) (k := k) (e := e) hD ha hk
  rw [List.nil_append, List.nil_append] at h1
  rw [jh_W, h1, jh_W, hL]
  refine va_pl_congr (fun b => ?_)
  by_cases hb : b = a
  · subst hb; rw [va_up_self, he]
  · rw [va_up_ne _ _ hb, ho b hb]
theorem jh_fv_o {h h' : jh_H} {b : Nat} (e1 : jh_i h' b = jh_i h b) (e2 : jh_g h' b = jh_g h b) (e3 : jh_r h' b = jh_r h b) (ci : Nat) : jh_fv h' b ci = jh_fv h b ci := by
  funext k
  simp only [jh_fv, e1, e2, e3]
theorem jh_E_o {g : jg_G} {h h' : jh_H} {b : Nat} (e0 : jh_K h' b = jh_K h b) (e1 : jh_i h' b = jh_i h b) (e2 : jh_g h' b = jh_g h b) (e3 : jh_r h' b = jh_r h b) (e4 : jh_I h' b = jh_I h b) (e5 : jh_G h' b = jh_G h b) (e6 : jh_R h' b = jh_R h b) : jh_E g h' b = jh_E g h b := by
  simp only [jh_E, e0, jh_fv_o e1 e2 e3, jh_ac, e4, e5, e6]
theorem jh_u_row {α : Type} (f : Nat → Nat → α) {a b : Nat} (k : Nat) (v : α) (h : b ≠ a) : jh_u f a k v b = f b := by
  funext j; simp [jh_u, h]
theorem jh_z_row {α : Type} (f : Nat → Nat → α) {a b : Nat} (v : α) (h : b ≠ a) : jh_z f a v b = f b := by
  funext j; simp [jh_z, h]
theorem jh_P.kept {g : jg_G} {h : jh_H} {H H1 : Heap} (hp : jh_P g h H) (hq : ∀ q : Nat, q < H.size → H1[q]? = H[q]?) : jh_P g h H1 :=
  ⟨fun k q hk => va_at.kept (hp.1 k q hk) (hq _ (va_at.lt (hp.1 k q hk))), hp.2⟩
theorem jh_fresh {g : jg_G} {h : jh_H} {H : Heap} (hp : jh_P g h H) {a : Nat} (ha : H.size ≤ a) : a ∉ jh_L h := va_pl_fresh (X := []) (L := jh_L h) (f := jh_E g h) hp.1 ha
