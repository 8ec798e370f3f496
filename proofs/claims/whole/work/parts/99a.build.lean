/-! READER: the tree as it grows -/
abbrev bl (X : tp_X) (i : Nat) : Prop := 3 ≤ rn_s X i ∧ rn_s X i ≤ 5
def nx (X : tp_X) (i : Nat) : Option Nat := if bl X i then (X.2.2.2.2 i).map (· + 1) else some (i + 1)
/-- what a link holds that leads to position to; W is what is there at the end so far -/
def lw (X : tp_X) (A B : Nat → Nat) (W : Option Nat) (to : Option Nat) : Option Nat := match to with
  | none => none
  | some j => if j < X.2.1 then (if rn_text X j = [] then pt_tl X B j else some (A j)) else W
def bt_tg (g : jg_G) (h0 h : jh_H) (X : tp_X) (A B : Nat → Nat) (W : Option Nat) (i : Nat) : Prop := jh_O h (B i) 5 ∧ B i ∉ jh_L h0 ∧ jh_r h (B i) 320 = some (jg_c g (pt_srt (rn_s X i))) ∧ jh_i h (B i) 321 = nI (tg_b (X.2.2.1 i)) ∧ jh_r h (B i) 325 = lw X A B W (nx X i) ∧ (rn_s X i = 10 → jh_i h (B i) 324 = nI (rn_pt X i)) ∧ (rn_s X i ≠ 2 → rn_s X i ≠ 10 → ∃ e, jh_r h (B i) 323 = some e ∧ xp_ok g h (xk h0 h) (rn_ex X i) e) ∧ (bl X i → jh_r h (B i) 326 = lw X A B W (some (i + 1)) ∧ jh_r h (B i) 327 = lw X A B W ((X.2.2.2.1 i).map (· + 1)))
def bt_pl (g : jg_G) (h0 h : jh_H) (X : tp_X) (A : Nat → Nat) (i : Nat) (nxt : Option Nat) : Prop := jh_O h (A i) 5 ∧ A i ∉ jh_L h0 ∧ jh_r h (A i) 320 = some (jg_c g 101) ∧ (∃ tb ch cap, jh_r h (A i) 322 = some tb ∧ xk h0 h tb ∧ xk h0 h ch ∧ tx_is h tb ch cap (rn_text X i)) ∧ jh_r h (A i) 325 = nxt
def dj (X : tp_X) (A B : Nat → Nat) : Prop := (∀ i j, ¬ pt_end X i → ¬ pt_end X j → B i = B j → i = j) ∧ (∀ i j, i < X.2.1 → j < X.2.1 → rn_text X i ≠ [] → rn_text X j ≠ [] → A i = A j → i = j) ∧ ∀ i j, i < X.2.1 → rn_text X i ≠ [] → ¬ pt_end X j → A i ≠ B j
def BI (g : jg_G) (h0 h : jh_H) (X : tp_X) (A B : Nat → Nat) (rt : Nat) (W : Option Nat) : Prop := jh_O h rt 5 ∧ rt ∈ jh_L h0 ∧ jh_r h rt 326 = lw X A B W (some 0) ∧ (∀ i, i < X.2.1 → rn_text X i ≠ [] → bt_pl g h0 h X A i (pt_tl X B i)) ∧ (∀ i, ¬ pt_end X i → bt_tg g h0 h X A B W i) ∧ dj X A B
/-- hasElse -/
def FL (h : jh_H) (X : tp_X) (B : Nat → Nat) (rt : Nat) : Prop := jh_i h rt 328 = 0 ∧ ∀ i, ¬ pt_end X i → bl X i → jh_i h (B i) 328 = if (X.2.2.2.1 i).isSome then 1 else 0
/-- elses and ends lie before -/
def TB (X : tp_X) : Prop := ∀ i, ¬ pt_end X i → bl X i → (∀ o, X.2.2.2.1 i = some o → o < X.2.1) ∧ ∀ l, X.2.2.2.2 i = some l → l < X.2.1
/-- the one link that leads to the end so far -/
def HO (X : tp_X) (A B : Nat → Nat) (rt ha hk : Nat) : Prop := ((rt = ha ∧ 326 = hk) ↔ 0 = X.2.1) ∧ (∀ i, ¬ pt_end X i → ((B i = ha ∧ 325 = hk) ↔ nx X i = some X.2.1) ∧ (bl X i → ((B i = ha ∧ 326 = hk) ↔ i + 1 = X.2.1) ∧ ((B i = ha ∧ 327 = hk) ↔ (X.2.2.2.1 i).map (· + 1) = some X.2.1))) ∧ (∀ i, i < X.2.1 → rn_text X i ≠ [] → A i ≠ ha) ∧ (hk = 325 ∨ hk = 326 ∨ hk = 327)
theorem xk.mv {h0 h h' : jh_H} {S : Nat → Prop} {b : Nat} (hx : xk h0 h b) (f : fr S h h') : xk h0 h' b := by
  have e := f.1 b hx.2.1
  exact ⟨hx.1, e.1, by rw [e.2]; exact hx.2.2.1, by rw [e.2]; exact hx.2.2.2⟩
theorem bt_pl.mv {g : jg_G} {h0 h h' : jh_H} {X : tp_X} {A : Nat → Nat} {i : Nat} {nxt : Option Nat} {S : Nat → Prop} (hp : bt_pl g h0 h X A i nxt) (f : fr S h h') (hS : ∀ b, xk h0 h b → ¬ S b) (ha : ¬ S (A i)) : bt_pl g h0 h' X A i nxt := by
  obtain ⟨p1, p2, p3, ⟨tb, ch, cap, p4, p5, p6, p7⟩, p8⟩ := hp
  have e := f.2 _ p1.1 ha
  exact ⟨e.O p1, p2, (e.2.2.2.2.1 320).trans p3, ⟨tb, ch, cap, (e.2.2.2.2.1 322).trans p4, p5.mv f, p6.mv f, p7.fr f (hS _ p5) (hS _ p6)⟩, (e.2.2.2.2.1 325).trans p8⟩
theorem xp_xk {g : jg_G} {h0 h h' : jh_H} {X : ex_E} {a : Nat} {S : Nat → Prop} (hx : xp_ok g h (xk h0 h) X a) (f : fr S h h') (hS : ∀ b, xk h0 h b → ¬ S b) : xp_ok g h' (xk h0 h') X a := (hx.fr f hS).mono (fun _ p _ _ _ => p.mv f)
theorem bt_tg.mv {g : jg_G} {h0 h h' : jh_H} {X : tp_X} {A B : Nat → Nat} {i : Nat} {W : Option Nat} {S : Nat → Prop} (hp : bt_tg g h0 h X A B W i) (f : fr S h h') (hS : ∀ b, xk h0 h b → ¬ S b) (hb : ¬ S (B i)) : bt_tg g h0 h' X A B W i := by
  obtain ⟨p1, p2, p3, p4, p5, p6, p7, p8⟩ := hp
  have e := f.2 _ p1.1 hb
  refine ⟨e.O p1, p2, (e.2.2.2.2.1 320).trans p3, (e.2.2.1 321).trans p4, (e.2.2.2.2.1 325).trans p5, fun z => (e.2.2.1 324).trans (p6 z), fun z1 z2 => ?_, fun z => ⟨(e.2.2.2.2.1 326).trans (p8 z).1, (e.2.2.2.2.1 327).trans (p8 z).2⟩⟩
  obtain ⟨x, x1, x2⟩ := p7 z1 z2
  exact ⟨x, (e.2.2.2.2.1 323).trans x1, xp_xk x2 f hS⟩
-- what leaves new cells and the root alone
theorem BI.mv {g : jg_G} {h0 h h' : jh_H} {X : tp_X} {A B : Nat → Nat} {rt : Nat} {W : Option Nat} {S : Nat → Prop} (hb : BI g h0 h X A B rt W) (f : fr S h h') (hS : ∀ b, b ∉ jh_L h0 → b ∈ jh_L h → ¬ S b) (hr : ¬ S rt) : BI g h0 h' X A B rt W := by
  obtain ⟨b1, b2, b3, b4, b5, b6⟩ := hb
  have e := f.2 _ b1.1 hr
  exact ⟨e.O b1, b2, (e.2.2.2.2.1 326).trans b3, fun i hi ht => (b4 i hi ht).mv f (fun b z => hS b z.1 z.2.1) (hS _ (b4 i hi ht).2.1 (b4 i hi ht).1.1), fun i hi => (b5 i hi).mv f (fun b z => hS b z.1 z.2.1) (hS _ (b5 i hi).2.1 (b5 i hi).1.1), b6⟩
theorem FL.mv {g : jg_G} {h0 h h' : jh_H} {X : tp_X} {A B : Nat → Nat} {rt : Nat} {W : Option Nat} {S : Nat → Prop} (hf : FL h X B rt) (hb : BI g h0 h X A B rt W) (f : fr S h h') (hS : ∀ b, b ∉ jh_L h0 → b ∈ jh_L h → ¬ S b) (hr : ¬ S rt) : FL h' X B rt := by
  refine ⟨((f.2 _ hb.1.1 hr).2.2.1 328).trans hf.1, fun i hi hbl => ?_⟩
  have p := hb.2.2.2.2.1 i hi
  exact ((f.2 _ p.1.1 (hS _ p.2.1 p.1.1)).2.2.1 328).trans (hf.2 i hi hbl)
theorem lw_irr {X : tp_X} {A B : Nat → Nat} {W W' to : Option Nat} (h1 : to ≠ some X.2.1) (h2 : ∀ j, to = some j → j ≤ X.2.1) : lw X A B W to = lw X A B W' to := by
  cases to with
  | none => rfl
  | some j =>
    have hj : j < X.2.1 := by
      have := h2 j rfl
      have : j ≠ X.2.1 := fun e => h1 (by rw [e])
      omega
    show (if j < X.2.1 then _ else _) = (if j < X.2.1 then _ else _)
    rw [if_pos hj, if_pos hj]
theorem lw_at {X : tp_X} {A B : Nat → Nat} {W to : Option Nat} (h1 : to = some X.2.1) : lw X A B W to = W := by
  rw [h1]
  exact if_neg (Nat.lt_irrefl _)
theorem map1_le {o : Option Nat} {n j : Nat} (h : ∀ l, o = some l → l < n) (hj : o.map (· + 1) = some j) : j ≤ n := by
  cases o with
  | none => cases hj
  | some l =>
    have hj : some (l + 1) = some j := hj
    have := h l rfl
    have := Option.some.inj hj
    omega
-- a part is hung at the end so far
theorem BI.at {g : jg_G} {h0 h : jh_H} {X : tp_X} {A B : Nat → Nat} {rt ha hk q : Nat} {W : Option Nat} (hb : BI g h0 h X A B rt none) (ht : TB X) (ho : HO X A B rt ha hk) (hO : jh_O h ha 5) (hW : W = some q) : BI g h0 (jh_sr h ha hk W) X A B rt W := by
  obtain ⟨b1, b2, b3, b4, b5, b6⟩ := hb
  obtain ⟨o1, o2, o3, o4⟩ := ho
  have f : fr (fun b => b = ha) h (jh_sr h ha hk W) := fr.sr fr.rf rfl
  have nk : ∀ b, xk h0 h b → b ≠ ha := fun b z e => z.2.2.1 (by rw [e, hO.2])
  have rd : ∀ a k, ¬ (a = ha ∧ k = hk) → jh_r (jh_sr h ha hk W) a k = jh_r h a k := by
    intro a k z
    by_cases c : a = ha
    · exact jh_u_k _ _ _ _ (fun e => z ⟨c, e⟩)
    · exact jh_u_a _ _ _ _ c
  have wr : ∀ a k, a = ha → k = hk → jh_r (jh_sr h ha hk W) a k = W := fun a k e1 e2 => by rw [e1, e2]; exact jh_u_s _ _ _ _
  -- a link
  have link : ∀ a k to, jh_r h a k = lw X A B none to → ((a = ha ∧ k = hk) ↔ to = some X.2.1) → (∀ j, to = some j → j ≤ X.2.1) → jh_r (jh_sr h ha hk W) a k = lw X A B W to := by
    intro a k to e1 e2 e3
    by_cases c : to = some X.2.1
    · obtain ⟨z1, z2⟩ := e2.mpr c
      rw [wr a k z1 z2, lw_at c]
    · rw [rd a k (fun z => c (e2.mp z)), e1]
      exact lw_irr c e3
  refine ⟨b1, b2, link _ _ _ b3 ⟨fun z => by rw [← o1.mp z], fun z => o1.mpr (Option.some.inj z)⟩ (fun j z => by have := Option.some.inj z; omega), fun i hi hti => (b4 i hi hti).mv f nk (fun z => o3 i hi hti z), fun i hi => ?_, b6⟩
  obtain ⟨p1, p2, p3, p4, p5, p6, p7, p8⟩ := b5 i hi
  obtain ⟨q1, q2⟩ := o2 i hi
  have hlt : i < X.2.1 := by unfold pt_end at hi; omega
  have e3 : ∀ k, k ≠ 325 → k ≠ 326 → k ≠ 327 → jh_r (jh_sr h ha hk W) (B i) k = jh_r h (B i) k := fun k z1 z2 z3 => rd _ _ (fun z => by omega)
  refine ⟨p1, p2, (e3 320 (by decide) (by decide) (by decide)).trans p3, p4, link _ _ _ p5 q1 (fun j hj => ?_), p6, fun z1 z2 => ?_, fun z => ⟨link _ _ _ (p8 z).1 ⟨fun y => by rw [((q2 z).1).mp y], fun y => ((q2 z).1).mpr (Option.some.inj y)⟩ (fun j hj => by have := Option.some.inj hj; omega), link _ _ _ (p8 z).2 (q2 z).2 (fun j hj => map1_le (ht i hi z).1 hj)⟩⟩
  · unfold nx at hj
    by_cases c : bl X i
    · rw [if_pos c] at hj
      exact map1_le (ht i hi c).2 hj
    · rw [if_neg c] at hj
      have := Option.some.inj hj
      omega
  · obtain ⟨x, x1, x2⟩ := p7 z1 z2
    exact ⟨x, (e3 323 (by decide) (by decide) (by decide)).trans x1, xp_xk x2 f nk⟩

theorem sg_s {L : List Nat} {n : Nat} {T : pp_T} {ot la ot' la' : pp_O} {x : Nat × Nat × Nat × Nat × Nat} {i : Nat} (hi : i < n) : rn_s (L, n + 1, va_up T n x, ot', la') i = rn_s (L, n, T, ot, la) i := by
  show tg_s (va_up T n x i) = tg_s (T i)
  rw [va_up_ne _ _ (by omega)]
theorem sg_T {T : pp_T} {n : Nat} {x : Nat × Nat × Nat × Nat × Nat} {i : Nat} (hi : i < n) : va_up T n x i = T i := va_up_ne _ _ (by omega)
theorem sg_at {T : pp_T} {n : Nat} {x : Nat × Nat × Nat × Nat × Nat} {i : Nat} (hi : i ≤ n) : tp_at (va_up T n x) i = tp_at T i := by
  cases i with
  | zero => rfl
  | succ i =>
    show tg_e (va_up T n x i) = tg_e (T i)
    rw [sg_T (by omega)]
theorem sg_text {L : List Nat} {n : Nat} {T : pp_T} {ot la ot' la' : pp_O} {x : Nat × Nat × Nat × Nat × Nat} {i : Nat} (hi : i < n) : rn_text (L, n + 1, va_up T n x, ot', la') i = rn_text (L, n, T, ot, la) i := by
  have e1 : rn_stop (L, n + 1, va_up T n x, ot', la') i = rn_stop (L, n, T, ot, la) i := by
    show (if i < n + 1 then tg_b (va_up T n x i) else _) = (if i < n then tg_b (T i) else _)
    rw [if_pos (by omega), if_pos hi, sg_T hi]
  unfold rn_text
  rw [e1]
  show sp_sub _ (tp_at (va_up T n x) i) (_ - tp_at (va_up T n x) i) = _
  rw [sg_at (by omega)]
  rfl
theorem sg_end {L : List Nat} {n : Nat} {T : pp_T} {ot la ot' la' : pp_O} {x : Nat × Nat × Nat × Nat × Nat} {i : Nat} (hi : i < n) : pt_end (L, n + 1, va_up T n x, ot', la') i ↔ pt_end (L, n, T, ot, la) i := by
  show (n + 1 ≤ i ∨ _) ↔ (n ≤ i ∨ _)
  rw [sg_s hi (ot := ot) (la := la)]
  constructor
  · rintro (z | z)
    · omega
    · exact Or.inr z
  · rintro (z | z)
    · omega
    · exact Or.inr z
theorem sg_tl {L : List Nat} {n : Nat} {T : pp_T} {ot la ot' la' : pp_O} {x : Nat × Nat × Nat × Nat × Nat} {B : Nat → Nat} {i : Nat} (hi : i < n) : pt_tl (L, n + 1, va_up T n x, ot', la') B i = pt_tl (L, n, T, ot, la) B i := by
  unfold pt_tl
  by_cases c : pt_end (L, n, T, ot, la) i
  · rw [if_pos c, if_pos ((sg_end hi).mpr c)]
  · rw [if_neg c, if_neg (fun z => c ((sg_end hi).mp z))]
/-- what stands of a tag's new part -/
def nb_ok (g : jg_G) (h0 h : jh_H) (X : tp_X) (B : Nat → Nat) (n : Nat) : Prop := jh_O h (B n) 5 ∧ B n ∉ jh_L h0 ∧ jh_r h (B n) 320 = some (jg_c g (pt_srt (rn_s X n))) ∧ jh_i h (B n) 321 = nI (tg_b (X.2.2.1 n)) ∧ jh_r h (B n) 325 = none ∧ (rn_s X n = 10 → jh_i h (B n) 324 = nI (rn_pt X n)) ∧ (rn_s X n ≠ 2 → rn_s X n ≠ 10 → ∃ e, jh_r h (B n) 323 = some e ∧ xp_ok g h (xk h0 h) (rn_ex X n) e) ∧ jh_r h (B n) 326 = none ∧ jh_r h (B n) 327 = none
theorem BI.step {g : jg_G} {h0 h : jh_H} {L : List Nat} {n : Nat} {T : pp_T} {ot la ot' la' : pp_O} {x : Nat × Nat × Nat × Nat × Nat} {A B : Nat → Nat} {rt : Nat} {W : Option Nat} (hb : BI g h0 h (L, n, T, ot, la) A B rt W) (ht : TB (L, n, T, ot, la)) (hot : ∀ i, i < n → ot' i = ot i ∨ (ot i = none ∧ ot' i = some n)) (hla : ∀ i, i < n → bl (L, n, T, ot, la) i → la' i = la i ∨ (la i = none ∧ la' i = some n)) (hnn : ¬ pt_end (L, n + 1, va_up T n x, ot', la') n → ot' n = none ∧ la' n = none)
    (hW : W = if rn_text (L, n + 1, va_up T n x, ot', la') n = [] then pt_tl (L, n + 1, va_up T n x, ot', la') B n else some (A n)) (hA : rn_text (L, n + 1, va_up T n x, ot', la') n ≠ [] → bt_pl g h0 h (L, n + 1, va_up T n x, ot', la') A n (pt_tl (L, n + 1, va_up T n x, ot', la') B n) ∧ (∀ i, i < n → rn_text (L, n, T, ot, la) i ≠ [] → A i ≠ A n) ∧ ∀ i, ¬ pt_end (L, n, T, ot, la) i → A n ≠ B i)
    (hB : ¬ pt_end (L, n + 1, va_up T n x, ot', la') n → nb_ok g h0 h (L, n + 1, va_up T n x, ot', la') B n ∧ (∀ i, ¬ pt_end (L, n, T, ot, la) i → B i ≠ B n) ∧ (∀ i, i < n → rn_text (L, n, T, ot, la) i ≠ [] → A i ≠ B n) ∧ (rn_text (L, n + 1, va_up T n x, ot', la') n ≠ [] → A n ≠ B n)) : BI g h0 h (L, n + 1, va_up T n x, ot', la') A B rt none := by
  obtain ⟨b1, b2, b3, b4, b5, b6⟩ := hb
  -- the links
  have lj : ∀ j, j ≤ n → lw (L, n + 1, va_up T n x, ot', la') A B none (some j) = lw (L, n, T, ot, la) A B W (some j) := by
    intro j hj
    show (if j < n + 1 then _ else none) = (if j < n then _ else W)
    rw [if_pos (by omega)]
    by_cases c : j < n
    · rw [if_pos c, sg_text c (ot := ot) (la := la), sg_tl c (ot := ot) (la := la)]
    · have : j = n := by omega
      subst this
      rw [if_neg c, hW]
  have lo : ∀ (o o' : Option Nat), (∀ l, o = some l → l < n) → (o' = o ∨ (o = none ∧ o' = some n)) → lw (L, n + 1, va_up T n x, ot', la') A B none (o'.map (· + 1)) = lw (L, n, T, ot, la) A B W (o.map (· + 1)) := by
    intro o o' h1 h2
    rcases h2 with h2 | ⟨h2, h3⟩
    · rw [h2]
      cases o with
      | none => rfl
      | some l => exact lj (l + 1) (by have := h1 l rfl; omega)
    · rw [h2, h3]
      show (if n + 1 < n + 1 then _ else none) = none
      rw [if_neg (by omega)]
  have hlt : ∀ i, ¬ pt_end (L, n + 1, va_up T n x, ot', la') i → i < n ∨ i = n := by
    intro i hi
    have : ¬ (n + 1 ≤ i) := fun z => hi (Or.inl z)
    omega
  refine ⟨b1, b2, by rw [b3, lj 0 (by omega)], fun i hi hti => ?_, fun i hi => ?_, fun i j hi hj e => ?_, fun i j hi hj hti htj e => ?_, fun i j hi hti hj => ?_⟩
  · have hi : i < n + 1 := hi
    by_cases c : i < n
    · rw [sg_text c (ot := ot) (la := la)] at hti
      have := b4 i c hti
      obtain ⟨p1, p2, p3, p4, p5⟩ := this
      refine ⟨p1, p2, p3, ?_, ?_⟩
      · rw [sg_text c (ot := ot) (la := la)]; exact p4
      · rw [sg_tl c (ot := ot) (la := la)]; exact p5
    · have : i = n := by omega
      subst this
      exact (hA hti).1
  · rcases hlt i hi with c | c
    · obtain ⟨p1, p2, p3, p4, p5, p6, p7, p8⟩ := b5 i (fun z => hi ((sg_end c).mpr z))
      have es : rn_s (L, n + 1, va_up T n x, ot', la') i = rn_s (L, n, T, ot, la) i := sg_s c
      have eb : tg_b (va_up T n x i) = tg_b (T i) := by rw [sg_T c]
      have ex : rn_ex (L, n + 1, va_up T n x, ot', la') i = rn_ex (L, n, T, ot, la) i := by
        unfold rn_ex
        rw [es]
        show ex_ex _ (tg_f (va_up T n x i) + _) (tg_q (va_up T n x i)) = _
        rw [sg_T c]
        rfl
      have ep : rn_pt (L, n + 1, va_up T n x, ot', la') i = rn_pt (L, n, T, ot, la) i := by
        unfold rn_pt
        show (tx _ (tg_f (va_up T n x i) + 2)) - 97 = _
        rw [sg_T c]
        rfl
      have ebl : bl (L, n + 1, va_up T n x, ot', la') i ↔ bl (L, n, T, ot, la) i := by unfold bl; rw [es]
      have hni : ¬ pt_end (L, n, T, ot, la) i := fun z => hi ((sg_end c).mpr z)
      refine ⟨p1, p2, by rw [es]; exact p3, by show _ = nI (tg_b (va_up T n x i)); rw [eb]; exact p4, ?_, fun z => by rw [ep]; exact p6 (by rw [← es]; exact z), fun z1 z2 => by rw [ex]; exact p7 (by rw [← es]; exact z1) (by rw [← es]; exact z2), fun z => ?_⟩
      · rw [p5]
        unfold nx
        by_cases cb : bl (L, n, T, ot, la) i
        · rw [if_pos cb, if_pos (ebl.mpr cb)]
          exact (lo (la i) (la' i) (ht i hni cb).2 (hla i c cb)).symm
        · rw [if_neg cb, if_neg (fun z => cb (ebl.mp z))]
          exact (lj (i + 1) (by omega)).symm
      · obtain ⟨y1, y2⟩ := p8 (ebl.mp z)
        exact ⟨by rw [y1]; exact (lj (i + 1) (by omega)).symm, by rw [y2]; exact (lo (ot i) (ot' i) (ht i hni (ebl.mp z)).1 (hot i c)).symm⟩
    · subst c
      obtain ⟨⟨p1, p2, p3, p4, p5, p6, p7, p8, p9⟩, -⟩ := hB hi
      obtain ⟨n1, n2⟩ := hnn hi
      have e1 : lw (L, i + 1, va_up T i x, ot', la') A B none (some (i + 1)) = none := if_neg (Nat.lt_irrefl _)
      refine ⟨p1, p2, p3, p4, ?_, p6, p7, fun z => ⟨by rw [p8, e1], ?_⟩⟩
      · rw [p5]
        unfold nx
        split
        · show none = lw _ A B none (Option.map _ (la' i))
          rw [n2]; rfl
        · exact e1.symm
      · rw [p9]
        show none = lw _ A B none (Option.map _ (ot' i))
        rw [n1]; rfl
  · rcases hlt i hi with c | c <;> rcases hlt j hj with c' | c'
    · exact b6.1 i j (fun z => hi ((sg_end c).mpr z)) (fun z => hj ((sg_end c').mpr z)) e
    · subst c'
      exact absurd e ((hB hj).2.1 i (fun z => hi ((sg_end c).mpr z)))
    · subst c
      exact absurd e.symm ((hB hi).2.1 j (fun z => hj ((sg_end c').mpr z)))
    · rw [c, c']
  · have hi : i < n + 1 := hi
    have hj : j < n + 1 := hj
    by_cases c : i < n
    · by_cases c' : j < n
      · rw [sg_text c (ot := ot) (la := la)] at hti
        rw [sg_text c' (ot := ot) (la := la)] at htj
        exact b6.2.1 i j c c' hti htj e
      · have : j = n := by omega
        subst this
        rw [sg_text c (ot := ot) (la := la)] at hti
        exact absurd e ((hA htj).2.1 i c hti)
    · have : i = n := by omega
      subst this
      by_cases c' : j < i
      · rw [sg_text c' (ot := ot) (la := la)] at htj
        exact absurd e.symm ((hA hti).2.1 j c' htj)
      · omega
  · have hi : i < n + 1 := hi
    rcases hlt j hj with c' | c'
    · have hj' : ¬ pt_end (L, n, T, ot, la) j := fun z => hj ((sg_end c').mpr z)
      by_cases c : i < n
      · rw [sg_text c (ot := ot) (la := la)] at hti
        exact b6.2.2 i j c hti hj'
      · have : i = n := by omega
        subst this
        exact (hA hti).2.2 j hj'
    · subst c'
      by_cases c : i < j
      · rw [sg_text c (ot := ot) (la := la)] at hti
        exact (hB hj).2.2.1 i c hti
      · have : i = j := by omega
        subst this
        exact (hB hj).2.2.2 hti

