/-! READER: a tag is taken in -/
def tS (h0 : jh_H) (r op rt b : Nat) : Prop := b = r ∨ b = op ∨ b = rt ∨ b ∉ jh_L h0
def tf (h0 : jh_H) (r op rt : Nat) (h h' : jh_H) : Prop := fr (tS h0 r op rt) h h' ∧ (∀ k, k ≠ 259 → jh_i h' r k = jh_i h r k) ∧ ∀ k, k ≠ 260 → jh_r h' r k = jh_r h r k
def tpp (X : tp_X) (B : Nat → Nat) (rt d : Nat) (os : Nat → Nat) : Nat := if d = 0 then rt else B (os (d - 1))
def elp (X : tp_X) (d : Nat) (os : Nat → Nat) : Bool := if d = 0 then false else (X.2.2.2.1 (os (d - 1))).isSome
def RT (g : jg_G) (h0 h : jh_H) (r op rt : Nat) (X : tp_X) (A B : Nat → Nat) (d : Nat) (os : Nat → Nat) (lst W : Option Nat) : Prop := rz h r op d lst ∧ jh_R h op 0 = some rt ∧ (∀ j, j < d → jh_R h op (j + 1) = some (B (os j)) ∧ ¬ pt_end X (os j) ∧ bl X (os j) ∧ X.2.2.2.2 (os j) = none) ∧ (∀ i j, i < d → j < d → os i = os j → i = j) ∧ BI g h0 h X A B rt W ∧ FL h X B rt ∧ TB X ∧ r ∈ jh_L h0 ∧ op ∈ jh_L h0
/-- where the next part is to be hung -/
def HH (h0 h : jh_H) (X : tp_X) (A B : Nat → Nat) (rt d : Nat) (os : Nat → Nat) (lst : Option Nat) : Prop := HO X A B rt (hf lst (tpp X B rt d os) (elp X d os)).1 (hf lst (tpp X B rt d os) (elp X d os)).2 ∧ jh_O h (hf lst (tpp X B rt d os) (elp X d os)).1 5 ∧ ((hf lst (tpp X B rt d os) (elp X d os)).1 = rt ∨ (hf lst (tpp X B rt d os) (elp X d os)).1 ∉ jh_L h0)
def ap_ok (g : jg_G) (h0 h : jh_H) (a : Nat) (txt : List Nat) (nxt : Option Nat) : Prop := jh_O h a 5 ∧ a ∉ jh_L h0 ∧ jh_r h a 320 = some (jg_c g 101) ∧ (∃ tb ch cap, jh_r h a 322 = some tb ∧ xk h0 h tb ∧ xk h0 h ch ∧ tx_is h tb ch cap txt) ∧ jh_r h a 325 = nxt
theorem ap_ok.mv {g : jg_G} {h0 h h' : jh_H} {a : Nat} {txt : List Nat} {nxt : Option Nat} {S : Nat → Prop} (hp : ap_ok g h0 h a txt nxt) (f : fr S h h') (hS : ∀ b, xk h0 h b → ¬ S b) (ha : ¬ S a) : ap_ok g h0 h' a txt nxt := by
  obtain ⟨p1, p2, p3, ⟨tb, ch, cap, p4, p5, p6, p7⟩, p8⟩ := hp
  have e := f.2 _ p1.1 ha
  exact ⟨e.O p1, p2, (e.2.2.2.2.1 320).trans p3, ⟨tb, ch, cap, (e.2.2.2.2.1 322).trans p4, p5.mv f, p6.mv f, p7.fr f (hS _ p5) (hS _ p6)⟩, (e.2.2.2.2.1 325).trans p8⟩
/-- the plain text before the tag n is hung, or there is none -/
def MD (g : jg_G) (h0 h : jh_H) (rt : Nat) (X : tp_X) (A B : Nat → Nat) (d : Nat) (os : Nat → Nat) (lst W : Option Nat) (txt : List Nat) : Prop := (txt = [] ∧ W = none ∧ HH h0 h X A B rt d os lst) ∨ (txt ≠ [] ∧ W = some (A X.2.1) ∧ lst = some (A X.2.1) ∧ ap_ok g h0 h (A X.2.1) txt none ∧ (∀ i, i < X.2.1 → rn_text X i ≠ [] → A i ≠ A X.2.1) ∧ ∀ i, ¬ pt_end X i → A X.2.1 ≠ B i)
theorem RT.top {g : jg_G} {h0 h : jh_H} {r op rt : Nat} {X : tp_X} {A B : Nat → Nat} {d : Nat} {os : Nat → Nat} {lst W : Option Nat} (hT : RT g h0 h r op rt X A B d os lst W) : jh_R h op d = some (tpp X B rt d os) ∧ jh_O h (tpp X B rt d os) 5 ∧ jh_i h (tpp X B rt d os) 328 = (if elp X d os then 1 else 0) := by
  obtain ⟨t1, t2, t3, t4, t5, t6, t7, t8, t9⟩ := hT
  unfold tpp elp
  by_cases c : d = 0
  · rw [if_pos c, if_pos c, c]
    exact ⟨t2, t5.1, t6.1⟩
  · rw [if_neg c, if_neg c]
    obtain ⟨u1, u2, u3, u4⟩ := t3 (d - 1) (by omega)
    rw [show d - 1 + 1 = d by omega] at u1
    exact ⟨u1, (t5.2.2.2.2.1 _ u2).1, t6.2 _ u2 u3⟩
-- the tag's part is hung
theorem MD.hang {g : jg_G} {h0 h : jh_H} {r op rt q : Nat} {X : tp_X} {A B : Nat → Nat} {d : Nat} {os : Nat → Nat} {lst W : Option Nat} {txt : List Nat} (hT : RT g h0 h r op rt X A B d os lst W) (hM : MD g h0 h rt X A B d os lst W txt) (hA : ∀ i, i < X.2.1 → rn_text X i ≠ [] → A i ≠ q) (hAn : txt ≠ [] → A X.2.1 ≠ q) : ∀ a k, a = (hf lst (tpp X B rt d os) (elp X d os)).1 → k = (hf lst (tpp X B rt d os) (elp X d os)).2 → (jh_O h a 5 ∧ (a = rt ∨ a ∉ jh_L h0) ∧ (k = 325 ∨ k = 326 ∨ k = 327)) ∧ BI g h0 (jh_sr h a k (some q)) X A B rt (if txt = [] then some q else some (A X.2.1)) ∧ (txt ≠ [] → ap_ok g h0 (jh_sr h a k (some q)) (A X.2.1) txt (some q)) := by
  intro a k ea ek
  obtain ⟨t1, t2, t3, t4, t5, t6, t7, t8, t9⟩ := hT
  rcases hM with ⟨m1, m2, m3, m4, m5⟩ | ⟨m1, m2, m3, m4, m5, m6⟩
  · rw [← ea, ← ek] at m3
    rw [← ea] at m4 m5
    rw [if_pos m1]
    rw [m2] at t5
    exact ⟨⟨m4, m5, m3.2.2.2⟩, t5.at t7 m3 m4 rfl, fun z => absurd m1 z⟩
  · rw [if_neg m1]
    have e1 : a = A X.2.1 := by rw [ea, m3]; rfl
    have e2 : k = 325 := by rw [ek, m3]; rfl
    subst e2
    rw [e1]
    have f : fr (fun b => b = A X.2.1) h (jh_sr h (A X.2.1) 325 (some q)) := fr.sr fr.rf rfl
    have nk : ∀ b, xk h0 h b → b ≠ A X.2.1 := fun b z e => z.2.2.1 (by rw [e, m4.1.2])
    rw [m2] at t5
    refine ⟨⟨m4.1, Or.inr m4.2.1, Or.inl rfl⟩, t5.mv2 f nk (fun e => m4.2.1 (by rw [← e]; exact t5.2.1)) (fun i hi hti e => m5 i hi hti e) (fun i hi e => m6 i hi e.symm), fun _ => ?_⟩
    obtain ⟨p1, p2, p3, ⟨tb, ch, cap, p4, p5, p6, p7⟩, p8⟩ := m4
    exact ⟨p1, p2, (jh_u_k _ _ _ _ (by decide)).trans p3, ⟨tb, ch, cap, (jh_u_k _ _ _ _ (by decide)).trans p4, p5.mv f, p6.mv f, p7.fr f (nk _ p5) (nk _ p6)⟩, jh_u_s _ _ _ _⟩

/-- what the tag's part must be like -/
def tg_nw (g : jg_G) (h0 h : jh_H) (L : List Nat) (x : Nat × Nat × Nat × Nat × Nat) (q o : Nat) : Prop := nw_pt g h q o (tg_b x) ∧ q ∉ jh_L h0 ∧ (tg_s x = 10 → jh_i h q 324 = nI (tL L (tg_f x + 2) - 97)) ∧ (tg_s x ≠ 2 → tg_s x ≠ 10 → (tg_s x < 6 → ∃ e, jh_r h q 323 = some e ∧ xp_ok g h (xk h0 h) (ex_ex (tL L) (tg_f x + rn_xo (tg_s x)) (tg_q x)) e))
theorem tg_nw.mv {g : jg_G} {h0 h h' : jh_H} {L : List Nat} {x : Nat × Nat × Nat × Nat × Nat} {q o : Nat} {S : Nat → Prop} (hn : tg_nw g h0 h L x q o) (f : fr S h h') (hS : ∀ b, xk h0 h b → ¬ S b) (hq : ¬ S q) : tg_nw g h0 h' L x q o := by
  obtain ⟨n1, n2, n3, n4⟩ := hn
  have e := f.2 _ n1.1.1 hq
  refine ⟨n1.eq e, n2, fun z => (e.2.2.1 324).trans (n3 z), fun z1 z2 z3 => ?_⟩
  obtain ⟨y, y1, y2⟩ := n4 z1 z2 z3
  exact ⟨y, (e.2.2.2.2.1 323).trans y1, xp_xk y2 f hS⟩
/-- the sort, as the class has it -/
def o_s (s : Nat) : Nat := if s = 0 then 3 else if s = 1 then 2 else if s = 2 then 4 else if s = 10 then 5 else s + 3
theorem o_srt {s : Nat} (h : s ≤ 5 ∨ s = 10) : 100 + o_s s = pt_srt s := by
  have : s = 0 ∨ s = 1 ∨ s = 2 ∨ s = 3 ∨ s = 4 ∨ s = 5 ∨ s = 10 := by omega
  rcases this with rfl | rfl | rfl | rfl | rfl | rfl | rfl <;> rfl
theorem tg_nw.nb {g : jg_G} {h0 h : jh_H} {L : List Nat} {n : Nat} {T : pp_T} {ot la : pp_O} {x : Nat × Nat × Nat × Nat × Nat} {B : Nat → Nat} {q : Nat} (hn : tg_nw g h0 h L x q (o_s (tg_s x))) (hs : tg_s x ≤ 5 ∨ tg_s x = 10) : nb_ok g h0 h (L, n + 1, va_up T n x, ot, la) (va_up B n q) n := by
  have e1 : va_up B n q n = q := va_up_self _ _ _
  have e2 : rn_s (L, n + 1, va_up T n x, ot, la) n = tg_s x := by show tg_s (va_up T n x n) = _; rw [va_up_self]
  have e3 : tg_b (va_up T n x n) = tg_b x := by rw [va_up_self]
  have e4 : rn_pt (L, n + 1, va_up T n x, ot, la) n = tL L (tg_f x + 2) - 97 := by
    unfold rn_pt
    show tx _ (tg_f (va_up T n x n) + 2) - 97 = _
    rw [va_up_self]; rfl
  have e5 : rn_ex (L, n + 1, va_up T n x, ot, la) n = ex_ex (tL L) (tg_f x + rn_xo (tg_s x)) (tg_q x) := by
    unfold rn_ex
    rw [e2]
    show ex_ex _ (tg_f (va_up T n x n) + _) (tg_q (va_up T n x n)) = _
    rw [va_up_self]; rfl
  obtain ⟨⟨m1, m2, m3, m4, m5, m6, m7⟩, n2, n3, n4⟩ := hn
  rw [o_srt hs] at m2
  unfold nb_ok
  rw [e1, e2, e4, e5]
  exact ⟨m1, n2, m2, by show _ = nI (tg_b (va_up T n x n)); rw [e3]; exact m3, m4, n3, fun z1 z2 => n4 z1 z2 (by omega), m5, m6⟩
-- the tables' step at an open block
theorem os_lt {X : tp_X} {d : Nat} {os : Nat → Nat} {j : Nat} (h : ∀ j, j < d → ¬ pt_end X (os j)) (hj : j < d) : os j < X.2.1 := pt_lt (h j hj)

