/-! TEXT: the class's rows of characters -/
def fr (S : Nat → Prop) (h h' : jh_H) : Prop := (∀ b, b ∈ jh_L h → b ∈ jh_L h' ∧ jh_K h' b = jh_K h b) ∧ ∀ b, b ∈ jh_L h → ¬ S b → jh_eq h h' b
theorem fr.rf {S : Nat → Prop} {h : jh_H} : fr S h h := ⟨fun _ z => ⟨z, rfl⟩, fun _ _ _ => jh_eq.rf⟩
theorem fr.tr {S S' : Nat → Prop} {h h1 h2 : jh_H} (a : fr S h h1) (b : fr S' h1 h2) (hS : ∀ x, x ∈ jh_L h → S' x → S x) : fr S h h2 := ⟨fun x hx => ⟨(b.1 x (a.1 x hx).1).1, ((b.1 x (a.1 x hx).1).2).trans (a.1 x hx).2⟩, fun x hx hn => (a.2 x hx hn).tr (b.2 x (a.1 x hx).1 (fun z => hn (hS x hx z)))⟩
theorem fr.mono {S S' : Nat → Prop} {h h1 : jh_H} (a : fr S' h h1) (hS : ∀ x, x ∈ jh_L h → S' x → S x) : fr S h h1 := ⟨a.1, fun x hx hn => a.2 x hx (fun z => hn (hS x hx z))⟩
theorem fr.si {S : Nat → Prop} {h h1 : jh_H} {a k : Nat} {v : Int32} (f : fr S h h1) (ha : S a) : fr S h (jh_si h1 a k v) := ⟨f.1, fun b hb hn => (f.2 b hb hn).si (fun e => hn (e ▸ ha))⟩
theorem fr.sr {S : Nat → Prop} {h h1 : jh_H} {a k : Nat} {v : Option Nat} (f : fr S h h1) (ha : S a) : fr S h (jh_sr h1 a k v) := ⟨f.1, fun b hb hn => (f.2 b hb hn).sr (fun e => hn (e ▸ ha))⟩
theorem fr.sI {S : Nat → Prop} {h h1 : jh_H} {a k : Nat} {v : Int32} (f : fr S h h1) (ha : S a) : fr S h (jh_sI h1 a k v) := ⟨f.1, fun b hb hn => (f.2 b hb hn).sI (fun e => hn (e ▸ ha))⟩
theorem fr.sG {S : Nat → Prop} {h h1 : jh_H} {a k : Nat} {v : Int64} (f : fr S h h1) (ha : S a) : fr S h (jh_sG h1 a k v) := ⟨f.1, fun b hb hn => (f.2 b hb hn).sG (fun e => hn (e ▸ ha))⟩
theorem fr.sR {S : Nat → Prop} {h h1 : jh_H} {a k : Nat} {v : Option Nat} (f : fr S h h1) (ha : S a) : fr S h (jh_sR h1 a k v) := ⟨f.1, fun b hb hn => (f.2 b hb hn).sR (fun e => hn (e ▸ ha))⟩
theorem fr.nw {S : Nat → Prop} {h h1 : jh_H} {q kd n : Nat} (f : fr S h h1) (hq : q ∉ jh_L h1) : fr S h (jh_nw h1 q kd n) := ⟨fun b hb => ⟨List.mem_append_left _ (f.1 b hb).1, (va_up_ne _ _ (fun e => hq (by rw [← e]; exact (f.1 b hb).1))).trans (f.1 b hb).2⟩, fun b hb hn => (f.2 b hb hn).nw (fun e => hq (by rw [← e]; exact (f.1 b hb).1))⟩
theorem fr.O {S : Nat → Prop} {h h1 : jh_H} {a ci : Nat} (f : fr S h h1) (ho : jh_O h a ci) : jh_O h1 a ci := ⟨(f.1 a ho.1).1, (f.1 a ho.1).2.trans ho.2⟩
theorem fr.A {S : Nat → Prop} {h h1 : jh_H} {a t n : Nat} (f : fr S h h1) (ho : jh_A h a t n) : jh_A h1 a t n := ⟨(f.1 a ho.1).1, (f.1 a ho.1).2.trans ho.2⟩
/-- cells of different kinds are different -/
theorem jO_ne {h : jh_H} {a b ci cj : Nat} (ha : jh_O h a ci) (hb : jh_O h b cj) (hne : ci ≠ cj) : a ≠ b := fun e => by
  subst e
  have := ha.2.symm.trans hb.2
  exact hne (congrArg Prod.fst this)
theorem jOA_ne {h : jh_H} {a b ci t n : Nat} (ha : jh_O h a ci) (hb : jh_A h b t n) (hc : ci < 100) : a ≠ b := fun e => by
  subst e
  have := congrArg Prod.fst (ha.2.symm.trans hb.2)
  have : ci = 100 + t := this
  omega
theorem jA_ne {h : jh_H} {a b t u n m : Nat} (ha : jh_A h a t n) (hb : jh_A h b u m) (hne : t ≠ u) : a ≠ b := fun e => by
  subst e
  have := congrArg Prod.fst (ha.2.symm.trans hb.2)
  have : 100 + t = 100 + u := this
  omega
/-- the Text at a, its row at ch with room for cap, is X -/
def tx_is (h : jh_H) (a ch cap : Nat) (X : List Nat) : Prop := tx_at h a ch cap X.length ∧ ∀ j, j < X.length → jh_I h ch j = nI (X.getD j 0) ∧ X.getD j 0 < 128
theorem tx_is.eq {h h' : jh_H} {a ch cap : Nat} {X : List Nat} (ht : tx_is h a ch cap X) (ea : jh_eq h h' a) (ec : jh_eq h h' ch) : tx_is h' a ch cap X := ⟨⟨ea.O ht.1.1, ec.A ht.1.2.1, (ea.2.2.2.2.1 64).trans ht.1.2.2.1, (ea.2.2.1 65).trans ht.1.2.2.2.1, ht.1.2.2.2.2⟩, fun j hj => ⟨(ec.2.2.2.2.2.1 j).trans (ht.2 j hj).1, (ht.2 j hj).2⟩⟩
def tx_S (a ch b : Nat) : Prop := b = a ∨ b = ch
theorem tx_is.fr {h h' : jh_H} {S : Nat → Prop} {a ch cap : Nat} {X : List Nat} (ht : tx_is h a ch cap X) (f : fr S h h') (h1 : ¬ S a) (h2 : ¬ S ch) : tx_is h' a ch cap X := ht.eq (f.2 a ht.1.1.1 h1) (f.2 ch ht.1.2.1.1 h2)
theorem getD_snoc {X : List Nat} {c j : Nat} : (X ++ [c]).getD j 0 = if j = X.length then c else X.getD j 0 := by
  rcases Nat.lt_trichotomy j X.length with q | q | q
  · rw [if_neg (by omega)]; simp [List.getD, List.getElem?_append_left q]
  · subst q; simp [List.getD]
  · rw [if_neg (by omega)]
    simp [List.getD, List.getElem?_eq_none (show (X ++ [c]).length ≤ j by simp; omega), List.getElem?_eq_none (show X.length ≤ j by omega)]
/-- the heap with c appended -/
def ap_h (h : jh_H) (a ch n c : Nat) : jh_H := jh_si (jh_sI h ch n (vp_nar .char (nI c))) a 65 (nI (n + 1))
theorem ap_is {h : jh_H} {a ch cap c : Nat} {X : List Nat} (ht : tx_is h a ch cap X) (hc : c < 128) (hlt : X.length < cap) : tx_is (ap_h h a ch X.length c) a ch cap (X ++ [c]) ∧ fr (tx_S a ch) h (ap_h h a ch X.length c) := by
  obtain ⟨⟨h1, h2, h3, h4, h5, h6⟩, h7⟩ := ht
  refine ⟨⟨⟨h1, h2, h3, ?_, ?_, h6⟩, fun j hj => ?_⟩, fr.si (fr.sI fr.rf (Or.inr rfl)) (Or.inl rfl)⟩
  · rw [List.length_append]; exact jh_u_s _ _ _ _
  · rw [List.length_append]; exact hlt
  · rw [List.length_append] at hj
    have hj : j < X.length + 1 := hj
    rw [getD_snoc]
    by_cases e : j = X.length
    · rw [if_pos e, e]
      exact ⟨(jh_u_s _ _ _ _).trans (nI_n (by omega)), hc⟩
    · rw [if_neg e]
      exact ⟨(jh_u_k _ _ _ _ e).trans (h7 j (by omega)).1, (h7 j (by omega)).2⟩
set_option maxHeartbeats 4000000 in
set_option maxRecDepth 100000 in
theorem ct_app {g : jg_G} (hg : (jg_l g).stackTraces = false) {d mc ms : Nat} {h : jh_H} {a ch cap c : Nat} {X : List Nat} {Q : jw_O → jh_H → Prop} (ht : tx_is h a ch cap X) (hc : c < 128) (hr : X.length = cap → 10 ≤ d ∧ 1 ≤ mc ∧ 6 ≤ ms)
    (q1 : X.length < cap → ∀ h', tx_is h' a ch cap (X ++ [c]) → fr (tx_S a ch) h h' → Q (.inl none) h') (q2 : X.length = cap → Q (.inr "java/lang/IllegalStateException") h) : jw_C g d mc ms m_T_append [.inr (.inr (some a)), .inl (nI c)] h Q := by
  obtain ⟨ho, hA, hre, hn, hle, hcap⟩ := id ht.1
  refine jw_intro (ls := [some (.inr (.inr (some a))), some (.inl (nI c))]) (by decide) k_T_append rfl (by simp [lo_fit, jv_c]) hg ?_
  refine jw_aload_n rfl rfl ?_
  refine jw_gi rfl g_T_15 (ho) (hn) ?_
  refine jw_aload_n rfl rfl ?_
  refine jw_gr rfl g_T_9 (ho) (hre) ?_
  refine js_alen rfl (hA) (by decide) ?_
  refine jw_icmp_lt 22 rfl rfl (fun c1 => ?_) (fun c1 => ?_)
  · have hlt : X.length < cap := (nI_ltI (by omega) (by omega)).mp c1
    refine jw_aload_n rfl rfl ?_
    refine jw_gr rfl g_T_9 (ho) (hre) ?_
    refine jw_aload_n rfl rfl ?_
    refine jw_gi rfl g_T_15 (ho) (hn) ?_
    refine jw_iload_n rfl rfl ?_
    refine js_cast (X.length) rfl (hA) (by decide) (by rfl) rfl (by omega) (by omega) ?_
    refine jw_aload_n rfl rfl ?_
    refine jw_dup rfl rfl ?_
    refine jw_gi rfl g_T_15 (ho) (hn) ?_
    refine js_iconst (x := 1) rfl rfl ?_
    refine jw_iaddV rfl (nI_1 _) ?_
    refine jw_pi rfl p_T_append_15 (ho) ?_
    refine jw_return rfl rfl ?_
    exact q1 hlt _ (ap_is ht hc hlt).1 (ap_is ht hc hlt).2
  · have hge : X.length = cap := by
      have : ¬ X.length < cap := fun q => c1 ((nI_ltI (by omega) (by omega)).mpr q)
      omega
    exact jw_throw (E := "java/lang/IllegalStateException") ts_T_append_12 (hr hge).1 (by decide) (hr hge).2.1 (hr hge).2.2 (fun c hc => jw_nc hc _) (q2 hge)
set_option maxHeartbeats 4000000 in
set_option maxRecDepth 100000 in
theorem ct_clear2 {g : jg_G} (hg : (jg_l g).stackTraces = false) {d mc ms : Nat} {h : jh_H} {a ch cap : Nat} {X : List Nat} {Q : jw_O → jh_H → Prop} (ht : tx_is h a ch cap X) (hq : ∀ h', tx_is h' a ch cap [] → fr (fun b => b = a) h h' → Q (.inl none) h') : jw_C g d mc ms m_T_clear [.inr (.inr (some a))] h Q := by
  obtain ⟨ho, hA, hre, hn, hle, hcap⟩ := id ht.1
  refine jw_intro (ls := [some (.inr (.inr (some a)))]) (by decide) k_T_clear rfl (by simp [lo_fit, jv_c]) hg ?_
  refine jw_aload_n rfl rfl ?_
  refine js_iconst (x := 0) rfl rfl ?_
  refine jw_pi rfl p_T_clear_15 (ho) ?_
  refine jw_return rfl rfl ?_
  refine hq _ ⟨⟨ho, hA, hre, jh_u_s _ _ _ _, Nat.zero_le _, hcap⟩, fun j hj => absurd hj (by show ¬ j < 0; omega)⟩ (fr.si fr.rf rfl)
set_option maxHeartbeats 4000000 in
set_option maxRecDepth 100000 in
theorem ct_appendText {g : jg_G} (hg : (jg_l g).stackTraces = false) {d mc ms : Nat} {h : jh_H} {a ch cap b bh capb : Nat} {X Y : List Nat} {Q : jw_O → jh_H → Prop} (ht : tx_is h a ch cap X) (hy : tx_is h b bh capb Y) (hab : a ≠ b) (hcb : ch ≠ bh) (hd1 : 1 ≤ d) (hr : cap < X.length + Y.length → 11 ≤ d ∧ 1 ≤ mc ∧ 6 ≤ ms)
    (q1 : X.length + Y.length ≤ cap → ∀ h', tx_is h' a ch cap (X ++ Y) → fr (tx_S a ch) h h' → Q (.inl none) h') (q2 : cap < X.length + Y.length → ∀ h' Z, tx_is h' a ch cap Z → fr (tx_S a ch) h h' → Q (.inr "java/lang/IllegalStateException") h') : jw_C g d mc ms m_T_appendText [.inr (.inr (some a)), .inr (.inr (some b))] h Q := by
  refine jw_intro (ls := [some (.inr (.inr (some a))), some (.inr (.inr (some b))), none]) (by decide) k_T_appendText rfl (by simp [lo_fit, jv_c]) hg ?_
  have hcap := ht.1.2.2.2.2.2
  have hcapb := hy.1.2.2.2.2
  have loop : ∀ r j h1, j + r = Y.length → tx_is h1 a ch cap (X ++ Y.take j) → fr (tx_S a ch) h h1 → jw_J g d m_T_appendText jw_T0 2 [some (.inr (.inr (some a))), some (.inr (.inr (some b))), some (.inl (nI j))] [] h1 mc ms Q := by
    intro r
    induction r with
    | zero =>
      intro j h1 hj t1 f1
      have y1 : tx_is h1 b bh capb Y := hy.fr f1 (fun z => by rcases z with z | z; exact hab z.symm; exact jOA_ne hy.1.1 ht.1.2.1 (by decide) z) (fun z => by rcases z with z | z; exact jOA_ne ht.1.1 hy.1.2.1 (by decide) z.symm; exact hcb z.symm)
      rw [List.take_of_length_le (by omega)] at t1
      have hl := t1.1.2.2.2.2.1
      rw [List.length_append] at hl
      have ej : j = Y.length := by omega
      subst ej
      refine jw_iload_n rfl rfl ?_
      refine jw_aload_n rfl rfl ?_
      refine jw_gi rfl g_T_15 (y1.1.1) (y1.1.2.2.2.1) ?_
      refine jw_icmp_ge 26 rfl rfl (fun _ => ?_) (fun z => absurd (Int32.le_refl _) z)
      refine jw_return rfl rfl ?_
      exact q1 hl h1 t1 f1
    | succ r ih =>
      intro j h1 hj t1 f1
      have y1 : tx_is h1 b bh capb Y := hy.fr f1 (fun z => by rcases z with z | z; exact hab z.symm; exact jOA_ne hy.1.1 ht.1.2.1 (by decide) z) (fun z => by rcases z with z | z; exact jOA_ne ht.1.1 hy.1.2.1 (by decide) z.symm; exact hcb z.symm)
      have hl := t1.1.2.2.2.2.1
      have el : (X ++ Y.take j).length = X.length + j := by rw [List.length_append, List.length_take]; omega
      rw [el] at hl
      have yj := y1.2 j (by omega)
      have etk : X ++ Y.take (j + 1) = (X ++ Y.take j) ++ [Y.getD j 0] := by
        rw [List.append_assoc, show Y.take (j + 1) = Y.take j ++ [Y.getD j 0] by
          rw [List.take_add_one, List.getElem?_eq_getElem (show j < Y.length by omega), List.getD_eq_getElem?_getD, List.getElem?_eq_getElem (show j < Y.length by omega)]; rfl]
      refine jw_iload_n rfl rfl ?_
      refine jw_aload_n rfl rfl ?_
      refine jw_gi rfl g_T_15 (y1.1.1) (y1.1.2.2.2.1) ?_
      refine jw_icmp_ge 26 rfl rfl (fun z => absurd z (fun z => absurd ((nI_leI (by omega) (by omega)).mp z) (by omega))) (fun _ => ?_)
      refine jw_aload_n rfl rfl ?_
      refine jw_aload_n rfl rfl ?_
      refine jw_gr rfl g_T_9 (y1.1.1) (y1.1.2.2.1) ?_
      refine jw_iload_n rfl rfl ?_
      refine js_caldV (j) rfl (y1.1.2.1) (by decide) (by rfl) rfl (by omega) (by omega) (yj.1) ?_
      by_cases hfull : X.length + j = cap
      · have hr := hr (by omega)
        refine js_call (As := [.inl (nI (Y.getD j 0))]) rfl l_T_append c_T_35 i_T_append s_T_append jc_o1 rfl (t1.1.1) rfl (ct_app (d := d - 1) (mc := 1) (ms := 6) hg t1 yj.2 (fun _ => by omega) (fun z => absurd z (by omega)) (fun _ => ?_)) (by omega) (Nat.le_of_ble_eq_true rfl) (by omega) (by omega) rfl
        exact q2 (by omega) h1 _ t1 f1
      · refine js_call (As := [.inl (nI (Y.getD j 0))]) rfl l_T_append c_T_35 i_T_append s_T_append jc_o1 rfl (t1.1.1) rfl (ct_app (d := d - 1) (mc := 0) (ms := 0) hg t1 yj.2 (fun z => absurd z (by omega)) (fun _ h2 t2 f2 => ?_) (fun z => absurd z (by omega))) (by omega) (Nat.le_of_ble_eq_true rfl) (by omega) (by omega) rfl
        refine js_iinc rfl rfl (nI_1 j) rfl (by decide) rfl ?_
        refine jw_goto 2 rfl rfl ?_
        exact ih (j + 1) h2 (by omega) (by rw [etk]; exact t2) (f1.tr f2 (fun _ _ z => z))
  refine js_iconst (x := 0) rfl rfl ?_
  refine js_istore_n rfl rfl (by decide) rfl ?_
  exact loop Y.length 0 h (by omega) (by rw [List.take_zero, List.append_nil]; exact ht) fr.rf

