/-! RENDERER: what it holds; operands -/
set_option maxHeartbeats 4000000 in
set_option maxRecDepth 100000 in
theorem cd_ok.fr {h h' : jh_H} {n : Nat} {D : sd_D} {E : cd_E} {P S : Nat → Prop} (hc : cd_ok h n D E P) (f : fr S h h') (hS : ∀ b, P b → ¬ S b) : cd_ok h' n D E P := by
  refine ⟨hc.1, fun y hy => ?_⟩
  obtain ⟨m1, m2, m3, m4, m5⟩ := hc.2 y hy
  refine ⟨m1, m2, fun z => ?_, fun z => ?_, fun z => ?_⟩
  · have := m3 z
    exact this.eq (f.2 _ this.1.1 (hS _ m1))
  · obtain ⟨tb, tc, cp, w1, w2, w3⟩ := m4 z
    exact ⟨tb, tc, cp, w1, w2, w3.eq (f.2 _ w3.1.1 (hS _ m1)) (f.2 _ w3.2.2.2.1.1.1.1 (hS _ w1)) (f.2 _ w3.2.2.2.1.1.2.1.1 (hS _ w2))⟩
  · obtain ⟨w1, w2, w3, w4, w5, w6, w7, w8, w9, w10, w11⟩ := m5 z
    have x0 := f.2 _ w3.1 (hS _ m1)
    have x1 := f.2 _ w7.1 (hS _ w1)
    have x2 := f.2 _ w8.1 (hS _ w2)
    exact ⟨w1, w2, x0.O w3, (x0.2.2.1 128).trans w4, (x0.2.2.2.2.1 131).trans w5, (x0.2.2.2.2.1 132).trans w6, x1.A w7, x2.A w8, (x0.2.2.1 133).trans w9, w10, fun i hi => ⟨(x1.2.2.2.2.2.2.2 i).trans (w11 i hi).1, (w11 i hi).2.1, by rw [x2.2.2.2.2.2.2.1 i]; exact (w11 i hi).2.2⟩⟩
theorem vl_is.fr {h h' : jh_H} {n : Nat} {D : sd_D} {E : cd_E} {P S : Nat → Prop} {p : Option Nat} {v : sv_T} (hv : vl_is h n D E P p v) (f : fr S h h') (hS : ∀ b, P b → ¬ S b) : vl_is h' n D E P p v := by
  rcases v with _ | v | L | x
  · exact hv
  · obtain ⟨a, h1, h2, h3⟩ := hv
    exact ⟨a, h1, h2, h3.eq (f.2 _ h3.1.1 (hS _ h2))⟩
  · obtain ⟨a, tb, ch, cap, h1, h2, h3, h4, h5⟩ := hv
    exact ⟨a, tb, ch, cap, h1, h2, h3, h4, h5.eq (f.2 _ h5.1.1 (hS _ h2)) (f.2 _ h5.2.2.2.1.1.1.1 (hS _ h3)) (f.2 _ h5.2.2.2.1.1.2.1.1 (hS _ h4))⟩
  · exact hv
theorem vl_is.O {h : jh_H} {n : Nat} {D : sd_D} {E : cd_E} {P P' : Nat → Prop} {a : Nat} {v : sv_T} (hc : cd_ok h n D E P) (hv : vl_is h n D E P' (some a) v) : jh_O h a 2 := by
  rcases v with _ | v | L | x
  · cases hv
  · obtain ⟨b, e, -, z⟩ := hv; cases e; exact z.1
  · obtain ⟨b, _, _, _, e, -, -, -, z⟩ := hv; cases e; exact z.1
  · obtain ⟨e, hx, hk⟩ := hv; cases e; exact ((hc.2 x hx).2.2.2.2 hk).2.2.1
/-- which codes name a cell of the renderer: 0 itself, 1 contexts, 2 slots, 3 the second slot, 4 5 left, 6 7 right, 8 9 result, 10 11 rendered; 100 + k, 200 + k, 300 + k the slot k, its Text, its row -/
def rU (i : Nat) : Prop := i ≤ 11 ∨ (100 ≤ i ∧ i < 113) ∨ (200 ≤ i ∧ i < 213) ∨ (300 ≤ i ∧ i < 313)
def rR (P0 : Nat → Prop) (R : Nat → Nat) : Prop := (∀ i j, rU i → rU j → R i = R j → i = j) ∧ ∀ i, rU i → ¬ P0 (R i)
/-- cells that last at depth k: what is static, and the slots below -/
def rP (P0 : Nat → Prop) (R : Nat → Nat) (k b : Nat) : Prop := P0 b ∨ ∃ i, i < k ∧ (b = R (100 + i) ∨ b = R (200 + i) ∨ b = R (300 + i))
theorem rP.mono {P0 : Nat → Prop} {R : Nat → Nat} {k k' b : Nat} (h : rP P0 R k b) (hk : k ≤ k') : rP P0 R k' b := by
  rcases h with h | ⟨i, h1, h2⟩
  · exact Or.inl h
  · exact Or.inr ⟨i, by omega, h2⟩
theorem rP.no {P0 : Nat → Prop} {R : Nat → Nat} {k i : Nat} (hR : rR P0 R) (hi : rU i) (hk : k ≤ 13) (hn : i ≤ 11 ∨ (100 + k ≤ i ∧ i < 200) ∨ (200 + k ≤ i ∧ i < 300) ∨ 300 + k ≤ i) : ¬ rP P0 R k (R i) := by
  intro h
  rcases h with h | ⟨j, h1, h2⟩
  · exact hR.2 i hi h
  · rcases h2 with h2 | h2 | h2
    · have := hR.1 i (100 + j) hi (Or.inr (Or.inl (by omega))) h2
      omega
    · have := hR.1 i (200 + j) hi (Or.inr (Or.inr (Or.inl (by omega)))) h2
      omega
    · have := hR.1 i (300 + j) hi (Or.inr (Or.inr (Or.inr (by omega)))) h2
      omega
/-- a step of a path, as the class holds it -/
def st_r (s : ex_S) (w : Int64) : Prop := match s with
  | .inl L => nm_ok L ∧ w = nc7 L 0
  | .inr c => 48 ≤ c ∧ c ≤ 57 ∧ w = -1 - lN (c - 48)
def op_ok (g : jg_G) (h : jh_H) (P0 : Nat → Prop) (o : ex_O) (a : Nat) : Prop := P0 a ∧ jh_O h a 7 ∧ (match o with
  | .inl v => jh_r h a 448 = some (jg_c g 123) ∧ ∃ b, jh_r h a 449 = some b ∧ P0 b ∧ vl_num h b v
  | .inr (.inl L) => jh_r h a 448 = some (jg_c g 123) ∧ ∃ b tb ch cap, jh_r h a 449 = some b ∧ P0 b ∧ P0 tb ∧ P0 ch ∧ vl_txt h b tb ch cap L
  | .inr (.inr (.inl b)) => jh_r h a 448 = some (jg_c g (if b then 121 else 122))
  | .inr (.inr (.inr (back, S))) => jh_r h a 448 = some (jg_c g 120) ∧ jh_i h a 450 = nI back ∧ back ≤ 200 ∧ ∃ st, jh_r h a 451 = some st ∧ P0 st ∧ jh_A h st 2 S.length ∧ S.length ≤ 200 ∧ ∀ j, j < S.length → st_r (S.getD j (.inr 0)) (jh_G h st j))
theorem op_ok.fr {g : jg_G} {h h' : jh_H} {P0 S : Nat → Prop} {o : ex_O} {a : Nat} (ho : op_ok g h P0 o a) (f : fr S h h') (hS : ∀ b, P0 b → ¬ S b) : op_ok g h' P0 o a := by
  obtain ⟨h1, h2, h3⟩ := ho
  have e := f.2 a h2.1 (hS a h1)
  refine ⟨h1, e.O h2, ?_⟩
  rcases o with v | L | b | ⟨back, st⟩
  · obtain ⟨r, b, r1, r2, r3⟩ := h3
    exact ⟨(e.2.2.2.2.1 448).trans r, b, (e.2.2.2.2.1 449).trans r1, r2, r3.eq (f.2 _ r3.1.1 (hS _ r2))⟩
  · obtain ⟨r, b, tb, ch, cap, r1, r2, r3, r4, r5⟩ := h3
    exact ⟨(e.2.2.2.2.1 448).trans r, b, tb, ch, cap, (e.2.2.2.2.1 449).trans r1, r2, r3, r4, r5.eq (f.2 _ r5.1.1 (hS _ r2)) (f.2 _ r5.2.2.2.1.1.1.1 (hS _ r3)) (f.2 _ r5.2.2.2.1.1.2.1.1 (hS _ r4))⟩
  · exact (e.2.2.2.2.1 448).trans h3
  · obtain ⟨r, r1, r2, s, r3, r4, r5, r6, r7⟩ := h3
    have es := f.2 s r5.1 (hS _ r4)
    exact ⟨(e.2.2.2.2.1 448).trans r, (e.2.2.1 450).trans r1, r2, s, (e.2.2.2.2.1 451).trans r3, r4, es.A r5, r6, fun j hj => by rw [es.2.2.2.2.2.2.1 j]; exact r7 j hj⟩
/-- what an evaluation reads of the renderer: contexts, turn -/
def rc_ok (h : jh_H) (n : Nat) (D : sd_D) (E : cd_E) (P0 : Nat → Prop) (R : Nat → Nat) (k cn : Nat) (C : Nat → sv_T) (tn : Option Nat) : Prop := jh_O h (R 0) 3 ∧ jh_r h (R 0) 192 = some (R 1) ∧ jh_A h (R 1) 4 13 ∧ jh_i h (R 0) 193 = nI cn ∧ cn ≤ 13 ∧ (∀ i, i < cn → vl_is h n D E (rP P0 R k) (jh_R h (R 1) i) (C i)) ∧ jh_i h (R 0) 202 = (match tn with | none => -1 | some t => nI t) ∧ (∀ t, tn = some t → t < 100)
set_option maxHeartbeats 4000000 in
set_option maxRecDepth 100000 in
theorem cf_steps {D : sd_D} {v : sv_T} : ∀ (S : List ex_S), v = none → ev_steps D v S = none := by
  intro S
  induction S generalizing v with
  | nil => intro h; rw [ev_steps]; exact h
  | cons s r ih =>
    intro h
    subst h
    rw [ev_steps]
    exact ih (by cases s <;> rfl)
set_option maxHeartbeats 4000000 in
set_option maxRecDepth 100000 in
theorem cf_follow {g : jg_G} (hg : (jg_l g).stackTraces = false) {d mc ms : Nat} {h : jh_H} {n : Nat} {D : sd_D} {E : cd_E} {P0 : Nat → Prop} {R : Nat → Nat} {k cn a back : Nat} {C : Nat → sv_T} {tn : Option Nat} {S : List ex_S} {Q : jw_O → jh_H → Prop} (hc : cd_ok h n D E P0) (hR : rc_ok h n D E P0 R k cn C tn) (ho : op_ok g h P0 (.inr (.inr (.inr (back, S)))) a) (hd : 1 ≤ d) (hq : ∀ p, vl_is h n D E (rP P0 R k) p (ev_op D C cn tn (.inr (.inr (.inr (back, S))))) → Q (.inl (some (.inr (.inr p)))) h) : jw_C g d mc ms m_R_follow [.inr (.inr (some (R 0))), .inr (.inr (some a))] h Q := by
  refine jw_intro (ls := [some (.inr (.inr (some (R 0)))), some (.inr (.inr (some a))), none, none, none, none, none]) (by decide) k_R_follow rfl (by simp [lo_fit, jv_c]) hg ?_
  obtain ⟨r0, r1, r2, r3, r4, r5, r6, r7⟩ := hR
  obtain ⟨o1, o2, o3, o4, o5, st, o6, o7, o8, o9, o10⟩ := ho
  -- the steps
  have loop : ∀ m j p v (i2 : Int32) l5 l6, j + m = S.length → vl_is h n D E (rP P0 R k) p v → (∀ q, vl_is h n D E (rP P0 R k) q (ev_steps D v (S.drop j)) → Q (.inl (some (.inr (.inr q)))) h) → jw_J g d m_R_follow jw_T0 30 [some (.inr (.inr (some (R 0)))), some (.inr (.inr (some a))), some (.inl i2), some (.inr (.inr p)), some (.inl (nI j)), l5, l6] [] h mc ms Q := by
    intro m
    induction m with
    | zero =>
      intro j p v i2 l5 l6 hj hv go
      have ej : j = S.length := by omega
      subst ej
      rw [List.drop_length] at go
      refine jw_iload rfl rfl ?_
      refine jw_aload_n rfl rfl ?_
      refine jw_gr rfl g_R_253 (o2) (o6) ?_
      refine js_alen rfl (o8) (by decide) ?_
      refine jw_icmp_ge 87 rfl rfl (fun _ => ?_) (fun z => absurd (Int32.le_refl _) z)
      refine jw_aload_n rfl rfl ?_
      refine jw_areturn rfl rfl (Or.inl ⟨_, rfl⟩) ?_
      exact go p hv
    | succ m ih =>
      intro j p v i2 l5 l6 hj hv go
      have hjS : j < S.length := by omega
      have sj := o10 j hjS
      have edrop : S.drop j = S.getD j (.inr 0) :: S.drop (j + 1) := by
        rw [List.drop_eq_getElem_cons hjS]; congr 1; simp [List.getD, List.getElem?_eq_getElem hjS]
      rw [edrop] at go
      have go : ∀ q, vl_is h n D E (rP P0 R k) q (ev_steps D (ev_step D v (S.getD j (.inr 0))) (S.drop (j + 1))) → Q (.inl (some (.inr (.inr q)))) h := go
      generalize hs : S.getD j (.inr 0) = s at *
      generalize hw : jh_G h st j = w at sj
      refine jw_iload rfl rfl ?_
      refine jw_aload_n rfl rfl ?_
      refine jw_gr rfl g_R_253 (o2) (o6) ?_
      refine js_alen rfl (o8) (by decide) ?_
      refine jw_icmp_ge 87 rfl rfl (fun z => absurd z (fun z => absurd ((nI_leI (by omega) (by omega)).mp z) (by omega))) (fun _ => ?_)
      refine jw_aload_n rfl rfl ?_
      cases p with
      | none =>
        refine jw_ifnull 87 rfl rfl (fun _ => ?_) (fun x_ z_ => by cases z_)
        refine jw_aload_n rfl rfl ?_
        refine jw_areturn rfl rfl (Or.inl ⟨_, rfl⟩) ?_
        have hv0 : v = none := by
          rcases v with _ | v | L | x
          · rfl
          · obtain ⟨b, e, -⟩ := hv; cases e
          · obtain ⟨b, tb, ch, cap, e, -⟩ := hv; cases e
          · cases hv.1
        subst hv0
        exact go none (by rw [cf_steps _ (by cases s <;> rfl)]; rfl)
      | some b =>
        refine jw_ifnull 87 rfl rfl (fun z_ => by cases z_) (fun _ _ => ?_)
        refine jw_aload_n rfl rfl ?_
        refine jw_gr rfl g_R_253 (o2) (o6) ?_
        refine jw_iload rfl rfl ?_
        refine js_laldV (j) rfl (o8) (by decide) (by rfl) rfl (by omega) (by omega) (hw) ?_
        refine js_lstore rfl rfl (by decide) rfl ?_
        refine jw_lload rfl rfl ?_
        refine jw_lconst rfl ?_
        refine jw_lcmp rfl ?_
        have back : ∀ q v' l5 l6, vl_is h n D E P0 q v' → v' = ev_step D v s → jw_J g d m_R_follow jw_T0 80 [some (.inr (.inr (some (R 0)))), some (.inr (.inr (some a))), some (.inl i2), some (.inr (.inr (some b))), some (.inl (nI j)), l5, l6] [.inr (.inr q)] h mc ms Q := by
          intro q v' l5 l6 hq2 e2
          subst e2
          refine js_astore_n rfl rfl (by decide) rfl ?_
          refine js_iinc rfl rfl (nI_1 j) rfl (by decide) rfl ?_
          refine jw_goto 30 rfl rfl ?_
          exact ih (j + 1) q _ _ _ _ (by omega) (hq2.mono (fun _ z => Or.inl z)) go
        cases s with
        | inl L =>
          obtain ⟨hL, ew⟩ := sj
          subst ew
          have hp := (nm_pos hL).2.2
          refine jw_if_ge 74 rfl rfl (fun _ => ?_) (fun z => absurd ((lg_cmp_ge _ _).mpr (Int64.not_lt.mp hp)) z)
          refine jw_aload_n rfl rfl ?_
          refine jw_lload rfl rfl ?_
          refine js_call (As := [.inr (.inl (nc7 L 0))]) rfl l_V_entryNamed c_R_259 i_V_entryNamed s_V_entryNamed jc_o2 rfl (vl_is.O hc hv) rfl (cv_entry (d := d - 1) (mc := 0) (ms := 0) hg hc hL hv (fun q hq2 => ?_)) (by omega) (Nat.le_of_ble_eq_true rfl) (by omega) (by omega) rfl
          exact back q _ _ _ hq2 rfl
        | inr c =>
          obtain ⟨c1, c2, ew⟩ := sj
          subst ew
          have hneg : ∀ c, 48 ≤ c → c ≤ 57 → ¬ (0 : Int64) ≤ -1 - lN (c - 48) := by
            intro c h1 h2
            have : ∀ x, x < 10 → ¬ (0 : Int64) ≤ -1 - lN x := by decide
            exact this (c - 48) (by omega)
          have hix : ∀ c, 48 ≤ c → c ≤ 57 → (-1 - (-1 - lN (c - 48)) : Int64).toInt32 = nI c - 48 := by
            intro c h1 h2
            have : ∀ x, x < 10 → (-1 - (-1 - lN x) : Int64).toInt32 = nI (x + 48) - 48 := by decide
            have := this (c - 48) (by omega)
            rw [show c - 48 + 48 = c by omega] at this
            exact this
          refine jw_if_ge 74 rfl rfl (fun z => absurd z (fun z => hneg c c1 c2 ((lg_cmp_ge _ _).mp z))) (fun _ => ?_)
          refine jw_aload_n rfl rfl ?_
          refine jw_ldc2 rfl q_R_257 ?_
          refine jw_lload rfl rfl ?_
          refine jw_lsub rfl ?_
          refine jw_l2i rfl ?_
          rw [hix c c1 c2]
          refine js_call (As := [.inl (nI c - 48)]) rfl l_V_elementAt c_R_229 i_V_elementAt s_V_elementAt jc_o2 rfl (vl_is.O hc hv) rfl (cv_element (d := d - 1) (mc := 0) (ms := 0) hg hc hv (fun q hq2 => ?_)) (by omega) (Nat.le_of_ble_eq_true rfl) (by omega) (by omega) rfl
          refine jw_goto 80 rfl rfl ?_
          exact back q _ _ _ hq2 rfl
  have hcn : (nI cn - 1 - nI back < 0) ↔ cn ≤ back := by
    have e1 : nI cn - 1 - nI back = nI cn - nI (back + 1) := by
      rw [← nI_1, Int32.sub_eq_add_neg, Int32.sub_eq_add_neg, Int32.sub_eq_add_neg, Int32.neg_add, Int32.add_assoc, Int32.add_comm (-1) (-nI back), Int32.sub_eq_add_neg]
    rw [e1]
    constructor
    · intro z
      rcases Nat.lt_or_ge back cn with q | q
      · rw [pk_sub (by omega)] at z; exact absurd z (nI_pos (by omega))
      · exact q
    · intro z; exact pk_sneg (by omega) (by omega)
  have hq : ∀ q, vl_is h n D E (rP P0 R k) q (ev_steps D (if cn ≤ back then none else C (cn - 1 - back)) S) → Q (.inl (some (.inr (.inr q)))) h := hq
  refine jw_aload_n rfl rfl ?_
  refine jw_gi rfl g_R_57 (r0) (r3) ?_
  refine js_iconst (x := 1) rfl rfl ?_
  refine jw_isub rfl ?_
  refine jw_aload_n rfl rfl ?_
  refine jw_gi rfl g_R_250 (o2) (o4) ?_
  refine jw_isub rfl ?_
  refine js_istore_n rfl rfl (by decide) rfl ?_
  refine jw_iload_n rfl rfl ?_
  by_cases hb : cn ≤ back
  · rw [if_pos hb] at hq
    refine jw_if_ge 20 rfl rfl (fun z => absurd z (Int32.not_le.mpr (hcn.mpr hb))) (fun _ => ?_)
    refine jw_null rfl ?_
    refine jw_goto 26 rfl rfl ?_
    refine js_astore_n rfl rfl (by decide) rfl ?_
    refine js_iconst (x := 0) rfl rfl ?_
    refine js_istore rfl rfl (by decide) rfl ?_
    exact loop S.length 0 none none _ _ _ (by omega) rfl hq
  · rw [if_neg hb] at hq
    have e2 : nI cn - 1 - nI back = nI (cn - 1 - back) := by
      rw [show nI cn - 1 = nI (cn - 1) from pk_sub (b := 1) (by omega), pk_sub (by omega)]
    refine jw_if_ge 20 rfl rfl (fun _ => ?_) (fun z => absurd (Int32.not_lt.mp (fun z => hb (hcn.mp z))) z)
    refine jw_aload_n rfl rfl ?_
    refine jw_gr rfl g_R_11 (by assumption) (by assumption) ?_
    refine jw_iload_n rfl rfl ?_
    rw [e2]
    refine js_aald (cn - 1 - back) rfl (r2) (by decide) (by rfl) rfl (by omega) (by omega) (rfl) ?_
    refine js_astore_n rfl rfl (by decide) rfl ?_
    refine js_iconst (x := 0) rfl rfl ?_
    refine js_istore rfl rfl (by decide) rfl ?_
    exact loop S.length 0 _ _ _ _ _ (by omega) (r5 (cn - 1 - back) (by omega)) hq

