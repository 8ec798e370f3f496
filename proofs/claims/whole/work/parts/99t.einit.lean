/-! ENGINE: a new one -/
theorem rb_live {h : jh_H} {R : Nat → Nat} {O : List Nat} (hb : rb_ok h R) (ht : tx_is h (R 10) (R 11) 400 O) : ∀ i, rU i → R i ∈ jh_L h := by
  obtain ⟨b1, b2, b3, b4, b5, b6, ⟨v1, v2, v3, v4, v5, ⟨Z1, v6⟩, v7, ⟨Z2, v8⟩⟩, b8, ⟨Z, b9⟩, b10⟩ := hb
  intro i hi
  rcases hi with hi | hi | hi | hi
  · have : i = 0 ∨ i = 1 ∨ i = 2 ∨ i = 3 ∨ i = 4 ∨ i = 5 ∨ i = 6 ∨ i = 7 ∨ i = 8 ∨ i = 9 ∨ i = 10 ∨ i = 11 := by omega
    rcases this with rfl | rfl | rfl | rfl | rfl | rfl | rfl | rfl | rfl | rfl | rfl | rfl
    · exact b1.1
    · exact b3.1
    · exact b5.1
    · exact v3.1
    · exact v6.1.1.1
    · exact v6.1.2.1.1
    · exact v8.1.1.1
    · exact v8.1.2.1.1
    · exact b9.1.1.1
    · exact b9.1.2.1.1
    · exact ht.1.1.1
    · exact ht.1.2.1.1
  · have e : i = 100 + (i - 100) := by omega
    rw [e]
    exact (b6 (i - 100) (by omega)).2.1.1
  · have e : i = 200 + (i - 200) := by omega
    rw [e]
    obtain ⟨-, -, ⟨Z, t⟩, -⟩ := (b6 (i - 200) (by omega)).2
    exact t.1.1.1
  · have e : i = 300 + (i - 300) := by omega
    rw [e]
    obtain ⟨-, -, ⟨Z, t⟩, -⟩ := (b6 (i - 300) (by omega)).2
    exact t.1.2.1.1
/-- no DATA -/
def sd_0 : sd_D := (fun _ => 0, fun _ => 0, fun _ _ => 0, fun _ _ => 0, fun _ _ => 0)
/-- the state at the begin -/
def SS0 : SS := ([], 0, sd_0, fun _ => none, -1, [], 0, 0)
def co_i (h h' : jh_H) (col ad : Nat → Nat) (b : Nat) : Nat := if b = ad 0 then 4 else if b = ad 1 then 5 else if b = ad 2 then 6 else if b = ad 3 then 7 else if b = ad 4 then 8 else if b ∈ jh_L h then col b else if b ∈ jh_L h' then 3 else 0
def ad_i (a lb lch da tp k : Nat) : Nat := if k = 0 then a else if k = 1 then lb else if k = 2 then lch else if k = 3 then da else tp
theorem cE_init {g : jg_G} (hg : (jg_l g).stackTraces = false) {d mc ms : Nat} {h : jh_H} {a : Nat} {col : Nat → Nat} {Q : jw_O → jh_H → Prop} (ho : jh_O h a 0) (hi : ∀ k, jh_i h a k = 0) (hcl : ∀ b, col b ≠ 0 → b ∈ jh_L h) (hd : 20 ≤ d) (hmc : 70 ≤ mc) (hms : 7400 ≤ ms)
    (hq : ∀ h' col' ad R E, ad 0 = a → ce g h' col' ad R E 0 SS0 → (∀ b, b ∈ jh_L h → b ≠ a → col' b = col b) → fr (fun b => b = a) h h' → Q (.inl none) h') : jw_C g d mc ms m_E_init [.inr (.inr (some a))] h Q := by
  refine jw_intro (ls := [some (.inr (.inr (some a)))]) (by decide) k_E_init rfl (by simp [lo_fit, jv_c]) hg ?_
  have e1 : (jc_q 1).2.2 = 2 := rfl
  have e3 : (jc_q 3).2.2 = 13 := rfl
  refine jw_aload_n rfl rfl ?_
  refine jw_obj rfl oi_E_3 (by omega) (Nat.le_of_ble_eq_true rfl) ?_
  refine jw_aload_n rfl rfl ?_
  refine jw_new rfl jc_o1 n_E_9 a_1 b_1 e_1 (by omega) (by omega) (fun q5 hq5 => ?_)
  refine jw_dup rfl rfl ?_
  refine js_sipush (x := 200) rfl rfl ?_
  obtain ⟨h1, eh1⟩ : ∃ z, z = jh_nw h q5 1 (jc_q 1).2.2 := ⟨_, rfl⟩
  have F1 : fr (fun _ => False) h h1 := by rw [eh1]; exact fr.nw fr.rf hq5
  have O1 : jh_O h1 q5 1 := by rw [eh1]; exact jh_nw_O
  have z1 : jh_i h1 q5 65 = 0 := by rw [eh1]; exact jh_z_s _ _ _ _
  rw [← eh1]
  refine js_callI (As := [.inl (nI 200)]) rfl l_T_init c_E_11 i_T_init rfl rfl rfl (ct_Tinit (d := d - 1) (mc := 1) (ms := 200) hg O1 z1 (by decide) (by omega) (by omega) (by omega) (fun h2 lch hlch t2 F2 => ?_)) (by omega) (Nat.le_of_ble_eq_true rfl) (by omega) (by omega) rfl
  have na5 : a ≠ q5 := fun e => hq5 (by rw [← e]; exact ho.1)
  have o2 := F2.O (F1.O ho)
  have y1 := F1.2 _ ho.1 id
  have y2 := F2.2 _ (F1.O ho).1 na5
  refine jw_pr rfl p_E_init_14 (o2) ?_
  refine jw_aload_n rfl rfl ?_
  refine js_bipush (x := 60) rfl rfl ?_
  refine jw_newq (t := 4) (n := 60) rfl (by decide) rfl n_E_18 rfl (by decide) (by omega) (by omega) (fun q21 hq21 => ?_)
  obtain ⟨h3, eh3⟩ : ∃ z, z = jh_sr h2 a 0 (some q5) := ⟨_, rfl⟩
  rw [← eh3] at hq21
  obtain ⟨h4, eh4⟩ : ∃ z, z = jh_nw h3 q21 104 60 := ⟨_, rfl⟩
  have F3 : fr (fun b => b = a) h2 h3 := by rw [eh3]; exact fr.sr fr.rf rfl
  have F4 : fr (fun _ => False) h3 h4 := by rw [eh4]; exact fr.nw fr.rf hq21
  have A4 : jh_A h4 q21 4 60 := by rw [eh4]; exact jh_nw_A (h := h3) (q := q21) (t := 4) (n := 60)
  rw [← eh3, ← eh4]
  have o4 := F4.O (F3.O o2)
  have y4 := F4.2 _ (F3.O o2).1 id
  refine jw_pr rfl p_E_init_20 (o4) ?_
  refine jw_aload_n rfl rfl ?_
  refine js_iconst (x := 4) rfl rfl ?_
  refine jw_newq (t := 5) (n := 4) rfl (by decide) rfl n_E_24 rfl (by decide) (by omega) (by omega) (fun q29 hq29 => ?_)
  obtain ⟨h5, eh5⟩ : ∃ z, z = jh_sr h4 a 1 (some q21) := ⟨_, rfl⟩
  rw [← eh5] at hq29
  obtain ⟨h6, eh6⟩ : ∃ z, z = jh_nw h5 q29 105 4 := ⟨_, rfl⟩
  have F5 : fr (fun b => b = a) h4 h5 := by rw [eh5]; exact fr.sr fr.rf rfl
  have F6 : fr (fun _ => False) h5 h6 := by rw [eh6]; exact fr.nw fr.rf hq29
  have A6 : jh_A h6 q29 5 4 := by rw [eh6]; exact jh_nw_A (h := h5) (q := q29) (t := 5) (n := 4)
  have Z6 : ∀ k, jh_R h6 q29 k = none := fun k => by rw [eh6]; exact jh_z_s _ _ _ _
  rw [← eh5, ← eh6]
  have o6 := F6.O (F5.O o4)
  have y6 := F6.2 _ (F5.O o4).1 id
  refine jw_pr rfl p_E_init_26 (o6) ?_
  refine jw_aload_n rfl rfl ?_
  refine js_iconst (x := (-1)) rfl rfl ?_
  refine jw_pi rfl p_E_init_30 (o6) ?_
  refine jw_aload_n rfl rfl ?_
  obtain ⟨h8, eh8⟩ : ∃ z, z = jh_si (jh_sr h6 a 4 (some q29)) a 5 (-1) := ⟨_, rfl⟩
  have F8 : fr (fun b => b = a) h6 h8 := by rw [eh8]; exact fr.si (fr.sr fr.rf rfl) rfl
  have o8 := F8.O o6
  rw [← eh8]
  have r8 : jh_r h8 a 0 = some q5 ∧ jh_r h8 a 1 = some q21 ∧ jh_r h8 a 4 = some q29 := by
    rw [eh8]
    refine ⟨(jh_u_k _ _ _ _ (by decide)).trans ((y6.2.2.2.2.1 0).trans ?_), (jh_u_k _ _ _ _ (by decide)).trans ((y6.2.2.2.2.1 1).trans (by rw [eh5]; exact jh_u_s _ _ _ _)), jh_u_s _ _ _ _⟩
    rw [eh5]
    refine (jh_u_k _ _ _ _ (by decide)).trans ((y4.2.2.2.2.1 0).trans ?_)
    rw [eh3]
    exact jh_u_s _ _ _ _
  have i8 : jh_i h8 a 5 = -1 ∧ ∀ k, k ≠ 5 → jh_i h8 a k = 0 := by
    rw [eh8]
    refine ⟨jh_u_s _ _ _ _, fun k hk => (jh_u_k _ _ _ _ hk).trans ((y6.2.2.1 k).trans ?_)⟩
    rw [eh5]
    refine (y4.2.2.1 k).trans ?_
    rw [eh3]
    exact (y2.2.2.1 k).trans ((y1.2.2.1 k).trans (hi k))
  refine jw_new rfl jc_o3 n_E_34 a_3 b_3 e_3 (by omega) (by omega) (fun q41 hq41 => ?_)
  refine jw_dup rfl rfl ?_
  obtain ⟨h9, eh9⟩ : ∃ z, z = jh_nw h8 q41 3 (jc_q 3).2.2 := ⟨_, rfl⟩
  have F9 : fr (fun _ => False) h8 h9 := by rw [eh9]; exact fr.nw fr.rf hq41
  have O9 : jh_O h9 q41 3 := by rw [eh9]; exact jh_nw_O
  have z9 : jh_i h9 q41 204 = 0 := by rw [eh9]; exact jh_z_s _ _ _ _
  rw [← eh9]
  refine js_callI (As := []) rfl l_R_init c_E_36 i_R_init rfl rfl rfl (cr_init (d := d - 1) (mc := 60) (ms := 7000) hg O9 z9 (by omega) (by omega) (by omega) (fun h10 R R0 Rn Ri rb rt r204 F10 => ?_)) (by omega) (Nat.le_of_ble_eq_true rfl) (by omega) (by omega) rfl
  have o10 := F10.O (F9.O o8)
  refine jw_pr rfl p_E_init_37 (o10) ?_
  refine jw_return rfl rfl ?_
  obtain ⟨h11, eh11⟩ : ∃ z, z = jh_sr h10 a 6 (some q41) := ⟨_, rfl⟩
  rw [← eh11]
  have F11 : fr (fun b => b = a) h10 h11 := by rw [eh11]; exact fr.sr fr.rf rfl
  -- whole frames
  have f28 : fr (fun b => b = a) h2 h8 := ((((F3.tr F4 (fun _ _ z => absurd z id)).tr F5 (fun _ _ z => z)).tr F6 (fun _ _ z => absurd z id)).tr F8 (fun _ _ z => z))
  have f18 : fr (fun b => b = a) h h8 := ((F1.mono (fun _ _ z => absurd z id)).tr F2 (fun b hb z => absurd hb (by rw [z]; exact hq5))).tr f28 (fun _ _ z => z)
  have n41 : ∀ {b}, b ∈ jh_L h8 → b ≠ q41 := fun hb e => hq41 (by rw [← e]; exact hb)
  have f8b : fr (fun b => b = a) h8 h11 := ((F9.mono (fun _ _ z => absurd z id)).tr F10 (fun b hb z => absurd z (n41 hb))).tr F11 (fun _ _ z => z)
  have fall := f18.tr f8b (fun _ _ z => z)
  have f810 : fr (fun _ => False) h8 h10 := F9.tr F10 (fun b hb e => n41 hb e)
  have ya := f810.2 a o8.1 id
  have t8 : tx_is h8 q5 lch 200 [] := t2.fr f28 (fun e => na5 e.symm) (fun e => hlch (by rw [e]; exact (F1.O ho).1))
  have t11 : tx_is h11 q5 lch 200 [] := (t8.fr f810 id id).fr F11 (fun e => na5 e.symm) (fun e => hlch (by rw [e]; exact (F1.O ho).1))
  have A8 : jh_A h8 q21 4 60 := F8.A (F6.A (F5.A A4))
  have B8 : jh_A h8 q29 5 4 := F8.A A6
  have n8 : ∀ {b}, b ∈ jh_L h2 → b ∈ jh_L h8 := fun hb => (f28.1 _ hb).1
  have Rl := rb_live rb rt
  have R8 : ∀ i, rU i → R i ∉ jh_L h8 := by
    intro i hi z
    by_cases c : i = 0
    · rw [c, R0] at z
      exact hq41 z
    · exact Rn i hi c (F9.1 _ z).1
  have m5 : q5 ∈ jh_L h2 := t2.1.1.1
  have mc : lch ∈ jh_L h2 := t2.1.2.1.1
  have d1 : q5 ≠ a := fun e => na5 e.symm
  have d2 : lch ≠ a := fun e => hlch (by rw [e]; exact (F1.O ho).1)
  have d3 : lch ≠ q5 := fun e => hlch (by rw [e]; exact O1.1)
  have d4 : q21 ≠ a := fun e => hq21 (by rw [e]; exact (F3.O o2).1)
  have d5 : q21 ≠ q5 := fun e => hq21 (by rw [e]; exact (F3.1 _ m5).1)
  have d6 : q21 ≠ lch := fun e => hq21 (by rw [e]; exact (F3.1 _ mc).1)
  have s5 : ∀ {b}, b ∈ jh_L h2 → b ∈ jh_L h5 := fun hb => (F5.1 _ (F4.1 _ (F3.1 _ hb).1).1).1
  have d7 : q29 ≠ a := fun e => hq29 (by rw [e]; exact (F5.O o4).1)
  have d8 : q29 ≠ q5 := fun e => hq29 (by rw [e]; exact s5 m5)
  have d9 : q29 ≠ lch := fun e => hq29 (by rw [e]; exact s5 mc)
  have d10 : q29 ≠ q21 := fun e => hq29 (by rw [e]; exact (F5.A A4).1)
  have nh5 : q5 ∉ jh_L h := hq5
  have nhl : lch ∉ jh_L h := fun z => hlch (F1.1 _ z).1
  have s3 : ∀ {b}, b ∈ jh_L h → b ∈ jh_L h3 := fun hb => (F3.1 _ (F2.1 _ (F1.1 _ hb).1).1).1
  have nh21 : q21 ∉ jh_L h := fun z => hq21 (s3 z)
  have nh29 : q29 ∉ jh_L h := fun z => hq29 (F5.1 _ (F4.1 _ (s3 z)).1).1
  have c0 : co_i h h11 col (ad_i a q5 lch q21 q29) a = 4 := if_pos rfl
  have c1 : co_i h h11 col (ad_i a q5 lch q21 q29) q5 = 5 := by unfold co_i; rw [if_neg (show ¬ q5 = ad_i a q5 lch q21 q29 0 from d1), if_pos (show q5 = ad_i a q5 lch q21 q29 1 from rfl)]
  have c2 : co_i h h11 col (ad_i a q5 lch q21 q29) lch = 6 := by unfold co_i; rw [if_neg (show ¬ lch = ad_i a q5 lch q21 q29 0 from d2), if_neg (show ¬ lch = ad_i a q5 lch q21 q29 1 from d3), if_pos (show lch = ad_i a q5 lch q21 q29 2 from rfl)]
  have c3 : co_i h h11 col (ad_i a q5 lch q21 q29) q21 = 7 := by unfold co_i; rw [if_neg (show ¬ q21 = ad_i a q5 lch q21 q29 0 from d4), if_neg (show ¬ q21 = ad_i a q5 lch q21 q29 1 from d5), if_neg (show ¬ q21 = ad_i a q5 lch q21 q29 2 from d6), if_pos (show q21 = ad_i a q5 lch q21 q29 3 from rfl)]
  have c4 : co_i h h11 col (ad_i a q5 lch q21 q29) q29 = 8 := by unfold co_i; rw [if_neg (show ¬ q29 = ad_i a q5 lch q21 q29 0 from d7), if_neg (show ¬ q29 = ad_i a q5 lch q21 q29 1 from d8), if_neg (show ¬ q29 = ad_i a q5 lch q21 q29 2 from d9), if_neg (show ¬ q29 = ad_i a q5 lch q21 q29 3 from d10), if_pos (show q29 = ad_i a q5 lch q21 q29 4 from rfl)]
  have cr : ∀ b, b ≠ a → b ≠ q5 → b ≠ lch → b ≠ q21 → b ≠ q29 → co_i h h11 col (ad_i a q5 lch q21 q29) b = if b ∈ jh_L h then col b else if b ∈ jh_L h11 then 3 else 0 := by
    intro b w0 w1 w2 w3 w4
    unfold co_i
    rw [if_neg (show ¬ b = ad_i a q5 lch q21 q29 0 from w0), if_neg (show ¬ b = ad_i a q5 lch q21 q29 1 from w1), if_neg (show ¬ b = ad_i a q5 lch q21 q29 2 from w2), if_neg (show ¬ b = ad_i a q5 lch q21 q29 3 from w3), if_neg (show ¬ b = ad_i a q5 lch q21 q29 4 from w4)]
  have m8a : a ∈ jh_L h8 := o8.1
  have Rne : ∀ {b}, b ∈ jh_L h8 → ∀ i, rU i → R i ≠ b := fun hb i hi e => R8 i hi (by rw [e]; exact hb)
  have y11 := F11.2 q29 (f810.A B8).1 d7
  have y10 := f810.2 q29 B8.1 id
  have y28 := F8.2 q29 A6.1 d7
  have E0 : en h10 R [] 0 := ⟨rb, rt, r204⟩
  have S0 : ∀ {b}, b ∈ jh_L h8 → b ∈ jh_L h11 := fun hb => (f8b.1 _ hb).1
  refine hq h11 (co_i h h11 col (ad_i a q5 lch q21 q29)) (ad_i a q5 lch q21 q29) R (fun _ => 0, fun _ => 0, fun _ => 0) rfl (ce.mk ⟨⟨F11.O o10, ?_, ?_, ?_, by rw [eh11, R0]; exact jh_u_s _ _ _ _, ?_, ?_, ?_, ?_⟩, t11, ⟨F11.A (f810.A A8), fun x hx => absurd hx (Nat.not_lt_zero _), ⟨by decide, fun x hx => absurd hx (Nat.not_lt_zero _)⟩, fun x hx => absurd hx (Nat.not_lt_zero _), fun x y hx => absurd hx (Nat.not_lt_zero _), fun x y hx => absurd hx (Nat.not_lt_zero _), ⟨fun _ => 0, fun x hx => absurd hx (Nat.not_lt_zero _)⟩⟩, ⟨F11.A (f810.A B8), fun k hk => ?_⟩, E0.mv F11 (fun i hi => Rne m8a i hi), Ri, fun i hi => ?_, c0, c1, c2, c3, fun b hb => ?_, c4⟩) (fun b hb hba => ?_) fall
  · rw [eh11]; exact (jh_u_k _ _ _ _ (by decide)).trans ((ya.2.2.2.2.1 0).trans r8.1)
  · rw [eh11]; exact (jh_u_k _ _ _ _ (by decide)).trans ((ya.2.2.2.2.1 1).trans r8.2.1)
  · rw [eh11]; exact (jh_u_k _ _ _ _ (by decide)).trans ((ya.2.2.2.2.1 4).trans r8.2.2)
  · rw [eh11]; exact (ya.2.2.1 2).trans (i8.2 2 (by decide))
  · rw [eh11]; exact (ya.2.2.1 3).trans (i8.2 3 (by decide))
  · rw [eh11]; exact (ya.2.2.1 5).trans i8.1
  · rw [eh11]; exact (ya.2.2.1 7).trans (i8.2 7 (by decide))
  · exact (y11.2.2.2.2.2.2.2 k).trans ((y10.2.2.2.2.2.2.2 k).trans ((y28.2.2.2.2.2.2.2 k).trans (Z6 k)))
  · rw [cr _ (Rne m8a i hi) (Rne (n8 m5) i hi) (Rne (n8 mc) i hi) (Rne A8.1 i hi) (Rne B8.1 i hi), if_neg (fun z => R8 i hi (f18.1 _ z).1), if_pos (F11.1 _ (Rl i hi)).1]
  · by_cases w0 : b = a
    · rw [w0]; exact S0 m8a
    by_cases w1 : b = q5
    · rw [w1]; exact S0 (n8 m5)
    by_cases w2 : b = lch
    · rw [w2]; exact S0 (n8 mc)
    by_cases w3 : b = q21
    · rw [w3]; exact S0 A8.1
    by_cases w4 : b = q29
    · rw [w4]; exact S0 B8.1
    rw [cr b w0 w1 w2 w3 w4] at hb
    by_cases c : b ∈ jh_L h
    · exact (fall.1 _ c).1
    · rw [if_neg c] at hb
      by_cases c' : b ∈ jh_L h11
      · exact c'
      · rw [if_neg c'] at hb
        exact absurd rfl hb
  · rw [cr b hba (fun e => nh5 (by rw [← e]; exact hb)) (fun e => nhl (by rw [← e]; exact hb)) (fun e => nh21 (by rw [← e]; exact hb)) (fun e => nh29 (by rw [← e]; exact hb)), if_pos hb]

