/-! READER: begin and whole -/
set_option maxHeartbeats 4000000 in
set_option maxRecDepth 100000 in
theorem cp_takeApart {g : jg_G} (hg : (jg_l g).stackTraces = false) {d mc ms : Nat} {h : jh_H} {r op rt sb sch cap st : Nat} {L : List Nat} {Q : jw_O → jh_H → Prop} (hz : rz h r op 0 none) (hop : jh_R h op 0 = some rt) (hrt : jh_O h rt 5) (h326 : jh_r h rt 326 = none) (h328 : jh_i h rt 328 = 0) (hc : rcc h r sb sch cap st L 0) (hL : L.length ≤ 200) (hd : 11 ≤ d) (hmc : 600 ≤ mc) (hms : 2400 ≤ ms)
    (q1 : ∀ x, pp_all (tL L) 0 L.length = .inl x → x ≤ 200 → ∀ h', jh_i h' r 262 = nI x → FF h r op rt st h' → Q (.inl none) h')
    (q2 : ∀ n T ot la, pp_all (tL L) 0 L.length = .inr (n, T, ot, la) → ∀ h' A B, jh_i h' r 262 = -1 → jh_i h' r 261 = nI n → pt_ok g h' (fun b => b = rt ∨ b ∉ jh_L h) (L, n, T, ot, la) A B rt → FF h r op rt st h' → Q (.inl none) h') : jw_C g d mc ms m_P_takeApart [.inr (.inr (some r))] h Q := by
  refine jw_intro (ls := [some (.inr (.inr (some r))), none, none, none, none, none, none]) (by decide) k_P_takeApart rfl (by simp [lo_fit, jv_c]) hg ?_
  obtain ⟨c1, c2, c3, c4, c5, c6⟩ := id hc
  obtain ⟨z1, z2, z3, z4, z5, z6, z7⟩ := id hz
  have ha : ra h r op rt sb sch st := ⟨c2.1.1.1, c2.1.2.1.1, c4.1, jO_ne c2.1.1 z1 (by decide), jOA_ne c2.1.1 z3 (by decide), jO_ne c2.1.1 hrt (by decide), fun e => jOA_ne z1 c2.1.2.1 (by decide) e.symm, jA_ne c2.1.2.1 z3 (by decide), fun e => jOA_ne hrt c2.1.2.1 (by decide) e.symm, jOA_ne c2.1.1 c4 (by decide), jA_ne c2.1.2.1 c4 (by decide), fun e => jOA_ne z1 c4 (by decide) e.symm, jA_ne c4 z3 (by decide), fun e => jOA_ne hrt c4 (by decide) e.symm, z1.1, z3.1, hrt.1, jO_ne z1 hrt (by decide), jOA_ne z1 z3 (by decide), fun e => jOA_ne hrt z3 (by decide) e.symm⟩
  refine js_iconst (x := 0) rfl rfl ?_
  refine js_istore_n rfl rfl (by decide) rfl ?_
  refine js_iconst (x := 0) rfl rfl ?_
  refine js_istore_n rfl rfl (by decide) rfl ?_
  have ne : ∀ i, ¬ pt_end (L, 0, (fun _ => (0, 0, 0, 0, 0) : pp_T), (fun _ => none : pp_O), (fun _ => none : pp_O)) i → False := fun i hi => absurd (pt_lt hi) (Nat.not_lt_zero _)
  have hB : BI g h h (L, 0, (fun _ => (0, 0, 0, 0, 0) : pp_T), (fun _ => none : pp_O), (fun _ => none : pp_O)) (fun _ => 0) (fun _ => 0) rt none := ⟨hrt, hrt.1, h326, fun i hi => absurd hi (Nat.not_lt_zero _), fun i hi => (ne i hi).elim, fun i j hi => (ne i hi).elim, fun i j hi => absurd hi (Nat.not_lt_zero _), fun i j hi => absurd hi (Nat.not_lt_zero _)⟩
  have hT : RT g h h r op rt (L, 0, (fun _ => (0, 0, 0, 0, 0) : pp_T), (fun _ => none : pp_O), (fun _ => none : pp_O)) (fun _ => 0) (fun _ => 0) 0 (fun _ => 0) none none := ⟨hz, hop, fun j hj => absurd hj (Nat.not_lt_zero _), fun i j hi => absurd hi (Nat.not_lt_zero _), hB, ⟨h328, fun i hi => (ne i hi).elim⟩, fun i hi => (ne i hi).elim, z1.1, z3.1⟩
  have hH : HH h h (L, 0, (fun _ => (0, 0, 0, 0, 0) : pp_T), (fun _ => none : pp_O), (fun _ => none : pp_O)) (fun _ => 0) (fun _ => 0) rt 0 (fun _ => 0) none := ⟨⟨⟨fun _ => rfl, fun _ => ⟨rfl, rfl⟩⟩, fun i hi => (ne i hi).elim, fun i hi => absurd hi (Nat.not_lt_zero _), Or.inr (Or.inl rfl)⟩, hrt, Or.inl rfl⟩
  exact cp_loop hg hL hd ha q1 q2 (L.length - 0 + 1) 0 0 _ 0 _ _ _ rfl (Nat.le_refl _) 0 h _ _ none _ _ _ _ _ _ (Nat.le_refl _) (Nat.zero_le _) ⟨fun _ => 0, rfl, rfl, by omega, rfl, fun i hi => absurd hi (by omega), fun i hi => absurd hi (by omega)⟩ hT hH hc ⟨fr.rf, rfl⟩ (by omega) (by omega)
set_option maxHeartbeats 4000000 in
set_option maxRecDepth 100000 in
theorem cp_init {g : jg_G} (hg : (jg_l g).stackTraces = false) {d mc ms : Nat} {h : jh_H} {r sb : Nat} {Q : jw_O → jh_H → Prop} (ho : jh_O h r 4) (hi : ∀ k, jh_i h r k = 0) (hr : jh_r h r 260 = none) (hd : 2 ≤ d) (hmc : 3 ≤ mc) (hms : 214 ≤ ms)
    (hq : ∀ h' op rt st, op ∉ jh_L h → rt ∉ jh_L h → st ∉ jh_L h → rz h' r op 0 none → jh_R h' op 0 = some rt → jh_O h' rt 5 → jh_r h' rt 326 = none → jh_i h' rt 328 = 0 → jh_r h' r 256 = some sb → jh_r h' r 257 = some rt → jh_r h' r 265 = some st → jh_A h' st 2 200 → jh_i h' r 261 = 0 → jh_i h' r 262 = -1 → fr (fun b => b = r) h h' → Q (.inl none) h') : jw_C g d mc ms m_P_init [.inr (.inr (some r)), .inr (.inr (some sb))] h Q := by
  refine jw_intro (ls := [some (.inr (.inr (some r))), some (.inr (.inr (some sb)))]) (by decide) k_P_init rfl (by simp [lo_fit, jv_c]) hg ?_
  have e5 : (jc_q 5).2.2 = 9 := rfl
  refine jw_aload_n rfl rfl ?_
  refine jw_obj rfl oi_P_3 (by omega) (Nat.le_of_ble_eq_true rfl) ?_
  refine jw_aload_n rfl rfl ?_
  refine jw_new rfl jc_o5 n_P_9 a_5 b_5 e_5 (by omega) (by omega) (fun q5 hq5 => ?_)
  refine jw_dup rfl rfl ?_
  refine jw_gst rfl kz_0 y_P_11 ?_
  refine js_iconst (x := 0) rfl rfl ?_
  refine js_callI (As := [.inr (.inr (some (jg_c g 100))), .inl 0]) rfl l_N_init c_P_17 i_N_init rfl rfl rfl (cn_init (d := d - 1) (mc := 0) (ms := 0) hg jh_nw_O (by omega) ?_) (by omega) (Nat.le_of_ble_eq_true rfl) (by omega) (by omega) rfl
  obtain ⟨h1, eh1⟩ : ∃ z, z = jh_si (jh_sr (jh_nw h q5 5 (jc_q 5).2.2) q5 320 (some (jg_c g 100))) q5 321 0 := ⟨_, rfl⟩
  have f1 : fr (fun _ => False) h h1 := by rw [eh1]; exact (fr.si (S := fun b => b = q5) (fr.sr (fr.nw fr.rf hq5) rfl) rfl).mono (fun b hb z => hq5 (by rw [← z]; exact hb))
  have n1 : jh_O h1 q5 5 ∧ jh_r h1 q5 326 = none ∧ jh_i h1 q5 328 = 0 := by
    rw [eh1]
    exact ⟨jh_nw_O, (jh_u_k _ _ _ _ (by decide)).trans (jh_z_s _ _ _ _), (jh_u_k _ _ _ _ (by decide)).trans (jh_z_s _ _ _ _)⟩
  rw [← eh1]
  have o1 := f1.O ho
  have y1 := f1.2 r ho.1 (fun z => z)
  refine jw_pr rfl p_P_init_20 (o1) ?_
  refine jw_aload_n rfl rfl ?_
  obtain ⟨h2, eh2⟩ : ∃ z, z = jh_sr h1 r 257 (some q5) := ⟨_, rfl⟩
  rw [← eh2]
  have F2 : fr (fun b => b = r) h1 h2 := by rw [eh2]; exact fr.sr fr.rf rfl
  have o2 := F2.O o1
  have nr5 : q5 ≠ r := fun e => hq5 (by rw [e]; exact ho.1)
  refine js_iconst (x := 5) rfl rfl ?_
  refine jw_newq (t := 5) (n := 5) rfl (by decide) rfl n_P_9 rfl (by decide) (by omega) (by omega) (fun q21 hq21 => ?_)
  obtain ⟨h3, eh3⟩ : ∃ z, z = jh_nw h2 q21 105 5 := ⟨_, rfl⟩
  have F3 : fr (fun _ => False) h2 h3 := by rw [eh3]; exact fr.nw fr.rf hq21
  have A3 : jh_A h3 q21 5 5 := by rw [eh3]; exact jh_nw_A (h := h2) (q := q21) (t := 5) (n := 5)
  rw [← eh3]
  have o3 := F3.O o2
  refine jw_pr rfl p_P_init_26 (o3) ?_
  refine jw_aload_n rfl rfl ?_
  refine js_iconst (x := (-1)) rfl rfl ?_
  refine jw_pi rfl p_P_init_30 (o3) ?_
  refine jw_aload_n rfl rfl ?_
  refine js_sipush (x := 200) rfl rfl ?_
  obtain ⟨h5, eh5⟩ : ∃ z, z = jh_si (jh_sr h3 r 258 (some q21)) r 262 (-1) := ⟨_, rfl⟩
  have F5 : fr (fun b => b = r) h3 h5 := by rw [eh5]; exact fr.si (fr.sr fr.rf rfl) rfl
  have o5 := F5.O o3
  rw [← eh5]
  refine jw_newa (t := 2) (n := 200) rfl (by decide) rfl (Or.inr rfl) v_2 rfl (by rw [show componentBytes (jc_at 2) = 8 from rfl]; omega) (by omega) (by omega) (by omega) (fun q36 hq36 => ?_)
  obtain ⟨h6, eh6⟩ : ∃ z, z = jh_nw h5 q36 102 200 := ⟨_, rfl⟩
  have F6 : fr (fun _ => False) h5 h6 := by rw [eh6]; exact fr.nw fr.rf hq36
  have A6 : jh_A h6 q36 2 200 := by rw [eh6]; exact jh_nw_A (h := h5) (q := q36) (t := 2) (n := 200)
  rw [← eh6]
  have o6 := F6.O o5
  have y3 := F3.2 _ o2.1 (fun z => z)
  have y6 := F6.2 _ o5.1 (fun z => z)
  have i6 : jh_i h6 r 262 = -1 ∧ (∀ k, k ≠ 262 → jh_i h6 r k = 0) := by
    refine ⟨(y6.2.2.1 262).trans (by rw [eh5]; exact jh_u_s _ _ _ _), fun k hk => (y6.2.2.1 k).trans ?_⟩
    rw [eh5]
    refine (jh_u_k _ _ _ _ hk).trans ((y3.2.2.1 k).trans ?_)
    rw [eh2]
    exact (y1.2.2.1 k).trans (hi k)
  have r6 : jh_r h6 r 258 = some q21 ∧ jh_r h6 r 257 = some q5 ∧ jh_r h6 r 260 = none := by
    refine ⟨(y6.2.2.2.2.1 258).trans (by rw [eh5]; exact jh_u_s _ _ _ _), (y6.2.2.2.2.1 257).trans ?_, (y6.2.2.2.2.1 260).trans ?_⟩
    · rw [eh5]
      refine (jh_u_k _ _ _ _ (by decide)).trans ((y3.2.2.2.2.1 257).trans ?_)
      rw [eh2]
      exact jh_u_s _ _ _ _
    · rw [eh5]
      refine (jh_u_k _ _ _ _ (by decide)).trans ((y3.2.2.2.2.1 260).trans ?_)
      rw [eh2]
      exact (jh_u_k _ _ _ _ (by decide)).trans ((y1.2.2.2.2.1 260).trans hr)
  have f26 : fr (fun b => b = r) h1 h6 := ((F2.tr F3 (fun _ _ z => absurd z id)).tr F5 (fun _ _ z => z)).tr F6 (fun _ _ z => absurd z id)
  have e6 := f26.2 _ n1.1.1 nr5
  have A36 : jh_A h6 q21 5 5 := F6.A (F5.A A3)
  have n5 := f26.O n1.1
  refine jw_pr rfl p_P_init_34 (o6) ?_
  refine jw_aload_n rfl rfl ?_
  refine jw_aload_n rfl rfl ?_
  refine jw_pr rfl p_P_init_38 (o6) ?_
  refine jw_aload_n rfl rfl ?_
  refine jw_gr rfl g_P_26 (o6) ((jh_u_k _ _ _ _ (by decide)).trans ((jh_u_k _ _ _ _ (by decide)).trans r6.1)) ?_
  refine js_iconst (x := 0) rfl rfl ?_
  refine jw_aload_n rfl rfl ?_
  refine jw_gr rfl g_P_20 (o6) ((jh_u_k _ _ _ _ (by decide)).trans ((jh_u_k _ _ _ _ (by decide)).trans r6.2.1)) ?_
  refine js_aast (0) rfl (A36) (n5) (by decide) jc_o5 (by rfl) rfl (by omega) (by omega) ?_
  refine jw_return rfl rfl ?_
  have f18 : fr (fun b => b = r ∨ b = q21) h6 (jh_sR (jh_sr (jh_sr h6 r 265 (some q36)) r 256 (some sb)) q21 0 (some q5)) := fr.sR (fr.sr (fr.sr fr.rf (Or.inl rfl)) (Or.inl rfl)) (Or.inr rfl)
  have n21 : q21 ∉ jh_L h := fun z => hq21 (F2.1 _ (f1.1 _ z).1).1
  have n36 : q36 ∉ jh_L h := fun z => hq36 (F5.1 _ (F3.1 _ (F2.1 _ (f1.1 _ z).1).1).1).1
  refine hq _ q21 q5 q36 n21 hq5 n36 ⟨f18.O o6, (jh_u_k _ _ _ _ (by decide)).trans ((jh_u_k _ _ _ _ (by decide)).trans r6.1), f18.A A36, i6.2 259 (by decide), by omega, (jh_u_k _ _ _ _ (by decide)).trans ((jh_u_k _ _ _ _ (by decide)).trans r6.2.2), fun x z => by cases z⟩ (jh_u_s _ _ _ _) (f18.O n5) ?_ ?_ (jh_u_s _ _ _ _) ((jh_u_k _ _ _ _ (by decide)).trans ((jh_u_k _ _ _ _ (by decide)).trans r6.2.1)) ((jh_u_k _ _ _ _ (by decide)).trans (jh_u_s _ _ _ _)) (f18.A A6) (i6.2 261 (by decide)) i6.1 ?_
  · exact (jh_u_a _ _ _ _ nr5).trans ((jh_u_a _ _ _ _ nr5).trans ((e6.2.2.2.2.1 326).trans n1.2.1))
  · exact (e6.2.2.1 328).trans n1.2.2
  · refine ((f1.mono (S := fun b => b = r) (fun _ _ z => absurd z id)).tr ((f26.mono (S := fun b => b = r ∨ b = q21) (fun _ _ z => Or.inl z)).tr f18 (fun _ _ z => z)) (fun x hx z => ?_))
    rcases z with z | z
    · exact z
    · exact absurd hx (by rw [z]; exact n21)

