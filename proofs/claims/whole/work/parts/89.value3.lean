/-! VALUES: a new list or map; an entry is set; where a name stands -/
set_option maxHeartbeats 4000000 in
set_option maxRecDepth 100000 in
theorem cv_ofEntries {g : jg_G} (hg : (jg_l g).stackTraces = false) {d mc ms : Nat} {h : jh_H} {x : Int32} {Q : jw_O → jh_H → Prop} (hd : 2 ≤ d) (hmc : 3 ≤ mc) (hms : 27 ≤ ms) (hq : ∀ h' q qe qn, q ∉ jh_L h → qe ∉ jh_L h → qn ∉ jh_L h → jh_O h' q 2 → jh_i h' q 128 = x → jh_r h' q 131 = some qe → jh_r h' q 132 = some qn → jh_A h' qe 4 10 → jh_A h' qn 2 10 → jh_i h' q 133 = 0 → jh_i h' q 134 = 0 → fr (fun _ => False) h h' → Q (.inl (some (.inr (.inr (some q))))) h') : jw_C g d mc ms m_V_ofEntries [.inl x] h Q := by
  refine jw_intro (ls := [some (.inl x), none]) (by decide) k_V_ofEntries rfl (by simp [lo_fit, jv_c]) hg ?_
  have e2 : (jc_q 2).2.2 = 7 := rfl
  refine jw_new rfl jc_o2 n_V_9 a_2 b_2 e_2 (by omega) (by omega) (fun q0 hq0 => ?_)
  refine jw_dup rfl rfl ?_
  refine js_callI (As := []) rfl l_V_init c_V_11 i_V_init rfl rfl rfl (cv_init (d := d - 1) (mc := 0) (ms := 0) hg (by omega) ?_) (by omega) (Nat.le_of_ble_eq_true rfl) (by omega) (by omega) rfl
  refine js_astore_n rfl rfl (by decide) rfl ?_
  refine jw_aload_n rfl rfl ?_
  refine jw_iload_n rfl rfl ?_
  refine jw_pi rfl p_V_ofEntries_12 (jh_nw_O) ?_
  refine jw_aload_n rfl rfl ?_
  refine js_bipush (x := 10) rfl rfl ?_
  refine jw_newq (t := 4) (n := 10) rfl (by decide) rfl n_V_9 rfl (by decide) (by omega) (by omega) (fun q16 hq16 => ?_)
  obtain ⟨h1, eh1⟩ : ∃ z, z = jh_si (jh_nw h q0 2 (jc_q 2).2.2) q0 128 x := ⟨_, rfl⟩
  rw [← eh1] at hq16
  have O1 : jh_O h1 q0 2 := by rw [eh1]; exact jh_nw_O
  have f1 : fr (fun _ => False) h h1 := by
    rw [eh1]
    exact (fr.si (S := fun b => b = q0) (fr.nw fr.rf hq0) rfl).mono (fun b hb z => hq0 (by rw [← z]; exact hb))
  have i1 : jh_i h1 q0 128 = x ∧ jh_i h1 q0 133 = 0 ∧ jh_i h1 q0 134 = 0 := by
    rw [eh1]
    exact ⟨jh_u_s _ _ _ _, (jh_u_k _ _ _ _ (by decide)).trans (jh_z_s _ _ _ _), (jh_u_k _ _ _ _ (by decide)).trans (jh_z_s _ _ _ _)⟩
  rw [← eh1]
  refine jw_pr rfl p_V_ofEntries_23 (jh_nwO O1 hq16) ?_
  refine jw_aload_n rfl rfl ?_
  refine js_bipush (x := 10) rfl rfl ?_
  refine jw_newa (t := 2) (n := 10) rfl (by decide) rfl (Or.inr rfl) v_2 rfl (by rw [show componentBytes (jc_at 2) = 8 from rfl]; omega) (by omega) (by omega) (by omega) (fun q25 hq25 => ?_)
  obtain ⟨h2, eh2⟩ : ∃ z, z = jh_sr (jh_nw h1 q16 104 10) q0 131 (some q16) := ⟨_, rfl⟩
  have O2 : jh_O h2 q0 2 := by rw [eh2]; exact jh_nwO O1 hq16
  rw [← eh2] at hq25
  rw [← eh2]
  refine jw_pr rfl p_V_ofEntries_27 (jh_nwO O2 hq25) ?_
  refine jw_aload_n rfl rfl ?_
  refine jw_areturn rfl rfl (Or.inl ⟨_, rfl⟩) ?_
  have n1 : fr (fun _ => False) h1 (jh_nw h1 q16 104 10) := fr.nw fr.rf hq16
  have n2 : fr (fun b => b = q0) (jh_nw h1 q16 104 10) h2 := by rw [eh2]; exact fr.sr fr.rf rfl
  have A2 : jh_A h2 q16 4 10 := by rw [eh2]; exact jh_nw_A (h := h1) (q := q16) (t := 4) (n := 10)
  have n3 : fr (fun _ => False) h2 (jh_nw h2 q25 102 10) := fr.nw fr.rf hq25
  have r2 : jh_r h2 q0 131 = some q16 := by rw [eh2]; exact jh_u_s _ _ _ _
  have i2 : ∀ k, jh_i h2 q0 k = jh_i h1 q0 k := fun k => by rw [eh2]; exact (n1.2 _ O1.1 id).2.2.1 k
  have y3 := n3.2 _ O2.1 id
  have f2 : fr (fun _ => False) h h2 := (f1.tr n1 (fun _ _ z => z)).tr n2 (fun x hx z => hq0 (by rw [← z]; exact hx))
  have f3 : fr (fun _ => False) h (jh_nw h2 q25 102 10) := f2.tr n3 (fun _ _ z => z)
  refine hq _ q0 q16 q25 hq0 (fun z => hq16 (f1.1 _ z).1) (fun z => hq25 (f2.1 _ z).1) (jh_nwO O2 hq25) ((y3.2.2.1 128).trans ((i2 _).trans i1.1)) ((jh_u_k _ _ _ _ (by decide)).trans ((y3.2.2.2.2.1 131).trans r2)) (jh_u_s _ _ _ _) (jh_nwA A2 hq25) (jh_nw_A (h := h2) (q := q25) (t := 2) (n := 10)) ((y3.2.2.1 133).trans ((i2 _).trans i1.2.1)) ((y3.2.2.1 134).trans ((i2 _).trans i1.2.2)) ?_
  exact (fr.sr (S := fun b => b = q0) (f3.mono (fun _ _ z => absurd z id)) rfl).mono (fun b hb z => hq0 (by rw [← z]; exact hb))
set_option maxHeartbeats 4000000 in
set_option maxRecDepth 100000 in
theorem cv_setEntry {g : jg_G} (hg : (jg_l g).stackTraces = false) {d mc ms : Nat} {h : jh_H} {a en nm s j b : Nat} {w : Int64} {Q : jw_O → jh_H → Prop} (ho : jh_O h a 2) (he : jh_r h a 131 = some en) (hn : jh_r h a 132 = some nm) (hE : jh_A h en 4 10) (hN : jh_A h nm 2 10) (hs : jh_i h a 133 = nI s) (hsl : s ≤ 10) (hj : j < 10) (hb : jh_O h b 2) (hd : 1 ≤ d) (hq : Q (.inl none) (jh_si (jh_sG (jh_sR h en j (some b)) nm j w) a 133 (nI (max s (j + 1))))) : jw_C g d mc ms m_V_setEntry [.inr (.inr (some a)), .inl (nI j), .inr (.inl w), .inr (.inr (some b))] h Q := by
  refine jw_intro (ls := [some (.inr (.inr (some a))), some (.inl (nI j)), some (.inr (.inl w)), none, some (.inr (.inr (some b)))]) (by decide) k_V_setEntry rfl (by simp [lo_fit, jv_c]) hg ?_
  refine jw_aload_n rfl rfl ?_
  refine jw_gr rfl g_V_23 (ho) (he) ?_
  refine jw_iload_n rfl rfl ?_
  refine jw_aload rfl rfl ?_
  refine js_aast (j) rfl (hE) (hb) (by decide) jc_o2 (by rfl) rfl (by omega) (by omega) ?_
  refine jw_aload_n rfl rfl ?_
  refine jw_gr rfl g_V_27 (ho) (hn) ?_
  refine jw_iload_n rfl rfl ?_
  refine jw_lload_n rfl rfl ?_
  refine js_last (j) rfl (hN) (by decide) (by rfl) rfl (by omega) (by omega) ?_
  refine jw_aload_n rfl rfl ?_
  refine jw_aload_n rfl rfl ?_
  refine jw_gi rfl g_V_31 (ho) (hs) ?_
  refine jw_iload_n rfl rfl ?_
  refine js_iconst (x := 1) rfl rfl ?_
  refine jw_iaddV rfl (nI_1 j) ?_
  refine jw_max rfl mx_V_34 (by omega) (Nat.le_of_ble_eq_true rfl) (nI_max (by omega) (by omega)) ?_
  refine jw_pi rfl p_V_setEntry_31 (ho) ?_
  refine jw_return rfl rfl ?_
  exact hq
set_option maxHeartbeats 4000000 in
set_option maxRecDepth 100000 in
theorem cv_placeOf {g : jg_G} (hg : (jg_l g).stackTraces = false) {d mc ms : Nat} {h : jh_H} {n x : Nat} {D : sd_D} {E : cd_E} {P : Nat → Prop} {L : List Nat} {Q : jw_O → jh_H → Prop} (hc : cd_ok h n D E P) (hL : nm_ok L) (hx : x < n) (hk : sd_k D x = 3) (q1 : (∀ i, i < sd_c D x → sd_n D x i ≠ nm_c L 0) → Q (.inl (some (.inl (nI (sd_c D x))))) h) (q2 : ∀ i, i < sd_c D x → sd_n D x i = nm_c L 0 → (∀ j, j < i → sd_n D x j ≠ nm_c L 0) → Q (.inl (some (.inl (nI i)))) h) : jw_C g d mc ms m_V_placeOf [.inr (.inr (some (E.1 x))), .inr (.inl (nc7 L 0))] h Q := by
  refine jw_intro (ls := [some (.inr (.inr (some (E.1 x)))), some (.inr (.inl (nc7 L 0))), none, none]) (by decide) k_V_placeOf rfl (by simp [lo_fit, jv_c]) hg ?_
  obtain ⟨h1, h2, -, -, h5⟩ := hc.2 x hx
  obtain ⟨a1, a2, a3, a4, a5, a6, a7, a8, a9, a10, a11⟩ := h5 (by omega)
  have loop : ∀ r j, j + r = sd_c D x → (∀ i, i < j → sd_n D x i ≠ nm_c L 0) → jw_J g d m_V_placeOf jw_T0 2 [some (.inr (.inr (some (E.1 x)))), some (.inr (.inl (nc7 L 0))), none, some (.inl (nI j))] [] h mc ms Q := by
    intro r
    induction r with
    | zero =>
      intro j hj hn
      have ej : j = sd_c D x := by omega
      subst ej
      refine jw_iload_n rfl rfl ?_
      refine jw_aload_n rfl rfl ?_
      refine jw_gi rfl g_V_31 (a3) (a9) ?_
      refine jw_icmp_ge 29 rfl rfl (fun _ => ?_) (fun z => absurd (Int32.le_refl _) z)
      refine jw_aload_n rfl rfl ?_
      refine jw_gi rfl g_V_31 (a3) (a9) ?_
      refine jw_ireturn rfl rfl rfl ?_
      exact q1 hn
    | succ r ih =>
      intro j hj hn
      obtain ⟨r1, r2, r3⟩ := a11 j (by omega)
      rw [nm_rel, if_pos hk] at r3
      generalize hw : jh_G h (E.2.2 x) j = w at r3
      obtain ⟨M, hM, e1, e2⟩ := r3
      refine jw_iload_n rfl rfl ?_
      refine jw_aload_n rfl rfl ?_
      refine jw_gi rfl g_V_31 (a3) (a9) ?_
      refine jw_icmp_ge 29 rfl rfl (fun z => absurd z (fun z => absurd ((nI_leI (by omega) (by omega)).mp z) (by omega))) (fun _ => ?_)
      refine jw_aload_n rfl rfl ?_
      refine jw_gr rfl g_V_27 (a3) (a6) ?_
      refine jw_iload_n rfl rfl ?_
      refine js_laldV (j) rfl (a8) (by decide) (by rfl) rfl (by omega) (by omega) (hw) ?_
      refine jw_lload_n rfl rfl ?_
      refine jw_lcmp rfl ?_
      by_cases es : sd_n D x j = nm_c L 0
      · have ew : w = nc7 L 0 := by rw [e2]; exact (nm_same hM hL).mp (e1.symm.trans es)
        refine jw_if_ne 23 rfl rfl (fun z => absurd ((lg_cmp_eq _ _).mpr ew) z) (fun _ => ?_)
        refine jw_iload_n rfl rfl ?_
        refine jw_ireturn rfl rfl rfl ?_
        exact q2 j (by omega) es hn
      · have ew : w ≠ nc7 L 0 := fun z => es (by rw [e1]; exact (nm_same hM hL).mpr (e2.symm.trans z))
        refine jw_if_ne 23 rfl rfl (fun _ => ?_) (fun z => absurd z (fun z => ew ((lg_cmp_eq _ _).mp z)))
        refine js_iinc rfl rfl (nI_1 j) rfl (by decide) rfl ?_
        refine jw_goto 2 rfl rfl ?_
        refine ih (j + 1) (by omega) (fun i hi => ?_)
        by_cases e : i = j
        · subst e; exact es
        · exact hn i (by omega)
  refine js_iconst (x := 0) rfl rfl ?_
  refine js_istore_n rfl rfl (by decide) rfl ?_
  exact loop (sd_c D x) 0 (by omega) (fun i hi => absurd hi (by omega))

