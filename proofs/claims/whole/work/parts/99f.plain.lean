/-! READER: plain text is hung -/
theorem RT.mv {g : jg_G} {h0 h h' : jh_H} {r op rt : Nat} {X : tp_X} {A B : Nat → Nat} {d : Nat} {os : Nat → Nat} {lst W : Option Nat} {S : Nat → Prop} (hT : RT g h0 h r op rt X A B d os lst W) (f : fr S h h') (hS : ∀ b, b ∉ jh_L h0 → b ∈ jh_L h → ¬ S b) (hr : ¬ S rt) (ho : ¬ S op) (ri : jh_i h' r 259 = jh_i h r 259) (rr : ∀ k, jh_r h' r k = jh_r h r k) : RT g h0 h' r op rt X A B d os lst W := by
  obtain ⟨⟨z1, z2, z3, z4, z5, z6, z7⟩, t2, t3, t4, t5, t6, t7, t8, t9⟩ := hT
  have eo := f.2 _ z3.1 ho
  exact ⟨⟨f.O z1, (rr 258).trans z2, f.A z3, ri.trans z4, z5, (rr 260).trans z6, fun x hx => f.O (z7 x hx)⟩, (eo.2.2.2.2.2.2.2 0).trans t2, fun j hj => ⟨(eo.2.2.2.2.2.2.2 _).trans (t3 j hj).1, (t3 j hj).2⟩, t4, t5.mv f hS hr, t6.mv t5 f hS hr, t7, t8, t9⟩
theorem HH.mv {h0 h h' : jh_H} {X : tp_X} {A B : Nat → Nat} {rt d : Nat} {os : Nat → Nat} {lst : Option Nat} {S : Nat → Prop} (hH : HH h0 h X A B rt d os lst) (f : fr S h h') : HH h0 h' X A B rt d os lst := ⟨hH.1, f.O hH.2.1, hH.2.2⟩
theorem MD.mv {g : jg_G} {h0 h h' : jh_H} {rt : Nat} {X : tp_X} {A B : Nat → Nat} {d : Nat} {os : Nat → Nat} {lst W : Option Nat} {txt : List Nat} {S : Nat → Prop} (hM : MD g h0 h rt X A B d os lst W txt) (f : fr S h h') (hS : ∀ b, b ∉ jh_L h0 → b ∈ jh_L h → ¬ S b) : MD g h0 h' rt X A B d os lst W txt := by
  rcases hM with ⟨m1, m2, m3⟩ | ⟨m1, m2, m3, m4, m5, m6⟩
  · exact Or.inl ⟨m1, m2, m3.mv f⟩
  · exact Or.inr ⟨m1, m2, m3, m4.mv f (fun b z => hS b z.1 z.2.1) (hS _ m4.2.1 m4.1.1), m5, m6⟩
theorem tf.rf {h0 h : jh_H} {r op rt : Nat} : tf h0 r op rt h h := ⟨fr.rf, fun _ _ => rfl, fun _ _ => rfl⟩
theorem sp_sub_nil {t : Nat → Nat} {p n : Nat} : sp_sub t p n = [] ↔ n = 0 := by
  unfold sp_sub
  constructor
  · intro z
    have := congrArg List.length z
    simpa using this
  · intro z; rw [z]; rfl
set_option maxHeartbeats 4000000 in
set_option maxRecDepth 100000 in
theorem cp_plain {g : jg_G} (hg : (jg_l g).stackTraces = false) {d mc ms : Nat} {h0 h : jh_H} {r op rt dd sb sch cap p k : Nat} {L : List Nat} {X : tp_X} {A B : Nat → Nat} {os : Nat → Nat} {lst : Option Nat} {Q : jw_O → jh_H → Prop} (hsub : ∀ b, b ∈ jh_L h0 → b ∈ jh_L h) (hT : RT g h0 h r op rt X A B dd os lst none) (hH : HH h0 h X A B rt dd os lst) (hs : jh_r h r 256 = some sb) (hx : tx_is h sb sch cap L) (hL : L.length ≤ 200) (hpk : p ≤ k) (hk : k ≤ L.length) (hd : 3 ≤ d) (hmc : p < k → 3 ≤ mc) (hms : p < k → 11 + (k - p) ≤ ms)
    (hq : ∀ h' A' lst' W', (∀ i, i < X.2.1 → A' i = A i) → RT g h0 h' r op rt X A' B dd os lst' W' → MD g h0 h' rt X A' B dd os lst' W' (sp_sub (tL L) p (k - p)) → tf h0 r op rt h h' → Q (.inl none) h') : jw_C g d mc ms m_P_attachPlain [.inr (.inr (some r)), .inl (nI p), .inl (nI k)] h Q := by
  refine jw_intro (ls := [some (.inr (.inr (some r))), some (.inl (nI p)), some (.inl (nI k)), none]) (by decide) k_P_attachPlain rfl (by simp [lo_fit, jv_c]) hg ?_
  have e5 : (jc_q 5).2.2 = 9 := rfl
  refine jw_iload_n rfl rfl ?_
  refine jw_iload_n rfl rfl ?_
  by_cases cp : p < k
  · have hmc := hmc cp
    have hms := hms cp
    refine jw_icmp_ge 35 rfl rfl (fun z => absurd z (fun z => absurd ((nI_leI (by omega) (by omega)).mp z) (by omega))) (fun _ => ?_)
    refine jw_new rfl jc_o5 n_P_9 a_5 b_5 e_5 (by omega) (by omega) (fun q5 hq5 => ?_)
    refine jw_dup rfl rfl ?_
    refine jw_gst rfl kz_1 y_P_99 ?_
    refine jw_iload_n rfl rfl ?_
    refine js_callI (As := [.inr (.inr (some (jg_c g 101))), .inl (nI p)]) rfl l_N_init c_P_17 i_N_init rfl rfl rfl (cn_init (d := d - 1) (mc := 0) (ms := 0) hg jh_nw_O (by omega) ?_) (by omega) (Nat.le_of_ble_eq_true rfl) (by omega) (by omega) rfl
    obtain ⟨h1, eh1⟩ : ∃ z, z = jh_si (jh_sr (jh_nw h q5 5 (jc_q 5).2.2) q5 320 (some (jg_c g 101))) q5 321 (nI p) := ⟨_, rfl⟩
    have f1 : fr (fun _ => False) h h1 := by rw [eh1]; exact (fr.si (S := fun b => b = q5) (fr.sr (fr.nw fr.rf hq5) rfl) rfl).mono (fun b hb z => hq5 (by rw [← z]; exact hb))
    have n1 : nw_pt g h1 q5 1 p := by
      rw [eh1]
      exact ⟨jh_nw_O, jh_u_s _ _ _ _, jh_u_s _ _ _ _, (jh_u_k _ _ _ _ (by decide)).trans (jh_z_s _ _ _ _), (jh_u_k _ _ _ _ (by decide)).trans (jh_z_s _ _ _ _), (jh_u_k _ _ _ _ (by decide)).trans (jh_z_s _ _ _ _), (jh_u_k _ _ _ _ (by decide)).trans (jh_z_s _ _ _ _)⟩
    rw [← eh1]
    have t8 := hT.2.2.2.2.2.2.2.1
    have r0 := hsub _ t8
    have y1 := f1.2 r r0 (fun z => z)
    refine js_astore_n rfl rfl (by decide) rfl ?_
    refine jw_aload_n rfl rfl ?_
    refine jw_aload_n rfl rfl ?_
    refine jw_gr rfl g_P_38 (f1.O hT.1.1) ((y1.2.2.2.2.1 256).trans hs) ?_
    refine jw_iload_n rfl rfl ?_
    refine jw_iload_n rfl rfl ?_
    refine js_call (As := [.inl (nI p), .inl (nI k)]) rfl l_T_copyOf c_P_102 i_T_copyOf s_T_copyOf jc_o1 rfl ((hx.fr f1 (fun z => z) (fun z => z)).1.1) rfl (ct_copyOf (d := d - 1) (mc := 2) (ms := 2 + (k - p)) hg (hx.fr f1 (fun z => z) (fun z => z)) hpk hk (by omega) (by omega) (by omega) (fun h2 tb qc htb hqc tx2 f2 => ?_)) (by omega) (Nat.le_of_ble_eq_true rfl) (by omega) (by omega) rfl
    have n2 := n1.eq (f2.2 _ n1.1.1 (fun z => z))
    obtain ⟨h3, eh3⟩ : ∃ z, z = jh_sr h2 q5 322 (some tb) := ⟨_, rfl⟩
    have F3 : fr (fun b => b = q5) h2 h3 := by rw [eh3]; exact fr.sr fr.rf rfl
    have f3 : fr (fun _ => False) h h3 := (f1.tr f2 (fun _ _ z => z)).tr F3 (fun x hx z => absurd hx (by rw [z]; exact hq5))
    have y3 := f3.2 r r0 (fun z => z)
    have T3 : RT g h0 h3 r op rt X A B dd os lst none := hT.mv f3 (fun _ _ _ z => z) (fun z => z) (fun z => z) (y3.2.2.1 259) (fun k => y3.2.2.2.2.1 k)
    have H3 := hH.mv f3
    obtain ⟨p1, p2, p3⟩ := T3.top
    obtain ⟨t1, t2, t3, t4, t5, t6, t7, -, t9⟩ := id T3
    refine jw_pr rfl p_P_attachPlain_106 (n2.1) ?_
    refine jw_aload_n rfl rfl ?_
    refine jw_aload_n rfl rfl ?_
    rw [← eh3]
    refine js_call (As := [.inr (.inr (some q5))]) rfl l_P_attach c_P_109 i_P_attach s_P_attach jc_o4 rfl (T3.1.1) rfl (cp_attach (d := d - 1) (mc := 0) (ms := 0) hg t1 p1 p2 p3 ?_) (by omega) (Nat.le_of_ble_eq_true rfl) (by omega) (by omega) rfl
    refine jw_return rfl rfl ?_
    obtain ⟨ha, eha⟩ : ∃ a, a = (hf lst (tpp X B rt dd os) (elp X dd os)).1 := ⟨_, rfl⟩
    obtain ⟨hk, ehk⟩ : ∃ k, k = (hf lst (tpp X B rt dd os) (elp X dd os)).2 := ⟨_, rfl⟩
    rw [← eha, ← ehk]
    have K0 : ha ∈ jh_L h := by rw [eha]; exact hH.2.1.1
    obtain ⟨H4, H5, H6⟩ := H3
    rw [← eha, ← ehk] at H4
    rw [← eha] at H5 H6
    have haq : ha ≠ q5 := fun e => hq5 (by rw [← e]; exact K0)
    have q5h0 : q5 ∉ jh_L h0 := fun z => hq5 (hsub _ z)
    have rR : r ≠ rt := fun e => jO_ne t1.1 t5.1 (by decide) e
    have har : ha ≠ r := fun e => by rcases H6 with g2 | g2; exact rR (e.symm.trans g2); exact g2 (by rw [e]; exact t8)
    obtain ⟨h4, eh4⟩ : ∃ z, z = jh_sr h3 ha hk (some q5) := ⟨_, rfl⟩
    obtain ⟨h5, eh5⟩ : ∃ z, z = jh_sr h4 r 260 (some q5) := ⟨_, rfl⟩
    rw [← eh4, ← eh5]
    have b4 : BI g h0 h4 X A B rt (some q5) := by rw [eh4]; exact t5.at t7 H4 H5 rfl
    have f4 : fr (fun b => b = ha) h3 h4 := by rw [eh4]; exact fr.sr fr.rf rfl
    have f5 : fr (fun b => b = r) h4 h5 := by rw [eh5]; exact fr.sr fr.rf rfl
    have eA : ∀ i, i < X.2.1 → va_up A X.2.1 q5 i = A i := fun i hi => va_up_ne _ _ (by omega)
    have eAn : va_up A X.2.1 q5 X.2.1 = q5 := va_up_self _ _ _
    have b5 : BI g h0 h5 X (va_up A X.2.1 q5) B rt (some q5) := (b4.mv f5 (fun b hb _ e => hb (by rw [e]; exact t8)) (fun e => rR e.symm)).cg eA (fun _ _ => rfl)
    have tx3 : tx_is h3 tb qc (k - p) (sp_sub (tL L) p (k - p)) := tx2.fr F3 (fun z => jO_ne tx2.1.1 n2.1 (by decide) z) (fun z => jOA_ne n2.1 tx2.1.2.1 (by decide) z.symm)
    have xtb : xk h0 h3 tb := ⟨fun z => htb (f1.1 _ (hsub _ z)).1, tx3.1.1.1, by rw [tx3.1.1.2]; show (1 : Nat) ≠ 5; decide, by rw [tx3.1.1.2]; show (1 : Nat) ≠ 4; decide⟩
    have xqc : xk h0 h3 qc := ⟨fun z => hqc (f1.1 _ (hsub _ z)).1, tx3.1.2.1.1, by rw [tx3.1.2.1.2]; show (100 : Nat) ≠ 5; decide, by rw [tx3.1.2.1.2]; show (100 : Nat) ≠ 4; decide⟩
    have a3 : ap_ok g h0 h3 q5 (sp_sub (tL L) p (k - p)) none := ⟨F3.O n2.1, q5h0, by rw [eh3]; exact (jh_u_k _ _ _ _ (by decide)).trans n2.2.1, ⟨tb, qc, k - p, by rw [eh3]; exact jh_u_s _ _ _ _, xtb, xqc, tx3⟩, by rw [eh3]; exact (jh_u_k _ _ _ _ (by decide)).trans n2.2.2.2.1⟩
    have a5 := (a3.mv f4 (fun b z e => z.2.2.1 (by rw [e, H5.2])) (fun e => haq e.symm)).mv f5 (fun b z e => z.1 (by rw [e]; exact t8)) (fun e => q5h0 (by rw [e]; exact t8))
    have r4 : ∀ k, jh_r h4 r k = jh_r h3 r k := fun k => by rw [eh4]; exact jh_u_a _ _ _ _ (Ne.symm har)
    have i5 : jh_i h5 = jh_i h3 := by rw [eh5, eh4]; rfl
    have R5 : jh_R h5 = jh_R h3 := by rw [eh5, eh4]; rfl
    have r5 : ∀ k, k ≠ 260 → jh_r h5 r k = jh_r h3 r k := fun k hk => by rw [eh5]; exact (jh_u_k _ _ _ _ hk).trans (r4 k)
    refine hq h5 (va_up A X.2.1 q5) (some q5) (some q5) eA ⟨⟨f5.O (f4.O t1.1), (r5 258 (by decide)).trans t1.2.1, f5.A (f4.A t1.2.2.1), by rw [i5]; exact t1.2.2.2.1, t1.2.2.2.2.1, by rw [eh5]; exact jh_u_s _ _ _ _, fun y hy => by cases hy; exact a5.1⟩, by rw [R5]; exact t2, fun j hj => by rw [R5]; exact t3 j hj, t4, b5, ⟨by rw [i5]; exact t6.1, fun i hi hb => by rw [i5]; exact t6.2 i hi hb⟩, t7, t8, t9⟩ (Or.inr ⟨fun z => by have := sp_sub_nil.mp z; omega, by rw [eAn], by rw [eAn], by rw [eAn]; exact a5, fun i hi hti => ?_, fun i hi => ?_⟩) ⟨?_, fun k hk => ?_, fun k hk => ?_⟩
    · rw [eA i hi, eAn]
      exact fun e => hq5 (by rw [← e]; exact (hT.2.2.2.2.1.2.2.2.1 i hi hti).1.1)
    · rw [eAn]
      exact fun e => hq5 (by rw [e]; exact (hT.2.2.2.2.1.2.2.2.2.1 i hi).1.1)
    · refine (f3.mono (S := tS h0 r op rt) (fun _ _ z => absurd z (fun y => y))).tr ((f4.mono (S := tS h0 r op rt) (fun b _ z => ?_)).tr (f5.mono (S := tS h0 r op rt) (fun b _ z => Or.inl z)) (fun _ _ z => z)) (fun _ _ z => z)
      rw [z]
      rcases H6 with g2 | g2
      · exact Or.inr (Or.inr (Or.inl g2))
      · exact Or.inr (Or.inr (Or.inr g2))
    · rw [i5]; exact y3.2.2.1 k
    · exact (r5 k hk).trans (y3.2.2.2.2.1 k)
  · have e0 : k = p := by omega
    subst e0
    refine jw_icmp_ge 35 rfl rfl (fun _ => ?_) (fun z => absurd ((nI_leI (by omega) (by omega)).mpr (by omega)) z)
    refine jw_return rfl rfl ?_
    exact hq h A lst none (fun _ _ => rfl) hT (Or.inl ⟨sp_sub_nil.mpr (by omega), rfl, hH⟩) tf.rf

