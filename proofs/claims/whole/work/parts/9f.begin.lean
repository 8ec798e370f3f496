/-! THE LAW: its begin -/
theorem ce.rc {g : jg_G} {h : jh_H} {col col' ad R : Nat → Nat} {E : cd_E} {se : Nat} {S : SS} (hc : ce g h col ad R E se S) (h1 : ∀ b, col b ≠ 0 → col' b = col b) (h2 : ∀ b, col' b ≠ 0 → b ∈ jh_L h) : ce g h col' ad R E se S := by
  obtain ⟨c1, c2, c3, c4, c5, k1, k2, k3, k4, k5, k6, k7, k8⟩ := hc
  have is : ∀ {b k}, k ≠ 0 → col b = k → col' b = k := fun {b k} hk e => by rw [h1 b (by rw [e]; exact hk), e]
  exact ⟨c1, c2, c3.cl (fun b hb => is (by decide) hb), c4.mono (fun b hb => is (by decide) hb), c5, k1, fun i hi => is (by decide) (k2 i hi), is (by decide) k3, is (by decide) k4, is (by decide) k5, is (by decide) k6, h2, is (by decide) k8⟩
theorem LI.start {g : jg_G} {h1 h2 : jh_H} {col1 ad R ar0 : Nat → Nat} {E : cd_E} {mo ou m8 : Nat} (c1 : ce g h1 col1 ad R E 0 SS0) (hmo : mo ∉ jh_L h1) (m1 : mo_ok h2 mo ar0) (m2 : ∀ k, jh_i h2 mo k = ci_n k) (m3 : ∀ x ∈ mo_T, (∀ j, jh_I h2 (ar0 x.1) j = 0) ∧ ar0 x.1 ∉ jh_L (jh_nw h1 mo 8 m8) ∧ ar0 x.1 ≠ mo) (m4 : ∀ b, b ∈ jh_L (jh_nw h1 mo 8 m8) → b ≠ mo → jh_eq (jh_nw h1 mo 8 m8) h2 b) (hou : ou ∉ jh_L h2) : ∃ col t ar, LI g (jh_nw h2 ou (100 + 2) 1) col ad R E 0 mo ar t ou SS0 := by
  have f1 : fr (fun _ => False) h1 (jh_nw h1 mo 8 m8) := fr.nw fr.rf hmo
  have e12 : ∀ b, b ∈ jh_L h1 → jh_eq h1 h2 b := fun b hb => (f1.2 b hb id).tr (m4 b (f1.1 b hb).1 (fun e => hmo (by rw [← e]; exact hb)))
  have f12 : fr (fun _ => False) h1 h2 := ⟨fun b hb => ⟨(e12 b hb).1 hb, (e12 b hb).2.1⟩, fun b hb _ => e12 b hb⟩
  have f23 : fr (fun _ => False) h2 (jh_nw h2 ou (100 + 2) 1) := fr.nw fr.rf hou
  have f13 : fr (fun _ => False) h1 (jh_nw h2 ou (100 + 2) 1) := fr.nw f12 hou
  obtain ⟨ar, har⟩ : ∃ ar : Nat → Nat, ar = fun k => if k ∈ mo_T.map (fun x => x.1) then ar0 k else mo := ⟨_, rfl⟩
  have ea : ∀ x ∈ mo_T, ar x.1 = ar0 x.1 := fun x hx => by rw [har]; exact if_pos (List.mem_map.mpr ⟨x, hx, rfl⟩)
  have hmo2 : mo ∈ jh_L h2 := m1.1.1
  have hcl : ∀ b, col1 b ≠ 0 → b ∈ jh_L h1 := by
    obtain ⟨-, -, -, -, -, -, -, -, -, -, -, hcl, -⟩ := c1
    exact hcl
  obtain ⟨col, hco⟩ : ∃ col : Nat → Nat, col = fun b => if b = ou then 10 else if b = mo ∨ b ∈ mo_T.map (fun x => ar0 x.1) then 9 else col1 b := ⟨_, rfl⟩
  have co : col ou = 10 := by rw [hco]; exact if_pos rfl
  have n2 : ∀ {b}, b ∈ jh_L h2 → b ≠ ou := fun hb e => hou (by rw [← e]; exact hb)
  have cm : col mo = 9 := by
    rw [hco]
    show (if mo = ou then 10 else if mo = mo ∨ _ then 9 else col1 mo) = 9
    rw [if_neg (n2 hmo2), if_pos (Or.inl rfl)]
  have c0 : ∀ x ∈ mo_T, col (ar0 x.1) = 9 := fun x hx => by
    rw [hco]
    show (if ar0 x.1 = ou then 10 else if ar0 x.1 = mo ∨ ar0 x.1 ∈ mo_T.map (fun x => ar0 x.1) then 9 else col1 (ar0 x.1)) = 9
    rw [if_neg (n2 (m1.2.1 x hx).2.1), if_pos (Or.inr (List.mem_map.mpr ⟨x, hx, rfl⟩))]
  have h9 : mc9 col mo ar := by
    refine ⟨cm, fun k => ?_⟩
    by_cases c : k ∈ mo_T.map (fun x => x.1)
    · obtain ⟨x, hx, rfl⟩ := List.mem_map.mp c
      rw [ea x hx]
      exact c0 x hx
    · rw [har]
      show col (if k ∈ mo_T.map (fun x => x.1) then ar0 k else mo) = 9
      rw [if_neg c]
      exact cm
  have hce : ce g (jh_nw h2 ou (100 + 2) 1) col ad R E 0 SS0 := by
    refine (c1.mvN f13 (fun _ z => z.elim)).rc (fun b hb => ?_) (fun b hb => ?_)
    · have hb1 := hcl b hb
      rw [hco]
      show (if b = ou then 10 else if b = mo ∨ b ∈ mo_T.map (fun x => ar0 x.1) then 9 else col1 b) = col1 b
      rw [if_neg (n2 (f12.1 b hb1).1), if_neg]
      rintro (z | z)
      · exact hmo (by rw [← z]; exact hb1)
      · obtain ⟨x, hx, e⟩ := List.mem_map.mp z
        exact (m3 x hx).2.1 (by rw [e]; exact (f1.1 b hb1).1)
    · rw [hco] at hb
      have hb : (if b = ou then 10 else if b = mo ∨ b ∈ mo_T.map (fun x => ar0 x.1) then 9 else col1 b) ≠ 0 := hb
      by_cases z1 : b = ou
      · rw [z1]; exact (jh_nw_A (h := h2) (q := ou) (t := 2) (n := 1)).1
      · rw [if_neg z1] at hb
        by_cases z2 : b = mo ∨ b ∈ mo_T.map (fun x => ar0 x.1)
        · rcases z2 with z | z
          · rw [z]; exact (f23.1 mo hmo2).1
          · obtain ⟨x, hx, e⟩ := List.mem_map.mp z
            rw [← e]
            exact (f23.1 _ (m1.2.1 x hx).2.1).1
        · rw [if_neg z2] at hb
          exact (f13.1 b (hcl b hb)).1
  have em := f23.2 mo hmo2 id
  have i3 : ∀ k, jh_i (jh_nw h2 ou (100 + 2) 1) mo k = ci_n k := fun k => (em.2.2.1 k).trans (m2 k)
  have I3 : ∀ x ∈ mo_T, ∀ j, jh_I (jh_nw h2 ou (100 + 2) 1) (ar x.1) j = 0 := fun x hx j => by
    rw [ea x hx]
    exact ((f23.2 _ (m1.2.1 x hx).2.1 id).2.2.2.2.2.1 j).trans ((m3 x hx).1 j)
  have hms : ms (jh_nw h2 ou (100 + 2) 1) mo ar (fun _ => 0) SS0 := by
    refine ms.mk ⟨⟨f23.O m1.1, fun x hx => ⟨?_, ?_⟩, fun x hx y hy e => m1.2.2 x hx y hy (by rw [← ea x hx, ← ea y hy]; exact e)⟩, ⟨by decide, fun i hi => absurd hi (Nat.not_lt_zero _)⟩, fun i _ => ⟨I3 (526, 0, 1000) (List.mem_of_getElem? (i := 7) rfl) i, by show 0 < 128; decide⟩, fun k _ => I3 (529, 3, 4) (List.mem_of_getElem? (i := 10) rfl) k, i3 516, ⟨i3 514, by decide, fun i hi => absurd hi (Nat.not_lt_zero _)⟩, i3 515, ⟨i3 547, by decide, fun i hi => absurd hi (Nat.not_lt_zero _)⟩, i3 518, i3 513, ⟨fun _ => 0, fun x hx => absurd hx (Nat.not_lt_zero _)⟩⟩
    · rw [ea x hx]
      exact (em.2.2.2.2.1 x.1).trans (m1.2.1 x hx).1
    · rw [ea x hx]
      exact f23.A (m1.2.1 x hx).2
  exact ⟨col, fun _ => 0, ar, hce, hms, h9, jh_nw_A, co⟩
set_option maxHeartbeats 4000000 in
set_option maxRecDepth 100000 in
theorem law_begin {N : State → Prop} {g : jg_G} (hg : (jg_l g).stackTraces = false) {d b L : Nat} {xs : Nat → Int32} (hX : jy_scr N g b L xs) (hN0 : ∀ s, N s → jw_NC s) (hL : L ≤ 1536) (hd : 200 ≤ d) {h : jh_H} {kc ks : Nat} {Q : jw_O → jh_H → Prop} (hq : ∀ h, Q (.inl (some (.inl 1))) h) (hkc : 350000 ≤ kc) (hks : 2000000 ≤ ks) : jy_J N g d m_law jw_T0 0 [some (.inr (.inr (some b))), none, none, none, none, none, none] [] h kc ks Q := by
  have e0 : (jc_q 0).2.2 = 8 := rfl
  have e8 : (jc_q 8).2.2 = 48 := rfl
  refine jy_new rfl jc_o0 n_L_8 a_0 b_0 e_0 (by omega) (by omega) (fun q1 hq1 => ?_)
  refine jy_dup rfl rfl ?_
  refine jz_callI (As := []) rfl l_E_init c_L_58 i_E_init rfl rfl rfl (cE_init (d := 180) (mc := 70) (ms := 7400) (col := fun _ => 0) hg jh_nw_O (fun k => jh_z_s _ _ _ _) (fun b hb => absurd rfl hb) (by decide) (by decide) (by decide) (fun h1 col1 ad R E ead c1 _ _ => ?_)) (by omega) (Nat.le_of_ble_eq_true rfl) (by omega) (by omega) rfl
  subst ead
  refine jz_astore_n rfl rfl (by decide) rfl ?_
  refine jy_new rfl jc_o8 n_L_59 a_8 b_8 e_8 (by omega) (by omega) (fun q2 hq2 => ?_)
  refine jy_dup rfl rfl ?_
  refine jz_callI (As := []) rfl l_M_init c_L_61 i_M_init rfl rfl rfl (cm_init hg jh_nw_O (fun k => jh_z_s _ _ _ _) (fun h2 ar0 m1 m2 m3 m4 => ?_)) (by omega) (Nat.le_of_ble_eq_true rfl) (by omega) (by omega) rfl
  refine jz_astore_n rfl rfl (by decide) rfl ?_
  refine jz_iconst (x := 1) rfl rfl ?_
  refine jy_newa (t := 2) (n := 1) rfl (by decide) rfl (Or.inr rfl) v_2 rfl (by decide) (by decide) (by omega) (by omega) (fun q3 hq3 => ?_)
  refine jz_astore_n rfl rfl (by decide) rfl ?_
  refine jz_iconst (x := 0) rfl rfl ?_
  refine jz_istore rfl rfl (by decide) rfl ?_
  obtain ⟨col, t, ar, li⟩ := LI.start c1 hq2 m1 m2 m3 m4 hq3
  exact law_loop hg hX hN0 hL hd hq 512 0 _ col R E 0 t SS0 _ _ li (Nat.le_refl _) (by decide) (by omega) (by omega) (by omega)
