/-! THE LAW'S HELPERS: each asks the engine once -/
/-- render's code behind a fault of rn -/
def rn_k (c : Nat) : Nat := if c = 2 then 2 else if c = 3 then 3 else 4
section ST3
variable (ln : List Nat) (n : Nat) (D : sd_D) (TP : Nat → Option tp_X) (er : Int32) (O : List Nat) (sn tw : Nat)
def st_ren2 (kk xx : Int32) (k : Nat) (b : Int32) (S' : SS) : Prop := (k = 1 ∧ (kk < 0 ∨ 3 < kk) ∧ S' = (ln, n, D, TP, er, O, sn, tw + 1)) ∨ ∃ q, q < 4 ∧ kk = nI q ∧ ((k = 2 ∧ (TP q = none ∨ xx < 0 ∨ nI n ≤ xx) ∧ S' = (ln, n, D, TP, er, O, sn, tw + 1)) ∨ ∃ X x, TP q = some X ∧ x < n ∧ xx = nI x ∧ ((∃ c, rn D TP 153 X 0 (fun _ => sv_of D x) 1 none 1 [] 0 = .inl c ∧ k = rn_k c ∧ S' = (ln, n, D, TP, er, O, sn, tw + 1)) ∨ (∃ O' s', rn D TP 153 X 0 (fun _ => sv_of D x) 1 none 1 [] 0 = .inr (O', s') ∧ k = 0 ∧ b = nI O'.length ∧ S' = (ln, n, D, TP, er, O', s', tw))))
end ST3
theorem mM_render2 {g : jg_G} (hg : (jg_l g).stackTraces = false) {h : jh_H} {mo n sn tw k : Nat} {col ar t : Nat → Nat} {ln O : List Nat} {D : sd_D} {TP : Nat → Option tp_X} {er kk xx b : Int32} {S' : SS} {Q : jw_O → jh_H → Prop} (hc : mc9 col mo ar) (hs : ms h mo ar t (ln, n, D, TP, er, O, sn, tw)) (st : st_ren2 ln n D TP er O sn tw kk xx k b S') (hq : ∀ b' h', (k = 0 → b' = b) → mpost h col mo ar h' S' (nI k) → Q (.inl (some (.inl b'))) h') : jw_C g 10 0 0 m_M_render [.inr (.inr (some mo)), .inl kk, .inl xx] h Q := by
  obtain ⟨s1, s2, s3, s4, s5, s6, s7, s8, s9, s10, s11⟩ := hs.out
  have hn := s2.1
  have no : ∀ q, q < 4 → ¬ (nI q < 0 ∨ 3 < nI q) := by
    rintro q hq (z | z)
    · exact absurd ((nI_ltI (b := 0) (by omega) (by decide)).mp z) (Nat.not_lt_zero _)
    · have := (nI_ltI (a := 3) (by decide) (by omega)).mp z
      omega
  refine cm_render2 hg ⟨s1, s2, rk_dp hn s11, s3, s4⟩ s5 (fun z => ?_) (fun q hq1 e1 z => ?_) (fun q X x hq1 e1 hX hx e2 => ?_)
  · rcases st with ⟨rfl, -, rfl⟩ | ⟨q, q1, rfl, -⟩
    · exact hq _ _ (fun e => absurd e (by decide)) (hs.rf hc fr.rf)
    · exact absurd z (no q q1)
  · rcases st with ⟨rfl, y, rfl⟩ | ⟨q', q1, e3, y⟩
    · subst e1; exact absurd y (no q hq1)
    · obtain rfl : q = q' := nI_inj (by omega) (by omega) (e1.symm.trans e3)
      rcases y with ⟨rfl, -, rfl⟩ | ⟨X, x, y1, y2, rfl, -⟩
      · exact hq _ _ (fun e => absurd e (by decide)) (hs.rf hc fr.rf)
      · rcases z with z | z
        · rw [z] at y1; cases y1
        · exact absurd z (ix_no y2 (by omega))
  · rcases st with ⟨rfl, y, rfl⟩ | ⟨q', q1, e3, y⟩
    · subst e1; exact absurd y (no q hq1)
    · obtain rfl : q = q' := nI_inj (by omega) (by omega) (e1.symm.trans e3)
      rcases y with ⟨rfl, y, rfl⟩ | ⟨X', x', y1, y2, y3, y⟩
      · rcases y with y | y
        · rw [y] at hX; cases hX
        · subst e2; exact absurd y (ix_no hx (by omega))
      · obtain rfl : x = x' := nI_inj (by omega) (by omega) (e2.symm.trans y3)
        cases Option.some.inj (hX.symm.trans y1)
        rcases y with ⟨c, y4, rfl, rfl⟩ | ⟨O', s', y4, rfl, rfl, rfl⟩
        · rw [y4]
          intro h1 fx hcc
          have ek : rn_k c = c := by rcases hcc with rfl | rfl | rfl <;> rfl
          rw [ek] at hq
          exact hq _ _ (fun e => by omega) ((hs.fx fx (fun k j z => by unfold go_F at z; exact ⟨by unfold mk_K; omega, by omega⟩) (fun k hk z => by unfold go_G at z; omega)).rf hc (fx.fr hc))
        · rw [y4]
          intro h1 fx r1 i518
          have rd : ∀ K j, mk_K K → K < 537 → jh_I h1 (ar K) j = jh_I h (ar K) j := fun K j hK hn => fx.2.2.2.2.2.2.2 _ _ (fun q hq => by
            unfold re_F go_F at hq
            exact ar_ne s1 hK (by unfold mk_K; omega) (by omega))
          have ei : ∀ q, q = 513 ∨ q = 514 ∨ q = 515 ∨ q = 516 → jh_i h1 mo q = jh_i h mo q := fun q hq => fx.rdi (fun z => by unfold re_G go_G at z; omega)
          have hs1 : ms h1 mo ar t (ln, n, D, TP, er, O', s', tw) := ms.mk ⟨fx.ok s1, s2.eqs (fun K j a b => rd K j (mkK (by omega)) (by omega)) (fun j => by rw [fx.2.2.2.2.1]), s3.eqs (fun j => rd 526 j (mkK (by decide)) (by decide)), fun k hk => go_T.eq (fun K j a b => rd K j (mkK (by omega)) (by omega)) (s4 k hk), (ei _ (by decide)).trans s5, s6.eqs (fun j => rd 519 j (mkK (by decide)) (by decide)) (ei _ (by decide)), (ei _ (by decide)).trans s7, r1, i518, (ei _ (by decide)).trans s10, s11⟩
          exact hq _ _ (fun _ => rfl) (hs1.fine hc (fx.fr hc))
/-- how a helper leaves the engine: k its answer, b the number that stands in the row 'out' if k is 0 -/
def lpost (g : jg_G) (h : jh_H) (col ad : Nat → Nat) (se ou k : Nat) (b : Int32) (h' : jh_H) (S' : SS) : Prop := k ≤ 4 ∧ ∃ h1, cpost g h col ad se h1 S' ∧ ((k = 0 ∧ h' = jh_sG h1 ou 0 b.toInt64) ∨ (k ≠ 0 ∧ h' = h1))
theorem cpost.A {g : jg_G} {h h' : jh_H} {col ad : Nat → Nat} {se a t m : Nat} {S' : SS} (p : cpost g h col ad se h' S') (ha : jh_A h a t m) : jh_A h' a t m := by
  obtain ⟨_, _, _, _, _, _, f, _⟩ := p
  exact f.A ha
set_option maxHeartbeats 4000000 in
set_option maxRecDepth 100000 in
theorem cL_type {g : jg_G} (hg : (jg_l g).stackTraces = false) {h : jh_H} {col ad R : Nat → Nat} {E : cd_E} {se n sn tw ou : Nat} {ln O : List Nat} {D : sd_D} {TP : Nat → Option tp_X} {er c : Int32} {Q : jw_O → jh_H → Prop} (hc : ce g h col ad R E se (ln, n, D, TP, er, O, sn, tw)) (hse : se < 1000000) (ho : jh_A h ou 2 1)
    (hq : ∀ k b S' h', st_type ln n D TP er O sn tw c k b S' → lpost g h col ad se ou k b h' S' → Q (.inl (some (.inl (nI k)))) h') : jw_CH g 180 610 3000 m_L_type (jx_type.map (fun z => z.1)) [.inr (.inr (some (ad 0))), .inl c, .inr (.inr (some ou))] h Q := by
  refine jw_introH (ls := [some (.inr (.inr (some (ad 0)))), some (.inl c), some (.inr (.inr (some ou))), none]) (by decide) k_L_type rfl (by simp [lo_fit, jv_c]) hg ?_
  refine jy_aload_n rfl rfl ?_
  refine jz_iconst (x := 0) rfl rfl ?_
  refine jy_aload_n rfl rfl ?_
  refine jy_iload_n rfl rfl ?_
  refine jz_callX (rows := jx_type) (As := [.inl c]) rfl l_E_type c_L_7 i_E_type s_E_type jc_o0 rfl hc.1.1 rfl jx_type_ok (cE_type (d := 179) (mc := 610) (ms := 3000) hg hc (by decide) (by decide) (by decide) (fun z h1 p1 => ?_) (fun x x1 x2 x3 h1 p1 => ?_) (fun x x1 x2 x3 h1 p1 => ?_)) (by decide) (Nat.le_of_ble_eq_true rfl) (by decide) (by decide)
  · refine ⟨[], _, [((0, 9, 15, 15), "java/lang/IllegalStateException")], rfl, by decide +kernel, fun r => ?_⟩
    refine js_astore_n rfl rfl (by decide) rfl ?_
    refine js_iconst (x := 1) rfl rfl ?_
    refine jw_ireturn rfl rfl rfl ?_
    exact hq 1 0 _ _ (Or.inl ⟨rfl, z, rfl⟩) ⟨by decide, h1, p1, Or.inr ⟨by decide, rfl⟩⟩
  · refine ⟨[((0, 9, 12, 13), "java/lang/IllegalArgumentException")], _, [], rfl, by decide +kernel, fun r => ?_⟩
    refine js_astore_n rfl rfl (by decide) rfl ?_
    refine js_iconst (x := 2) rfl rfl ?_
    refine jw_ireturn rfl rfl rfl ?_
    exact hq 2 0 _ _ (Or.inr (Or.inl ⟨rfl, ⟨x, x1, x2⟩, x3, rfl⟩)) ⟨by decide, h1, p1, Or.inr ⟨by decide, rfl⟩⟩
  · have A1 := p1.A ho
    refine jw_i2l rfl ?_
    refine js_last 0 rfl A1 (by decide) rfl rfl (by decide) (by decide) ?_
    refine jw_goto 18 rfl rfl ?_
    refine js_iconst (x := 0) rfl rfl ?_
    refine jw_ireturn rfl rfl rfl ?_
    exact hq 0 _ _ _ (Or.inr (Or.inr ⟨rfl, x, x1, x2, x3, rfl, rfl⟩)) ⟨by decide, h1, p1, Or.inl ⟨rfl, rfl⟩⟩
set_option maxHeartbeats 4000000 in
set_option maxRecDepth 100000 in
theorem cL_number {g : jg_G} (hg : (jg_l g).stackTraces = false) {h : jh_H} {col ad R : Nat → Nat} {E : cd_E} {se n sn tw ou : Nat} {ln O : List Nat} {D : sd_D} {TP : Nat → Option tp_X} {er v : Int32} {Q : jw_O → jh_H → Prop} (hc : ce g h col ad R E se (ln, n, D, TP, er, O, sn, tw)) (hse : se < 1000000) (ho : jh_A h ou 2 1)
    (hq : ∀ k b S' h', st_new ln n D TP er O sn tw ln 0 v (fun _ => 0) k b S' → lpost g h col ad se ou k b h' S' → Q (.inl (some (.inl (nI k)))) h') : jw_CH g 180 610 3000 m_L_number (jx_number.map (fun z => z.1)) [.inr (.inr (some (ad 0))), .inl v, .inr (.inr (some ou))] h Q := by
  refine jw_introH (ls := [some (.inr (.inr (some (ad 0)))), some (.inl v), some (.inr (.inr (some ou))), none]) (by decide) k_L_number rfl (by simp [lo_fit, jv_c]) hg ?_
  refine jy_aload_n rfl rfl ?_
  refine jz_iconst (x := 0) rfl rfl ?_
  refine jy_aload_n rfl rfl ?_
  refine jy_iload_n rfl rfl ?_
  refine jz_callX (rows := jx_number) (As := [.inl v]) rfl l_E_number c_L_17 i_E_number s_E_number jc_o0 rfl hc.1.1 rfl jx_number_ok (cE_number (d := 179) (mc := 610) (ms := 3000) hg hc (by decide) (by decide) (by decide) (fun z h1 p1 => ?_) (fun z h1 p1 => ?_)) (by decide) (Nat.le_of_ble_eq_true rfl) (by decide) (by decide)
  · refine ⟨[], _, [], rfl, by decide +kernel, fun r => ?_⟩
    refine js_astore_n rfl rfl (by decide) rfl ?_
    refine js_iconst (x := 1) rfl rfl ?_
    refine jw_ireturn rfl rfl rfl ?_
    exact hq 1 0 _ _ (Or.inl ⟨rfl, z, rfl⟩) ⟨by decide, h1, p1, Or.inr ⟨by decide, rfl⟩⟩
  · have A1 := p1.A ho
    refine jw_i2l rfl ?_
    refine js_last 0 rfl A1 (by decide) rfl rfl (by decide) (by decide) ?_
    refine jw_goto 15 rfl rfl ?_
    refine js_iconst (x := 0) rfl rfl ?_
    refine jw_ireturn rfl rfl rfl ?_
    exact hq 0 _ _ _ (Or.inr ⟨rfl, z, rfl, rfl⟩) ⟨by decide, h1, p1, Or.inl ⟨rfl, rfl⟩⟩
set_option maxHeartbeats 4000000 in
set_option maxRecDepth 100000 in
theorem cL_text {g : jg_G} (hg : (jg_l g).stackTraces = false) {h : jh_H} {col ad R : Nat → Nat} {E : cd_E} {se n sn tw ou : Nat} {ln O : List Nat} {D : sd_D} {TP : Nat → Option tp_X} {er : Int32} {Q : jw_O → jh_H → Prop} (hc : ce g h col ad R E se (ln, n, D, TP, er, O, sn, tw)) (hse : se < 1000000) (ho : jh_A h ou 2 1)
    (hq : ∀ k b S' h', st_new ln n D TP er O sn tw [] 1 (nI ln.length) (fun j => ln.getD j 0) k b S' → lpost g h col ad se ou k b h' S' → Q (.inl (some (.inl (nI k)))) h') : jw_CH g 180 610 3000 m_L_text (jx_text.map (fun z => z.1)) [.inr (.inr (some (ad 0))), .inr (.inr (some ou))] h Q := by
  refine jw_introH (ls := [some (.inr (.inr (some (ad 0)))), some (.inr (.inr (some ou))), none]) (by decide) k_L_text rfl (by simp [lo_fit, jv_c]) hg ?_
  refine jy_aload_n rfl rfl ?_
  refine jz_iconst (x := 0) rfl rfl ?_
  refine jy_aload_n rfl rfl ?_
  refine jz_callX (rows := jx_text) (As := []) rfl l_E_text c_L_20 i_E_text s_E_text jc_o0 rfl hc.1.1 rfl jx_text_ok (cE_text (d := 179) (mc := 610) (ms := 3000) hg hc (by decide) (by decide) (by decide) (fun z h1 p1 => ?_) (fun z h1 p1 => ?_)) (by decide) (Nat.le_of_ble_eq_true rfl) (by decide) (by decide)
  · refine ⟨[], _, [], rfl, by decide +kernel, fun r => ?_⟩
    refine js_astore_n rfl rfl (by decide) rfl ?_
    refine js_iconst (x := 1) rfl rfl ?_
    refine jw_ireturn rfl rfl rfl ?_
    exact hq 1 0 _ _ (Or.inl ⟨rfl, z, rfl⟩) ⟨by decide, h1, p1, Or.inr ⟨by decide, rfl⟩⟩
  · have A1 := p1.A ho
    refine jw_i2l rfl ?_
    refine js_last 0 rfl A1 (by decide) rfl rfl (by decide) (by decide) ?_
    refine jw_goto 14 rfl rfl ?_
    refine js_iconst (x := 0) rfl rfl ?_
    refine jw_ireturn rfl rfl rfl ?_
    exact hq 0 _ _ _ (Or.inr ⟨rfl, z, rfl, rfl⟩) ⟨by decide, h1, p1, Or.inl ⟨rfl, rfl⟩⟩
set_option maxHeartbeats 4000000 in
set_option maxRecDepth 100000 in
theorem cL_list {g : jg_G} (hg : (jg_l g).stackTraces = false) {h : jh_H} {col ad R : Nat → Nat} {E : cd_E} {se n sn tw ou : Nat} {ln O : List Nat} {D : sd_D} {TP : Nat → Option tp_X} {er : Int32} {Q : jw_O → jh_H → Prop} (hc : ce g h col ad R E se (ln, n, D, TP, er, O, sn, tw)) (hse : se < 1000000) (ho : jh_A h ou 2 1)
    (hq : ∀ k b S' h', st_new ln n D TP er O sn tw ln 2 0 (fun _ => 0) k b S' → lpost g h col ad se ou k b h' S' → Q (.inl (some (.inl (nI k)))) h') : jw_CH g 180 610 3000 m_L_list (jx_list.map (fun z => z.1)) [.inr (.inr (some (ad 0))), .inr (.inr (some ou))] h Q := by
  refine jw_introH (ls := [some (.inr (.inr (some (ad 0)))), some (.inr (.inr (some ou))), none]) (by decide) k_L_list rfl (by simp [lo_fit, jv_c]) hg ?_
  refine jy_aload_n rfl rfl ?_
  refine jz_iconst (x := 0) rfl rfl ?_
  refine jy_aload_n rfl rfl ?_
  refine jz_callX (rows := jx_list) (As := []) rfl l_E_list c_L_24 i_E_list s_E_list jc_o0 rfl hc.1.1 rfl jx_list_ok (cE_list (d := 179) (mc := 610) (ms := 3000) hg hc (by decide) (by decide) (by decide) (fun z h1 p1 => ?_) (fun z h1 p1 => ?_)) (by decide) (Nat.le_of_ble_eq_true rfl) (by decide) (by decide)
  · refine ⟨[], _, [], rfl, by decide +kernel, fun r => ?_⟩
    refine js_astore_n rfl rfl (by decide) rfl ?_
    refine js_iconst (x := 1) rfl rfl ?_
    refine jw_ireturn rfl rfl rfl ?_
    exact hq 1 0 _ _ (Or.inl ⟨rfl, z, rfl⟩) ⟨by decide, h1, p1, Or.inr ⟨by decide, rfl⟩⟩
  · have A1 := p1.A ho
    refine jw_i2l rfl ?_
    refine js_last 0 rfl A1 (by decide) rfl rfl (by decide) (by decide) ?_
    refine jw_goto 14 rfl rfl ?_
    refine js_iconst (x := 0) rfl rfl ?_
    refine jw_ireturn rfl rfl rfl ?_
    exact hq 0 _ _ _ (Or.inr ⟨rfl, z, rfl, rfl⟩) ⟨by decide, h1, p1, Or.inl ⟨rfl, rfl⟩⟩
set_option maxHeartbeats 4000000 in
set_option maxRecDepth 100000 in
theorem cL_map {g : jg_G} (hg : (jg_l g).stackTraces = false) {h : jh_H} {col ad R : Nat → Nat} {E : cd_E} {se n sn tw ou : Nat} {ln O : List Nat} {D : sd_D} {TP : Nat → Option tp_X} {er : Int32} {Q : jw_O → jh_H → Prop} (hc : ce g h col ad R E se (ln, n, D, TP, er, O, sn, tw)) (hse : se < 1000000) (ho : jh_A h ou 2 1)
    (hq : ∀ k b S' h', st_new ln n D TP er O sn tw ln 3 0 (fun _ => 0) k b S' → lpost g h col ad se ou k b h' S' → Q (.inl (some (.inl (nI k)))) h') : jw_CH g 180 610 3000 m_L_map (jx_map.map (fun z => z.1)) [.inr (.inr (some (ad 0))), .inr (.inr (some ou))] h Q := by
  refine jw_introH (ls := [some (.inr (.inr (some (ad 0)))), some (.inr (.inr (some ou))), none]) (by decide) k_L_map rfl (by simp [lo_fit, jv_c]) hg ?_
  refine jy_aload_n rfl rfl ?_
  refine jz_iconst (x := 0) rfl rfl ?_
  refine jy_aload_n rfl rfl ?_
  refine jz_callX (rows := jx_map) (As := []) rfl l_E_map c_L_27 i_E_map s_E_map jc_o0 rfl hc.1.1 rfl jx_map_ok (cE_map (d := 179) (mc := 610) (ms := 3000) hg hc (by decide) (by decide) (by decide) (fun z h1 p1 => ?_) (fun z h1 p1 => ?_)) (by decide) (Nat.le_of_ble_eq_true rfl) (by decide) (by decide)
  · refine ⟨[], _, [], rfl, by decide +kernel, fun r => ?_⟩
    refine js_astore_n rfl rfl (by decide) rfl ?_
    refine js_iconst (x := 1) rfl rfl ?_
    refine jw_ireturn rfl rfl rfl ?_
    exact hq 1 0 _ _ (Or.inl ⟨rfl, z, rfl⟩) ⟨by decide, h1, p1, Or.inr ⟨by decide, rfl⟩⟩
  · have A1 := p1.A ho
    refine jw_i2l rfl ?_
    refine js_last 0 rfl A1 (by decide) rfl rfl (by decide) (by decide) ?_
    refine jw_goto 14 rfl rfl ?_
    refine js_iconst (x := 0) rfl rfl ?_
    refine jw_ireturn rfl rfl rfl ?_
    exact hq 0 _ _ _ (Or.inr ⟨rfl, z, rfl, rfl⟩) ⟨by decide, h1, p1, Or.inl ⟨rfl, rfl⟩⟩
set_option maxHeartbeats 4000000 in
set_option maxRecDepth 100000 in
theorem cL_add {g : jg_G} (hg : (jg_l g).stackTraces = false) {h : jh_H} {col ad R : Nat → Nat} {E : cd_E} {se n sn tw ou : Nat} {ln O : List Nat} {D : sd_D} {TP : Nat → Option tp_X} {er ll xx : Int32} {Q : jw_O → jh_H → Prop} (hc : ce g h col ad R E se (ln, n, D, TP, er, O, sn, tw)) (hse : se < 1000000) (ho : jh_A h ou 2 1)
    (hq : ∀ k b S' h', st_add ln n D TP er O sn tw ll xx k b S' → lpost g h col ad se ou k b h' S' → Q (.inl (some (.inl (nI k)))) h') : jw_CH g 180 610 3000 m_L_add (jx_add.map (fun z => z.1)) [.inr (.inr (some (ad 0))), .inl ll, .inl xx, .inr (.inr (some ou))] h Q := by
  refine jw_introH (ls := [some (.inr (.inr (some (ad 0)))), some (.inl ll), some (.inl xx), some (.inr (.inr (some ou))), none]) (by decide) k_L_add rfl (by simp [lo_fit, jv_c]) hg ?_
  refine jy_aload_n rfl rfl ?_
  refine jz_iconst (x := 0) rfl rfl ?_
  refine jy_aload_n rfl rfl ?_
  refine jy_iload_n rfl rfl ?_
  refine jy_iload_n rfl rfl ?_
  refine jz_callX (rows := jx_add) (As := [.inl ll, .inl xx]) rfl l_E_add c_L_30 i_E_add s_E_add jc_o0 rfl hc.1.1 rfl jx_add_ok (cE_add (d := 179) (mc := 610) (ms := 3000) hg hc hse (by decide) (by decide) (by decide) (fun z h1 p1 => ?_) (fun l x l1 l2 l3 l4 z h1 p1 => ?_) (fun l x l1 l2 l3 l4 z1 z2 z3 h1 p1 => ?_) (fun l x l1 l2 l3 l4 z1 z2 z3 h1 p1 => ?_)) (by decide) (Nat.le_of_ble_eq_true rfl) (by decide) (by decide)
  · refine ⟨[], _, [((0, 10, 17, 13), "java/lang/IllegalArgumentException"), ((0, 10, 21, 15), "java/lang/IllegalStateException")], rfl, by decide +kernel, fun r => ?_⟩
    refine js_astore rfl rfl (by decide) rfl ?_
    refine js_iconst (x := 1) rfl rfl ?_
    refine jw_ireturn rfl rfl rfl ?_
    exact hq 1 0 _ _ (Or.inl ⟨rfl, z, rfl⟩) ⟨by decide, h1, p1, Or.inr ⟨by decide, rfl⟩⟩
  · refine ⟨[((0, 10, 13, 34), "java/util/NoSuchElementException")], _, [((0, 10, 21, 15), "java/lang/IllegalStateException")], rfl, by decide +kernel, fun r => ?_⟩
    refine js_astore rfl rfl (by decide) rfl ?_
    refine js_iconst (x := 2) rfl rfl ?_
    refine jw_ireturn rfl rfl rfl ?_
    exact hq 2 0 _ _ (Or.inr ⟨l, x, l1, l2, l3, l4, Or.inl ⟨rfl, z, rfl⟩⟩) ⟨by decide, h1, p1, Or.inr ⟨by decide, rfl⟩⟩
  · refine ⟨[((0, 10, 13, 34), "java/util/NoSuchElementException"), ((0, 10, 17, 13), "java/lang/IllegalArgumentException")], _, [], rfl, by decide +kernel, fun r => ?_⟩
    refine js_astore rfl rfl (by decide) rfl ?_
    refine js_iconst (x := 3) rfl rfl ?_
    refine jw_ireturn rfl rfl rfl ?_
    exact hq 3 0 _ _ (Or.inr ⟨l, x, l1, l2, l3, l4, Or.inr (Or.inl ⟨rfl, ⟨z1, z2⟩, z3, rfl⟩)⟩) ⟨by decide, h1, p1, Or.inr ⟨by decide, rfl⟩⟩
  · have A1 := p1.A ho
    refine jw_i2l rfl ?_
    refine js_last 0 rfl A1 (by decide) rfl rfl (by decide) (by decide) ?_
    refine jw_goto 25 rfl rfl ?_
    refine js_iconst (x := 0) rfl rfl ?_
    refine jw_ireturn rfl rfl rfl ?_
    exact hq 0 _ _ _ (Or.inr ⟨l, x, l1, l2, l3, l4, Or.inr (Or.inr ⟨rfl, ⟨z1, z2⟩, z3, rfl, rfl⟩)⟩) ⟨by decide, h1, p1, Or.inl ⟨rfl, rfl⟩⟩
set_option maxHeartbeats 4000000 in
set_option maxRecDepth 100000 in
theorem cL_put {g : jg_G} (hg : (jg_l g).stackTraces = false) {h : jh_H} {col ad R : Nat → Nat} {E : cd_E} {se n sn tw ou : Nat} {ln O : List Nat} {D : sd_D} {TP : Nat → Option tp_X} {er ll xx : Int32} {Q : jw_O → jh_H → Prop} (hc : ce g h col ad R E se (ln, n, D, TP, er, O, sn, tw)) (hse : se < 1000000) (ho : jh_A h ou 2 1)
    (hq : ∀ k b S' h', st_put ln n D TP er O sn tw ll xx k b S' → lpost g h col ad se ou k b h' S' → Q (.inl (some (.inl (nI k)))) h') : jw_CH g 180 610 3000 m_L_put (jx_put.map (fun z => z.1)) [.inr (.inr (some (ad 0))), .inl ll, .inl xx, .inr (.inr (some ou))] h Q := by
  refine jw_introH (ls := [some (.inr (.inr (some (ad 0)))), some (.inl ll), some (.inl xx), some (.inr (.inr (some ou))), none]) (by decide) k_L_put rfl (by simp [lo_fit, jv_c]) hg ?_
  refine jy_aload_n rfl rfl ?_
  refine jz_iconst (x := 0) rfl rfl ?_
  refine jy_aload_n rfl rfl ?_
  refine jy_iload_n rfl rfl ?_
  refine jy_iload_n rfl rfl ?_
  refine jz_callX (rows := jx_put) (As := [.inl ll, .inl xx]) rfl l_E_put c_L_36 i_E_put s_E_put jc_o0 rfl hc.1.1 rfl jx_put_ok (cE_put (d := 179) (mc := 610) (ms := 3000) hg hc hse (by decide) (by decide) (by decide) (fun z h1 p1 => ?_) (fun l x l1 l2 l3 l4 z h1 p1 => ?_) (fun l x l1 l2 l3 l4 z1 z2 z3 z4 z5 h1 p1 => ?_) (fun l x l1 l2 l3 l4 z1 z2 z3 z4 z5 h1 p1 => ?_) (fun l x i l1 l2 l3 l4 z1 z2 z3 z4 z5 z6 h1 p1 => ?_)) (by decide) (Nat.le_of_ble_eq_true rfl) (by decide) (by decide)
  · refine ⟨[], _, [((0, 10, 17, 13), "java/lang/IllegalArgumentException"), ((0, 10, 21, 15), "java/lang/IllegalStateException")], rfl, by decide +kernel, fun r => ?_⟩
    refine js_astore rfl rfl (by decide) rfl ?_
    refine js_iconst (x := 1) rfl rfl ?_
    refine jw_ireturn rfl rfl rfl ?_
    exact hq 1 0 _ _ (Or.inl ⟨rfl, z, rfl⟩) ⟨by decide, h1, p1, Or.inr ⟨by decide, rfl⟩⟩
  · refine ⟨[((0, 10, 13, 34), "java/util/NoSuchElementException")], _, [((0, 10, 21, 15), "java/lang/IllegalStateException")], rfl, by decide +kernel, fun r => ?_⟩
    refine js_astore rfl rfl (by decide) rfl ?_
    refine js_iconst (x := 2) rfl rfl ?_
    refine jw_ireturn rfl rfl rfl ?_
    exact hq 2 0 _ _ (Or.inr ⟨l, x, l1, l2, l3, l4, Or.inl ⟨rfl, z, rfl⟩⟩) ⟨by decide, h1, p1, Or.inr ⟨by decide, rfl⟩⟩
  · refine ⟨[((0, 10, 13, 34), "java/util/NoSuchElementException"), ((0, 10, 17, 13), "java/lang/IllegalArgumentException")], _, [], rfl, by decide +kernel, fun r => ?_⟩
    refine js_astore rfl rfl (by decide) rfl ?_
    refine js_iconst (x := 3) rfl rfl ?_
    refine jw_ireturn rfl rfl rfl ?_
    exact hq 3 0 _ _ (Or.inr ⟨l, x, l1, l2, l3, l4, Or.inr ⟨⟨z1, z2, z3⟩, Or.inl ⟨rfl, z4, z5, rfl⟩⟩⟩) ⟨by decide, h1, p1, Or.inr ⟨by decide, rfl⟩⟩
  · have A1 := p1.A ho
    refine jw_i2l rfl ?_
    refine js_last 0 rfl A1 (by decide) rfl rfl (by decide) (by decide) ?_
    refine jw_goto 25 rfl rfl ?_
    refine js_iconst (x := 0) rfl rfl ?_
    refine jw_ireturn rfl rfl rfl ?_
    exact hq 0 _ _ _ (Or.inr ⟨l, x, l1, l2, l3, l4, Or.inr ⟨⟨z1, z2, z3⟩, Or.inr (Or.inl ⟨rfl, z4, z5, rfl, rfl⟩)⟩⟩) ⟨by decide, h1, p1, Or.inl ⟨rfl, rfl⟩⟩
  · have A1 := p1.A ho
    refine jw_i2l rfl ?_
    refine js_last 0 rfl A1 (by decide) rfl rfl (by decide) (by decide) ?_
    refine jw_goto 25 rfl rfl ?_
    refine js_iconst (x := 0) rfl rfl ?_
    refine jw_ireturn rfl rfl rfl ?_
    exact hq 0 _ _ _ (Or.inr ⟨l, x, l1, l2, l3, l4, Or.inr ⟨⟨z1, z2, z3⟩, Or.inr (Or.inr ⟨rfl, i, z4, z5, z6, rfl, rfl⟩)⟩⟩) ⟨by decide, h1, p1, Or.inl ⟨rfl, rfl⟩⟩
set_option maxHeartbeats 4000000 in
set_option maxRecDepth 100000 in
theorem cL_compile {g : jg_G} (hg : (jg_l g).stackTraces = false) {h : jh_H} {col ad R : Nat → Nat} {E : cd_E} {se n sn tw ou : Nat} {ln O : List Nat} {D : sd_D} {TP : Nat → Option tp_X} {er kk : Int32} {Q : jw_O → jh_H → Prop} (hc : ce g h col ad R E se (ln, n, D, TP, er, O, sn, tw)) (hse : se < 1000000) (ho : jh_A h ou 2 1)
    (hq : ∀ k b S' h', st_com ln n D TP er O sn tw kk k b S' → lpost g h col ad se ou k b h' S' → Q (.inl (some (.inl (nI k)))) h') : jw_CH g 180 610 3000 m_L_compile (jx_compile.map (fun z => z.1)) [.inr (.inr (some (ad 0))), .inl kk, .inr (.inr (some ou))] h Q := by
  refine jw_introH (ls := [some (.inr (.inr (some (ad 0)))), some (.inl kk), some (.inr (.inr (some ou))), none]) (by decide) k_L_compile rfl (by simp [lo_fit, jv_c]) hg ?_
  refine jy_aload_n rfl rfl ?_
  refine jz_iconst (x := 0) rfl rfl ?_
  refine jy_aload_n rfl rfl ?_
  refine jy_iload_n rfl rfl ?_
  refine jz_callX (rows := jx_compile) (As := [.inl kk]) rfl l_E_compile c_L_39 i_E_compile s_E_compile jc_o0 rfl hc.1.1 rfl jx_compile_ok (cE_compile (d := 179) (mc := 610) (ms := 3000) hg hc (by decide) (by decide) (by decide) (fun z h1 p1 => ?_) (fun q x q1 q2 z h1 p1 => ?_) (fun q m T ot la q1 q2 z h1 p1 => ?_)) (by decide) (Nat.le_of_ble_eq_true rfl) (by decide) (by decide)
  · refine ⟨[], _, [((0, 9, 15, 13), "java/lang/IllegalArgumentException")], rfl, by decide +kernel, fun r => ?_⟩
    refine js_astore_n rfl rfl (by decide) rfl ?_
    refine js_iconst (x := 1) rfl rfl ?_
    refine jw_ireturn rfl rfl rfl ?_
    exact hq 1 0 _ _ (Or.inl ⟨rfl, z, rfl⟩) ⟨by decide, h1, p1, Or.inr ⟨by decide, rfl⟩⟩
  · refine ⟨[((0, 9, 12, 42), "java/lang/IndexOutOfBoundsException")], _, [], rfl, by decide +kernel, fun r => ?_⟩
    refine js_astore_n rfl rfl (by decide) rfl ?_
    refine js_iconst (x := 2) rfl rfl ?_
    refine jw_ireturn rfl rfl rfl ?_
    exact hq 2 0 _ _ (Or.inr ⟨q, q1, q2, Or.inl ⟨x, z, rfl, rfl⟩⟩) ⟨by decide, h1, p1, Or.inr ⟨by decide, rfl⟩⟩
  · have A1 := p1.A ho
    refine jw_i2l rfl ?_
    refine js_last 0 rfl A1 (by decide) rfl rfl (by decide) (by decide) ?_
    refine jw_goto 18 rfl rfl ?_
    refine js_iconst (x := 0) rfl rfl ?_
    refine jw_ireturn rfl rfl rfl ?_
    exact hq 0 _ _ _ (Or.inr ⟨q, q1, q2, Or.inr ⟨m, T, ot, la, z, rfl, rfl, rfl⟩⟩) ⟨by decide, h1, p1, Or.inl ⟨rfl, rfl⟩⟩
set_option maxHeartbeats 4000000 in
set_option maxRecDepth 100000 in
theorem cL_render {g : jg_G} (hg : (jg_l g).stackTraces = false) {h : jh_H} {col ad R : Nat → Nat} {E : cd_E} {se n sn tw ou : Nat} {ln O : List Nat} {D : sd_D} {TP : Nat → Option tp_X} {er kk xx : Int32} {Q : jw_O → jh_H → Prop} (hc : ce g h col ad R E se (ln, n, D, TP, er, O, sn, tw)) (hse : se < 1000000) (ho : jh_A h ou 2 1)
    (hq : ∀ k b S' h', st_ren2 ln n D TP er O sn tw kk xx k b S' → lpost g h col ad se ou k b h' S' → Q (.inl (some (.inl (nI k)))) h') : jw_CH g 180 610 3000 m_L_render (jx_render.map (fun z => z.1)) [.inr (.inr (some (ad 0))), .inl kk, .inl xx, .inr (.inr (some ou))] h Q := by
  refine jw_introH (ls := [some (.inr (.inr (some (ad 0)))), some (.inl kk), some (.inl xx), some (.inr (.inr (some ou))), none]) (by decide) k_L_render rfl (by simp [lo_fit, jv_c]) hg ?_
  refine jy_aload_n rfl rfl ?_
  refine jz_iconst (x := 0) rfl rfl ?_
  refine jy_aload_n rfl rfl ?_
  refine jy_iload_n rfl rfl ?_
  refine jy_iload_n rfl rfl ?_
  refine jz_callX (rows := jx_render) (As := [.inl kk, .inl xx]) rfl l_E_render c_L_44 i_E_render s_E_render jc_o0 rfl hc.1.1 rfl jx_render_ok (cE_render (d := 179) (mc := 610) (ms := 3000) hg hc (by decide) (by decide) (by decide) (fun z h1 p1 => ?_) (fun q q1 q2 z h1 p1 => ?_) (fun q X x c q1 q2 q3 q4 q5 z h1 p1 => ?_) (fun q X x O9 s9 q1 q2 q3 q4 q5 z h1 p1 => ?_)) (by decide) (Nat.le_of_ble_eq_true rfl) (by decide) (by decide)
  · refine ⟨[], _, [((0, 10, 17, 34), "java/util/NoSuchElementException"), ((0, 10, 21, 47), "java/lang/ArithmeticException"), ((0, 10, 25, 15), "java/lang/IllegalStateException")], rfl, by decide +kernel, fun r => ?_⟩
    refine js_astore rfl rfl (by decide) rfl ?_
    refine js_iconst (x := 1) rfl rfl ?_
    refine jw_ireturn rfl rfl rfl ?_
    exact hq 1 0 _ _ (Or.inl ⟨rfl, z, rfl⟩) ⟨by decide, h1, p1, Or.inr ⟨by decide, rfl⟩⟩
  · refine ⟨[((0, 10, 13, 42), "java/lang/IndexOutOfBoundsException")], _, [((0, 10, 21, 47), "java/lang/ArithmeticException"), ((0, 10, 25, 15), "java/lang/IllegalStateException")], rfl, by decide +kernel, fun r => ?_⟩
    refine js_astore rfl rfl (by decide) rfl ?_
    refine js_iconst (x := 2) rfl rfl ?_
    refine jw_ireturn rfl rfl rfl ?_
    exact hq 2 0 _ _ (Or.inr ⟨q, q1, q2, Or.inl ⟨rfl, z, rfl⟩⟩) ⟨by decide, h1, p1, Or.inr ⟨by decide, rfl⟩⟩
  · by_cases c2 : c = 2
    · rw [show rn_E c = "java/util/NoSuchElementException" by rw [c2]; rfl]
      refine ⟨[((0, 10, 13, 42), "java/lang/IndexOutOfBoundsException")], _, [((0, 10, 21, 47), "java/lang/ArithmeticException"), ((0, 10, 25, 15), "java/lang/IllegalStateException")], rfl, by decide +kernel, fun r => ?_⟩
      refine js_astore rfl rfl (by decide) rfl ?_
      refine js_iconst (x := 2) rfl rfl ?_
      refine jw_ireturn rfl rfl rfl ?_
      exact hq 2 0 _ _ (Or.inr ⟨q, q1, q2, Or.inr ⟨X, x, q3, q4, q5, Or.inl ⟨c, z, by rw [c2]; rfl, rfl⟩⟩⟩) ⟨by decide, h1, p1, Or.inr ⟨by decide, rfl⟩⟩
    · by_cases c3 : c = 3
      · rw [show rn_E c = "java/lang/ArithmeticException" by rw [c3]; rfl]
        refine ⟨[((0, 10, 13, 42), "java/lang/IndexOutOfBoundsException"), ((0, 10, 17, 34), "java/util/NoSuchElementException")], _, [((0, 10, 25, 15), "java/lang/IllegalStateException")], rfl, by decide +kernel, fun r => ?_⟩
        refine js_astore rfl rfl (by decide) rfl ?_
        refine js_iconst (x := 3) rfl rfl ?_
        refine jw_ireturn rfl rfl rfl ?_
        exact hq 3 0 _ _ (Or.inr ⟨q, q1, q2, Or.inr ⟨X, x, q3, q4, q5, Or.inl ⟨c, z, by rw [c3]; rfl, rfl⟩⟩⟩) ⟨by decide, h1, p1, Or.inr ⟨by decide, rfl⟩⟩
      · rw [show rn_E c = "java/lang/IllegalStateException" by unfold rn_E; rw [if_neg c2, if_neg c3]]
        refine ⟨[((0, 10, 13, 42), "java/lang/IndexOutOfBoundsException"), ((0, 10, 17, 34), "java/util/NoSuchElementException"), ((0, 10, 21, 47), "java/lang/ArithmeticException")], _, [], rfl, by decide +kernel, fun r => ?_⟩
        refine js_astore rfl rfl (by decide) rfl ?_
        refine js_iconst (x := 4) rfl rfl ?_
        refine jw_ireturn rfl rfl rfl ?_
        exact hq 4 0 _ _ (Or.inr ⟨q, q1, q2, Or.inr ⟨X, x, q3, q4, q5, Or.inl ⟨c, z, by unfold rn_k; rw [if_neg c2, if_neg c3], rfl⟩⟩⟩) ⟨by decide, h1, p1, Or.inr ⟨by decide, rfl⟩⟩
  · have A1 := p1.A ho
    refine jw_i2l rfl ?_
    refine js_last 0 rfl A1 (by decide) rfl rfl (by decide) (by decide) ?_
    refine jw_goto 29 rfl rfl ?_
    refine js_iconst (x := 0) rfl rfl ?_
    refine jw_ireturn rfl rfl rfl ?_
    exact hq 0 _ _ _ (Or.inr ⟨q, q1, q2, Or.inr ⟨X, x, q3, q4, q5, Or.inr ⟨O9, s9, z, rfl, rfl, rfl⟩⟩⟩) ⟨by decide, h1, p1, Or.inl ⟨rfl, rfl⟩⟩
set_option maxHeartbeats 4000000 in
set_option maxRecDepth 100000 in
theorem cL_at {g : jg_G} (hg : (jg_l g).stackTraces = false) {h : jh_H} {col ad R : Nat → Nat} {E : cd_E} {se n sn tw ou : Nat} {ln O : List Nat} {D : sd_D} {TP : Nat → Option tp_X} {er x : Int32} {Q : jw_O → jh_H → Prop} (hc : ce g h col ad R E se (ln, n, D, TP, er, O, sn, tw)) (hse : se < 1000000) (ho : jh_A h ou 2 1)
    (hq : ∀ k b S' h', st_ask ln n D TP er O sn tw O.length (fun i => nI (O.getD i 0)) x k b S' → lpost g h col ad se ou k b h' S' → Q (.inl (some (.inl (nI k)))) h') : jw_CH g 180 610 3000 m_L_at (jx_at.map (fun z => z.1)) [.inr (.inr (some (ad 0))), .inl x, .inr (.inr (some ou))] h Q := by
  refine jw_introH (ls := [some (.inr (.inr (some (ad 0)))), some (.inl x), some (.inr (.inr (some ou))), none]) (by decide) k_L_at rfl (by simp [lo_fit, jv_c]) hg ?_
  refine jy_aload_n rfl rfl ?_
  refine jz_iconst (x := 0) rfl rfl ?_
  refine jy_aload_n rfl rfl ?_
  refine jy_iload_n rfl rfl ?_
  refine jz_callX (rows := jx_at) (As := [.inl x]) rfl l_E_at c_L_49 i_E_at s_E_at jc_o0 rfl hc.1.1 rfl jx_at_ok (cE_at (d := 179) (mc := 610) (ms := 3000) hg hc (by decide) (by decide) (by decide) (fun z h1 p1 => ?_) (fun i i1 i2 h1 p1 => ?_)) (by decide) (Nat.le_of_ble_eq_true rfl) (by decide) (by decide)
  · refine ⟨[], _, [], rfl, by decide +kernel, fun r => ?_⟩
    refine js_astore_n rfl rfl (by decide) rfl ?_
    refine js_iconst (x := 1) rfl rfl ?_
    refine jw_ireturn rfl rfl rfl ?_
    exact hq 1 0 _ _ (Or.inl ⟨rfl, z, rfl⟩) ⟨by decide, h1, p1, Or.inr ⟨by decide, rfl⟩⟩
  · have A1 := p1.A ho
    refine jw_i2l rfl ?_
    refine js_last 0 rfl A1 (by decide) rfl rfl (by decide) (by decide) ?_
    refine jw_goto 15 rfl rfl ?_
    refine js_iconst (x := 0) rfl rfl ?_
    refine jw_ireturn rfl rfl rfl ?_
    exact hq 0 _ _ _ (Or.inr ⟨rfl, i, i1, i2, rfl, rfl⟩) ⟨by decide, h1, p1, Or.inl ⟨rfl, rfl⟩⟩
set_option maxHeartbeats 4000000 in
set_option maxRecDepth 100000 in
theorem cL_kind {g : jg_G} (hg : (jg_l g).stackTraces = false) {h : jh_H} {col ad R : Nat → Nat} {E : cd_E} {se n sn tw ou : Nat} {ln O : List Nat} {D : sd_D} {TP : Nat → Option tp_X} {er x : Int32} {Q : jw_O → jh_H → Prop} (hc : ce g h col ad R E se (ln, n, D, TP, er, O, sn, tw)) (hse : se < 1000000) (ho : jh_A h ou 2 1)
    (hq : ∀ k b S' h', st_ask ln n D TP er O sn tw n (fun i => nI (sd_k D i)) x k b S' → lpost g h col ad se ou k b h' S' → Q (.inl (some (.inl (nI k)))) h') : jw_CH g 180 610 3000 m_L_kind (jx_kind.map (fun z => z.1)) [.inr (.inr (some (ad 0))), .inl x, .inr (.inr (some ou))] h Q := by
  refine jw_introH (ls := [some (.inr (.inr (some (ad 0)))), some (.inl x), some (.inr (.inr (some ou))), none]) (by decide) k_L_kind rfl (by simp [lo_fit, jv_c]) hg ?_
  refine jy_aload_n rfl rfl ?_
  refine jz_iconst (x := 0) rfl rfl ?_
  refine jy_aload_n rfl rfl ?_
  refine jy_iload_n rfl rfl ?_
  refine jz_callX (rows := jx_kind) (As := [.inl x]) rfl l_E_kind c_L_52 i_E_kind s_E_kind jc_o0 rfl hc.1.1 rfl jx_kind_ok (cE_kind (d := 179) (mc := 610) (ms := 3000) hg hc (by decide) (by decide) (by decide) (fun z h1 p1 => ?_) (fun i i1 i2 h1 p1 => ?_)) (by decide) (Nat.le_of_ble_eq_true rfl) (by decide) (by decide)
  · refine ⟨[], _, [], rfl, by decide +kernel, fun r => ?_⟩
    refine js_astore_n rfl rfl (by decide) rfl ?_
    refine js_iconst (x := 1) rfl rfl ?_
    refine jw_ireturn rfl rfl rfl ?_
    exact hq 1 0 _ _ (Or.inl ⟨rfl, z, rfl⟩) ⟨by decide, h1, p1, Or.inr ⟨by decide, rfl⟩⟩
  · have A1 := p1.A ho
    refine jw_i2l rfl ?_
    refine js_last 0 rfl A1 (by decide) rfl rfl (by decide) (by decide) ?_
    refine jw_goto 15 rfl rfl ?_
    refine js_iconst (x := 0) rfl rfl ?_
    refine jw_ireturn rfl rfl rfl ?_
    exact hq 0 _ _ _ (Or.inr ⟨rfl, i, i1, i2, rfl, rfl⟩) ⟨by decide, h1, p1, Or.inl ⟨rfl, rfl⟩⟩
set_option maxHeartbeats 4000000 in
set_option maxRecDepth 100000 in
theorem cL_size {g : jg_G} (hg : (jg_l g).stackTraces = false) {h : jh_H} {col ad R : Nat → Nat} {E : cd_E} {se n sn tw ou : Nat} {ln O : List Nat} {D : sd_D} {TP : Nat → Option tp_X} {er x : Int32} {Q : jw_O → jh_H → Prop} (hc : ce g h col ad R E se (ln, n, D, TP, er, O, sn, tw)) (hse : se < 1000000) (ho : jh_A h ou 2 1)
    (hq : ∀ k b S' h', st_ask ln n D TP er O sn tw n (fun i => nI (sv_len D (sv_of D i))) x k b S' → lpost g h col ad se ou k b h' S' → Q (.inl (some (.inl (nI k)))) h') : jw_CH g 180 610 3000 m_L_size (jx_size.map (fun z => z.1)) [.inr (.inr (some (ad 0))), .inl x, .inr (.inr (some ou))] h Q := by
  refine jw_introH (ls := [some (.inr (.inr (some (ad 0)))), some (.inl x), some (.inr (.inr (some ou))), none]) (by decide) k_L_size rfl (by simp [lo_fit, jv_c]) hg ?_
  refine jy_aload_n rfl rfl ?_
  refine jz_iconst (x := 0) rfl rfl ?_
  refine jy_aload_n rfl rfl ?_
  refine jy_iload_n rfl rfl ?_
  refine jz_callX (rows := jx_size) (As := [.inl x]) rfl l_E_size c_L_55 i_E_size s_E_size jc_o0 rfl hc.1.1 rfl jx_size_ok (cE_size (d := 179) (mc := 610) (ms := 3000) hg hc (by decide) (by decide) (by decide) (fun z h1 p1 => ?_) (fun i i1 i2 h1 p1 => ?_)) (by decide) (Nat.le_of_ble_eq_true rfl) (by decide) (by decide)
  · refine ⟨[], _, [], rfl, by decide +kernel, fun r => ?_⟩
    refine js_astore_n rfl rfl (by decide) rfl ?_
    refine js_iconst (x := 1) rfl rfl ?_
    refine jw_ireturn rfl rfl rfl ?_
    exact hq 1 0 _ _ (Or.inl ⟨rfl, z, rfl⟩) ⟨by decide, h1, p1, Or.inr ⟨by decide, rfl⟩⟩
  · have A1 := p1.A ho
    refine jw_i2l rfl ?_
    refine js_last 0 rfl A1 (by decide) rfl rfl (by decide) (by decide) ?_
    refine jw_goto 15 rfl rfl ?_
    refine js_iconst (x := 0) rfl rfl ?_
    refine jw_ireturn rfl rfl rfl ?_
    exact hq 0 _ _ _ (Or.inr ⟨rfl, i, i1, i2, rfl, rfl⟩) ⟨by decide, h1, p1, Or.inl ⟨rfl, rfl⟩⟩
