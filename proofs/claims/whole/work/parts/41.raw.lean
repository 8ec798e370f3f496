/-! the model: what may have changed (cells of rows, numbers of its own); texts shown raw -/
def mo_fx (h h' : jh_H) (mo : Nat) (ar : Nat → Nat) (F : Nat → Nat → Prop) (G : Nat → Prop) : Prop := jh_L h' = jh_L h ∧ jh_K h' = jh_K h ∧ jh_g h' = jh_g h ∧ jh_r h' = jh_r h ∧ jh_G h' = jh_G h ∧ jh_R h' = jh_R h ∧ (∀ b k, (b = mo → ¬ G k) → jh_i h' b k = jh_i h b k) ∧ ∀ b j, (∀ k, F k j → b ≠ ar k) → jh_I h' b j = jh_I h b j
theorem mo_fx.rf {h : jh_H} {mo : Nat} {ar : Nat → Nat} {F : Nat → Nat → Prop} {G : Nat → Prop} : mo_fx h h mo ar F G := ⟨rfl, rfl, rfl, rfl, rfl, rfl, fun _ _ _ => rfl, fun _ _ _ => rfl⟩
theorem mo_fx.tr {h h1 h2 : jh_H} {mo : Nat} {ar : Nat → Nat} {F F' : Nat → Nat → Prop} {G G' : Nat → Prop} (a : mo_fx h h1 mo ar F G) (b : mo_fx h1 h2 mo ar F' G') (hF : ∀ k j, F' k j → F k j) (hG : ∀ k, G' k → G k) : mo_fx h h2 mo ar F G := by
  obtain ⟨a1, a2, a3, a4, a5, a6, a7, a8⟩ := a
  obtain ⟨b1, b2, b3, b4, b5, b6, b7, b8⟩ := b
  exact ⟨b1.trans a1, b2.trans a2, b3.trans a3, b4.trans a4, b5.trans a5, b6.trans a6, fun x k hk => (b7 x k (fun e z => hk e (hG k z))).trans (a7 x k hk), fun x j hj => (b8 x j (fun k z => hj k (hF k j z))).trans (a8 x j hj)⟩
theorem mo_fx.mono {h h1 : jh_H} {mo : Nat} {ar : Nat → Nat} {F F' : Nat → Nat → Prop} {G G' : Nat → Prop} (a : mo_fx h h1 mo ar F' G') (hF : ∀ k j, F' k j → F k j) (hG : ∀ k, G' k → G k) : mo_fx h h1 mo ar F G := mo_fx.tr mo_fx.rf a hF hG
theorem mo_fx.sI {h h' : jh_H} {mo : Nat} {ar : Nat → Nat} {F : Nat → Nat → Prop} {G : Nat → Prop} (hf : mo_fx h h' mo ar F G) {k j : Nat} {v : Int32} (hk : F k j) : mo_fx h (jh_sI h' (ar k) j v) mo ar F G := by
  obtain ⟨h1, h2, h3, h4, h5, h6, h7, h8⟩ := hf
  refine ⟨h1, h2, h3, h4, h5, h6, h7, fun b i hb => ?_⟩
  rw [← h8 b i hb]
  show jh_u (jh_I h') (ar k) j v b i = jh_I h' b i
  by_cases q : b = ar k
  · by_cases q2 : i = j
    · subst q2; exact absurd q (hb k hk)
    · exact jh_u_k _ _ _ _ q2
  · exact jh_u_a _ _ _ _ q
theorem mo_fx.si {h h' : jh_H} {mo : Nat} {ar : Nat → Nat} {F : Nat → Nat → Prop} {G : Nat → Prop} (hf : mo_fx h h' mo ar F G) {k : Nat} {v : Int32} (hk : G k) : mo_fx h (jh_si h' mo k v) mo ar F G := by
  obtain ⟨h1, h2, h3, h4, h5, h6, h7, h8⟩ := hf
  refine ⟨h1, h2, h3, h4, h5, h6, fun b i hb => ?_, h8⟩
  rw [← h7 b i hb]
  show jh_u (jh_i h') mo k v b i = jh_i h' b i
  by_cases q : b = mo
  · by_cases q2 : i = k
    · subst q2; exact absurd hk (hb q)
    · exact jh_u_k _ _ _ _ q2
  · exact jh_u_a _ _ _ _ q
theorem mo_fx.ok {h h' : jh_H} {mo : Nat} {ar : Nat → Nat} {F : Nat → Nat → Prop} {G : Nat → Prop} (hf : mo_fx h h' mo ar F G) (hm : mo_ok h mo ar) : mo_ok h' mo ar := by
  obtain ⟨h1, h2, h3, h4, h5, h6, h7, h8⟩ := hf
  refine ⟨⟨by rw [h1]; exact hm.1.1, by rw [h2]; exact hm.1.2⟩, fun x hx => ⟨by rw [h4]; exact (hm.2.1 x hx).1, ?_⟩, hm.2.2⟩
  have := (hm.2.1 x hx).2
  exact ⟨by rw [h1]; exact this.1, by rw [h2]; exact this.2⟩
theorem mo_fx.rd {h h' h0 : jh_H} {mo : Nat} {ar : Nat → Nat} {F : Nat → Nat → Prop} {G : Nat → Prop} (hm : mo_ok h0 mo ar) (hf : mo_fx h h' mo ar F G) (i : Nat) {K t n j : Nat} (hi : mo_T[i]? = some (K, t, n)) (hF : ∀ k, F k j → k ≠ K ∧ ∃ x ∈ mo_T, x.1 = k) : jh_I h' (ar K) j = jh_I h (ar K) j := by
  refine hf.2.2.2.2.2.2.2 (ar K) j (fun k hk z => ?_)
  obtain ⟨h1, x, hx, rfl⟩ := hF k hk
  exact h1 (hm.2.2 x hx _ (List.mem_of_getElem? hi) z.symm)
theorem mo_fx.rdi {h h' : jh_H} {mo : Nat} {ar : Nat → Nat} {F : Nat → Nat → Prop} {G : Nat → Prop} (hf : mo_fx h h' mo ar F G) {k : Nat} (hk : ¬ G k) : jh_i h' mo k = jh_i h mo k := hf.2.2.2.2.2.2.1 mo k (fun _ => hk)
/-- the raw text X: its first 401 characters -/
def rw_ok (h : jh_H) (mo : Nat) (ar : Nat → Nat) (X : List Nat) : Prop := jh_i h mo 545 = nI (min X.length 401) ∧ ∀ j, j < min X.length 401 → jh_I h (ar 542) j = nI (X.getD j 0) ∧ X.getD j 0 < 128
def rp_F (k _j : Nat) : Prop := k = 542
def rp_G (k : Nat) : Prop := k = 545
theorem rw_put {h h' : jh_H} {mo : Nat} {ar : Nat → Nat} {X : List Nat} {c : Nat} (hc : c < 128) (hx : rw_ok h mo ar X) (hl : X.length < 401) (e1 : jh_i h' mo 545 = nI (X.length + 1)) (e2 : ∀ j, jh_I h' (ar 542) j = if j = X.length then nI c else jh_I h (ar 542) j) : rw_ok h' mo ar (X ++ [c]) := by
  refine ⟨by rw [e1, List.length_append]; congr 1; simp; omega, fun j hj => ?_⟩
  rw [List.length_append] at hj
  rw [e2 j]
  by_cases z : j = X.length
  · subst z; rw [if_pos rfl]; simp [hc]
  · rw [if_neg z]
    have hj2 : j < X.length := by simp at hj; omega
    have := hx.2 j (by omega)
    rw [show (X ++ [c]).getD j 0 = X.getD j 0 by simp [List.getD, List.getElem?_append_left hj2]]
    exact this
theorem rw_full {h : jh_H} {mo : Nat} {ar : Nat → Nat} {X : List Nat} {c : Nat} (hx : rw_ok h mo ar X) (hl : 401 ≤ X.length) : rw_ok h mo ar (X ++ [c]) := by
  have e : min (X ++ [c]).length 401 = min X.length 401 := by simp; omega
  refine ⟨by rw [e]; exact hx.1, fun j hj => ?_⟩
  rw [e] at hj
  have hj2 : j < X.length := by omega
  rw [show (X ++ [c]).getD j 0 = X.getD j 0 by simp [List.getD, List.getElem?_append_left hj2]]
  exact hx.2 j hj
set_option maxHeartbeats 4000000 in
set_option maxRecDepth 100000 in
theorem cm_rawPut {g : jg_G} (hg : (jg_l g).stackTraces = false) {h : jh_H} {mo : Nat} {ar : Nat → Nat} {X : List Nat} {c : Nat} {Q : jw_O → jh_H → Prop} (hm : mo_ok h mo ar) (hc : c < 128) (hx : rw_ok h mo ar X) (hq : ∀ h', mo_fx h h' mo ar rp_F rp_G → rw_ok h' mo ar (X ++ [c]) → Q (.inl none) h') : jw_C g 0 0 0 m_M_rawPut [.inr (.inr (some mo)), .inl (nI c)] h Q := by
  refine jw_intro (ls := [some (.inr (.inr (some mo))), some (.inl (nI c))]) (by decide) k_M_rawPut rfl (by simp [lo_fit, jv_c]) hg ?_
  have hc1 : ((nI c).toUInt32 % 65536).toInt32 = nI c := by
    have h1 := pk_char (nI c)
    rw [pk_tn (by omega), Nat.mod_eq_of_lt (by omega)] at h1
    exact h1
  have hn1 : vp_nar .char (nI c) = nI c := by simp only [vp_nar, (pk_charN (q := c) (by omega)).1]
  refine jw_aload_n rfl rfl ?_
  refine jw_gi rfl g_M_113 hm.1 hx.1 ?_
  refine js_sipush (x := 401) rfl rfl ?_
  rcases Nat.lt_or_ge X.length 401 with hl | hl
  · have e0 : min X.length 401 = X.length := by omega
    rw [e0]
    have h545 : jh_i h mo 545 = nI X.length := by rw [hx.1, e0]
    refine jw_icmp_ge 21 rfl rfl (fun z => absurd ((nI_leI (a := 401) (by omega) (by omega)).mp z) (by omega)) (fun _ => ?_)
    refine jw_aload_n rfl rfl ?_
    refine jw_gr rfl g_M_104 hm.1 (mo_r hm 23 rfl) ?_
    refine jw_aload_n rfl rfl ?_
    refine jw_gi rfl g_M_113 hm.1 h545 ?_
    refine jw_iload_n rfl rfl ?_
    refine jw_i2c rfl ?_
    rw [hc1]
    refine js_cast (X.length) rfl (mo_a hm 23 rfl) (by decide) (by rfl)  rfl (by omega) (by decide) ?_
    refine jw_aload_n rfl rfl ?_
    refine jw_gi rfl g_M_113 (mo_sI hm).1 h545 ?_
    refine js_sipush (x := 401) rfl rfl ?_
    rw [hn1]
    refine jw_icmp_ge 41 rfl rfl (fun z => absurd ((nI_leI (a := 401) (by omega) (by omega)).mp z) (by omega)) (fun _ => ?_)
    refine jw_aload_n rfl rfl ?_
    refine jw_dup rfl rfl ?_
    refine jw_gi rfl g_M_113 (mo_sI hm).1 h545 ?_
    refine js_iconst (x := 1) rfl rfl ?_
    refine jw_iadd rfl ?_
    rw [show nI X.length + 1 = nI (X.length + 1) from nI_1 _]
    refine jw_pi rfl p_M_rawPut_113 (mo_sI hm).1 ?_
    refine jw_return rfl rfl ?_
    refine hq _ (mo_fx.si (k := 545) (mo_fx.sI (k := 542) mo_fx.rf (show rp_F 542 _ from rfl)) (show rp_G 545 from rfl)) (rw_put hc hx hl (jh_u_s _ _ _ _) (fun j => ?_))
    show jh_u (jh_I h) (ar 542) X.length (nI c) (ar 542) j = _
    by_cases z : j = X.length
    · rw [if_pos z, z, jh_u_s]
    · rw [if_neg z, jh_u_k _ _ _ _ z]
  · have e0 : min X.length 401 = 401 := by omega
    rw [e0]
    have h545 : jh_i h mo 545 = nI 401 := by rw [hx.1, e0]
    refine jw_icmp_ge 21 rfl rfl (fun _ => ?_) (fun z => absurd (by decide) z)
    refine jw_aload_n rfl rfl ?_
    refine jw_gi rfl g_M_113 hm.1 h545 ?_
    refine js_sipush (x := 401) rfl rfl ?_
    refine jw_icmp_ge 41 rfl rfl (fun _ => ?_) (fun z => absurd (by decide) z)
    refine jw_return rfl rfl ?_
    exact hq _ mo_fx.rf (rw_full hx hl)
set_option maxHeartbeats 4000000 in
set_option maxRecDepth 100000 in
theorem cm_rawMap {g : jg_G} (hg : (jg_l g).stackTraces = false) {h : jh_H} {mo : Nat} {ar : Nat → Nat} {X : List Nat} {Q : jw_O → jh_H → Prop} (hm : mo_ok h mo ar) (hx : rw_ok h mo ar X) (hq : ∀ h', mo_fx h h' mo ar rp_F rp_G → rw_ok h' mo ar (X ++ [91, 109, 97, 112, 93]) → Q (.inl none) h') : jw_C g 1 0 0 m_M_rawMap [.inr (.inr (some mo))] h Q := by
  refine jw_intro (ls := [some (.inr (.inr (some mo)))]) (by decide) k_M_rawMap rfl (by simp [lo_fit, jv_c]) hg ?_
  refine jw_aload_n rfl rfl ?_
  refine js_bipush (x := 91) rfl rfl ?_
  refine js_call (As := [.inl 91]) rfl l_M_rawPut c_M_285 i_M_rawPut s_M_rawPut jc_o8 rfl hm.1 rfl (cm_rawPut hg hm (c := 91) (by decide) hx (fun h1 g1 x1 => ?_)) (by decide) (Nat.le_of_ble_eq_true rfl) (by omega) (by omega) rfl
  have f1 := g1
  refine jw_aload_n rfl rfl ?_
  refine js_bipush (x := 109) rfl rfl ?_
  refine js_call (As := [.inl 109]) rfl l_M_rawPut c_M_285 i_M_rawPut s_M_rawPut jc_o8 rfl (mo_fx.ok f1 hm).1 rfl (cm_rawPut hg (mo_fx.ok f1 hm) (c := 109) (by decide) x1 (fun h2 g2 x2 => ?_)) (by decide) (Nat.le_of_ble_eq_true rfl) (by omega) (by omega) rfl
  have f2 := mo_fx.tr f1 g2 (fun _ _ z => z) (fun _ z => z)
  refine jw_aload_n rfl rfl ?_
  refine js_bipush (x := 97) rfl rfl ?_
  refine js_call (As := [.inl 97]) rfl l_M_rawPut c_M_285 i_M_rawPut s_M_rawPut jc_o8 rfl (mo_fx.ok f2 hm).1 rfl (cm_rawPut hg (mo_fx.ok f2 hm) (c := 97) (by decide) x2 (fun h3 g3 x3 => ?_)) (by decide) (Nat.le_of_ble_eq_true rfl) (by omega) (by omega) rfl
  have f3 := mo_fx.tr f2 g3 (fun _ _ z => z) (fun _ z => z)
  refine jw_aload_n rfl rfl ?_
  refine js_bipush (x := 112) rfl rfl ?_
  refine js_call (As := [.inl 112]) rfl l_M_rawPut c_M_285 i_M_rawPut s_M_rawPut jc_o8 rfl (mo_fx.ok f3 hm).1 rfl (cm_rawPut hg (mo_fx.ok f3 hm) (c := 112) (by decide) x3 (fun h4 g4 x4 => ?_)) (by decide) (Nat.le_of_ble_eq_true rfl) (by omega) (by omega) rfl
  have f4 := mo_fx.tr f3 g4 (fun _ _ z => z) (fun _ z => z)
  refine jw_aload_n rfl rfl ?_
  refine js_bipush (x := 93) rfl rfl ?_
  refine js_call (As := [.inl 93]) rfl l_M_rawPut c_M_285 i_M_rawPut s_M_rawPut jc_o8 rfl (mo_fx.ok f4 hm).1 rfl (cm_rawPut hg (mo_fx.ok f4 hm) (c := 93) (by decide) x4 (fun h5 g5 x5 => ?_)) (by decide) (Nat.le_of_ble_eq_true rfl) (by omega) (by omega) rfl
  have f5 := mo_fx.tr f4 g5 (fun _ _ z => z) (fun _ z => z)
  refine jw_return rfl rfl ?_
  refine hq _ f5 ?_
  rw [show X ++ [91, 109, 97, 112, 93] = X ++ [91] ++ [109] ++ [97] ++ [112] ++ [93] by simp]
  exact x5

