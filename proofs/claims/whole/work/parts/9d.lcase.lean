/-! THE LAW: what holds between two calls; its cases -/
theorem ce.mvN {g : jg_G} {h h' : jh_H} {col ad R : Nat → Nat} {E : cd_E} {se : Nat} {S : SS} {Sf : Nat → Prop} (hc : ce g h col ad R E se S) (f : fr Sf h h') (hS : ∀ b, Sf b → 9 ≤ col b) : ce g h' col ad R E se S := by
  obtain ⟨c1, c2, c3, c4, c5, c6⟩ := hc
  obtain ⟨k1, k2, k3, k4, k5, k6, k7, k8⟩ := id c6
  have nc : ∀ {b}, col b ≤ 8 → ¬ Sf b := fun hb z => by have := hS _ z; omega
  exact ⟨c1.mv f (nc (by rw [k3]; decide)), c2.fr f (nc (by rw [k4]; decide)) (nc (by rw [k5]; decide)), c3.mv f (nc (by rw [k6]; decide)) (fun b hb _ => nc (by rw [hb]; decide)) k7, c4.mv f (fun b hb => nc (by rw [hb]; decide)) (nc (by rw [k8]; decide)), c5.mv f (fun i hi => nc (by rw [k2 i hi]; decide)), c6.sm f⟩
def LI (g : jg_G) (h : jh_H) (col ad R : Nat → Nat) (E : cd_E) (se mo : Nat) (ar t : Nat → Nat) (ou : Nat) (S : SS) : Prop := ce g h col ad R E se S ∧ ms h mo ar t S ∧ mc9 col mo ar ∧ jh_A h ou 2 1 ∧ col ou = 10
theorem LI.help {g : jg_G} {h h' : jh_H} {col ad R ar t : Nat → Nat} {E : cd_E} {se mo ou k : Nat} {b : Int32} {S S' : SS} (li : LI g h col ad R E se mo ar t ou S) (lp : lpost g h col ad se ou k b h' S') : ∃ col' R' E' se', ce g h' col' ad R' E' se' S' ∧ ms h' mo ar t S ∧ mc9 col' mo ar ∧ jh_A h' ou 2 1 ∧ col' ou = 10 ∧ se' ≤ se + 1 ∧ (k = 0 → jh_G h' ou 0 = b.toInt64) := by
  obtain ⟨l1, l2, l3, l4, l5⟩ := li
  obtain ⟨-, h1, ⟨col', R', E', se', p1, p2, p3, p4⟩, e⟩ := lp
  obtain ⟨-, -, -, -, -, -, -, -, -, -, -, hcl, -⟩ := l1
  have in9 : ∀ {b}, col b = 9 → col' b = 9 := fun {b} hb => by rw [p2 b (hcl b (by rw [hb]; decide))]; exact hb
  have m9 : mc9 col' mo ar := ⟨in9 l3.1, fun k => in9 (l3.2 k)⟩
  have o10 : col' ou = 10 := by rw [p2 ou l4.1]; exact l5
  have n9 : ∀ {b}, col b = 9 → ¬ cF col b := fun hb z => by unfold cF at z; omega
  have ms1 : ms h1 mo ar t S := l2.mv p3 (n9 l3.1) (fun k => n9 (l3.2 k))
  have A1 : jh_A h1 ou 2 1 := p3.A l4
  rcases e with ⟨rfl, rfl⟩ | ⟨ek, rfl⟩
  · have f2 : fr (fun b => b = ou) h1 (jh_sG h1 ou 0 b.toInt64) := fr.sG fr.rf rfl
    have ne : ∀ {b}, col' b = 9 → ¬ b = ou := fun hb z => by rw [z, o10] at hb; exact absurd hb (by decide)
    exact ⟨col', R', E', se', p1.mvN f2 (fun b hb => by rw [hb, o10]; decide), ms1.mv f2 (ne m9.1) (fun k => ne (m9.2 k)), m9, f2.A A1, o10, p4, fun _ => jh_u_s _ _ _ _⟩
  · exact ⟨col', R', E', se', p1, ms1, m9, A1, o10, p4, fun z => absurd z ek⟩
theorem LI.model {g : jg_G} {h1 h2 : jh_H} {col ad R ar : Nat → Nat} {E : cd_E} {se mo ou : Nat} {c : Int32} {S' : SS} (p1 : ce g h1 col ad R E se S') (p3 : mc9 col mo ar) (p4 : jh_A h1 ou 2 1) (p5 : col ou = 10) (mp : mpost h1 col mo ar h2 S' c) : (∃ t', LI g h2 col ad R E se mo ar t' ou S') ∧ jh_i h2 mo 512 = c ∧ ∀ j, jh_G h2 ou j = jh_G h1 ou j := by
  obtain ⟨⟨t', m1⟩, m2, m3⟩ := mp
  refine ⟨⟨t', p1.mvN m3 (fun b hb => by unfold mF at hb; omega), m1, p3, m3.A p4, p5⟩, m2, fun j => ?_⟩
  exact (m3.2 ou p4.1 (fun z => by unfold mF at z; omega)).2.2.2.2.2.2.1 j
theorem lg_self (x : Int64) : lg_cmp x x = 0 := by simp [lg_cmp]
theorem nI_2 (a : Nat) : nI a + 2 = nI (a + 2) := nI_add a 2
set_option maxHeartbeats 4000000 in
set_option maxRecDepth 100000 in
theorem law_type {N : State → Prop} {g : jg_G} (hg : (jg_l g).stackTraces = false) {d b L : Nat} {xs : Nat → Int32} (hX : jy_scr N g b L xs) (hN0 : ∀ s, N s → jw_NC s) (hL : L ≤ 1536) (hd : 200 ≤ d) {h : jh_H} {col ad R ar t : Nat → Nat} {E : cd_E} {se mo ou i kc ks : Nat} {S : SS} {Q : jw_O → jh_H → Prop} (li : LI g h col ad R E se mo ar t ou S) (hse : se < 1000000) (hi : i + 2 < L) (hkc : 610 ≤ kc) (hks : 3000 ≤ ks)
    (kk : ∀ h' col' R' E' se' t' S', LI g h' col' ad R' E' se' mo ar t' ou S' → se' ≤ se + 1 → jy_J N g d m_law jw_T0 818 [some (.inr (.inr (some b))), some (.inr (.inr (some (ad 0)))), some (.inr (.inr (some mo))), some (.inr (.inr (some ou))), some (.inl (nI i)), none, none] [] h' (kc - 610) (ks - 3000) Q) : jy_J N g d m_law jw_T0 108 [some (.inr (.inr (some b))), some (.inr (.inr (some (ad 0)))), some (.inr (.inr (some mo))), some (.inr (.inr (some ou))), some (.inl (nI i)), none, none] [] h kc ks Q := by
  obtain ⟨ln, n, D, TP, er, O, sn, tw⟩ := S
  refine jy_aload_n rfl rfl ?_
  refine jy_aload_n rfl rfl ?_
  refine jy_iload rfl rfl ?_
  refine jz_iconst (x := 1) rfl rfl ?_
  refine jy_iadd rfl ?_
  refine jy_sld (i + 1) hX rfl (nI_1 i) (by omega) (by omega) ?_
  refine jy_aload_n rfl rfl ?_
  refine jz_callH (As := [.inr (.inr (some (ad 0))), .inl (xs (i + 1)), .inr (.inr (some ou))]) hN0 rfl l_L_type cH_62 i_L_type rfl (cL_type hg li.1 hse li.2.2.2.1 (fun k bb S1 h1 st lp => ?_)) (by omega) (Nat.le_of_ble_eq_true rfl) hkc hks rfl
  obtain ⟨col1, R1, E1, se1, p1, p2, p3, p4, p5, p6, p7⟩ := li.help lp
  refine jz_istore rfl rfl (by decide) rfl ?_
  refine jy_aload_n rfl rfl ?_
  refine jy_aload_n rfl rfl ?_
  refine jy_iload rfl rfl ?_
  refine jz_iconst (x := 1) rfl rfl ?_
  refine jy_iadd rfl ?_
  refine jy_sld (i + 1) hX rfl (nI_1 i) (by omega) (by omega) ?_
  refine jz_call (As := [.inl (xs (i + 1))]) rfl l_M_type c_L_67 i_M_type s_M_type jc_o8 rfl p2.1.1 rfl (mM_type hg p3 p2 st (fun b2 h2 hb mp => ?_)) (by omega) (Nat.le_of_ble_eq_true rfl) (by omega) (by omega) rfl
  obtain ⟨⟨t2, li2⟩, i512, G2⟩ := LI.model p1 p3 p4 p5 mp
  refine jz_istore rfl rfl (by decide) rfl ?_
  refine jy_aload_n rfl rfl ?_
  refine jz_call (As := []) rfl l_M_thrown c_L_68 i_M_thrown s_M_thrown jc_o8 rfl li2.2.1.1.1 rfl (cm_thrown hg li2.2.1.1.1 ?_) (by omega) (Nat.le_of_ble_eq_true rfl) (by omega) (by omega) rfl
  rw [i512]
  refine jy_iload rfl rfl ?_
  refine jy_icmp_eq 144 rfl rfl (fun _ => ?_) (fun z => absurd rfl z)
  refine jy_iload rfl rfl ?_
  refine jy_if_ne 161 rfl rfl (fun _ => ?_) (fun z => ?_)
  · refine jz_drop 5 rfl ?_
    refine jz_drop 6 rfl ?_
    refine jy_goto 818 rfl rfl ?_
    exact kk h2 col1 R1 E1 se1 t2 S1 li2 p6
  · have k0 : k = 0 := nI_inj (by have := lp.1; omega) (by decide) z
    refine jy_aload_n rfl rfl ?_
    refine jz_iconst (x := 0) rfl rfl ?_
    refine jz_lald 0 rfl li2.2.2.2.1 (by decide) rfl rfl (by decide) (by decide) ?_
    refine jy_iload rfl rfl ?_
    refine jy_i2l rfl ?_
    rw [G2 0, p7 k0, hb k0]
    refine jy_lcmp rfl ?_
    rw [lg_self]
    refine jy_if_eq 161 rfl rfl (fun _ => ?_) (fun z => absurd rfl z)
    refine jz_drop 5 rfl ?_
    refine jz_drop 6 rfl ?_
    refine jy_goto 818 rfl rfl ?_
    exact kk h2 col1 R1 E1 se1 t2 S1 li2 p6
set_option maxHeartbeats 4000000 in
set_option maxRecDepth 100000 in
theorem law_number {N : State → Prop} {g : jg_G} (hg : (jg_l g).stackTraces = false) {d b L : Nat} {xs : Nat → Int32} (hX : jy_scr N g b L xs) (hN0 : ∀ s, N s → jw_NC s) (hL : L ≤ 1536) (hd : 200 ≤ d) {h : jh_H} {col ad R ar t : Nat → Nat} {E : cd_E} {se mo ou i kc ks : Nat} {S : SS} {Q : jw_O → jh_H → Prop} (li : LI g h col ad R E se mo ar t ou S) (hse : se < 1000000) (hi : i + 2 < L) (hkc : 610 ≤ kc) (hks : 3000 ≤ ks)
    (kk : ∀ h' col' R' E' se' t' S', LI g h' col' ad R' E' se' mo ar t' ou S' → se' ≤ se + 1 → jy_J N g d m_law jw_T0 818 [some (.inr (.inr (some b))), some (.inr (.inr (some (ad 0)))), some (.inr (.inr (some mo))), some (.inr (.inr (some ou))), some (.inl (nI i)), none, none] [] h' (kc - 610) (ks - 3000) Q) : jy_J N g d m_law jw_T0 164 [some (.inr (.inr (some b))), some (.inr (.inr (some (ad 0)))), some (.inr (.inr (some mo))), some (.inr (.inr (some ou))), some (.inl (nI i)), none, none] [] h kc ks Q := by
  obtain ⟨ln, n, D, TP, er, O, sn, tw⟩ := S
  refine jy_aload_n rfl rfl ?_
  refine jy_aload_n rfl rfl ?_
  refine jy_iload rfl rfl ?_
  refine jz_iconst (x := 1) rfl rfl ?_
  refine jy_iadd rfl ?_
  refine jy_sld (i + 1) hX rfl (nI_1 i) (by omega) (by omega) ?_
  refine jy_aload_n rfl rfl ?_
  refine jz_callH (As := [.inr (.inr (some (ad 0))), .inl (xs (i + 1)), .inr (.inr (some ou))]) hN0 rfl l_L_number cH_71 i_L_number rfl (cL_number hg li.1 hse li.2.2.2.1 (fun k bb S1 h1 st lp => ?_)) (by omega) (Nat.le_of_ble_eq_true rfl) hkc hks rfl
  obtain ⟨col1, R1, E1, se1, p1, p2, p3, p4, p5, p6, p7⟩ := li.help lp
  refine jz_istore rfl rfl (by decide) rfl ?_
  refine jy_aload_n rfl rfl ?_
  refine jy_aload_n rfl rfl ?_
  refine jy_iload rfl rfl ?_
  refine jz_iconst (x := 1) rfl rfl ?_
  refine jy_iadd rfl ?_
  refine jy_sld (i + 1) hX rfl (nI_1 i) (by omega) (by omega) ?_
  refine jz_call (As := [.inl (xs (i + 1))]) rfl l_M_number c_L_73 i_M_number s_M_number jc_o8 rfl p2.1.1 rfl (mM_number hg p3 p2 st (fun b2 h2 hb mp => ?_)) (by omega) (Nat.le_of_ble_eq_true rfl) (by omega) (by omega) rfl
  obtain ⟨⟨t2, li2⟩, i512, G2⟩ := LI.model p1 p3 p4 p5 mp
  refine jz_istore rfl rfl (by decide) rfl ?_
  refine jy_aload_n rfl rfl ?_
  refine jz_call (As := []) rfl l_M_thrown c_L_68 i_M_thrown s_M_thrown jc_o8 rfl li2.2.1.1.1 rfl (cm_thrown hg li2.2.1.1.1 ?_) (by omega) (Nat.le_of_ble_eq_true rfl) (by omega) (by omega) rfl
  rw [i512]
  refine jy_iload rfl rfl ?_
  refine jy_icmp_eq 200 rfl rfl (fun _ => ?_) (fun z => absurd rfl z)
  refine jy_iload rfl rfl ?_
  refine jy_if_ne 217 rfl rfl (fun _ => ?_) (fun z => ?_)
  · refine jz_drop 5 rfl ?_
    refine jz_drop 6 rfl ?_
    refine jy_goto 818 rfl rfl ?_
    exact kk h2 col1 R1 E1 se1 t2 S1 li2 p6
  · have k0 : k = 0 := nI_inj (by have := lp.1; omega) (by decide) z
    refine jy_aload_n rfl rfl ?_
    refine jz_iconst (x := 0) rfl rfl ?_
    refine jz_lald 0 rfl li2.2.2.2.1 (by decide) rfl rfl (by decide) (by decide) ?_
    refine jy_iload rfl rfl ?_
    refine jy_i2l rfl ?_
    rw [G2 0, p7 k0, hb k0]
    refine jy_lcmp rfl ?_
    rw [lg_self]
    refine jy_if_eq 217 rfl rfl (fun _ => ?_) (fun z => absurd rfl z)
    refine jz_drop 5 rfl ?_
    refine jz_drop 6 rfl ?_
    refine jy_goto 818 rfl rfl ?_
    exact kk h2 col1 R1 E1 se1 t2 S1 li2 p6
set_option maxHeartbeats 4000000 in
set_option maxRecDepth 100000 in
theorem law_text {N : State → Prop} {g : jg_G} (hg : (jg_l g).stackTraces = false) {d b L : Nat} {xs : Nat → Int32} (hX : jy_scr N g b L xs) (hN0 : ∀ s, N s → jw_NC s) (hL : L ≤ 1536) (hd : 200 ≤ d) {h : jh_H} {col ad R ar t : Nat → Nat} {E : cd_E} {se mo ou i kc ks : Nat} {S : SS} {Q : jw_O → jh_H → Prop} (li : LI g h col ad R E se mo ar t ou S) (hse : se < 1000000) (hi : i + 2 < L) (hkc : 610 ≤ kc) (hks : 3000 ≤ ks)
    (kk : ∀ h' col' R' E' se' t' S', LI g h' col' ad R' E' se' mo ar t' ou S' → se' ≤ se + 1 → jy_J N g d m_law jw_T0 818 [some (.inr (.inr (some b))), some (.inr (.inr (some (ad 0)))), some (.inr (.inr (some mo))), some (.inr (.inr (some ou))), some (.inl (nI i)), none, none] [] h' (kc - 610) (ks - 3000) Q) : jy_J N g d m_law jw_T0 220 [some (.inr (.inr (some b))), some (.inr (.inr (some (ad 0)))), some (.inr (.inr (some mo))), some (.inr (.inr (some ou))), some (.inl (nI i)), none, none] [] h kc ks Q := by
  obtain ⟨ln, n, D, TP, er, O, sn, tw⟩ := S
  refine jy_aload_n rfl rfl ?_
  refine jy_aload_n rfl rfl ?_
  refine jz_callH (As := [.inr (.inr (some (ad 0))), .inr (.inr (some ou))]) hN0 rfl l_L_text cH_74 i_L_text rfl (cL_text hg li.1 hse li.2.2.2.1 (fun k bb S1 h1 st lp => ?_)) (by omega) (Nat.le_of_ble_eq_true rfl) hkc hks rfl
  obtain ⟨col1, R1, E1, se1, p1, p2, p3, p4, p5, p6, p7⟩ := li.help lp
  refine jz_istore rfl rfl (by decide) rfl ?_
  refine jy_aload_n rfl rfl ?_
  refine jz_call (As := []) rfl l_M_text c_L_77 i_M_text s_M_text jc_o8 rfl p2.1.1 rfl (mM_text hg p3 p2 st (fun b2 h2 hb mp => ?_)) (by omega) (Nat.le_of_ble_eq_true rfl) (by omega) (by omega) rfl
  obtain ⟨⟨t2, li2⟩, i512, G2⟩ := LI.model p1 p3 p4 p5 mp
  refine jz_istore rfl rfl (by decide) rfl ?_
  refine jy_aload_n rfl rfl ?_
  refine jz_call (As := []) rfl l_M_thrown c_L_68 i_M_thrown s_M_thrown jc_o8 rfl li2.2.1.1.1 rfl (cm_thrown hg li2.2.1.1.1 ?_) (by omega) (Nat.le_of_ble_eq_true rfl) (by omega) (by omega) rfl
  rw [i512]
  refine jy_iload rfl rfl ?_
  refine jy_icmp_eq 244 rfl rfl (fun _ => ?_) (fun z => absurd rfl z)
  refine jy_iload rfl rfl ?_
  refine jy_if_ne 261 rfl rfl (fun _ => ?_) (fun z => ?_)
  · refine jz_drop 5 rfl ?_
    refine jz_drop 6 rfl ?_
    refine jy_goto 818 rfl rfl ?_
    exact kk h2 col1 R1 E1 se1 t2 S1 li2 p6
  · have k0 : k = 0 := nI_inj (by have := lp.1; omega) (by decide) z
    refine jy_aload_n rfl rfl ?_
    refine jz_iconst (x := 0) rfl rfl ?_
    refine jz_lald 0 rfl li2.2.2.2.1 (by decide) rfl rfl (by decide) (by decide) ?_
    refine jy_iload rfl rfl ?_
    refine jy_i2l rfl ?_
    rw [G2 0, p7 k0, hb k0]
    refine jy_lcmp rfl ?_
    rw [lg_self]
    refine jy_if_eq 261 rfl rfl (fun _ => ?_) (fun z => absurd rfl z)
    refine jz_drop 5 rfl ?_
    refine jz_drop 6 rfl ?_
    refine jy_goto 818 rfl rfl ?_
    exact kk h2 col1 R1 E1 se1 t2 S1 li2 p6
set_option maxHeartbeats 4000000 in
set_option maxRecDepth 100000 in
theorem law_list {N : State → Prop} {g : jg_G} (hg : (jg_l g).stackTraces = false) {d b L : Nat} {xs : Nat → Int32} (hX : jy_scr N g b L xs) (hN0 : ∀ s, N s → jw_NC s) (hL : L ≤ 1536) (hd : 200 ≤ d) {h : jh_H} {col ad R ar t : Nat → Nat} {E : cd_E} {se mo ou i kc ks : Nat} {S : SS} {Q : jw_O → jh_H → Prop} (li : LI g h col ad R E se mo ar t ou S) (hse : se < 1000000) (hi : i + 2 < L) (hkc : 610 ≤ kc) (hks : 3000 ≤ ks)
    (kk : ∀ h' col' R' E' se' t' S', LI g h' col' ad R' E' se' mo ar t' ou S' → se' ≤ se + 1 → jy_J N g d m_law jw_T0 818 [some (.inr (.inr (some b))), some (.inr (.inr (some (ad 0)))), some (.inr (.inr (some mo))), some (.inr (.inr (some ou))), some (.inl (nI i)), none, none] [] h' (kc - 610) (ks - 3000) Q) : jy_J N g d m_law jw_T0 264 [some (.inr (.inr (some b))), some (.inr (.inr (some (ad 0)))), some (.inr (.inr (some mo))), some (.inr (.inr (some ou))), some (.inl (nI i)), none, none] [] h kc ks Q := by
  obtain ⟨ln, n, D, TP, er, O, sn, tw⟩ := S
  refine jy_aload_n rfl rfl ?_
  refine jy_aload_n rfl rfl ?_
  refine jz_callH (As := [.inr (.inr (some (ad 0))), .inr (.inr (some ou))]) hN0 rfl l_L_list cH_78 i_L_list rfl (cL_list hg li.1 hse li.2.2.2.1 (fun k bb S1 h1 st lp => ?_)) (by omega) (Nat.le_of_ble_eq_true rfl) hkc hks rfl
  obtain ⟨col1, R1, E1, se1, p1, p2, p3, p4, p5, p6, p7⟩ := li.help lp
  refine jz_istore rfl rfl (by decide) rfl ?_
  refine jy_aload_n rfl rfl ?_
  refine jz_call (As := []) rfl l_M_list c_L_80 i_M_list s_M_list jc_o8 rfl p2.1.1 rfl (mM_list hg p3 p2 st (fun b2 h2 hb mp => ?_)) (by omega) (Nat.le_of_ble_eq_true rfl) (by omega) (by omega) rfl
  obtain ⟨⟨t2, li2⟩, i512, G2⟩ := LI.model p1 p3 p4 p5 mp
  refine jz_istore rfl rfl (by decide) rfl ?_
  refine jy_aload_n rfl rfl ?_
  refine jz_call (As := []) rfl l_M_thrown c_L_68 i_M_thrown s_M_thrown jc_o8 rfl li2.2.1.1.1 rfl (cm_thrown hg li2.2.1.1.1 ?_) (by omega) (Nat.le_of_ble_eq_true rfl) (by omega) (by omega) rfl
  rw [i512]
  refine jy_iload rfl rfl ?_
  refine jy_icmp_eq 288 rfl rfl (fun _ => ?_) (fun z => absurd rfl z)
  refine jy_iload rfl rfl ?_
  refine jy_if_ne 305 rfl rfl (fun _ => ?_) (fun z => ?_)
  · refine jz_drop 5 rfl ?_
    refine jz_drop 6 rfl ?_
    refine jy_goto 818 rfl rfl ?_
    exact kk h2 col1 R1 E1 se1 t2 S1 li2 p6
  · have k0 : k = 0 := nI_inj (by have := lp.1; omega) (by decide) z
    refine jy_aload_n rfl rfl ?_
    refine jz_iconst (x := 0) rfl rfl ?_
    refine jz_lald 0 rfl li2.2.2.2.1 (by decide) rfl rfl (by decide) (by decide) ?_
    refine jy_iload rfl rfl ?_
    refine jy_i2l rfl ?_
    rw [G2 0, p7 k0, hb k0]
    refine jy_lcmp rfl ?_
    rw [lg_self]
    refine jy_if_eq 305 rfl rfl (fun _ => ?_) (fun z => absurd rfl z)
    refine jz_drop 5 rfl ?_
    refine jz_drop 6 rfl ?_
    refine jy_goto 818 rfl rfl ?_
    exact kk h2 col1 R1 E1 se1 t2 S1 li2 p6
set_option maxHeartbeats 4000000 in
set_option maxRecDepth 100000 in
theorem law_map {N : State → Prop} {g : jg_G} (hg : (jg_l g).stackTraces = false) {d b L : Nat} {xs : Nat → Int32} (hX : jy_scr N g b L xs) (hN0 : ∀ s, N s → jw_NC s) (hL : L ≤ 1536) (hd : 200 ≤ d) {h : jh_H} {col ad R ar t : Nat → Nat} {E : cd_E} {se mo ou i kc ks : Nat} {S : SS} {Q : jw_O → jh_H → Prop} (li : LI g h col ad R E se mo ar t ou S) (hse : se < 1000000) (hi : i + 2 < L) (hkc : 610 ≤ kc) (hks : 3000 ≤ ks)
    (kk : ∀ h' col' R' E' se' t' S', LI g h' col' ad R' E' se' mo ar t' ou S' → se' ≤ se + 1 → jy_J N g d m_law jw_T0 818 [some (.inr (.inr (some b))), some (.inr (.inr (some (ad 0)))), some (.inr (.inr (some mo))), some (.inr (.inr (some ou))), some (.inl (nI i)), none, none] [] h' (kc - 610) (ks - 3000) Q) : jy_J N g d m_law jw_T0 308 [some (.inr (.inr (some b))), some (.inr (.inr (some (ad 0)))), some (.inr (.inr (some mo))), some (.inr (.inr (some ou))), some (.inl (nI i)), none, none] [] h kc ks Q := by
  obtain ⟨ln, n, D, TP, er, O, sn, tw⟩ := S
  refine jy_aload_n rfl rfl ?_
  refine jy_aload_n rfl rfl ?_
  refine jz_callH (As := [.inr (.inr (some (ad 0))), .inr (.inr (some ou))]) hN0 rfl l_L_map cH_81 i_L_map rfl (cL_map hg li.1 hse li.2.2.2.1 (fun k bb S1 h1 st lp => ?_)) (by omega) (Nat.le_of_ble_eq_true rfl) hkc hks rfl
  obtain ⟨col1, R1, E1, se1, p1, p2, p3, p4, p5, p6, p7⟩ := li.help lp
  refine jz_istore rfl rfl (by decide) rfl ?_
  refine jy_aload_n rfl rfl ?_
  refine jz_call (As := []) rfl l_M_map c_L_83 i_M_map s_M_map jc_o8 rfl p2.1.1 rfl (mM_map hg p3 p2 st (fun b2 h2 hb mp => ?_)) (by omega) (Nat.le_of_ble_eq_true rfl) (by omega) (by omega) rfl
  obtain ⟨⟨t2, li2⟩, i512, G2⟩ := LI.model p1 p3 p4 p5 mp
  refine jz_istore rfl rfl (by decide) rfl ?_
  refine jy_aload_n rfl rfl ?_
  refine jz_call (As := []) rfl l_M_thrown c_L_68 i_M_thrown s_M_thrown jc_o8 rfl li2.2.1.1.1 rfl (cm_thrown hg li2.2.1.1.1 ?_) (by omega) (Nat.le_of_ble_eq_true rfl) (by omega) (by omega) rfl
  rw [i512]
  refine jy_iload rfl rfl ?_
  refine jy_icmp_eq 332 rfl rfl (fun _ => ?_) (fun z => absurd rfl z)
  refine jy_iload rfl rfl ?_
  refine jy_if_ne 349 rfl rfl (fun _ => ?_) (fun z => ?_)
  · refine jz_drop 5 rfl ?_
    refine jz_drop 6 rfl ?_
    refine jy_goto 818 rfl rfl ?_
    exact kk h2 col1 R1 E1 se1 t2 S1 li2 p6
  · have k0 : k = 0 := nI_inj (by have := lp.1; omega) (by decide) z
    refine jy_aload_n rfl rfl ?_
    refine jz_iconst (x := 0) rfl rfl ?_
    refine jz_lald 0 rfl li2.2.2.2.1 (by decide) rfl rfl (by decide) (by decide) ?_
    refine jy_iload rfl rfl ?_
    refine jy_i2l rfl ?_
    rw [G2 0, p7 k0, hb k0]
    refine jy_lcmp rfl ?_
    rw [lg_self]
    refine jy_if_eq 349 rfl rfl (fun _ => ?_) (fun z => absurd rfl z)
    refine jz_drop 5 rfl ?_
    refine jz_drop 6 rfl ?_
    refine jy_goto 818 rfl rfl ?_
    exact kk h2 col1 R1 E1 se1 t2 S1 li2 p6
set_option maxHeartbeats 4000000 in
set_option maxRecDepth 100000 in
theorem law_add {N : State → Prop} {g : jg_G} (hg : (jg_l g).stackTraces = false) {d b L : Nat} {xs : Nat → Int32} (hX : jy_scr N g b L xs) (hN0 : ∀ s, N s → jw_NC s) (hL : L ≤ 1536) (hd : 200 ≤ d) {h : jh_H} {col ad R ar t : Nat → Nat} {E : cd_E} {se mo ou i kc ks : Nat} {S : SS} {Q : jw_O → jh_H → Prop} (li : LI g h col ad R E se mo ar t ou S) (hse : se < 1000000) (hi : i + 2 < L) (hkc : 610 ≤ kc) (hks : 3000 ≤ ks)
    (kk : ∀ h' col' R' E' se' t' S', LI g h' col' ad R' E' se' mo ar t' ou S' → se' ≤ se + 1 → jy_J N g d m_law jw_T0 818 [some (.inr (.inr (some b))), some (.inr (.inr (some (ad 0)))), some (.inr (.inr (some mo))), some (.inr (.inr (some ou))), some (.inl (nI i)), none, none] [] h' (kc - 610) (ks - 3000) Q) : jy_J N g d m_law jw_T0 352 [some (.inr (.inr (some b))), some (.inr (.inr (some (ad 0)))), some (.inr (.inr (some mo))), some (.inr (.inr (some ou))), some (.inl (nI i)), none, none] [] h kc ks Q := by
  obtain ⟨ln, n, D, TP, er, O, sn, tw⟩ := S
  refine jy_aload_n rfl rfl ?_
  refine jy_aload_n rfl rfl ?_
  refine jy_iload rfl rfl ?_
  refine jz_iconst (x := 1) rfl rfl ?_
  refine jy_iadd rfl ?_
  refine jy_sld (i + 1) hX rfl (nI_1 i) (by omega) (by omega) ?_
  refine jy_aload_n rfl rfl ?_
  refine jy_iload rfl rfl ?_
  refine jz_iconst (x := 2) rfl rfl ?_
  refine jy_iadd rfl ?_
  refine jy_sld (i + 2) hX rfl (nI_2 i) (by omega) (by omega) ?_
  refine jy_aload_n rfl rfl ?_
  refine jz_callH (As := [.inr (.inr (some (ad 0))), .inl (xs (i + 1)), .inl (xs (i + 2)), .inr (.inr (some ou))]) hN0 rfl l_L_add cH_84 i_L_add rfl (cL_add hg li.1 hse li.2.2.2.1 (fun k bb S1 h1 st lp => ?_)) (by omega) (Nat.le_of_ble_eq_true rfl) hkc hks rfl
  obtain ⟨col1, R1, E1, se1, p1, p2, p3, p4, p5, p6, p7⟩ := li.help lp
  refine jz_istore rfl rfl (by decide) rfl ?_
  refine jy_aload_n rfl rfl ?_
  refine jy_aload_n rfl rfl ?_
  refine jy_iload rfl rfl ?_
  refine jz_iconst (x := 1) rfl rfl ?_
  refine jy_iadd rfl ?_
  refine jy_sld (i + 1) hX rfl (nI_1 i) (by omega) (by omega) ?_
  refine jy_aload_n rfl rfl ?_
  refine jy_iload rfl rfl ?_
  refine jz_iconst (x := 2) rfl rfl ?_
  refine jy_iadd rfl ?_
  refine jy_sld (i + 2) hX rfl (nI_2 i) (by omega) (by omega) ?_
  refine jz_call (As := [.inl (xs (i + 1)), .inl (xs (i + 2))]) rfl l_M_add c_L_87 i_M_add s_M_add jc_o8 rfl p2.1.1 rfl (mM_add hg p3 p2 st (fun b2 h2 hb mp => ?_)) (by omega) (Nat.le_of_ble_eq_true rfl) (by omega) (by omega) rfl
  obtain ⟨⟨t2, li2⟩, i512, G2⟩ := LI.model p1 p3 p4 p5 mp
  refine jz_istore rfl rfl (by decide) rfl ?_
  refine jy_aload_n rfl rfl ?_
  refine jz_call (As := []) rfl l_M_thrown c_L_68 i_M_thrown s_M_thrown jc_o8 rfl li2.2.1.1.1 rfl (cm_thrown hg li2.2.1.1.1 ?_) (by omega) (Nat.le_of_ble_eq_true rfl) (by omega) (by omega) rfl
  rw [i512]
  refine jy_iload rfl rfl ?_
  refine jy_icmp_eq 400 rfl rfl (fun _ => ?_) (fun z => absurd rfl z)
  refine jy_iload rfl rfl ?_
  refine jy_if_ne 417 rfl rfl (fun _ => ?_) (fun z => ?_)
  · refine jz_drop 5 rfl ?_
    refine jz_drop 6 rfl ?_
    refine jy_goto 818 rfl rfl ?_
    exact kk h2 col1 R1 E1 se1 t2 S1 li2 p6
  · have k0 : k = 0 := nI_inj (by have := lp.1; omega) (by decide) z
    refine jy_aload_n rfl rfl ?_
    refine jz_iconst (x := 0) rfl rfl ?_
    refine jz_lald 0 rfl li2.2.2.2.1 (by decide) rfl rfl (by decide) (by decide) ?_
    refine jy_iload rfl rfl ?_
    refine jy_i2l rfl ?_
    rw [G2 0, p7 k0, hb k0]
    refine jy_lcmp rfl ?_
    rw [lg_self]
    refine jy_if_eq 417 rfl rfl (fun _ => ?_) (fun z => absurd rfl z)
    refine jz_drop 5 rfl ?_
    refine jz_drop 6 rfl ?_
    refine jy_goto 818 rfl rfl ?_
    exact kk h2 col1 R1 E1 se1 t2 S1 li2 p6
set_option maxHeartbeats 4000000 in
set_option maxRecDepth 100000 in
theorem law_put {N : State → Prop} {g : jg_G} (hg : (jg_l g).stackTraces = false) {d b L : Nat} {xs : Nat → Int32} (hX : jy_scr N g b L xs) (hN0 : ∀ s, N s → jw_NC s) (hL : L ≤ 1536) (hd : 200 ≤ d) {h : jh_H} {col ad R ar t : Nat → Nat} {E : cd_E} {se mo ou i kc ks : Nat} {S : SS} {Q : jw_O → jh_H → Prop} (li : LI g h col ad R E se mo ar t ou S) (hse : se < 1000000) (hi : i + 2 < L) (hkc : 610 ≤ kc) (hks : 3000 ≤ ks)
    (kk : ∀ h' col' R' E' se' t' S', LI g h' col' ad R' E' se' mo ar t' ou S' → se' ≤ se + 1 → jy_J N g d m_law jw_T0 818 [some (.inr (.inr (some b))), some (.inr (.inr (some (ad 0)))), some (.inr (.inr (some mo))), some (.inr (.inr (some ou))), some (.inl (nI i)), none, none] [] h' (kc - 610) (ks - 3000) Q) : jy_J N g d m_law jw_T0 420 [some (.inr (.inr (some b))), some (.inr (.inr (some (ad 0)))), some (.inr (.inr (some mo))), some (.inr (.inr (some ou))), some (.inl (nI i)), none, none] [] h kc ks Q := by
  obtain ⟨ln, n, D, TP, er, O, sn, tw⟩ := S
  refine jy_aload_n rfl rfl ?_
  refine jy_aload_n rfl rfl ?_
  refine jy_iload rfl rfl ?_
  refine jz_iconst (x := 1) rfl rfl ?_
  refine jy_iadd rfl ?_
  refine jy_sld (i + 1) hX rfl (nI_1 i) (by omega) (by omega) ?_
  refine jy_aload_n rfl rfl ?_
  refine jy_iload rfl rfl ?_
  refine jz_iconst (x := 2) rfl rfl ?_
  refine jy_iadd rfl ?_
  refine jy_sld (i + 2) hX rfl (nI_2 i) (by omega) (by omega) ?_
  refine jy_aload_n rfl rfl ?_
  refine jz_callH (As := [.inr (.inr (some (ad 0))), .inl (xs (i + 1)), .inl (xs (i + 2)), .inr (.inr (some ou))]) hN0 rfl l_L_put cH_88 i_L_put rfl (cL_put hg li.1 hse li.2.2.2.1 (fun k bb S1 h1 st lp => ?_)) (by omega) (Nat.le_of_ble_eq_true rfl) hkc hks rfl
  obtain ⟨col1, R1, E1, se1, p1, p2, p3, p4, p5, p6, p7⟩ := li.help lp
  refine jz_istore rfl rfl (by decide) rfl ?_
  refine jy_aload_n rfl rfl ?_
  refine jy_aload_n rfl rfl ?_
  refine jy_iload rfl rfl ?_
  refine jz_iconst (x := 1) rfl rfl ?_
  refine jy_iadd rfl ?_
  refine jy_sld (i + 1) hX rfl (nI_1 i) (by omega) (by omega) ?_
  refine jy_aload_n rfl rfl ?_
  refine jy_iload rfl rfl ?_
  refine jz_iconst (x := 2) rfl rfl ?_
  refine jy_iadd rfl ?_
  refine jy_sld (i + 2) hX rfl (nI_2 i) (by omega) (by omega) ?_
  refine jz_call (As := [.inl (xs (i + 1)), .inl (xs (i + 2))]) rfl l_M_put c_L_90 i_M_put s_M_put jc_o8 rfl p2.1.1 rfl (mM_put hg p3 p2 st (fun b2 h2 hb mp => ?_)) (by omega) (Nat.le_of_ble_eq_true rfl) (by omega) (by omega) rfl
  obtain ⟨⟨t2, li2⟩, i512, G2⟩ := LI.model p1 p3 p4 p5 mp
  refine jz_istore rfl rfl (by decide) rfl ?_
  refine jy_aload_n rfl rfl ?_
  refine jz_call (As := []) rfl l_M_thrown c_L_68 i_M_thrown s_M_thrown jc_o8 rfl li2.2.1.1.1 rfl (cm_thrown hg li2.2.1.1.1 ?_) (by omega) (Nat.le_of_ble_eq_true rfl) (by omega) (by omega) rfl
  rw [i512]
  refine jy_iload rfl rfl ?_
  refine jy_icmp_eq 468 rfl rfl (fun _ => ?_) (fun z => absurd rfl z)
  refine jy_iload rfl rfl ?_
  refine jy_if_ne 485 rfl rfl (fun _ => ?_) (fun z => ?_)
  · refine jz_drop 5 rfl ?_
    refine jz_drop 6 rfl ?_
    refine jy_goto 818 rfl rfl ?_
    exact kk h2 col1 R1 E1 se1 t2 S1 li2 p6
  · have k0 : k = 0 := nI_inj (by have := lp.1; omega) (by decide) z
    refine jy_aload_n rfl rfl ?_
    refine jz_iconst (x := 0) rfl rfl ?_
    refine jz_lald 0 rfl li2.2.2.2.1 (by decide) rfl rfl (by decide) (by decide) ?_
    refine jy_iload rfl rfl ?_
    refine jy_i2l rfl ?_
    rw [G2 0, p7 k0, hb k0]
    refine jy_lcmp rfl ?_
    rw [lg_self]
    refine jy_if_eq 485 rfl rfl (fun _ => ?_) (fun z => absurd rfl z)
    refine jz_drop 5 rfl ?_
    refine jz_drop 6 rfl ?_
    refine jy_goto 818 rfl rfl ?_
    exact kk h2 col1 R1 E1 se1 t2 S1 li2 p6
set_option maxHeartbeats 4000000 in
set_option maxRecDepth 100000 in
theorem law_compile {N : State → Prop} {g : jg_G} (hg : (jg_l g).stackTraces = false) {d b L : Nat} {xs : Nat → Int32} (hX : jy_scr N g b L xs) (hN0 : ∀ s, N s → jw_NC s) (hL : L ≤ 1536) (hd : 200 ≤ d) {h : jh_H} {col ad R ar t : Nat → Nat} {E : cd_E} {se mo ou i kc ks : Nat} {S : SS} {Q : jw_O → jh_H → Prop} (li : LI g h col ad R E se mo ar t ou S) (hse : se < 1000000) (hi : i + 2 < L) (hkc : 610 ≤ kc) (hks : 3000 ≤ ks)
    (kk : ∀ h' col' R' E' se' t' S', LI g h' col' ad R' E' se' mo ar t' ou S' → se' ≤ se + 1 → jy_J N g d m_law jw_T0 818 [some (.inr (.inr (some b))), some (.inr (.inr (some (ad 0)))), some (.inr (.inr (some mo))), some (.inr (.inr (some ou))), some (.inl (nI i)), none, none] [] h' (kc - 610) (ks - 3000) Q) : jy_J N g d m_law jw_T0 488 [some (.inr (.inr (some b))), some (.inr (.inr (some (ad 0)))), some (.inr (.inr (some mo))), some (.inr (.inr (some ou))), some (.inl (nI i)), none, none] [] h kc ks Q := by
  obtain ⟨ln, n, D, TP, er, O, sn, tw⟩ := S
  refine jy_aload_n rfl rfl ?_
  refine jy_aload_n rfl rfl ?_
  refine jy_iload rfl rfl ?_
  refine jz_iconst (x := 1) rfl rfl ?_
  refine jy_iadd rfl ?_
  refine jy_sld (i + 1) hX rfl (nI_1 i) (by omega) (by omega) ?_
  refine jy_aload_n rfl rfl ?_
  refine jz_callH (As := [.inr (.inr (some (ad 0))), .inl (xs (i + 1)), .inr (.inr (some ou))]) hN0 rfl l_L_compile cH_91 i_L_compile rfl (cL_compile hg li.1 hse li.2.2.2.1 (fun k bb S1 h1 st lp => ?_)) (by omega) (Nat.le_of_ble_eq_true rfl) hkc hks rfl
  obtain ⟨col1, R1, E1, se1, p1, p2, p3, p4, p5, p6, p7⟩ := li.help lp
  refine jz_istore rfl rfl (by decide) rfl ?_
  refine jy_aload_n rfl rfl ?_
  refine jy_aload_n rfl rfl ?_
  refine jy_iload rfl rfl ?_
  refine jz_iconst (x := 1) rfl rfl ?_
  refine jy_iadd rfl ?_
  refine jy_sld (i + 1) hX rfl (nI_1 i) (by omega) (by omega) ?_
  refine jz_call (As := [.inl (xs (i + 1))]) rfl l_M_compile c_L_93 i_M_compile s_M_compile jc_o8 rfl p2.1.1 rfl (mM_compile hg p3 p2 st (fun b2 h2 hb mp => ?_)) (by omega) (Nat.le_of_ble_eq_true rfl) (by omega) (by omega) rfl
  obtain ⟨⟨t2, li2⟩, i512, G2⟩ := LI.model p1 p3 p4 p5 mp
  refine jz_istore rfl rfl (by decide) rfl ?_
  refine jy_aload_n rfl rfl ?_
  refine jz_call (As := []) rfl l_M_thrown c_L_68 i_M_thrown s_M_thrown jc_o8 rfl li2.2.1.1.1 rfl (cm_thrown hg li2.2.1.1.1 ?_) (by omega) (Nat.le_of_ble_eq_true rfl) (by omega) (by omega) rfl
  rw [i512]
  refine jy_iload rfl rfl ?_
  refine jy_icmp_eq 524 rfl rfl (fun _ => ?_) (fun z => absurd rfl z)
  refine jy_iload rfl rfl ?_
  refine jy_if_ne 541 rfl rfl (fun _ => ?_) (fun z => ?_)
  · refine jz_drop 5 rfl ?_
    refine jz_drop 6 rfl ?_
    refine jy_goto 818 rfl rfl ?_
    exact kk h2 col1 R1 E1 se1 t2 S1 li2 p6
  · have k0 : k = 0 := nI_inj (by have := lp.1; omega) (by decide) z
    refine jy_aload_n rfl rfl ?_
    refine jz_iconst (x := 0) rfl rfl ?_
    refine jz_lald 0 rfl li2.2.2.2.1 (by decide) rfl rfl (by decide) (by decide) ?_
    refine jy_iload rfl rfl ?_
    refine jy_i2l rfl ?_
    rw [G2 0, p7 k0, hb k0]
    refine jy_lcmp rfl ?_
    rw [lg_self]
    refine jy_if_eq 541 rfl rfl (fun _ => ?_) (fun z => absurd rfl z)
    refine jz_drop 5 rfl ?_
    refine jz_drop 6 rfl ?_
    refine jy_goto 818 rfl rfl ?_
    exact kk h2 col1 R1 E1 se1 t2 S1 li2 p6
set_option maxHeartbeats 4000000 in
set_option maxRecDepth 100000 in
theorem law_errorAt {N : State → Prop} {g : jg_G} (hg : (jg_l g).stackTraces = false) {d b L : Nat} {xs : Nat → Int32} (hX : jy_scr N g b L xs) (hN0 : ∀ s, N s → jw_NC s) (hL : L ≤ 1536) (hd : 200 ≤ d) {h : jh_H} {col ad R ar t : Nat → Nat} {E : cd_E} {se mo ou i kc ks : Nat} {S : SS} {Q : jw_O → jh_H → Prop} (li : LI g h col ad R E se mo ar t ou S) (hse : se < 1000000) (hi : i + 2 < L) (hkc : 610 ≤ kc) (hks : 3000 ≤ ks)
    (kk : ∀ h' col' R' E' se' t' S', LI g h' col' ad R' E' se' mo ar t' ou S' → se' ≤ se + 1 → jy_J N g d m_law jw_T0 818 [some (.inr (.inr (some b))), some (.inr (.inr (some (ad 0)))), some (.inr (.inr (some mo))), some (.inr (.inr (some ou))), some (.inl (nI i)), none, none] [] h' (kc - 610) (ks - 3000) Q) : jy_J N g d m_law jw_T0 544 [some (.inr (.inr (some b))), some (.inr (.inr (some (ad 0)))), some (.inr (.inr (some mo))), some (.inr (.inr (some ou))), some (.inl (nI i)), none, none] [] h kc ks Q := by
  obtain ⟨ln, n, D, TP, er, O, sn, tw⟩ := S
  refine jy_aload_n rfl rfl ?_
  refine jz_call (As := []) rfl l_E_errorAt c_L_94 i_E_errorAt s_E_errorAt jc_o0 rfl li.1.1.1 rfl (cE_errorAt (d := 180) (mc := 0) (ms := 0) hg li.1 ?_) (by omega) (Nat.le_of_ble_eq_true rfl) (by omega) (by omega) rfl
  refine jy_aload_n rfl rfl ?_
  refine jz_call (As := []) rfl l_M_errorAt c_L_97 i_M_errorAt s_M_errorAt jc_o8 rfl li.2.1.1.1 rfl (mM_errorAt hg li.2.2.1 li.2.1 (fun h2 mp => ?_)) (by omega) (Nat.le_of_ble_eq_true rfl) (by omega) (by omega) rfl
  obtain ⟨⟨t2, li2⟩, -, -⟩ := LI.model li.1 li.2.2.1 li.2.2.2.1 li.2.2.2.2 mp
  refine jy_icmp_eq 818 rfl rfl (fun _ => ?_) (fun z => absurd rfl z)
  exact jy_room (by omega) (by omega) (kk h2 col R E se t2 _ li2 (by omega))
set_option maxHeartbeats 4000000 in
set_option maxRecDepth 100000 in
theorem law_render {N : State → Prop} {g : jg_G} (hg : (jg_l g).stackTraces = false) {d b L : Nat} {xs : Nat → Int32} (hX : jy_scr N g b L xs) (hN0 : ∀ s, N s → jw_NC s) (hL : L ≤ 1536) (hd : 200 ≤ d) {h : jh_H} {col ad R ar t : Nat → Nat} {E : cd_E} {se mo ou i kc ks : Nat} {S : SS} {Q : jw_O → jh_H → Prop} (li : LI g h col ad R E se mo ar t ou S) (hse : se < 1000000) (hi : i + 2 < L) (hkc : 610 ≤ kc) (hks : 3000 ≤ ks)
    (kk : ∀ h' col' R' E' se' t' S', LI g h' col' ad R' E' se' mo ar t' ou S' → se' ≤ se + 1 → jy_J N g d m_law jw_T0 818 [some (.inr (.inr (some b))), some (.inr (.inr (some (ad 0)))), some (.inr (.inr (some mo))), some (.inr (.inr (some ou))), some (.inl (nI i)), none, none] [] h' (kc - 610) (ks - 3000) Q) : jy_J N g d m_law jw_T0 557 [some (.inr (.inr (some b))), some (.inr (.inr (some (ad 0)))), some (.inr (.inr (some mo))), some (.inr (.inr (some ou))), some (.inl (nI i)), none, none] [] h kc ks Q := by
  obtain ⟨ln, n, D, TP, er, O, sn, tw⟩ := S
  refine jy_aload_n rfl rfl ?_
  refine jy_aload_n rfl rfl ?_
  refine jy_iload rfl rfl ?_
  refine jz_iconst (x := 1) rfl rfl ?_
  refine jy_iadd rfl ?_
  refine jy_sld (i + 1) hX rfl (nI_1 i) (by omega) (by omega) ?_
  refine jy_aload_n rfl rfl ?_
  refine jy_iload rfl rfl ?_
  refine jz_iconst (x := 2) rfl rfl ?_
  refine jy_iadd rfl ?_
  refine jy_sld (i + 2) hX rfl (nI_2 i) (by omega) (by omega) ?_
  refine jy_aload_n rfl rfl ?_
  refine jz_callH (As := [.inr (.inr (some (ad 0))), .inl (xs (i + 1)), .inl (xs (i + 2)), .inr (.inr (some ou))]) hN0 rfl l_L_render cH_98 i_L_render rfl (cL_render hg li.1 hse li.2.2.2.1 (fun k bb S1 h1 st lp => ?_)) (by omega) (Nat.le_of_ble_eq_true rfl) hkc hks rfl
  obtain ⟨col1, R1, E1, se1, p1, p2, p3, p4, p5, p6, p7⟩ := li.help lp
  refine jz_istore rfl rfl (by decide) rfl ?_
  refine jy_aload_n rfl rfl ?_
  refine jy_aload_n rfl rfl ?_
  refine jy_iload rfl rfl ?_
  refine jz_iconst (x := 1) rfl rfl ?_
  refine jy_iadd rfl ?_
  refine jy_sld (i + 1) hX rfl (nI_1 i) (by omega) (by omega) ?_
  refine jy_aload_n rfl rfl ?_
  refine jy_iload rfl rfl ?_
  refine jz_iconst (x := 2) rfl rfl ?_
  refine jy_iadd rfl ?_
  refine jy_sld (i + 2) hX rfl (nI_2 i) (by omega) (by omega) ?_
  refine jz_call (As := [.inl (xs (i + 1)), .inl (xs (i + 2))]) rfl l_M_render c_L_100 i_M_render s_M_render jc_o8 rfl p2.1.1 rfl (mM_render2 hg p3 p2 st (fun b2 h2 hb mp => ?_)) (by omega) (Nat.le_of_ble_eq_true rfl) (by omega) (by omega) rfl
  obtain ⟨⟨t2, li2⟩, i512, G2⟩ := LI.model p1 p3 p4 p5 mp
  refine jz_istore rfl rfl (by decide) rfl ?_
  refine jy_aload_n rfl rfl ?_
  refine jz_call (As := []) rfl l_M_thrown c_L_68 i_M_thrown s_M_thrown jc_o8 rfl li2.2.1.1.1 rfl (cm_thrown hg li2.2.1.1.1 ?_) (by omega) (Nat.le_of_ble_eq_true rfl) (by omega) (by omega) rfl
  rw [i512]
  refine jy_iload rfl rfl ?_
  refine jy_icmp_eq 605 rfl rfl (fun _ => ?_) (fun z => absurd rfl z)
  refine jy_iload rfl rfl ?_
  refine jy_if_ne 622 rfl rfl (fun _ => ?_) (fun z => ?_)
  · refine jz_drop 5 rfl ?_
    refine jz_drop 6 rfl ?_
    refine jy_goto 818 rfl rfl ?_
    exact kk h2 col1 R1 E1 se1 t2 S1 li2 p6
  · have k0 : k = 0 := nI_inj (by have := lp.1; omega) (by decide) z
    refine jy_aload_n rfl rfl ?_
    refine jz_iconst (x := 0) rfl rfl ?_
    refine jz_lald 0 rfl li2.2.2.2.1 (by decide) rfl rfl (by decide) (by decide) ?_
    refine jy_iload rfl rfl ?_
    refine jy_i2l rfl ?_
    rw [G2 0, p7 k0, hb k0]
    refine jy_lcmp rfl ?_
    rw [lg_self]
    refine jy_if_eq 622 rfl rfl (fun _ => ?_) (fun z => absurd rfl z)
    refine jz_drop 5 rfl ?_
    refine jz_drop 6 rfl ?_
    refine jy_goto 818 rfl rfl ?_
    exact kk h2 col1 R1 E1 se1 t2 S1 li2 p6
set_option maxHeartbeats 4000000 in
set_option maxRecDepth 100000 in
theorem law_at {N : State → Prop} {g : jg_G} (hg : (jg_l g).stackTraces = false) {d b L : Nat} {xs : Nat → Int32} (hX : jy_scr N g b L xs) (hN0 : ∀ s, N s → jw_NC s) (hL : L ≤ 1536) (hd : 200 ≤ d) {h : jh_H} {col ad R ar t : Nat → Nat} {E : cd_E} {se mo ou i kc ks : Nat} {S : SS} {Q : jw_O → jh_H → Prop} (li : LI g h col ad R E se mo ar t ou S) (hse : se < 1000000) (hi : i + 2 < L) (hkc : 610 ≤ kc) (hks : 3000 ≤ ks)
    (kk : ∀ h' col' R' E' se' t' S', LI g h' col' ad R' E' se' mo ar t' ou S' → se' ≤ se + 1 → jy_J N g d m_law jw_T0 818 [some (.inr (.inr (some b))), some (.inr (.inr (some (ad 0)))), some (.inr (.inr (some mo))), some (.inr (.inr (some ou))), some (.inl (nI i)), none, none] [] h' (kc - 610) (ks - 3000) Q) : jy_J N g d m_law jw_T0 625 [some (.inr (.inr (some b))), some (.inr (.inr (some (ad 0)))), some (.inr (.inr (some mo))), some (.inr (.inr (some ou))), some (.inl (nI i)), none, none] [] h kc ks Q := by
  obtain ⟨ln, n, D, TP, er, O, sn, tw⟩ := S
  refine jy_aload_n rfl rfl ?_
  refine jy_aload_n rfl rfl ?_
  refine jy_iload rfl rfl ?_
  refine jz_iconst (x := 1) rfl rfl ?_
  refine jy_iadd rfl ?_
  refine jy_sld (i + 1) hX rfl (nI_1 i) (by omega) (by omega) ?_
  refine jy_aload_n rfl rfl ?_
  refine jz_callH (As := [.inr (.inr (some (ad 0))), .inl (xs (i + 1)), .inr (.inr (some ou))]) hN0 rfl l_L_at cH_101 i_L_at rfl (cL_at hg li.1 hse li.2.2.2.1 (fun k bb S1 h1 st lp => ?_)) (by omega) (Nat.le_of_ble_eq_true rfl) hkc hks rfl
  obtain ⟨col1, R1, E1, se1, p1, p2, p3, p4, p5, p6, p7⟩ := li.help lp
  refine jz_istore rfl rfl (by decide) rfl ?_
  refine jy_aload_n rfl rfl ?_
  refine jy_aload_n rfl rfl ?_
  refine jy_iload rfl rfl ?_
  refine jz_iconst (x := 1) rfl rfl ?_
  refine jy_iadd rfl ?_
  refine jy_sld (i + 1) hX rfl (nI_1 i) (by omega) (by omega) ?_
  refine jz_call (As := [.inl (xs (i + 1))]) rfl l_M_at c_L_103 i_M_at s_M_at jc_o8 rfl p2.1.1 rfl (mM_at hg p3 p2 st (fun b2 h2 hb mp => ?_)) (by omega) (Nat.le_of_ble_eq_true rfl) (by omega) (by omega) rfl
  obtain ⟨⟨t2, li2⟩, i512, G2⟩ := LI.model p1 p3 p4 p5 mp
  refine jz_istore rfl rfl (by decide) rfl ?_
  refine jy_aload_n rfl rfl ?_
  refine jz_call (As := []) rfl l_M_thrown c_L_68 i_M_thrown s_M_thrown jc_o8 rfl li2.2.1.1.1 rfl (cm_thrown hg li2.2.1.1.1 ?_) (by omega) (Nat.le_of_ble_eq_true rfl) (by omega) (by omega) rfl
  rw [i512]
  refine jy_iload rfl rfl ?_
  refine jy_icmp_eq 661 rfl rfl (fun _ => ?_) (fun z => absurd rfl z)
  refine jy_iload rfl rfl ?_
  refine jy_if_ne 678 rfl rfl (fun _ => ?_) (fun z => ?_)
  · refine jz_drop 5 rfl ?_
    refine jz_drop 6 rfl ?_
    refine jy_goto 818 rfl rfl ?_
    exact kk h2 col1 R1 E1 se1 t2 S1 li2 p6
  · have k0 : k = 0 := nI_inj (by have := lp.1; omega) (by decide) z
    refine jy_aload_n rfl rfl ?_
    refine jz_iconst (x := 0) rfl rfl ?_
    refine jz_lald 0 rfl li2.2.2.2.1 (by decide) rfl rfl (by decide) (by decide) ?_
    refine jy_iload rfl rfl ?_
    refine jy_i2l rfl ?_
    rw [G2 0, p7 k0, hb k0]
    refine jy_lcmp rfl ?_
    rw [lg_self]
    refine jy_if_eq 678 rfl rfl (fun _ => ?_) (fun z => absurd rfl z)
    refine jz_drop 5 rfl ?_
    refine jz_drop 6 rfl ?_
    refine jy_goto 818 rfl rfl ?_
    exact kk h2 col1 R1 E1 se1 t2 S1 li2 p6
set_option maxHeartbeats 4000000 in
set_option maxRecDepth 100000 in
theorem law_kind {N : State → Prop} {g : jg_G} (hg : (jg_l g).stackTraces = false) {d b L : Nat} {xs : Nat → Int32} (hX : jy_scr N g b L xs) (hN0 : ∀ s, N s → jw_NC s) (hL : L ≤ 1536) (hd : 200 ≤ d) {h : jh_H} {col ad R ar t : Nat → Nat} {E : cd_E} {se mo ou i kc ks : Nat} {S : SS} {Q : jw_O → jh_H → Prop} (li : LI g h col ad R E se mo ar t ou S) (hse : se < 1000000) (hi : i + 2 < L) (hkc : 610 ≤ kc) (hks : 3000 ≤ ks)
    (kk : ∀ h' col' R' E' se' t' S', LI g h' col' ad R' E' se' mo ar t' ou S' → se' ≤ se + 1 → jy_J N g d m_law jw_T0 818 [some (.inr (.inr (some b))), some (.inr (.inr (some (ad 0)))), some (.inr (.inr (some mo))), some (.inr (.inr (some ou))), some (.inl (nI i)), none, none] [] h' (kc - 610) (ks - 3000) Q) : jy_J N g d m_law jw_T0 681 [some (.inr (.inr (some b))), some (.inr (.inr (some (ad 0)))), some (.inr (.inr (some mo))), some (.inr (.inr (some ou))), some (.inl (nI i)), none, none] [] h kc ks Q := by
  obtain ⟨ln, n, D, TP, er, O, sn, tw⟩ := S
  refine jy_aload_n rfl rfl ?_
  refine jy_aload_n rfl rfl ?_
  refine jy_iload rfl rfl ?_
  refine jz_iconst (x := 1) rfl rfl ?_
  refine jy_iadd rfl ?_
  refine jy_sld (i + 1) hX rfl (nI_1 i) (by omega) (by omega) ?_
  refine jy_aload_n rfl rfl ?_
  refine jz_callH (As := [.inr (.inr (some (ad 0))), .inl (xs (i + 1)), .inr (.inr (some ou))]) hN0 rfl l_L_kind cH_104 i_L_kind rfl (cL_kind hg li.1 hse li.2.2.2.1 (fun k bb S1 h1 st lp => ?_)) (by omega) (Nat.le_of_ble_eq_true rfl) hkc hks rfl
  obtain ⟨col1, R1, E1, se1, p1, p2, p3, p4, p5, p6, p7⟩ := li.help lp
  refine jz_istore rfl rfl (by decide) rfl ?_
  refine jy_aload_n rfl rfl ?_
  refine jy_aload_n rfl rfl ?_
  refine jy_iload rfl rfl ?_
  refine jz_iconst (x := 1) rfl rfl ?_
  refine jy_iadd rfl ?_
  refine jy_sld (i + 1) hX rfl (nI_1 i) (by omega) (by omega) ?_
  refine jz_call (As := [.inl (xs (i + 1))]) rfl l_M_kind c_L_106 i_M_kind s_M_kind jc_o8 rfl p2.1.1 rfl (mM_kind hg p3 p2 st (fun b2 h2 hb mp => ?_)) (by omega) (Nat.le_of_ble_eq_true rfl) (by omega) (by omega) rfl
  obtain ⟨⟨t2, li2⟩, i512, G2⟩ := LI.model p1 p3 p4 p5 mp
  refine jz_istore rfl rfl (by decide) rfl ?_
  refine jy_aload_n rfl rfl ?_
  refine jz_call (As := []) rfl l_M_thrown c_L_68 i_M_thrown s_M_thrown jc_o8 rfl li2.2.1.1.1 rfl (cm_thrown hg li2.2.1.1.1 ?_) (by omega) (Nat.le_of_ble_eq_true rfl) (by omega) (by omega) rfl
  rw [i512]
  refine jy_iload rfl rfl ?_
  refine jy_icmp_eq 717 rfl rfl (fun _ => ?_) (fun z => absurd rfl z)
  refine jy_iload rfl rfl ?_
  refine jy_if_ne 734 rfl rfl (fun _ => ?_) (fun z => ?_)
  · refine jz_drop 5 rfl ?_
    refine jz_drop 6 rfl ?_
    refine jy_goto 818 rfl rfl ?_
    exact kk h2 col1 R1 E1 se1 t2 S1 li2 p6
  · have k0 : k = 0 := nI_inj (by have := lp.1; omega) (by decide) z
    refine jy_aload_n rfl rfl ?_
    refine jz_iconst (x := 0) rfl rfl ?_
    refine jz_lald 0 rfl li2.2.2.2.1 (by decide) rfl rfl (by decide) (by decide) ?_
    refine jy_iload rfl rfl ?_
    refine jy_i2l rfl ?_
    rw [G2 0, p7 k0, hb k0]
    refine jy_lcmp rfl ?_
    rw [lg_self]
    refine jy_if_eq 734 rfl rfl (fun _ => ?_) (fun z => absurd rfl z)
    refine jz_drop 5 rfl ?_
    refine jz_drop 6 rfl ?_
    refine jy_goto 818 rfl rfl ?_
    exact kk h2 col1 R1 E1 se1 t2 S1 li2 p6
set_option maxHeartbeats 4000000 in
set_option maxRecDepth 100000 in
theorem law_size {N : State → Prop} {g : jg_G} (hg : (jg_l g).stackTraces = false) {d b L : Nat} {xs : Nat → Int32} (hX : jy_scr N g b L xs) (hN0 : ∀ s, N s → jw_NC s) (hL : L ≤ 1536) (hd : 200 ≤ d) {h : jh_H} {col ad R ar t : Nat → Nat} {E : cd_E} {se mo ou i kc ks : Nat} {S : SS} {Q : jw_O → jh_H → Prop} (li : LI g h col ad R E se mo ar t ou S) (hse : se < 1000000) (hi : i + 2 < L) (hkc : 610 ≤ kc) (hks : 3000 ≤ ks)
    (kk : ∀ h' col' R' E' se' t' S', LI g h' col' ad R' E' se' mo ar t' ou S' → se' ≤ se + 1 → jy_J N g d m_law jw_T0 818 [some (.inr (.inr (some b))), some (.inr (.inr (some (ad 0)))), some (.inr (.inr (some mo))), some (.inr (.inr (some ou))), some (.inl (nI i)), none, none] [] h' (kc - 610) (ks - 3000) Q) : jy_J N g d m_law jw_T0 737 [some (.inr (.inr (some b))), some (.inr (.inr (some (ad 0)))), some (.inr (.inr (some mo))), some (.inr (.inr (some ou))), some (.inl (nI i)), none, none] [] h kc ks Q := by
  obtain ⟨ln, n, D, TP, er, O, sn, tw⟩ := S
  refine jy_aload_n rfl rfl ?_
  refine jy_aload_n rfl rfl ?_
  refine jy_iload rfl rfl ?_
  refine jz_iconst (x := 1) rfl rfl ?_
  refine jy_iadd rfl ?_
  refine jy_sld (i + 1) hX rfl (nI_1 i) (by omega) (by omega) ?_
  refine jy_aload_n rfl rfl ?_
  refine jz_callH (As := [.inr (.inr (some (ad 0))), .inl (xs (i + 1)), .inr (.inr (some ou))]) hN0 rfl l_L_size cH_107 i_L_size rfl (cL_size hg li.1 hse li.2.2.2.1 (fun k bb S1 h1 st lp => ?_)) (by omega) (Nat.le_of_ble_eq_true rfl) hkc hks rfl
  obtain ⟨col1, R1, E1, se1, p1, p2, p3, p4, p5, p6, p7⟩ := li.help lp
  refine jz_istore rfl rfl (by decide) rfl ?_
  refine jy_aload_n rfl rfl ?_
  refine jy_aload_n rfl rfl ?_
  refine jy_iload rfl rfl ?_
  refine jz_iconst (x := 1) rfl rfl ?_
  refine jy_iadd rfl ?_
  refine jy_sld (i + 1) hX rfl (nI_1 i) (by omega) (by omega) ?_
  refine jz_call (As := [.inl (xs (i + 1))]) rfl l_M_size c_L_109 i_M_size s_M_size jc_o8 rfl p2.1.1 rfl (mM_size hg p3 p2 st (fun b2 h2 hb mp => ?_)) (by omega) (Nat.le_of_ble_eq_true rfl) (by omega) (by omega) rfl
  obtain ⟨⟨t2, li2⟩, i512, G2⟩ := LI.model p1 p3 p4 p5 mp
  refine jz_istore rfl rfl (by decide) rfl ?_
  refine jy_aload_n rfl rfl ?_
  refine jz_call (As := []) rfl l_M_thrown c_L_68 i_M_thrown s_M_thrown jc_o8 rfl li2.2.1.1.1 rfl (cm_thrown hg li2.2.1.1.1 ?_) (by omega) (Nat.le_of_ble_eq_true rfl) (by omega) (by omega) rfl
  rw [i512]
  refine jy_iload rfl rfl ?_
  refine jy_icmp_eq 773 rfl rfl (fun _ => ?_) (fun z => absurd rfl z)
  refine jy_iload rfl rfl ?_
  refine jy_if_ne 790 rfl rfl (fun _ => ?_) (fun z => ?_)
  · refine jz_drop 5 rfl ?_
    refine jz_drop 6 rfl ?_
    refine jy_goto 818 rfl rfl ?_
    exact kk h2 col1 R1 E1 se1 t2 S1 li2 p6
  · have k0 : k = 0 := nI_inj (by have := lp.1; omega) (by decide) z
    refine jy_aload_n rfl rfl ?_
    refine jz_iconst (x := 0) rfl rfl ?_
    refine jz_lald 0 rfl li2.2.2.2.1 (by decide) rfl rfl (by decide) (by decide) ?_
    refine jy_iload rfl rfl ?_
    refine jy_i2l rfl ?_
    rw [G2 0, p7 k0, hb k0]
    refine jy_lcmp rfl ?_
    rw [lg_self]
    refine jy_if_eq 790 rfl rfl (fun _ => ?_) (fun z => absurd rfl z)
    refine jz_drop 5 rfl ?_
    refine jz_drop 6 rfl ?_
    refine jy_goto 818 rfl rfl ?_
    exact kk h2 col1 R1 E1 se1 t2 S1 li2 p6
set_option maxHeartbeats 4000000 in
set_option maxRecDepth 100000 in
theorem law_count {N : State → Prop} {g : jg_G} (hg : (jg_l g).stackTraces = false) {d b L : Nat} {xs : Nat → Int32} (hX : jy_scr N g b L xs) (hN0 : ∀ s, N s → jw_NC s) (hL : L ≤ 1536) (hd : 200 ≤ d) {h : jh_H} {col ad R ar t : Nat → Nat} {E : cd_E} {se mo ou i kc ks : Nat} {S : SS} {Q : jw_O → jh_H → Prop} (li : LI g h col ad R E se mo ar t ou S) (hse : se < 1000000) (hi : i + 2 < L) (hkc : 610 ≤ kc) (hks : 3000 ≤ ks)
    (kk : ∀ h' col' R' E' se' t' S', LI g h' col' ad R' E' se' mo ar t' ou S' → se' ≤ se + 1 → jy_J N g d m_law jw_T0 818 [some (.inr (.inr (some b))), some (.inr (.inr (some (ad 0)))), some (.inr (.inr (some mo))), some (.inr (.inr (some ou))), some (.inl (nI i)), none, none] [] h' (kc - 610) (ks - 3000) Q) : jy_J N g d m_law jw_T0 793 [some (.inr (.inr (some b))), some (.inr (.inr (some (ad 0)))), some (.inr (.inr (some mo))), some (.inr (.inr (some ou))), some (.inl (nI i)), none, none] [] h kc ks Q := by
  obtain ⟨ln, n, D, TP, er, O, sn, tw⟩ := S
  refine jy_aload_n rfl rfl ?_
  refine jy_aload_n rfl rfl ?_
  refine jy_iload rfl rfl ?_
  refine jz_iconst (x := 1) rfl rfl ?_
  refine jy_iadd rfl ?_
  refine jy_sld (i + 1) hX rfl (nI_1 i) (by omega) (by omega) ?_
  refine jz_call (As := [.inl (xs (i + 1))]) rfl l_E_count c_L_110 i_E_count s_E_count jc_o0 rfl li.1.1.1 rfl (cE_count (d := 180) (mc := 0) (ms := 0) hg li.1 (by decide) ?_) (by omega) (Nat.le_of_ble_eq_true rfl) (by omega) (by omega) rfl
  refine jy_aload_n rfl rfl ?_
  refine jy_aload_n rfl rfl ?_
  refine jy_iload rfl rfl ?_
  refine jz_iconst (x := 1) rfl rfl ?_
  refine jy_iadd rfl ?_
  refine jy_sld (i + 1) hX rfl (nI_1 i) (by omega) (by omega) ?_
  refine jz_call (As := [.inl (xs (i + 1))]) rfl l_M_count c_L_113 i_M_count s_M_count jc_o8 rfl li.2.1.1.1 rfl (mM_count hg li.2.2.1 li.2.1 (fun h2 mp => ?_)) (by omega) (Nat.le_of_ble_eq_true rfl) (by omega) (by omega) rfl
  obtain ⟨⟨t2, li2⟩, -, -⟩ := LI.model li.1 li.2.2.1 li.2.2.2.1 li.2.2.2.2 mp
  refine jy_icmp_eq 818 rfl rfl (fun _ => ?_) (fun z => absurd rfl z)
  exact jy_room (by omega) (by omega) (kk h2 col R E se t2 _ li2 (by omega))
