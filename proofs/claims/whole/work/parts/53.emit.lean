/-! the model: what is rendered -/
def ou_ok (h : jh_H) (mo : Nat) (ar : Nat → Nat) (X : List Nat) : Prop := jh_i h mo 546 = nI X.length ∧ X.length ≤ 400 ∧ ∀ j, j < X.length → jh_I h (ar 543) j = nI (X.getD j 0) ∧ X.getD j 0 < 128
def em_F (k _j : Nat) : Prop := k = 543
def em_G (k : Nat) : Prop := k = 546
def ew_G (k : Nat) : Prop := k = 546 ∨ k = 550
theorem em_F_in {k j : Nat} (h : em_F k j) : ∃ x ∈ mo_T, x.1 = k := ⟨(543, 0, 400), by decide, h.symm⟩
set_option maxHeartbeats 4000000 in
set_option maxRecDepth 100000 in
theorem cm_emit {g : jg_G} (hg : (jg_l g).stackTraces = false) {h : jh_H} {mo : Nat} {ar : Nat → Nat} {c : Nat} {X : List Nat} {Q : jw_O → jh_H → Prop} (hm : mo_ok h mo ar) (hX : ou_ok h mo ar X) (hc : c < 128)
    (q1 : X.length = 400 → Q (.inl none) (jh_si h mo 550 4)) (q2 : X.length < 400 → ∀ h', mo_fx h h' mo ar em_F em_G → ou_ok h' mo ar (X ++ [c]) → Q (.inl none) h') : jw_C g 0 0 0 m_M_emit [.inr (.inr (some mo)), .inl (nI c)] h Q := by
  refine jw_intro (ls := [some (.inr (.inr (some mo))), some (.inl (nI c))]) (by decide) k_M_emit rfl (by simp [lo_fit, jv_c]) hg ?_
  have h400 := hX.2.1
  refine jw_aload_n rfl rfl ?_
  refine jw_gi rfl g_M_116 hm.1 (hX.1) ?_
  refine js_sipush (x := 400) rfl rfl ?_
  refine jw_icmp_ne 18 rfl rfl (fun z => ?_) (fun z => ?_)
  · have hl : X.length < 400 := Nat.lt_of_le_of_ne h400 (fun e => z (by rw [e]; rfl))
    refine jw_aload_n rfl rfl ?_
    refine jw_gr rfl g_M_107 hm.1 (mo_r hm 24 rfl) ?_
    refine jw_aload_n rfl rfl ?_
    refine jw_gi rfl g_M_116 hm.1 (hX.1) ?_
    refine jw_iload_n rfl rfl ?_
    refine jw_i2cV rfl (nI_c (by omega)) ?_
    refine js_cast (X.length) rfl (mo_a hm 24 rfl) (by decide) (by rfl) rfl (by omega) (by decide) ?_
    refine jw_aload_n rfl rfl ?_
    refine jw_dup rfl rfl ?_
    refine jw_gi rfl g_M_116 (mo_sI hm).1 (hX.1) ?_
    refine js_iconst (x := 1) rfl rfl ?_
    refine jw_iaddV rfl (nI_1 _) ?_
    refine jw_pi rfl p_M_emit_116 (mo_sI hm).1 ?_
    refine jw_return rfl rfl ?_
    refine q2 hl _ (mo_fx.si (F := em_F) (G := em_G) (mo_fx.sI mo_fx.rf (show em_F 543 _ from rfl)) (show em_G 546 from rfl)) ⟨?_, by rw [List.length_append]; exact hl, fun j hj => ?_⟩
    · rw [List.length_append]; exact jh_u_s _ _ _ _
    · rw [List.length_append] at hj
      have hj : j < X.length + 1 := hj
      by_cases e : j = X.length
      · subst e
        rw [show (X ++ [c]).getD X.length 0 = c by simp [List.getD]]
        exact ⟨(jh_u_s _ _ _ _).trans (nI_n (by omega)), hc⟩
      · have hj2 : j < X.length := by omega
        rw [show (X ++ [c]).getD j 0 = X.getD j 0 by simp [List.getD, List.getElem?_append_left hj2]]
        exact ⟨(jh_u_k _ _ _ _ e).trans (hX.2.2 j hj2).1, (hX.2.2 j hj2).2⟩
  · have hl : X.length = 400 := (nI_eq (b := 400) (by omega) (by omega)).mp z
    refine jw_aload_n rfl rfl ?_
    refine js_iconst (x := 4) rfl rfl ?_
    refine jw_pi rfl p_M_emit_128 hm.1 ?_
    refine jw_goto 39 rfl rfl ?_
    refine jw_return rfl rfl ?_
    exact q1 hl
def sw_ew (w : Int64) (wd : List Nat) : Prop := ∃ bl : List Nat, (∀ i, i < 8 → ((w >>> ((nI (8 * i)).toInt64 &&& 63)) &&& 255).toInt32 = nI (bl.getD i 0)) ∧ (∀ i, i < 8 → (((w >>> ((nI (8 * i)).toInt64 &&& 63)) &&& 255 = 0 ↔ bl.getD i 0 = 0) ∧ bl.getD i 0 < 128)) ∧ sp_wd bl 8 = wd
theorem sx_352 : sw_ew 164843319355 [38, 97, 109, 112, 59] := ⟨[59, 112, 109, 97, 38], by decide +kernel, by decide +kernel, by decide⟩
theorem sx_354 : sw_ew 644641851 [38, 108, 116, 59] := ⟨[59, 116, 108, 38], by decide +kernel, by decide +kernel, by decide⟩
theorem sx_356 : sw_ew 644314171 [38, 103, 116, 59] := ⟨[59, 116, 103, 38], by decide +kernel, by decide +kernel, by decide⟩
theorem sx_358 : sw_ew 42268743398459 [38, 113, 117, 111, 116, 59] := ⟨[59, 116, 111, 117, 113, 38], by decide +kernel, by decide +kernel, by decide⟩
/-- X and L, if there is room; a failure if not -/
def ou_to (h h' : jh_H) (mo : Nat) (ar : Nat → Nat) (X L : List Nat) : Prop := (X.length + L.length ≤ 400 → ou_ok h' mo ar (X ++ L) ∧ jh_i h' mo 550 = jh_i h mo 550) ∧ (400 < X.length + L.length → jh_i h' mo 550 = 4 ∧ ∃ Y, Y.length = 400 ∧ ou_ok h' mo ar Y)
set_option maxHeartbeats 4000000 in
set_option maxRecDepth 100000 in
theorem cm_emitWord {g : jg_G} (hg : (jg_l g).stackTraces = false) {h : jh_H} {mo : Nat} {ar : Nat → Nat} {w : Int64} {wd X : List Nat} {Q : jw_O → jh_H → Prop} (hw : sw_ew w wd) (hm : mo_ok h mo ar) (hX : ou_ok h mo ar X)
    (hq : ∀ h', mo_fx h h' mo ar em_F ew_G → ou_to h h' mo ar X wd → Q (.inl none) h') : jw_C g 1 0 0 m_M_emitWord [.inr (.inr (some mo)), .inr (.inl w)] h Q := by
  refine jw_intro (ls := [some (.inr (.inr (some mo))), some (.inr (.inl w)), none, none]) (by decide) k_M_emitWord rfl (by simp [lo_fit, jv_c]) hg ?_
  obtain ⟨bl, hb, hbl, hwd⟩ := hw
  subst hwd
  have h400 := hX.2.1
  have loop : ∀ n L h1, n ≤ 8 → L ++ sp_wd bl n = sp_wd bl 8 → mo_fx h h1 mo ar em_F ew_G → ou_to h h1 mo ar X L → jw_J g 1 m_M_emitWord jw_T0 3 [some (.inr (.inr (some mo))), some (.inr (.inl w)), none, some (.inl (nI (8 * n) - 8))] [] h1 0 0 Q := by
    intro n
    induction n with
    | zero =>
      intro L h1 hn hL f1 x1
      rw [sp_wd, List.append_nil] at hL
      refine jw_iload_n rfl rfl ?_
      refine jw_if_lt 37 rfl rfl (fun _ => ?_) (fun z => absurd (by decide) z)
      refine jw_return rfl rfl ?_
      exact hq h1 f1 (by rw [← hL]; exact x1)
    | succ n ih =>
      intro L h1 hn hL f1 x1
      have hm1 := mo_fx.ok f1 hm
      have ei : nI (8 * (n + 1)) - 8 = nI (8 * n) := by
        have : nI (8 * (n + 1)) - nI 8 = nI (8 * (n + 1) - 8) := pk_sub (by omega)
        rw [show (8 : Int32) = nI 8 from rfl, this]; congr 1
      rw [ei]
      have hbn := hbl n (by omega)
      have hback : ∀ L' h2, L' ++ sp_wd bl n = sp_wd bl 8 → mo_fx h h2 mo ar em_F ew_G → ou_to h h2 mo ar X L' → jw_J g 1 m_M_emitWord jw_T0 31 [some (.inr (.inr (some mo))), some (.inr (.inl w)), none, some (.inl (nI (8 * n)))] [] h2 0 0 Q := by
        intro L' h2 hL' f2 x2
        refine js_iinc rfl rfl (show nI (8 * n) + Int32.ofInt (-8) = nI (8 * n) - 8 from by rw [Int32.sub_eq_add_neg]; rfl) rfl (by decide) rfl ?_
        refine jw_goto 3 rfl rfl ?_
        exact ih L' h2 (by omega) hL' f2 x2
      rw [sp_wd] at hL
      refine jw_iload_n rfl rfl ?_
      refine jw_if_lt 37 rfl rfl (fun z => absurd z (nI_pos (by omega))) (fun _ => ?_)
      refine jw_lload_n rfl rfl ?_
      refine jw_iload_n rfl rfl ?_
      refine jw_lshr rfl ?_
      refine jw_ldc2 rfl q_M_192 ?_
      refine jw_land rfl ?_
      refine jw_lconst rfl ?_
      refine jw_lcmp rfl ?_
      refine jw_if_eq 31 rfl rfl (fun z => ?_) (fun z => ?_)
      · have h0 : bl.getD n 0 = 0 := hbn.1.mp ((lg_cmp_eq _ _).mp z)
        rw [if_pos h0] at hL
        exact hback L h1 hL f1 x1
      · have h0 : bl.getD n 0 ≠ 0 := fun e => z ((lg_cmp_eq _ _).mpr (hbn.1.mpr e))
        rw [if_neg h0] at hL
        refine jw_aload_n rfl rfl ?_
        refine jw_lload_n rfl rfl ?_
        refine jw_iload_n rfl rfl ?_
        refine jw_lshr rfl ?_
        refine jw_ldc2 rfl q_M_192 ?_
        refine jw_land rfl ?_
        refine jw_l2i rfl ?_
        rw [hb n (by omega)]
        have hL2 : (L ++ [bl.getD n 0]) ++ sp_wd bl n = sp_wd bl 8 := by rw [List.append_assoc]; exact hL
        have elen : (L ++ [bl.getD n 0]).length = L.length + 1 := by rw [List.length_append]; rfl
        by_cases hfit : X.length + L.length ≤ 400
        · obtain ⟨y1, y2⟩ := x1.1 hfit
          refine js_call (As := [.inl (nI (bl.getD n 0))]) rfl l_M_emit c_M_349 i_M_emit s_M_emit jc_o8 rfl hm1.1 rfl (cm_emit hg hm1 y1 hbn.2 (fun hl => ?_) (fun hl h2 f2 y3 => ?_)) (by decide) (Nat.le_of_ble_eq_true rfl) (by omega) (by omega) rfl
          · rw [List.length_append] at hl
            refine hback _ _ hL2 (mo_fx.si f1 (Or.inr rfl)) ⟨fun z => absurd z (by rw [elen]; omega), fun _ => ⟨jh_u_s _ _ _ _, X ++ L, by rw [List.length_append]; exact hl, (jh_u_k _ _ _ _ (by decide)).trans y1.1, y1.2⟩⟩
          · rw [List.length_append] at hl
            refine hback _ _ hL2 (mo_fx.tr f1 f2 (fun _ _ z => z) (fun _ z => Or.inl z)) ⟨fun _ => ⟨by rw [← List.append_assoc]; exact y3, (mo_fx.rdi f2 (by unfold em_G; decide)).trans y2⟩, fun z => absurd z (by rw [elen]; omega)⟩
        · obtain ⟨y1, Y, y2, y3⟩ := x1.2 (by omega)
          refine js_call (As := [.inl (nI (bl.getD n 0))]) rfl l_M_emit c_M_349 i_M_emit s_M_emit jc_o8 rfl hm1.1 rfl (cm_emit hg hm1 y3 hbn.2 (fun hl => ?_) (fun hl => absurd hl (by omega))) (by decide) (Nat.le_of_ble_eq_true rfl) (by omega) (by omega) rfl
          refine hback _ _ hL2 (mo_fx.si f1 (Or.inr rfl)) ⟨fun z => absurd z (by rw [elen]; omega), fun _ => ⟨jh_u_s _ _ _ _, Y, y2, (jh_u_k _ _ _ _ (by decide)).trans y3.1, y3.2⟩⟩
  refine js_bipush (x := 56) rfl rfl ?_
  refine js_istore_n rfl rfl (by decide) rfl ?_
  refine loop 8 [] h (Nat.le_refl _) rfl mo_fx.rf ⟨fun _ => ⟨by rw [List.append_nil]; exact hX, rfl⟩, fun z => absurd z (by simpa using h400)⟩
/-- what is shown of a character -/
def es_1 (c : Nat) : List Nat := if c = 38 then [38, 97, 109, 112, 59] else if c = 60 then [38, 108, 116, 59] else if c = 62 then [38, 103, 116, 59] else if c = 34 then [38, 113, 117, 111, 116, 59] else [c]
def es_L (plain : Bool) (X : List Nat) : List Nat := if plain then X else X.flatMap es_1
def es_c (plain : Bool) (c : Nat) : List Nat := if plain then [c] else es_1 c
theorem es_L_take {plain : Bool} {X : List Nat} {k : Nat} (h : k < X.length) : es_L plain (X.take (k + 1)) = es_L plain (X.take k) ++ es_c plain (X.getD k 0) := by
  have e : X.take (k + 1) = X.take k ++ [X.getD k 0] := by
    rw [List.take_add_one, List.getElem?_eq_getElem h, List.getD_eq_getElem?_getD, List.getElem?_eq_getElem h]; rfl
  rw [e]
  cases plain with
  | true => rfl
  | false =>
    show List.flatMap es_1 (X.take k ++ [X.getD k 0]) = List.flatMap es_1 (X.take k) ++ es_1 (X.getD k 0)
    rw [List.flatMap_append]; simp
theorem es_le {plain : Bool} {X : List Nat} : ∀ k, k ≤ X.length → (es_L plain (X.take k)).length ≤ (es_L plain X).length := by
  intro k hk
  have e : X = X.take k ++ X.drop k := (List.take_append_drop k X).symm
  cases plain with
  | true => show (X.take k).length ≤ X.length; rw [List.length_take]; omega
  | false =>
    show (List.flatMap es_1 (X.take k)).length ≤ (List.flatMap es_1 X).length
    conv => rhs; rw [e]
    rw [List.flatMap_append, List.length_append]; omega
def sh_F (k j : Nat) : Prop := rd_F k j ∨ em_F k j
def sh_G (k : Nat) : Prop := sr_G k ∨ ew_G k
set_option maxHeartbeats 4000000 in
set_option maxRecDepth 100000 in
theorem cm_show {g : jg_G} (hg : (jg_l g).stackTraces = false) {h : jh_H} {mo : Nat} {ar : Nat → Nat} {n : Nat} {D : sd_D} {v : sv_T} {O : List Nat} {plain : Bool} {Q : jw_O → jh_H → Prop} (hm : mo_ok h mo ar) (hD : mo_D h ar n D) (hdp : ∀ x, x < n → sd_dp D 60 x) (hv : mo_R h ar n D 2 v) (hO : ou_ok h mo ar O) (hf0 : jh_i h mo 550 = 0)
    (hq : ∀ h', mo_fx h h' mo ar sh_F sh_G → ((sv_raw D v).length ≤ 400 ∧ O.length + (es_L plain (sv_raw D v)).length ≤ 400 → jh_i h' mo 550 = 0 ∧ ou_ok h' mo ar (O ++ es_L plain (sv_raw D v))) → (¬ ((sv_raw D v).length ≤ 400 ∧ O.length + (es_L plain (sv_raw D v)).length ≤ 400) → jh_i h' mo 550 = 4) → Q (.inl none) h') : jw_C g 4 0 0 m_M_show [.inr (.inr (some mo)), .inl (sp_b plain)] h Q := by
  refine jw_intro (ls := [some (.inr (.inr (some mo))), some (.inl (sp_b plain)), none, none]) (by decide) k_M_show rfl (by simp [lo_fit, jv_c]) hg ?_
  generalize hX : sv_raw D v = X at hq
  have h400 := hO.2.1
  refine jw_aload_n rfl rfl ?_
  refine js_iconst (x := 2) rfl rfl ?_
  refine js_call (As := [.inl (nI 2)]) rfl l_M_showRaw c_M_304 i_M_showRaw s_M_showRaw jc_o8 rfl hm.1 rfl (cm_showRaw hg hm hD hdp (by decide) hv (fun h1 f1 x1 e1 => ?_)) (by decide) (Nat.le_of_ble_eq_true rfl) (by omega) (by omega) rfl
  rw [hX] at x1 e1
  rw [hf0] at e1
  have hm1 := mo_fx.ok f1 hm
  have F1 : mo_fx h h1 mo ar sh_F sh_G := mo_fx.mono f1 (fun _ _ z => Or.inl z) (fun _ z => Or.inl z)
  by_cases h4 : 400 < X.length
  · rw [if_pos h4] at e1
    have emin : min X.length 401 = 401 := by omega
    refine js_iconst (x := 0) rfl rfl ?_
    refine js_istore_n rfl rfl (by decide) rfl ?_
    refine jw_iload_n rfl rfl ?_
    refine jw_aload_n rfl rfl ?_
    refine jw_gi rfl g_M_113 hm1.1 (x1.1) ?_
    refine jw_icmp_ge 114 rfl rfl (fun z => absurd z (fun z => absurd ((nI_leI (b := 0) (by omega) (by omega)).mp z) (by omega))) (fun _ => ?_)
    refine jw_aload_n rfl rfl ?_
    refine jw_gi rfl g_M_128 hm1.1 (e1) ?_
    refine jw_if_ne 114 rfl rfl (fun _ => ?_) (fun z => absurd z (by decide))
    refine jw_return rfl rfl ?_
    exact hq h1 F1 (fun z => absurd z.1 (by omega)) (fun _ => e1)
  rw [if_neg h4] at e1
  have x1 : jh_i h1 mo 545 = nI X.length ∧ ∀ j, j < X.length → jh_I h1 (ar 542) j = nI (X.getD j 0) ∧ X.getD j 0 < 128 := by
    have := x1; rw [rw_ok, show min X.length 401 = X.length by omega] at this; exact this
  have O1 : ou_ok h1 mo ar O := ⟨(mo_fx.rdi f1 (by unfold sr_G rd_G; decide)).trans hO.1, hO.2.1, fun j hj => ⟨(mo_fx.rd hm f1 24 rfl (fun k z => ⟨by rcases z with rfl | rfl | rfl <;> decide, (rd_F_in (j := j) z).2⟩)).trans (hO.2.2 j hj).1, (hO.2.2 j hj).2⟩⟩
  have loop : ∀ k j h2, j + k = X.length → mo_fx h1 h2 mo ar em_F ew_G → ou_to h1 h2 mo ar O (es_L plain (X.take j)) → ∀ a, jw_J g 4 m_M_show jw_T0 7 [some (.inr (.inr (some mo))), some (.inl (sp_b plain)), some (.inl (nI j)), a] [] h2 0 0 Q := by
    intro k
    induction k with
    | zero =>
      intro j h2 hj f2 y2 a
      have hm2 := mo_fx.ok f2 hm1
      have s2 : jh_i h2 mo 545 = nI X.length := (mo_fx.rdi f2 (by unfold ew_G; decide)).trans x1.1
      rw [List.take_of_length_le (by omega)] at y2
      refine jw_iload_n rfl rfl ?_
      refine jw_aload_n rfl rfl ?_
      refine jw_gi rfl g_M_113 hm2.1 (s2) ?_
      refine jw_icmp_ge 114 rfl rfl (fun _ => ?_) (fun z => absurd ((nI_leI (by omega) (by omega)).mpr (by omega)) z)
      refine jw_return rfl rfl ?_
      refine hq h2 (mo_fx.tr F1 f2 (fun _ _ z => Or.inr z) (fun _ z => Or.inr z)) (fun z => ?_) (fun z => ?_)
      · have := y2.1 z.2; exact ⟨this.2.trans e1, this.1⟩
      · exact (y2.2 (by omega)).1
    | succ k ih =>
      intro j h2 hj f2 y2 a
      have hm2 := mo_fx.ok f2 hm1
      have s2 : jh_i h2 mo 545 = nI X.length := (mo_fx.rdi f2 (by unfold ew_G; decide)).trans x1.1
      have hx := x1.2 j (by omega)
      have hx2 : jh_I h2 (ar 542) j = nI (X.getD j 0) := (mo_fx.rd hm1 f2 23 rfl (fun k z => ⟨by rw [show k = 543 from z]; decide, em_F_in (j := j) z⟩)).trans hx.1
      have hle := es_le (plain := plain) (X := X) j (by omega)
      by_cases hfit : O.length + (es_L plain (X.take j)).length ≤ 400
      rotate_left
      · have hf4 := (y2.2 (by omega)).1
        refine jw_iload_n rfl rfl ?_
        refine jw_aload_n rfl rfl ?_
        refine jw_gi rfl g_M_113 hm2.1 (s2) ?_
        refine jw_icmp_ge 114 rfl rfl (fun z => absurd z (fun z => absurd ((nI_leI (by omega) (by omega)).mp z) (by omega))) (fun _ => ?_)
        refine jw_aload_n rfl rfl ?_
        refine jw_gi rfl g_M_128 hm2.1 (hf4) ?_
        refine jw_if_ne 114 rfl rfl (fun _ => ?_) (fun z => absurd z (by decide))
        refine jw_return rfl rfl ?_
        refine hq h2 (mo_fx.tr F1 f2 (fun _ _ z => Or.inr z) (fun _ z => Or.inr z)) (fun z => absurd z.2 (by omega)) (fun _ => hf4)
      obtain ⟨w1, w2⟩ := y2.1 hfit
      have e2 : jh_i h2 mo 550 = 0 := w2.trans e1
      refine jw_iload_n rfl rfl ?_
      refine jw_aload_n rfl rfl ?_
      refine jw_gi rfl g_M_113 hm2.1 (s2) ?_
      refine jw_icmp_ge 114 rfl rfl (fun z => absurd z (fun z => absurd ((nI_leI (by omega) (by omega)).mp z) (by omega))) (fun _ => ?_)
      refine jw_aload_n rfl rfl ?_
      refine jw_gi rfl g_M_128 hm2.1 (e2) ?_
      refine jw_if_ne 114 rfl rfl (fun z => absurd (rfl) z) (fun _ => ?_)
      refine jw_aload_n rfl rfl ?_
      refine jw_gr rfl g_M_104 hm2.1 (mo_r hm2 23 rfl) ?_
      refine jw_iload_n rfl rfl ?_
      refine js_caldV (j) rfl (mo_a hm2 23 rfl) (by decide) (by rfl) rfl (by omega) (by decide) (hx2) ?_
      refine js_istore_n rfl rfl (by decide) rfl ?_
      have etk := es_L_take (plain := plain) (X := X) (k := j) (by omega)
      generalize hc : X.getD j 0 = c at *
      -- behind the character
      have next : ∀ h3, mo_fx h2 h3 mo ar em_F ew_G → ou_to h2 h3 mo ar (O ++ es_L plain (X.take j)) (es_c plain c) → jw_J g 4 m_M_show jw_T0 108 [some (.inr (.inr (some mo))), some (.inl (sp_b plain)), some (.inl (nI j)), some (.inl (nI c))] [] h3 0 0 Q := by
        intro h3 f3 y3
        refine js_iinc rfl rfl (nI_1 j) rfl (by decide) rfl ?_
        refine jw_goto 7 rfl rfl ?_
        refine ih (j + 1) h3 (by omega) (mo_fx.tr f2 f3 (fun _ _ z => z) (fun _ z => z)) ?_ _
        rw [etk]
        rw [ou_to, List.length_append] at y3
        rw [ou_to, List.length_append]
        refine ⟨fun z => ?_, fun z => y3.2 (by omega)⟩
        have := y3.1 (by omega)
        rw [← List.append_assoc]
        exact ⟨this.1, this.2.trans w2⟩
      have at57 : es_c plain c = [c] → jw_J g 4 m_M_show jw_T0 57 [some (.inr (.inr (some mo))), some (.inl (sp_b plain)), some (.inl (nI j)), some (.inl (nI c))] [] h2 0 0 Q := by
        intro ec
        rw [ec] at next
        refine jw_aload_n rfl rfl ?_
        refine jw_iload_n rfl rfl ?_
        refine js_call (As := [.inl (nI c)]) rfl l_M_emit c_M_349 i_M_emit s_M_emit jc_o8 rfl hm2.1 rfl (cm_emit hg hm2 w1 hx.2 (fun hl => ?_) (fun hl h3 f3 y3 => ?_)) (by decide) (Nat.le_of_ble_eq_true rfl) (by omega) (by omega) rfl
        · refine jw_goto 108 rfl rfl ?_
          exact next _ (mo_fx.si mo_fx.rf (Or.inr rfl)) ⟨fun z => absurd z (by rw [hl]; show ¬ 400 + 1 ≤ 400; decide), fun _ => ⟨jh_u_s _ _ _ _, _, hl, (jh_u_k _ _ _ _ (by decide)).trans w1.1, w1.2⟩⟩
        · refine jw_goto 108 rfl rfl ?_
          exact next h3 (mo_fx.mono f3 (fun _ _ z => z) (fun _ z => Or.inl z)) ⟨fun _ => ⟨y3, mo_fx.rdi f3 (by unfold em_G; decide)⟩, fun z => absurd z (by show ¬ 400 < _ + 1; omega)⟩
      cases plain with
      | true =>
        refine jw_iload_n rfl rfl ?_
        refine jw_if_ne 57 rfl rfl (fun _ => ?_) (fun z => absurd z (by decide))
        exact at57 rfl
      | false =>
        have word : ∀ w, sw_ew w (es_1 c) → jw_J g 4 m_M_show jw_T0 105 [some (.inr (.inr (some mo))), some (.inl (sp_b false)), some (.inl (nI j)), some (.inl (nI c))] [.inr (.inl w), .inr (.inr (some mo))] h2 0 0 Q := by
          intro w hw
          refine js_call (As := [.inr (.inl w)]) rfl l_M_emitWord c_M_360 i_M_emitWord s_M_emitWord jc_o8 rfl hm2.1 rfl (cm_emitWord hg hw hm2 w1 (fun h3 f3 y3 => ?_)) (by decide) (Nat.le_of_ble_eq_true rfl) (by omega) (by omega) rfl
          exact next h3 f3 y3
        refine jw_iload_n rfl rfl ?_
        refine jw_if_ne 57 rfl rfl (fun z => absurd (rfl) z) (fun _ => ?_)
        refine jw_iload_n rfl rfl ?_
        refine js_bipush (x := 38) rfl rfl ?_
        by_cases c38 : c = 38
        · rw [c38] at word ⊢
          refine jw_icmp_eq 65 rfl rfl (fun _ => ?_) (fun z => absurd (rfl) z)
          refine jw_aload_n rfl rfl ?_
          refine jw_iload_n rfl rfl ?_
          refine js_bipush (x := 38) rfl rfl ?_
          refine jw_icmp_ne 78 rfl rfl (fun z => absurd (rfl) z) (fun _ => ?_)
          refine jw_ldc2 rfl q_M_352 ?_
          refine jw_goto 105 rfl rfl ?_
          exact word _ sx_352
        refine jw_icmp_eq 65 rfl rfl (fun z => absurd z (fun z => absurd ((nI_eq (b := 38) (by omega) (by omega)).mp z) c38)) (fun _ => ?_)
        refine jw_iload_n rfl rfl ?_
        refine js_bipush (x := 60) rfl rfl ?_
        by_cases c60 : c = 60
        · rw [c60] at word ⊢
          refine jw_icmp_eq 65 rfl rfl (fun _ => ?_) (fun z => absurd (rfl) z)
          refine jw_aload_n rfl rfl ?_
          refine jw_iload_n rfl rfl ?_
          refine js_bipush (x := 38) rfl rfl ?_
          refine jw_icmp_ne 78 rfl rfl (fun _ => ?_) (fun z => absurd z (by decide))
          refine jw_iload_n rfl rfl ?_
          refine js_bipush (x := 60) rfl rfl ?_
          refine jw_icmp_ne 90 rfl rfl (fun z => absurd (rfl) z) (fun _ => ?_)
          refine jw_ldc2 rfl q_M_354 ?_
          refine jw_goto 105 rfl rfl ?_
          exact word _ sx_354
        refine jw_icmp_eq 65 rfl rfl (fun z => absurd z (fun z => absurd ((nI_eq (b := 60) (by omega) (by omega)).mp z) c60)) (fun _ => ?_)
        refine jw_iload_n rfl rfl ?_
        refine js_bipush (x := 62) rfl rfl ?_
        by_cases c62 : c = 62
        · rw [c62] at word ⊢
          refine jw_icmp_eq 65 rfl rfl (fun _ => ?_) (fun z => absurd (rfl) z)
          refine jw_aload_n rfl rfl ?_
          refine jw_iload_n rfl rfl ?_
          refine js_bipush (x := 38) rfl rfl ?_
          refine jw_icmp_ne 78 rfl rfl (fun _ => ?_) (fun z => absurd z (by decide))
          refine jw_iload_n rfl rfl ?_
          refine js_bipush (x := 60) rfl rfl ?_
          refine jw_icmp_ne 90 rfl rfl (fun _ => ?_) (fun z => absurd z (by decide))
          refine jw_iload_n rfl rfl ?_
          refine js_bipush (x := 62) rfl rfl ?_
          refine jw_icmp_ne 102 rfl rfl (fun z => absurd (rfl) z) (fun _ => ?_)
          refine jw_ldc2 rfl q_M_356 ?_
          refine jw_goto 105 rfl rfl ?_
          exact word _ sx_356
        refine jw_icmp_eq 65 rfl rfl (fun z => absurd z (fun z => absurd ((nI_eq (b := 62) (by omega) (by omega)).mp z) c62)) (fun _ => ?_)
        refine jw_iload_n rfl rfl ?_
        refine js_bipush (x := 34) rfl rfl ?_
        by_cases c34 : c = 34
        · rw [c34] at word ⊢
          refine jw_icmp_eq 65 rfl rfl (fun _ => ?_) (fun z => absurd (rfl) z)
          refine jw_aload_n rfl rfl ?_
          refine jw_iload_n rfl rfl ?_
          refine js_bipush (x := 38) rfl rfl ?_
          refine jw_icmp_ne 78 rfl rfl (fun _ => ?_) (fun z => absurd z (by decide))
          refine jw_iload_n rfl rfl ?_
          refine js_bipush (x := 60) rfl rfl ?_
          refine jw_icmp_ne 90 rfl rfl (fun _ => ?_) (fun z => absurd z (by decide))
          refine jw_iload_n rfl rfl ?_
          refine js_bipush (x := 62) rfl rfl ?_
          refine jw_icmp_ne 102 rfl rfl (fun _ => ?_) (fun z => absurd z (by decide))
          refine jw_ldc2 rfl q_M_358 ?_
          exact word _ sx_358
        refine jw_icmp_eq 65 rfl rfl (fun z => absurd z (fun z => absurd ((nI_eq (b := 34) (by omega) (by omega)).mp z) c34)) (fun _ => ?_)
        exact at57 (by show es_1 c = [c]; rw [es_1, if_neg c38, if_neg c60, if_neg c62, if_neg c34])
  refine js_iconst (x := 0) rfl rfl ?_
  refine js_istore_n rfl rfl (by decide) rfl ?_
  refine loop X.length 0 h1 (by omega) mo_fx.rf ⟨fun _ => ⟨?_, rfl⟩, fun z => absurd z ?_⟩ none
  · have : es_L plain (X.take 0) = [] := by cases plain <;> rfl
    rw [this, List.append_nil]; exact O1
  · have : es_L plain (X.take 0) = [] := by cases plain <;> rfl
    rw [this]; simpa using h400

