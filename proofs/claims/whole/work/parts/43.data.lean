/-! DATA: kinds, values (a number, or how many), characters, parts, names' codes -/
abbrev sd_D : Type := (Nat → Nat) × (Nat → Int32) × (Nat → Nat → Nat) × (Nat → Nat → Nat) × (Nat → Nat → Int64)
def sd_k (D : sd_D) : Nat → Nat := D.1
def sd_v (D : sd_D) : Nat → Int32 := D.2.1
def sd_c (D : sd_D) (i : Nat) : Nat := (D.2.1 i).toNatClampNeg
def sd_t (D : sd_D) : Nat → Nat → Nat := D.2.2.1
def sd_p (D : sd_D) : Nat → Nat → Nat := D.2.2.2.1
def sd_n (D : sd_D) : Nat → Nat → Int64 := D.2.2.2.2
def mo_dl (w : Int32) (j : Nat) : Int32 := (w >>> (nI (8 * (j % 4)) &&& 31)) &&& 255
/-- the model's rows hold n DATA -/
def mo_D1 (h : jh_H) (ar : Nat → Nat) (n : Nat) (D : sd_D) (i : Nat) : Prop := jh_I h (ar 520) i = nI (sd_k D i) ∧ sd_k D i ≤ 3 ∧ jh_I h (ar 521) i = sd_v D i ∧ (sd_k D i ≠ 0 → sd_v D i = nI (sd_c D i)) ∧ (sd_k D i = 1 → sd_c D i ≤ 200 ∧ ∀ j, j < sd_c D i → mo_dl (jh_I h (ar 522) (i * 50 + j / 4)) j = nI (sd_t D i j) ∧ sd_t D i j < 128) ∧ (2 ≤ sd_k D i → sd_c D i ≤ 10 ∧ ∀ j, j < sd_c D i → jh_I h (ar 523) (i * 10 + j) = nI (sd_p D i j) ∧ sd_p D i j < n) ∧ (sd_k D i = 3 → ∀ j, j < sd_c D i → jh_G h (ar 524) (i * 10 + j) = sd_n D i j)
def mo_D (h : jh_H) (ar : Nat → Nat) (n : Nat) (D : sd_D) : Prop := n ≤ 60 ∧ ∀ i, i < n → mo_D1 h ar n D i
/-- rows of DATA aren't among what changes -/
theorem mo_D.fx {h h' h0 : jh_H} {mo : Nat} {ar : Nat → Nat} {F : Nat → Nat → Prop} {G : Nat → Prop} (hm : mo_ok h0 mo ar) (hf : mo_fx h h' mo ar F G) (hF : ∀ k j, F k j → ((k < 520 ∨ 524 < k) ∧ ∃ x ∈ mo_T, x.1 = k)) {n : Nat} {D : sd_D} (hD : mo_D h ar n D) : mo_D h' ar n D := by
  refine ⟨hD.1, fun i hi => ?_⟩
  obtain ⟨d1, d2, d3, d4, d5, d6, d7⟩ := hD.2 i hi
  have r0 : ∀ j, jh_I h' (ar 520) j = jh_I h (ar 520) j := fun j => mo_fx.rd hm hf 1 rfl (fun k hk => ⟨by have := (hF k j hk).1; omega, (hF k j hk).2⟩)
  have r1 : ∀ j, jh_I h' (ar 521) j = jh_I h (ar 521) j := fun j => mo_fx.rd hm hf 2 rfl (fun k hk => ⟨by have := (hF k j hk).1; omega, (hF k j hk).2⟩)
  have r2 : ∀ j, jh_I h' (ar 522) j = jh_I h (ar 522) j := fun j => mo_fx.rd hm hf 3 rfl (fun k hk => ⟨by have := (hF k j hk).1; omega, (hF k j hk).2⟩)
  have r3 : ∀ j, jh_I h' (ar 523) j = jh_I h (ar 523) j := fun j => mo_fx.rd hm hf 4 rfl (fun k hk => ⟨by have := (hF k j hk).1; omega, (hF k j hk).2⟩)
  refine ⟨by rw [r0]; exact d1, d2, by rw [r1]; exact d3, d4, fun z => ⟨(d5 z).1, fun j hj => by rw [r2]; exact (d5 z).2 j hj⟩, fun z => ⟨(d6 z).1, fun j hj => by rw [r3]; exact (d6 z).2 j hj⟩, fun z j hj => ?_⟩
  rw [hf.2.2.2.2.1]; exact d7 z j hj
set_option maxHeartbeats 4000000 in
set_option maxRecDepth 100000 in
theorem cm_dataLetter {g : jg_G} (hg : (jg_l g).stackTraces = false) {h : jh_H} {mo : Nat} {ar : Nat → Nat} {n x j : Nat} {D : sd_D} {Q : jw_O → jh_H → Prop} (hm : mo_ok h mo ar) (hD : mo_D h ar n D) (hx : x < n) (hk : sd_k D x = 1) (hj : j < sd_c D x) (hq : Q (.inl (some (.inl (nI (sd_t D x j))))) h) : jw_C g 0 0 0 m_M_dataLetter [.inr (.inr (some mo)), .inl (nI x), .inl (nI j)] h Q := by
  refine jw_intro (ls := [some (.inr (.inr (some mo))), some (.inl (nI x)), some (.inl (nI j))]) (by decide) k_M_dataLetter rfl (by simp [lo_fit, jv_c]) hg ?_
  have hn60 := hD.1
  obtain ⟨d1, d2, d3, d4, d5, d6, d7⟩ := hD.2 x hx
  have hc := (d5 hk).1
  have hl := ((d5 hk).2 j hj).1
  refine jw_aload_n rfl rfl ?_
  refine jw_gr rfl g_M_42 hm.1 (mo_r hm 3 rfl) ?_
  refine jw_iload_n rfl rfl ?_
  refine js_bipush (x := 50) rfl rfl ?_
  refine jw_imul rfl ?_
  refine jw_iload_n rfl rfl ?_
  refine js_iconst (x := 4) rfl rfl ?_
  refine jw_idiv rfl (by decide) ?_
  rw [show nI x * 50 = nI (x * 50) from pk_mul x 50, show nI j / 4 = nI (j / 4) from pk_div (d := 4) (by omega) (by decide) (by decide)]
  refine jw_iadd rfl ?_
  rw [nI_add]
  refine js_iald (x * 50 + j / 4) rfl (mo_a hm 3 rfl) (by decide) (by rfl)  rfl (by omega) (by decide) ?_
  refine js_bipush (x := 8) rfl rfl ?_
  refine jw_iload_n rfl rfl ?_
  refine js_iconst (x := 4) rfl rfl ?_
  refine jw_irem rfl (by decide) ?_
  rw [show nI j - nI j / 4 * 4 = nI (j % 4) from pk_rem (d := 4) (by omega) (by decide) (by decide)]
  refine jw_imul rfl ?_
  rw [show (8 : Int32) * nI (j % 4) = nI (8 * (j % 4)) from pk_mul 8 _]
  refine jw_ishr rfl ?_
  refine js_sipush (x := 255) rfl rfl ?_
  refine jw_iand rfl ?_
  rw [show (jh_I h (ar 522) (x * 50 + j / 4) >>> (nI (8 * (j % 4)) &&& 31)) &&& 255 = nI (sd_t D x j) from hl]
  refine jw_ireturn rfl rfl rfl ?_
  exact hq
/-- with commas between -/
def sd_jn (g : Nat → List Nat) : Nat → Nat → List Nat
  | 0, _ => []
  | m + 1, i => (if 0 < i then [44] else []) ++ (g i ++ sd_jn g m (i + 1))
/-- the raw text of DATA x; the fuel is the depth -/
def sd_raw (D : sd_D) : Nat → Nat → List Nat
  | 0, _ => []
  | f + 1, x => if sd_k D x = 0 then sd_num (sd_v D x) else if sd_k D x = 1 then (List.range (sd_c D x)).map (sd_t D x) else if sd_k D x = 3 then [91, 109, 97, 112, 93] else sd_jn (fun j => sd_raw D f (sd_p D x j)) (sd_c D x) 0
/-- no deeper than f -/
def sd_dp (D : sd_D) : Nat → Nat → Prop
  | 0, _ => False
  | f + 1, x => 2 ≤ sd_k D x → ∀ j, j < sd_c D x → sd_dp D f (sd_p D x j)
def rd_F (k _j : Nat) : Prop := k = 542 ∨ k = 556 ∨ k = 557
def rd_G (k : Nat) : Prop := k = 545 ∨ k = 551
theorem rd_F_in {k j : Nat} (h : rd_F k j) : (k < 520 ∨ 524 < k) ∧ ∃ x ∈ mo_T, x.1 = k := by
  rcases h with rfl | rfl | rfl
  · exact ⟨by decide, (542, 0, 401), by decide, rfl⟩
  · exact ⟨by decide, (556, 1, 60), by decide, rfl⟩
  · exact ⟨by decide, (557, 1, 60), by decide, rfl⟩
/-- what rawData does at once: all of x but a LIST's elements -/
def sd_now (D : sd_D) (x : Nat) : List Nat := if sd_k D x = 0 then sd_num (sd_v D x) else if sd_k D x = 1 then (List.range (sd_c D x)).map (sd_t D x) else if sd_k D x = 3 then [91, 109, 97, 112, 93] else []
theorem rp_rd {h h' : jh_H} {mo : Nat} {ar : Nat → Nat} (a : mo_fx h h' mo ar rp_F rp_G) : mo_fx h h' mo ar rd_F rd_G := mo_fx.mono a (fun _ _ z => Or.inl z) (fun _ z => Or.inl z)
theorem nI_ne {a b : Nat} (ha : a < 2 ^ 31) (hb : b < 2 ^ 31) (h : ¬ nI a = nI b) : a ≠ b := fun e => h (by rw [e])
set_option maxHeartbeats 4000000 in
set_option maxRecDepth 100000 in
theorem cm_rawData {g : jg_G} (hg : (jg_l g).stackTraces = false) {h : jh_H} {mo : Nat} {ar : Nat → Nat} {n x dp : Nat} {X : List Nat} {D : sd_D} {Q : jw_O → jh_H → Prop} (hm : mo_ok h mo ar) (hD : mo_D h ar n D) (hx : x < n) (hX : rw_ok h mo ar X) (hdp : jh_i h mo 551 = nI dp) (hdp60 : sd_k D x = 2 → dp < 60)
    (q1 : sd_k D x ≠ 2 → ∀ h', mo_fx h h' mo ar rp_F rp_G → rw_ok h' mo ar (X ++ sd_now D x) → Q (.inl none) h') (q2 : sd_k D x = 2 → Q (.inl none) (jh_si (jh_sI (jh_sI h (ar 556) dp (nI x)) (ar 557) dp 0) mo 551 (nI (dp + 1)))) : jw_C g 2 0 0 m_M_rawData [.inr (.inr (some mo)), .inl (nI x)] h Q := by
  refine jw_intro (ls := [some (.inr (.inr (some mo))), some (.inl (nI x)), none]) (by decide) k_M_rawData rfl (by simp [lo_fit, jv_c]) hg ?_
  have hn60 := hD.1
  obtain ⟨d1, d2, d3, d4, d5, d6, d7⟩ := hD.2 x hx
  rw [sd_now] at q1
  have kind : ∀ h', mo_fx h h' mo ar rp_F rp_G → jh_I h' (ar 520) x = nI (sd_k D x) := fun h' hf => ((mo_D.fx hm hf (fun k j z => rd_F_in (j := j) (Or.inl z)) hD).2 x hx).1
  -- the ends
  have at71 : ∀ h' y, mo_fx h h' mo ar rp_F rp_G → sd_k D x ≠ 2 → Q (.inl none) h' → jw_J g 2 m_M_rawData jw_T0 71 [some (.inr (.inr (some mo))), some (.inl (nI x)), y] [] h' 0 0 Q := by
    intro h' y hf hk hq
    have hm' := mo_fx.ok hf hm
    refine jw_aload_n rfl rfl ?_
    refine jw_gr rfl g_M_35 hm'.1 (mo_r hm' 1 rfl) ?_
    refine jw_iload_n rfl rfl ?_
    refine js_iald (x) rfl (mo_a hm' 1 rfl) (by decide) (by rfl)  rfl (by omega) (by decide) ?_
    rw [kind h' hf]
    refine js_iconst (x := 2) rfl rfl ?_
    refine jw_icmp_eq 82 rfl rfl (fun z => absurd ((nI_eq (b := 2) (by omega) (by omega)).mp z) hk) (fun _ => ?_)
    refine jw_return rfl rfl ?_
    exact hq
  have at57 : ∀ h' y, mo_fx h h' mo ar rp_F rp_G → sd_k D x ≠ 3 → sd_k D x ≠ 2 → Q (.inl none) h' → jw_J g 2 m_M_rawData jw_T0 57 [some (.inr (.inr (some mo))), some (.inl (nI x)), y] [] h' 0 0 Q := by
    intro h' y hf hk3 hk hq
    have hm' := mo_fx.ok hf hm
    refine jw_aload_n rfl rfl ?_
    refine jw_gr rfl g_M_35 hm'.1 (mo_r hm' 1 rfl) ?_
    refine jw_iload_n rfl rfl ?_
    refine js_iald (x) rfl (mo_a hm' 1 rfl) (by decide) (by rfl)  rfl (by omega) (by decide) ?_
    rw [kind h' hf]
    refine js_iconst (x := 3) rfl rfl ?_
    refine jw_icmp_ne 71 rfl rfl (fun _ => ?_) (fun z => absurd ((nI_eq (b := 3) (by omega) (by omega)).mp z) hk3)
    exact at71 h' y hf hk hq
  have at19 : ∀ h', mo_fx h h' mo ar rp_F rp_G → sd_k D x ≠ 1 → jw_J g 2 m_M_rawData jw_T0 57 [some (.inr (.inr (some mo))), some (.inl (nI x)), none] [] h' 0 0 Q → jw_J g 2 m_M_rawData jw_T0 19 [some (.inr (.inr (some mo))), some (.inl (nI x)), none] [] h' 0 0 Q := by
    intro h' hf hk1 kk
    have hm' := mo_fx.ok hf hm
    refine jw_aload_n rfl rfl ?_
    refine jw_gr rfl g_M_35 hm'.1 (mo_r hm' 1 rfl) ?_
    refine jw_iload_n rfl rfl ?_
    refine js_iald (x) rfl (mo_a hm' 1 rfl) (by decide) (by rfl)  rfl (by omega) (by decide) ?_
    rw [kind h' hf]
    refine js_iconst (x := 1) rfl rfl ?_
    refine jw_icmp_ne 57 rfl rfl (fun _ => kk) (fun z => absurd ((nI_eq (b := 1) (by omega) (by omega)).mp z) hk1)
  refine jw_aload_n rfl rfl ?_
  refine jw_gr rfl g_M_35 hm.1 (mo_r hm 1 rfl) ?_
  refine jw_iload_n rfl rfl ?_
  refine js_iald (x) rfl (mo_a hm 1 rfl) (by decide) (by rfl)  rfl (by omega) (by decide) ?_
  rw [d1]
  refine jw_if_ne 19 rfl rfl (fun z => ?_) (fun z => ?_)
  rotate_left
  · have h0 : sd_k D x = 0 := (nI_eq (b := 0) (by omega) (by omega)).mp z
    refine jw_aload_n rfl rfl ?_
    refine jw_aload_n rfl rfl ?_
    refine jw_gr rfl g_M_39 hm.1 (mo_r hm 2 rfl) ?_
    refine jw_iload_n rfl rfl ?_
    refine js_iald (x) rfl (mo_a hm 2 rfl) (by decide) (by rfl)  rfl (by omega) (by decide) ?_
    rw [d3]
    refine js_call (As := [.inl (sd_v D x)]) rfl l_M_rawNumber c_M_295 i_M_rawNumber s_M_rawNumber jc_o8 rfl hm.1 rfl (cm_rawNumber hg hm hX (fun h' f' x' => ?_)) (by decide) (Nat.le_of_ble_eq_true rfl) (by omega) (by omega) rfl
    refine at19 h' f' (by omega) (at57 h' none f' (by omega) (by omega) (q1 (by omega) h' f' ?_))
    rw [if_pos h0]; exact x'
  have h0 : sd_k D x ≠ 0 := fun e => z (by rw [e]; rfl)
  have d4 := d4 h0
  rcases (show sd_k D x = 1 ∨ sd_k D x = 2 ∨ sd_k D x = 3 by omega) with h1 | h1 | h1
  · -- a TEXT
    have hc := (d5 h1).1
    refine jw_aload_n rfl rfl ?_
    refine jw_gr rfl g_M_35 hm.1 (mo_r hm 1 rfl) ?_
    refine jw_iload_n rfl rfl ?_
    refine js_iald (x) rfl (mo_a hm 1 rfl) (by decide) (by rfl)  rfl (by omega) (by decide) ?_
    rw [d1]
    refine js_iconst (x := 1) rfl rfl ?_
    refine jw_icmp_ne 57 rfl rfl (fun z => absurd (by rw [h1]; rfl) z) (fun _ => ?_)
    have loop : ∀ m j h', j + m = sd_c D x → mo_fx h h' mo ar rp_F rp_G → rw_ok h' mo ar (X ++ (List.range j).map (sd_t D x)) → jw_J g 2 m_M_rawData jw_T0 31 [some (.inr (.inr (some mo))), some (.inl (nI x)), some (.inl (nI j))] [] h' 0 0 Q := by
      intro m
      induction m with
      | zero =>
        intro j h' hj hf hx'
        have hm' := mo_fx.ok hf hm
        have hD' := mo_D.fx hm hf (fun k j z => rd_F_in (j := j) (Or.inl z)) hD
        have ev : jh_I h' (ar 521) x = nI (sd_c D x) := by rw [(hD'.2 x hx).2.2.1, d4]
        refine jw_iload_n rfl rfl ?_
        refine jw_aload_n rfl rfl ?_
        refine jw_gr rfl g_M_39 hm'.1 (mo_r hm' 2 rfl) ?_
        refine jw_iload_n rfl rfl ?_
        refine js_iald (x) rfl (mo_a hm' 2 rfl) (by decide) (by rfl)  rfl (by omega) (by decide) ?_
        rw [ev]
        refine jw_icmp_ge 57 rfl rfl (fun _ => ?_) (fun z => absurd ((nI_leI (by omega) (by omega)).mpr (by omega)) z)
        refine at57 h' _ hf (by omega) (by omega) (q1 (by omega) h' hf ?_)
        rw [if_neg h0, if_pos h1, ← show j = sd_c D x by omega]; exact hx'
      | succ m ih =>
        intro j h' hj hf hx'
        have hm' := mo_fx.ok hf hm
        have hD' := mo_D.fx hm hf (fun k j z => rd_F_in (j := j) (Or.inl z)) hD
        have ev : jh_I h' (ar 521) x = nI (sd_c D x) := by rw [(hD'.2 x hx).2.2.1, d4]
        have ht := ((d5 h1).2 j (by omega)).2
        refine jw_iload_n rfl rfl ?_
        refine jw_aload_n rfl rfl ?_
        refine jw_gr rfl g_M_39 hm'.1 (mo_r hm' 2 rfl) ?_
        refine jw_iload_n rfl rfl ?_
        refine js_iald (x) rfl (mo_a hm' 2 rfl) (by decide) (by rfl)  rfl (by omega) (by decide) ?_
        rw [ev]
        refine jw_icmp_ge 57 rfl rfl (fun z => absurd ((nI_leI (by omega) (by omega)).mp z) (by omega)) (fun _ => ?_)
        refine jw_aload_n rfl rfl ?_
        refine jw_aload_n rfl rfl ?_
        refine jw_iload_n rfl rfl ?_
        refine jw_iload_n rfl rfl ?_
        refine js_call (As := [.inl (nI x), .inl (nI j)]) rfl l_M_dataLetter c_M_282 i_M_dataLetter s_M_dataLetter jc_o8 rfl (hm'.1) rfl (cm_dataLetter hg hm' hD' hx h1 (by omega) ?_) (by decide) (Nat.le_of_ble_eq_true rfl) (by omega) (by omega) rfl
        refine js_call (As := [.inl (nI (sd_t D x j))]) rfl l_M_rawPut c_M_285 i_M_rawPut s_M_rawPut jc_o8 rfl hm'.1 rfl (cm_rawPut hg hm' ht hx' (fun h2 f2 x2 => ?_)) (by decide) (Nat.le_of_ble_eq_true rfl) (by omega) (by omega) rfl
        refine js_iinc rfl rfl (nI_1 j) rfl (by decide) rfl ?_
        refine jw_goto 31 rfl rfl ?_
        refine ih (j + 1) h2 (by omega) (mo_fx.tr hf f2 (fun _ _ z => z) (fun _ z => z)) ?_
        rw [List.range_succ, List.map_append, ← List.append_assoc]
        exact x2
    refine js_iconst (x := 0) rfl rfl ?_
    refine js_istore_n rfl rfl (by decide) rfl ?_
    exact loop (sd_c D x) 0 h (by omega) mo_fx.rf (by simpa using hX)
  · -- a LIST
    refine at19 h mo_fx.rf (by omega) ?_
    have hd60 := hdp60 h1
    refine jw_aload_n rfl rfl ?_
    refine jw_gr rfl g_M_35 hm.1 (mo_r hm 1 rfl) ?_
    refine jw_iload_n rfl rfl ?_
    refine js_iald (x) rfl (mo_a hm 1 rfl) (by decide) (by rfl)  rfl (by omega) (by decide) ?_
    rw [d1, h1]
    refine js_iconst (x := 3) rfl rfl ?_
    refine jw_icmp_ne 71 rfl rfl (fun _ => ?_) (fun z => absurd z (by decide))
    refine jw_aload_n rfl rfl ?_
    refine jw_gr rfl g_M_35 hm.1 (mo_r hm 1 rfl) ?_
    refine jw_iload_n rfl rfl ?_
    refine js_iald (x) rfl (mo_a hm 1 rfl) (by decide) (by rfl)  rfl (by omega) (by decide) ?_
    rw [d1, h1]
    refine js_iconst (x := 2) rfl rfl ?_
    refine jw_icmp_eq 82 rfl rfl (fun _ => ?_) (fun z => absurd rfl z)
    refine jw_aload_n rfl rfl ?_
    refine jw_gr rfl g_M_146 hm.1 (mo_r hm 30 rfl) ?_
    refine jw_aload_n rfl rfl ?_
    refine jw_gi rfl g_M_131 hm.1 hdp ?_
    refine jw_iload_n rfl rfl ?_
    refine js_iast (dp) rfl (mo_a hm 30 rfl) (by decide) (by rfl)  rfl (by omega) (by decide) ?_
    refine jw_aload_n rfl rfl ?_
    refine jw_gr rfl g_M_149 (mo_sI hm).1 (mo_r (mo_sI hm) 31 rfl) ?_
    refine jw_aload_n rfl rfl ?_
    refine jw_gi rfl g_M_131 (mo_sI hm).1 hdp ?_
    refine js_iconst (x := 0) rfl rfl ?_
    refine js_iast (dp) rfl (mo_a (mo_sI hm) 31 rfl) (by decide) (by rfl)  rfl (by omega) (by decide) ?_
    refine jw_aload_n rfl rfl ?_
    refine jw_dup rfl rfl ?_
    refine jw_gi rfl g_M_131 (mo_sI (mo_sI hm)).1 hdp ?_
    refine js_iconst (x := 1) rfl rfl ?_
    refine jw_iadd rfl ?_
    rw [show nI dp + 1 = nI (dp + 1) from nI_1 dp]
    refine jw_pi rfl p_M_rawData_131 (mo_sI (mo_sI hm)).1 ?_
    refine jw_return rfl rfl ?_
    exact q2 h1
  · -- a MAP
    refine at19 h mo_fx.rf (by omega) ?_
    refine jw_aload_n rfl rfl ?_
    refine jw_gr rfl g_M_35 hm.1 (mo_r hm 1 rfl) ?_
    refine jw_iload_n rfl rfl ?_
    refine js_iald (x) rfl (mo_a hm 1 rfl) (by decide) (by rfl)  rfl (by omega) (by decide) ?_
    rw [d1, h1]
    refine js_iconst (x := 3) rfl rfl ?_
    refine jw_icmp_ne 71 rfl rfl (fun z => absurd rfl z) (fun _ => ?_)
    refine jw_aload_n rfl rfl ?_
    refine js_call (As := []) rfl l_M_rawMap c_M_298 i_M_rawMap s_M_rawMap jc_o8 rfl hm.1 rfl (cm_rawMap hg hm hX (fun h' f' x' => ?_)) (by decide) (Nat.le_of_ble_eq_true rfl) (by omega) (by omega) rfl
    refine at71 h' none f' (by omega) (q1 (by omega) h' f' ?_)
    rw [if_neg h0, if_neg (by omega), if_pos h1]; exact x'

