/-! VALUES: how long, shown raw -/
set_option maxHeartbeats 4000000 in
set_option maxRecDepth 100000 in
theorem cv_measure {g : jg_G} (hg : (jg_l g).stackTraces = false) {d mc ms : Nat} {h : jh_H} {n : Nat} {D : sd_D} {E : cd_E} {P P' : Nat → Prop} {a : Nat} {v : sv_T} {Q : jw_O → jh_H → Prop} (hc : cd_ok h n D E P) (hv : vl_is h n D E P' (some a) v) (hq : Q (.inl (some (.inl (nI (sv_len D v))))) h) : jw_C g d mc ms m_V_measure [.inr (.inr (some a))] h Q := by
  refine jw_intro (ls := [some (.inr (.inr (some a))), none, none]) (by decide) k_V_measure rfl (by simp [lo_fit, jv_c]) hg ?_
  rcases v with _ | v | L | x
  · cases hv
  · obtain ⟨a', e, -, hn⟩ := hv
    cases e
    obtain ⟨ev, hA2⟩ := sg_of v
    have hA := sd_abs_le v
    have elen : sv_len D (some (.inl v)) = (if v < 0 then 2 else 1) + sd_m 10 (sd_abs v) := by
      show (sd_num v).length = _
      rw [sd_num]
      by_cases c : v < 0
      · rw [if_pos c, if_pos c, List.length_cons, sd_nat, sd_u_len]; omega
      · rw [if_neg c, if_neg c, sd_nat, sd_u_len]; omega
    rw [elen] at hq
    clear elen
    generalize hAe : sd_abs v = A at *
    generalize hs : decide (v < 0) = s at *
    have unit : ∀ f i w, i + f = 10 → i ≤ 9 → 10 ^ i ≤ max A 1 → Q (.inl (some (.inl (nI (w + sd_m f (A / 10 ^ i)))))) h → jw_J g d m_V_measure jw_T0 49 [some (.inr (.inr (some a))), some (.inl (nI w)), some (.inl (sgI s (A / 10 ^ (i + 1))))] [] h mc ms Q := by
      intro f
      induction f with
      | zero => intro i w hi; omega
      | succ f ih =>
        intro i w hi hi9 hle go
        have p2 : 10 ^ (i + 1) = 10 ^ i * 10 := Nat.pow_succ _ _
        have p0 : 0 < 10 ^ i := Nat.pow_pos (by decide)
        have hqq : A / 10 ^ (i + 1) = A / 10 ^ i / 10 := by rw [p2, Nat.div_div_eq_div_mul]
        have hdv : A / 10 ^ (i + 1) < 2147483648 := by
          have : A / 10 ^ (i + 1) ≤ A / 10 := Nat.div_le_div_left (by omega) (by decide)
          omega
        rw [sd_m] at go
        refine jw_iload_n rfl rfl ?_
        by_cases c : A / 10 ^ i < 10
        · rw [if_pos c, Nat.add_zero] at go
          refine jw_if_eq 64 rfl rfl (fun _ => ?_) (fun z => absurd ((sg_ne0 hdv).mpr (by rw [hqq]; exact Nat.div_eq_of_lt c)) z)
          refine jw_iload_n rfl rfl ?_
          refine jw_ireturn rfl rfl rfl ?_
          exact go
        · rw [if_neg c] at go
          have hne : ¬ A / 10 ^ (i + 1) = 0 := by rw [hqq]; exact Nat.pos_iff_ne_zero.mp (Nat.div_pos (Nat.not_lt.mp c) (by decide))
          have hge : 10 ^ (i + 1) ≤ A := by
            rcases Nat.lt_or_ge A (10 ^ (i + 1)) with q | q
            · exact absurd (Nat.div_eq_of_lt q) hne
            · exact q
          have hi8 : i + 1 ≤ 9 := by
            rcases Nat.lt_or_ge i 9 with q | q
            · omega
            · have : i = 9 := by omega
              subst this
              omega
          have e3 : sgI s (A / 10 ^ (i + 1)) / 10 = sgI s (A / 10 ^ (i + 2)) := (sg_div (u := 10) (by omega) (fun _ => hdv) (by decide) (by decide) (by omega)).trans (by rw [show 10 ^ (i + 2) = 10 ^ (i + 1) * 10 from Nat.pow_succ _ _, Nat.div_div_eq_div_mul])
          refine jw_if_eq 64 rfl rfl (fun z => absurd z (fun z => hne ((sg_ne0 hdv).mp z))) (fun _ => ?_)
          refine js_iinc rfl rfl (nI_1 w) rfl (by decide) rfl ?_
          refine jw_iload_n rfl rfl ?_
          refine js_bipush (x := 10) rfl rfl ?_
          refine jw_idivV rfl (by decide) (e3) ?_
          refine js_istore_n rfl rfl (by decide) rfl ?_
          refine jw_goto 49 rfl rfl ?_
          refine ih (i + 1) (w + 1) (by omega) hi8 (by omega) ?_
          rw [hqq, show w + 1 + sd_m f (A / 10 ^ i / 10) = w + (sd_m f (A / 10 ^ i / 10) + 1) by omega]
          exact go
    have e0 : v / 10 = sgI s (A / 10 ^ (0 + 1)) := by rw [ev]; exact sg_div (u := 10) hA hA2 (by decide) (by decide) (by omega)
    refine jw_aload_n rfl rfl ?_
    refine jw_gi rfl g_V_12 (hn.1) (hn.2.1) ?_
    refine js_iconst (x := 1) rfl rfl ?_
    refine jw_icmp_ne 16 rfl rfl (fun _ => ?_) (fun z => absurd z (by decide))
    refine jw_aload_n rfl rfl ?_
    refine jw_gi rfl g_V_12 (hn.1) (hn.2.1) ?_
    refine jw_if_eq 28 rfl rfl (fun _ => ?_) (fun z => absurd (rfl) z)
    refine jw_aload_n rfl rfl ?_
    refine jw_gi rfl g_V_16 (hn.1) (hn.2.2.1) ?_
    refine jw_if_ge 39 rfl rfl (fun z => ?_) (fun z => ?_)
    · rw [if_neg (Int32.not_lt.mpr z)] at hq
      refine js_iconst (x := 1) rfl rfl ?_
      refine js_istore_n rfl rfl (by decide) rfl ?_
      refine jw_aload_n rfl rfl ?_
      refine jw_gi rfl g_V_16 (hn.1) (hn.2.2.1) ?_
      refine js_bipush (x := 10) rfl rfl ?_
      refine jw_idivV rfl (by decide) (e0) ?_
      refine js_istore_n rfl rfl (by decide) rfl ?_
      exact unit 10 0 1 (by omega) (by omega) (by show 1 ≤ _; omega) (by rw [Nat.pow_zero, Nat.div_one]; exact hq)
    · rw [if_pos (Int32.not_le.mp z)] at hq
      refine js_iconst (x := 2) rfl rfl ?_
      refine jw_goto 40 rfl rfl ?_
      refine js_istore_n rfl rfl (by decide) rfl ?_
      refine jw_aload_n rfl rfl ?_
      refine jw_gi rfl g_V_16 (hn.1) (hn.2.2.1) ?_
      refine js_bipush (x := 10) rfl rfl ?_
      refine jw_idivV rfl (by decide) (e0) ?_
      refine js_istore_n rfl rfl (by decide) rfl ?_
      exact unit 10 0 2 (by omega) (by omega) (by show 1 ≤ _; omega) (by rw [Nat.pow_zero, Nat.div_one]; exact hq)
  · obtain ⟨a', tb, ch, cap, e, -, -, -, hn⟩ := hv
    cases e
    refine jw_aload_n rfl rfl ?_
    refine jw_gi rfl g_V_12 (hn.1) (hn.2.1) ?_
    refine js_iconst (x := 1) rfl rfl ?_
    refine jw_icmp_ne 16 rfl rfl (fun z => absurd (rfl) z) (fun _ => ?_)
    refine jw_aload_n rfl rfl ?_
    refine jw_gr rfl g_V_19 (hn.1) (hn.2.2.1) ?_
    refine jw_gi rfl g_V_40 (hn.2.2.2.1.1.1) (hn.2.2.2.1.1.2.2.2.1) ?_
    refine jw_ireturn rfl rfl rfl ?_
    exact hq
  · obtain ⟨e, hx, hk⟩ := hv
    cases e
    obtain ⟨h1, h2, -, -, h5⟩ := hc.2 x hx
    obtain ⟨a1, a2, a3, a4, a5, a6, a7, a8, a9, a10, a11⟩ := h5 hk
    refine jw_aload_n rfl rfl ?_
    refine jw_gi rfl g_V_12 (a3) (a4) ?_
    refine js_iconst (x := 1) rfl rfl ?_
    refine jw_icmp_ne 16 rfl rfl (fun _ => ?_) (fun z => absurd z (fun z => absurd ((nI_eq (b := 1) (by omega) (by omega)).mp z) (by omega)))
    refine jw_aload_n rfl rfl ?_
    refine jw_gi rfl g_V_12 (a3) (a4) ?_
    refine jw_if_eq 28 rfl rfl (fun z => absurd z (nI_ne0 (by omega) (by omega))) (fun _ => ?_)
    refine jw_aload_n rfl rfl ?_
    refine jw_gi rfl g_V_31 (a3) (a9) ?_
    refine jw_ireturn rfl rfl rfl ?_
    exact hq
/-- raw text shown into a Text: X and R, if there is room -/
def sh_post (h : jh_H) (a ch cap : Nat) (X R : List Nat) (Q : jw_O → jh_H → Prop) : Prop := (X.length + R.length ≤ cap → ∀ h', tx_is h' a ch cap (X ++ R) → fr (tx_S a ch) h h' → Q (.inl none) h') ∧ (cap < X.length + R.length → ∀ h' Z, tx_is h' a ch cap Z → fr (tx_S a ch) h h' → Q (.inr "java/lang/IllegalStateException") h')
theorem raw_of {D : sd_D} {x f : Nat} (hd : sd_dp D f x) (hk : sd_k D x ≤ 3) : sd_raw D f x = if sd_k D x = 2 then sd_jn (fun j => sd_raw D (f - 1) (sd_p D x j)) (sd_c D x) 0 else sd_now D x := by
  cases f with
  | zero => exact absurd hd id
  | succ f =>
    rw [sd_raw, sd_now]
    by_cases k0 : sd_k D x = 0
    · rw [if_pos k0, if_neg (by omega), if_pos k0]
    rw [if_neg k0, if_neg k0]
    by_cases k1 : sd_k D x = 1
    · rw [if_pos k1, if_neg (by omega), if_pos k1]
    rw [if_neg k1, if_neg k1]
    by_cases k3 : sd_k D x = 3
    · rw [if_pos k3, if_neg (by omega), if_pos k3]
    · rw [if_neg k3, if_pos (by omega)]; rfl
set_option maxHeartbeats 4000000 in
set_option maxRecDepth 100000 in
theorem cs_num {g : jg_G} (hg : (jg_l g).stackTraces = false) {d mc ms : Nat} {h : jh_H} {a ch cap b dep : Nat} {x : Int32} {X : List Nat} {Q : jw_O → jh_H → Prop} (ht : tx_is h a ch cap X) (hv : vl_num h b x) (hdep : dep ≤ 60) (hd : 16 ≤ d) (hr : cap < X.length + (sd_num x).length → 1 ≤ mc ∧ 6 ≤ ms) (hq : sh_post h a ch cap X (sd_num x) Q) : jw_C g d mc ms m_R_showRaw [.inr (.inr (some b)), .inr (.inr (some a)), .inl (nI dep)] h Q := by
  refine jw_intro (ls := [some (.inr (.inr (some b))), some (.inr (.inr (some a))), some (.inl (nI dep)), none]) (by decide) k_R_showRaw rfl (by simp [lo_fit, jv_c]) hg ?_
  have hl := ht.1.2.2.2.2.1
  refine jw_aload_n rfl rfl ?_
  refine jw_ifnull 10 rfl rfl (fun z_ => by cases z_) (fun _ _ => ?_)
  refine jw_iload_n rfl rfl ?_
  refine js_bipush (x := 60) rfl rfl ?_
  refine jw_icmp_le 11 rfl rfl (fun _ => ?_) (fun z => absurd (nI_le (b := 60) hdep (by omega)) z)
  refine jw_aload_n rfl rfl ?_
  refine jw_gi rfl g_R_210 (hv.1) (hv.2.1) ?_
  refine jw_tableIn 40 rfl (by decide) (by decide) rfl rfl ?_
  refine jw_aload_n rfl rfl ?_
  refine jw_aload_n rfl rfl ?_
  refine jw_gi rfl g_R_222 (hv.1) (hv.2.2.1) ?_
  by_cases hfit : X.length + (sd_num x).length ≤ cap
  · refine js_call (As := [.inl x]) rfl l_T_appendNumber c_R_266 i_T_appendNumber s_T_appendNumber jc_o1 rfl (ht.1.1) rfl (ct_appendNumber (d := d - 1) (mc := 0) (ms := 0) hg ht (by omega) (fun z => absurd z (by omega)) (fun _ h1 t1 f1 => ?_) (fun z => absurd z (by omega))) (by omega) (Nat.le_of_ble_eq_true rfl) (by omega) (by omega) rfl
    refine jw_goto 111 rfl rfl ?_
    refine jw_return rfl rfl ?_
    exact hq.1 hfit h1 t1 f1
  · have hr := hr (by omega)
    refine js_call (As := [.inl x]) rfl l_T_appendNumber c_R_266 i_T_appendNumber s_T_appendNumber jc_o1 rfl (ht.1.1) rfl (ct_appendNumber (d := d - 1) (mc := 1) (ms := 6) hg ht (by omega) (fun _ => by omega) (fun z => absurd z (by omega)) (fun _ h1 Z t1 f1 => ?_)) (by omega) (Nat.le_of_ble_eq_true rfl) (by omega) (by omega) rfl
    exact hq.2 (by omega) h1 Z t1 f1
set_option maxHeartbeats 4000000 in
set_option maxRecDepth 100000 in
theorem cs_txt {g : jg_G} (hg : (jg_l g).stackTraces = false) {d mc ms : Nat} {h : jh_H} {a ch cap b tb tc capb dep : Nat} {X L : List Nat} {Q : jw_O → jh_H → Prop} (ht : tx_is h a ch cap X) (hv : vl_txt h b tb tc capb L) (h1 : a ≠ tb) (h2 : ch ≠ tc) (hdep : dep ≤ 60) (hd : 16 ≤ d) (hr : cap < X.length + L.length → 1 ≤ mc ∧ 6 ≤ ms) (hq : sh_post h a ch cap X L Q) : jw_C g d mc ms m_R_showRaw [.inr (.inr (some b)), .inr (.inr (some a)), .inl (nI dep)] h Q := by
  refine jw_intro (ls := [some (.inr (.inr (some b))), some (.inr (.inr (some a))), some (.inl (nI dep)), none]) (by decide) k_R_showRaw rfl (by simp [lo_fit, jv_c]) hg ?_
  have hl := ht.1.2.2.2.2.1
  refine jw_aload_n rfl rfl ?_
  refine jw_ifnull 10 rfl rfl (fun z_ => by cases z_) (fun _ _ => ?_)
  refine jw_iload_n rfl rfl ?_
  refine js_bipush (x := 60) rfl rfl ?_
  refine jw_icmp_le 11 rfl rfl (fun _ => ?_) (fun z => absurd (nI_le (b := 60) hdep (by omega)) z)
  refine jw_aload_n rfl rfl ?_
  refine jw_gi rfl g_R_210 (hv.1) (hv.2.1) ?_
  refine jw_tableIn 51 rfl (by decide) (by decide) rfl rfl ?_
  refine jw_aload_n rfl rfl ?_
  refine jw_aload_n rfl rfl ?_
  refine jw_gr rfl g_R_204 (hv.1) (hv.2.2.1) ?_
  by_cases hfit : X.length + L.length ≤ cap
  · refine js_call (As := [.inr (.inr (some tb))]) rfl l_T_appendText c_R_102 i_T_appendText s_T_appendText jc_o1 rfl (ht.1.1) rfl (ct_appendText (d := d - 1) (mc := 0) (ms := 0) hg ht hv.2.2.2.1 h1 h2 (by omega) (fun z => absurd z (by omega)) (fun _ h1 t1 f1 => ?_) (fun z => absurd z (by omega))) (by omega) (Nat.le_of_ble_eq_true rfl) (by omega) (by omega) rfl
    refine jw_goto 111 rfl rfl ?_
    refine jw_return rfl rfl ?_
    exact hq.1 hfit h1 t1 f1
  · have hr := hr (by omega)
    refine js_call (As := [.inr (.inr (some tb))]) rfl l_T_appendText c_R_102 i_T_appendText s_T_appendText jc_o1 rfl (ht.1.1) rfl (ct_appendText (d := d - 1) (mc := 1) (ms := 6) hg ht hv.2.2.2.1 h1 h2 (by omega) (fun _ => by omega) (fun z => absurd z (by omega)) (fun _ h1 Z t1 f1 => ?_)) (by omega) (Nat.le_of_ble_eq_true rfl) (by omega) (by omega) rfl
    exact hq.2 (by omega) h1 Z t1 f1
set_option maxHeartbeats 4000000 in
set_option maxRecDepth 100000 in
theorem cs_data {g : jg_G} (hg : (jg_l g).stackTraces = false) {n : Nat} {D : sd_D} {E : cd_E} {P : Nat → Prop} {a ch cap : Nat} (hPa : ¬ P a) (hPc : ¬ P ch) : ∀ f d mc ms h X dep x Q, cd_ok h n D E P → tx_is h a ch cap X → x < n → sd_dp D f x → f + dep = 60 → 16 + f ≤ d → (cap < X.length + (sd_raw D f x).length → 1 ≤ mc ∧ 6 ≤ ms) → sh_post h a ch cap X (sd_raw D f x) Q → jw_C g d mc ms m_R_showRaw [.inr (.inr (some (E.1 x))), .inr (.inr (some a)), .inl (nI dep)] h Q := by
  intro f
  induction f with
  | zero => intro d mc ms h X dep x Q _ _ _ hdp; exact absurd hdp id
  | succ f ih =>
    intro d mc ms h X dep x Q hc ht hx hdp hf hd hr hq
    obtain ⟨c1, c2, c3, c4, c5⟩ := hc.2 x hx
    rw [raw_of hdp c2] at hr hq
    by_cases k0 : sd_k D x = 0
    · rw [if_neg (by omega), sd_now, if_pos k0] at hr hq
      exact cs_num hg ht (c3 k0) (by omega) (by omega) hr hq
    by_cases k1 : sd_k D x = 1
    · rw [if_neg (by omega), sd_now, if_neg k0, if_pos k1] at hr hq
      obtain ⟨tb, tc, capb, p1, p2, hv⟩ := c4 k1
      exact cs_txt hg ht hv (fun z => hPa (by rw [z]; exact p1)) (fun z => hPc (by rw [z]; exact p2)) (by omega) (by omega) hr hq
    obtain ⟨a1, a2, a3, a4, a5, a6, a7, a8, a9, a10, a11⟩ := c5 (by omega)
    refine jw_intro (ls := [some (.inr (.inr (some (E.1 x)))), some (.inr (.inr (some a))), some (.inl (nI dep)), none]) (by decide) k_R_showRaw rfl (by simp [lo_fit, jv_c]) hg ?_
    have hl := ht.1.2.2.2.2.1
    have hS : ∀ b, P b → ¬ tx_S a ch b := fun b hb z => by rcases z with z | z; exact hPa (by rw [← z]; exact hb); exact hPc (by rw [← z]; exact hb)
    by_cases k2 : sd_k D x = 2
    rotate_left
    · have k3 : sd_k D x = 3 := by omega
      rw [if_neg k2, sd_now, if_neg k0, if_neg k1, if_pos k3] at hr hq
      rw [k3] at a4
      refine jw_aload_n rfl rfl ?_
      refine jw_ifnull 10 rfl rfl (fun z_ => by cases z_) (fun _ _ => ?_)
      refine jw_iload_n rfl rfl ?_
      refine js_bipush (x := 60) rfl rfl ?_
      refine jw_icmp_le 11 rfl rfl (fun _ => ?_) (fun z => absurd (nI_le (b := 60) (by omega) (by omega)) z)
      refine jw_aload_n rfl rfl ?_
      refine jw_gi rfl g_R_210 (a3) (a4) ?_
      refine jw_tableOut 104 rfl (by decide) rfl ?_
      refine jw_aload_n rfl rfl ?_
      refine jw_ldcW 33 rfl rfl ?_
      by_cases hfit : X.length + 5 ≤ cap
      · refine js_call (As := [.inr (.inr (some (jg_c g 33)))]) rfl l_T_appendWord c_R_275 i_T_appendWord s_T_appendWord jc_o1 rfl (ht.1.1) rfl (ct_appendWord (d := d - 1) (mc := 0) (ms := 0) hg ht sk_33 (by omega) (fun z => absurd z (by show ¬ cap < X.length + 5; omega)) (fun _ h1 t1 f1 => ?_) (fun z => absurd z (by show ¬ cap < X.length + 5; omega))) (by omega) (Nat.le_of_ble_eq_true rfl) (by omega) (by omega) rfl
        refine jw_return rfl rfl ?_
        exact hq.1 hfit h1 t1 f1
      · have hr := hr (by show cap < X.length + 5; omega)
        refine js_call (As := [.inr (.inr (some (jg_c g 33)))]) rfl l_T_appendWord c_R_275 i_T_appendWord s_T_appendWord jc_o1 rfl (ht.1.1) rfl (ct_appendWord (d := d - 1) (mc := 1) (ms := 6) hg ht sk_33 (by omega) (fun _ => by omega) (fun z => absurd z (by show ¬ X.length + 5 ≤ cap; omega)) (fun _ h1 Z t1 f1 => ?_)) (by omega) (Nat.le_of_ble_eq_true rfl) (by omega) (by omega) rfl
        exact hq.2 (by show cap < X.length + 5; omega) h1 Z t1 f1
    rw [if_pos k2, Nat.add_sub_cancel] at hr hq
    rw [k2] at a4
    generalize hG : (fun j => sd_raw D f (sd_p D x j)) = G at *
    have hGj : ∀ j, G j = sd_raw D f (sd_p D x j) := fun j => by rw [← hG]
    have loop : ∀ r j Z h1, j + r = sd_c D x → Z ++ sd_jn G r j = X ++ sd_jn G (sd_c D x) 0 → tx_is h1 a ch cap Z → fr (tx_S a ch) h h1 → jw_J g d m_R_showRaw jw_T0 64 [some (.inr (.inr (some (E.1 x)))), some (.inr (.inr (some a))), some (.inl (nI dep)), some (.inl (nI j))] [] h1 mc ms Q := by
      intro r
      induction r with
      | zero =>
        intro j Z h1 hj hZ t1 f1
        have eq1 : ∀ b, P b → jh_eq h h1 b → jh_eq h h1 b := fun _ _ z => z
        have e0 := f1.2 (E.1 x) a3.1 (hS _ c1)
        rw [sd_jn, List.append_nil] at hZ
        subst hZ
        have hl1 := t1.1.2.2.2.2.1
        rw [List.length_append] at hl1
        have ej : j = sd_c D x := by omega
        subst ej
        refine jw_iload_n rfl rfl ?_
        refine jw_aload_n rfl rfl ?_
        refine jw_gi rfl g_R_171 (e0.O a3) ((e0.2.2.1 133).trans a9) ?_
        refine jw_icmp_ge 101 rfl rfl (fun _ => ?_) (fun z => absurd (Int32.le_refl _) z)
        refine jw_goto 111 rfl rfl ?_
        refine jw_return rfl rfl ?_
        exact hq.1 hl1 h1 t1 f1
      | succ r ihr =>
        intro j Z h1 hj hZ t1 f1
        have e0 := f1.2 (E.1 x) a3.1 (hS _ c1)
        have e1 := f1.2 (E.2.1 x) a7.1 (hS _ a1)
        obtain ⟨r1, r2, -⟩ := a11 j (by omega)
        rw [sd_jn] at hZ
        have hlen := congrArg List.length hZ
        rw [List.length_append, List.length_append, List.length_append, List.length_append] at hlen
        -- the element
        have elem : ∀ h2, fr (tx_S a ch) h h2 → tx_is h2 a ch cap (Z ++ (if 0 < j then [44] else [])) → jw_J g d m_R_showRaw jw_T0 82 [some (.inr (.inr (some (E.1 x)))), some (.inr (.inr (some a))), some (.inl (nI dep)), some (.inl (nI j))] [] h2 mc ms Q := by
          intro h2 f2 t2
          have g0 := f2.2 (E.1 x) a3.1 (hS _ c1)
          have g1 := f2.2 (E.2.1 x) a7.1 (hS _ a1)
          have hc2 : cd_ok h2 n D E P := ⟨hc.1, fun y hy => ?_⟩
          rotate_left
          · obtain ⟨m1, m2, m3, m4, m5⟩ := hc.2 y hy
            refine ⟨m1, m2, fun z => ?_, fun z => ?_, fun z => ?_⟩
            · have := m3 z
              exact this.eq (f2.2 _ this.1.1 (hS _ m1))
            · obtain ⟨tb, tc, cp, w1, w2, w3⟩ := m4 z
              exact ⟨tb, tc, cp, w1, w2, w3.eq (f2.2 _ w3.1.1 (hS _ m1)) (f2.2 _ w3.2.2.2.1.1.1.1 (hS _ w1)) (f2.2 _ w3.2.2.2.1.1.2.1.1 (hS _ w2))⟩
            · obtain ⟨w1, w2, w3, w4, w5, w6, w7, w8, w9, w10, w11⟩ := m5 z
              have x0 := f2.2 _ w3.1 (hS _ m1)
              have x1 := f2.2 _ w7.1 (hS _ w1)
              have x2 := f2.2 _ w8.1 (hS _ w2)
              exact ⟨w1, w2, x0.O w3, (x0.2.2.1 128).trans w4, (x0.2.2.2.2.1 131).trans w5, (x0.2.2.2.2.1 132).trans w6, x1.A w7, x2.A w8, (x0.2.2.1 133).trans w9, w10, fun i hi => ⟨(x1.2.2.2.2.2.2.2 i).trans (w11 i hi).1, (w11 i hi).2.1, by rw [x2.2.2.2.2.2.2.1 i]; exact (w11 i hi).2.2⟩⟩
          have hdp2 : sd_dp D f (sd_p D x j) := hdp (by omega) j (by omega)
          have hl2 := t2.1.2.2.2.2.1
          rw [List.length_append] at hl2
          refine jw_aload_n rfl rfl ?_
          refine jw_gr rfl g_R_178 (g0.O a3) ((g0.2.2.2.2.1 131).trans a5) ?_
          refine jw_iload_n rfl rfl ?_
          refine js_aald (j) rfl (g1.A a7) (by decide) (by rfl) rfl (by omega) (by omega) ((g1.2.2.2.2.2.2.2 j).trans r1) ?_
          refine jw_aload_n rfl rfl ?_
          refine jw_iload_n rfl rfl ?_
          refine js_iconst (x := 1) rfl rfl ?_
          refine jw_iaddV rfl (nI_1 dep) ?_
          by_cases hfit : (Z ++ (if 0 < j then [44] else [])).length + (sd_raw D f (sd_p D x j)).length ≤ cap
          · refine js_callS (As := [.inr (.inr (some (E.1 (sd_p D x j)))), .inr (.inr (some a)), .inl (nI (dep + 1))]) rfl l_R_showRaw c_R_117 i_R_showRaw rfl (ih (d - 1) 0 0 h2 _ (dep + 1) _ _ hc2 t2 r2 hdp2 (by omega) (by omega) (fun z => absurd z (by omega)) ⟨fun _ h3 t3 f3 => ?_, fun z => absurd z (by omega)⟩) (by omega) (Nat.le_of_ble_eq_true rfl) (by omega) (by omega) rfl
            refine js_iinc rfl rfl (nI_1 j) rfl (by decide) rfl ?_
            refine jw_goto 64 rfl rfl ?_
            refine ihr (j + 1) _ h3 (by omega) ?_ t3 (f2.tr f3 (fun _ _ z => z))
            rw [← hGj, List.append_assoc, List.append_assoc]; exact hZ
          · have hr := hr (by rw [List.length_append, ← hGj] at hfit; omega)
            refine js_callS (As := [.inr (.inr (some (E.1 (sd_p D x j)))), .inr (.inr (some a)), .inl (nI (dep + 1))]) rfl l_R_showRaw c_R_117 i_R_showRaw rfl (ih (d - 1) 1 6 h2 _ (dep + 1) _ _ hc2 t2 r2 hdp2 (by omega) (by omega) (fun _ => by omega) ⟨fun z => absurd z (by omega), fun _ h3 Z3 t3 f3 => ?_⟩) (by omega) (Nat.le_of_ble_eq_true rfl) (by omega) (by omega) rfl
            exact hq.2 (by rw [List.length_append, ← hGj] at hfit; omega) h3 Z3 t3 (f2.tr f3 (fun _ _ z => z))
        refine jw_iload_n rfl rfl ?_
        refine jw_aload_n rfl rfl ?_
        refine jw_gi rfl g_R_171 (e0.O a3) ((e0.2.2.1 133).trans a9) ?_
        refine jw_icmp_ge 101 rfl rfl (fun z => absurd z (fun z => absurd ((nI_leI (by omega) (by omega)).mp z) (by omega))) (fun _ => ?_)
        refine jw_iload_n rfl rfl ?_
        by_cases j0 : 0 < j
        · rw [if_pos j0] at elem hlen
          have hlen : Z.length + (1 + ((G j).length + (sd_jn G r (j + 1)).length)) = X.length + (sd_jn G (sd_c D x) 0).length := hlen
          have hl1 := t1.1.2.2.2.2.1
          refine jw_if_le 82 rfl rfl (fun z => absurd z (nI_nle j0 (by omega))) (fun _ => ?_)
          refine jw_aload_n rfl rfl ?_
          refine js_bipush (x := 44) rfl rfl ?_
          by_cases hfull : Z.length = cap
          · have hr := hr (by omega)
            refine js_call (As := [.inl (nI 44)]) rfl l_T_append c_R_269 i_T_append s_T_append jc_o1 rfl (t1.1.1) rfl (ct_app (d := d - 1) (mc := 1) (ms := 6) hg t1 (by decide) (fun _ => by omega) (fun z => absurd z (by omega)) (fun _ => ?_)) (by omega) (Nat.le_of_ble_eq_true rfl) (by omega) (by omega) rfl
            exact hq.2 (by omega) h1 _ t1 f1
          · refine js_call (As := [.inl (nI 44)]) rfl l_T_append c_R_269 i_T_append s_T_append jc_o1 rfl (t1.1.1) rfl (ct_app (d := d - 1) (mc := 0) (ms := 0) hg t1 (by decide) (fun z => absurd z hfull) (fun _ h2 t2 f2 => ?_) (fun z => absurd z hfull)) (by omega) (Nat.le_of_ble_eq_true rfl) (by omega) (by omega) rfl
            exact elem h2 (f1.tr f2 (fun _ _ z => z)) t2
        · have ej : j = 0 := by omega
          subst ej
          refine jw_if_le 82 rfl rfl (fun _ => ?_) (fun z => absurd (by decide) z)
          exact elem h1 f1 (by rw [if_neg (by omega), List.append_nil]; exact t1)
    refine jw_aload_n rfl rfl ?_
    refine jw_ifnull 10 rfl rfl (fun z_ => by cases z_) (fun _ _ => ?_)
    refine jw_iload_n rfl rfl ?_
    refine js_bipush (x := 60) rfl rfl ?_
    refine jw_icmp_le 11 rfl rfl (fun _ => ?_) (fun z => absurd (nI_le (b := 60) (by omega) (by omega)) z)
    refine jw_aload_n rfl rfl ?_
    refine jw_gi rfl g_R_210 (a3) (a4) ?_
    refine jw_tableIn 62 rfl (by decide) (by decide) rfl rfl ?_
    refine js_iconst (x := 0) rfl rfl ?_
    refine js_istore_n rfl rfl (by decide) rfl ?_
    exact loop (sd_c D x) 0 X h (by omega) rfl ht fr.rf
-- any value, from the top
set_option maxHeartbeats 4000000 in
set_option maxRecDepth 100000 in
theorem cs_show {g : jg_G} (hg : (jg_l g).stackTraces = false) {n : Nat} {D : sd_D} {E : cd_E} {P P' : Nat → Prop} {d mc ms a ch cap : Nat} {h : jh_H} {X : List Nat} {p : Option Nat} {v : sv_T} {Q : jw_O → jh_H → Prop} (hPa : ¬ P a) (hPc : ¬ P ch) (hc : cd_ok h n D E P) (hdp : ∀ x, x < n → sd_dp D 60 x) (ht : tx_is h a ch cap X) (hv : vl_is h n D E P' p v) (hP' : v.isSome = true → (∀ x, v ≠ some (.inl x)) → ¬ P' a ∧ ¬ P' ch) (hd : 76 ≤ d) (hr : cap < X.length + (sv_raw D v).length → 1 ≤ mc ∧ 6 ≤ ms) (hq : sh_post h a ch cap X (sv_raw D v) Q) : jw_C g d mc ms m_R_showRaw [.inr (.inr p), .inr (.inr (some a)), .inl (nI 0)] h Q := by
  rcases v with _ | v | L | x
  · have e : p = none := hv
    subst e
    refine jw_intro (ls := [some (.inr (.inr none)), some (.inr (.inr (some a))), some (.inl (nI 0)), none]) (by decide) k_R_showRaw rfl (by simp [lo_fit, jv_c]) hg ?_
    refine jw_aload_n rfl rfl ?_
    refine jw_ifnull 10 rfl rfl (fun _ => ?_) (fun x_ z_ => by cases z_)
    refine jw_return rfl rfl ?_
    exact hq.1 ht.1.2.2.2.2.1 h (by rw [show sv_raw D none = [] from rfl, List.append_nil]; exact ht) fr.rf
  · obtain ⟨b, e, -, hn⟩ := hv
    subst e
    exact cs_num hg ht hn (by omega) (by omega) hr hq
  · obtain ⟨b, tb, tc, capb, e, -, p2, p3, hn⟩ := hv
    subst e
    have := hP' rfl (fun x z => by cases z)
    exact cs_txt hg ht hn (fun z => this.1 (by rw [z]; exact p2)) (fun z => this.2 (by rw [z]; exact p3)) (by omega) (by omega) hr hq
  · obtain ⟨e, hx, -⟩ := hv
    subst e
    exact cs_data hg hPa hPc 60 d mc ms h X 0 x Q hc ht hx (hdp x hx) (by omega) (by omega) hr hq

