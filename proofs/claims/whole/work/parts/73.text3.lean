/-! TEXT: numbers, letters raised, copies, comparing, finding, names -/
theorem sg_toInt {b : Bool} {n : Nat} (hn : n ≤ 2147483648) (hb : b = false → n < 2147483648) : (sgI b n).toInt = if b then -(n : Int) else n := by
  cases b with
  | false => rw [sgI, if_neg (by decide), if_neg (by decide)]; exact nI_toInt (by have := hb rfl; omega)
  | true =>
    rw [sgI, if_pos rfl, if_pos rfl, Int32.toInt_neg]
    by_cases c : n < 2147483648
    · rw [nI_toInt (by omega), Int.bmod_eq_of_le (by omega) (by omega)]
    · have : n = 2147483648 := by omega
      subst this; decide
theorem sg_div {b : Bool} {n u : Nat} (hn : n ≤ 2147483648) (hb : b = false → n < 2147483648) (hu : 0 < u) (hu2 : u < 2147483648) (hm : n / u < 2147483648) : sgI b n / nI u = sgI b (n / u) := by
  apply Int32.toInt.inj
  rw [Int32.toInt_div, sg_toInt hn hb, nI_toInt (by omega), sg_toInt (by omega) (fun _ => by omega)]
  cases b with
  | false =>
    rw [if_neg (by decide), if_neg (by decide), ← Int.ofNat_tdiv]
    generalize n / u = z at *
    rw [Int.bmod_eq_of_le (by omega) (by omega)]
  | true =>
    rw [if_pos rfl, if_pos rfl, Int.neg_tdiv, ← Int.ofNat_tdiv]
    generalize n / u = z at *
    rw [Int.bmod_eq_of_le (by omega) (by omega)]
theorem sg_div1 {b : Bool} {n : Nat} (hn : n ≤ 2147483648) (hb : b = false → n < 2147483648) : sgI b n / nI 1 = sgI b n := by
  apply Int32.toInt.inj
  rw [Int32.toInt_div, sg_toInt hn hb, nI_toInt (by omega)]
  cases b with
  | false =>
    have := hb rfl
    rw [if_neg (by decide), show (((1 : Nat) : Int)) = 1 from rfl, Int.tdiv_one, Int.bmod_eq_of_le (by omega) (by omega)]
  | true =>
    rw [if_pos rfl, show (((1 : Nat) : Int)) = 1 from rfl, Int.tdiv_one, Int.bmod_eq_of_le (by omega) (by omega)]
theorem sg_rem {b : Bool} {n : Nat} (hn : n ≤ 2147483648) (hb : b = false → n < 2147483648) : sgI b n - sgI b n / 10 * 10 = sgI b (n % 10) := by
  have e : sgI b n / 10 = sgI b (n / 10) := sg_div (u := 10) hn hb (by decide) (by decide) (by omega)
  rw [e]
  apply Int32.toInt.inj
  rw [Int32.toInt_sub, Int32.toInt_mul, sg_toInt hn hb, sg_toInt (by omega) (fun _ => by omega), sg_toInt (by omega) (fun _ => by omega), show (10 : Int32).toInt = 10 from rfl]
  cases b with
  | false =>
    rw [if_neg (by decide), if_neg (by decide), if_neg (by decide)]
    have := hb rfl
    rw [Int.bmod_eq_of_le (n := (↑(n / 10) : Int) * 10) (by omega) (by omega), Int.bmod_eq_of_le (by omega) (by omega)]
    omega
  | true =>
    rw [if_pos rfl, if_pos rfl, if_pos rfl]
    rw [Int.bmod_eq_of_le (n := -(↑(n / 10) : Int) * 10) (by omega) (by omega), Int.bmod_eq_of_le (by omega) (by omega)]
    omega
theorem sg_of (v : Int32) : v = sgI (decide (v < 0)) (sd_abs v) ∧ (decide (v < 0) = false → sd_abs v < 2147483648) := by
  have h1 := Int32.le_toInt v
  have h2 := Int32.toInt_lt v
  by_cases c : v < 0
  · have h3 : v.toInt < 0 := by
      have := Int32.lt_iff_toInt_lt.mp c
      simpa using this
    refine ⟨?_, fun z => by rw [decide_eq_true c] at z; cases z⟩
    apply Int32.toInt.inj
    rw [sg_toInt (sd_abs_le v) (fun z => by rw [decide_eq_true c] at z; cases z), decide_eq_true c, if_pos rfl, sd_abs, if_pos c]
    omega
  · have h3 : 0 ≤ v.toInt := by
      have := Int32.le_iff_toInt_le.mp (Int32.not_lt.mp c)
      simpa using this
    have h4 : sd_abs v < 2147483648 := by rw [sd_abs, if_neg c]; omega
    refine ⟨?_, fun _ => h4⟩
    apply Int32.toInt.inj
    rw [sg_toInt (by omega) (fun _ => h4), decide_eq_false c, if_neg (by decide), sd_abs, if_neg c]
    omega
theorem sg_ne0 {b : Bool} {n : Nat} (hn : n < 2147483648) : sgI b n = 0 ↔ n = 0 := by
  constructor
  · intro z
    have := congrArg Int32.toInt z
    rw [sg_toInt (by omega) (fun _ => hn)] at this
    have e : (0 : Int32).toInt = 0 := rfl
    rw [e] at this
    cases b with
    | false => rw [if_neg (by decide)] at this; omega
    | true => rw [if_pos rfl] at this; omega
  · intro z; subst z; cases b <;> rfl
theorem sd_u_len2 (a : Nat) : ∀ m, (sd_u a m).length = m + 1 := by
  intro m
  induction m with
  | zero => rfl
  | succ m ih => rw [sd_u, List.length_cons, ih]
theorem sd_m_le2 : ∀ f a, a < 10 ^ (f + 1) → sd_m f a ≤ f ∧ 10 ^ sd_m f a ≤ max a 1 := by
  intro f
  induction f with
  | zero => intro a _; exact ⟨Nat.le_refl _, by show 10 ^ 0 ≤ _; omega⟩
  | succ f ih =>
    intro a ha
    rw [sd_m]
    by_cases c : a < 10
    · rw [if_pos c]; exact ⟨by omega, by show 10 ^ 0 ≤ _; omega⟩
    · rw [if_neg c]
      have h1 := ih (a / 10) (by rw [Nat.div_lt_iff_lt_mul (by decide)]; rw [Nat.pow_succ] at ha; exact ha)
      refine ⟨by omega, ?_⟩
      rw [Nat.pow_succ]
      have := h1.2
      omega
set_option maxHeartbeats 4000000 in
set_option maxRecDepth 100000 in
theorem ct_appendNumber {g : jg_G} (hg : (jg_l g).stackTraces = false) {d mc ms : Nat} {h : jh_H} {a ch cap : Nat} {v : Int32} {X : List Nat} {Q : jw_O → jh_H → Prop} (ht : tx_is h a ch cap X) (hd1 : 1 ≤ d) (hr : cap < X.length + (sd_num v).length → 11 ≤ d ∧ 1 ≤ mc ∧ 6 ≤ ms)
    (q1 : X.length + (sd_num v).length ≤ cap → ∀ h', tx_is h' a ch cap (X ++ sd_num v) → fr (tx_S a ch) h h' → Q (.inl none) h') (q2 : cap < X.length + (sd_num v).length → ∀ h' Z, tx_is h' a ch cap Z → fr (tx_S a ch) h h' → Q (.inr "java/lang/IllegalStateException") h') : jw_C g d mc ms m_T_appendNumber [.inr (.inr (some a)), .inl v] h Q := by
  refine jw_intro (ls := [some (.inr (.inr (some a))), some (.inl v), none, none]) (by decide) k_T_appendNumber rfl (by simp [lo_fit, jv_c]) hg ?_
  have hcap := ht.1.2.2.2.2.2
  obtain ⟨ev, hA2⟩ := sg_of v
  have hA := sd_abs_le v
  have enum : sd_num v = (if v < 0 then [45] else []) ++ sd_nat (sd_abs v) := by
    rw [sd_num]
    by_cases c : v < 0
    · rw [if_pos c, if_pos c]; rfl
    · rw [if_neg c, if_neg c]; rfl
  generalize hAe : sd_abs v = A at *
  generalize hs : decide (v < 0) = s at *
  -- the digits
  have digits : ∀ m, 10 ^ m ≤ max A 1 → m ≤ 9 → ∀ X1 h1 l3, tx_is h1 a ch cap X1 → fr (tx_S a ch) h h1 → X1.length + (sd_u A m).length = X.length + (sd_num v).length → (X1 ++ sd_u A m = X ++ sd_num v) → jw_J g d m_T_appendNumber jw_T0 34 [some (.inr (.inr (some a))), some (.inl v), some (.inl (nI (10 ^ m))), l3] [] h1 mc ms Q := by
    intro m
    induction m with
    | zero =>
      intro hm h9 X1 h1 l3 t1 f1 elen eall
      have e1 : v / nI 1 = sgI s A := by rw [ev]; exact sg_div1 hA hA2
      have hl := t1.1.2.2.2.2.1
      rw [sd_u_len2] at elen
      refine jw_iload_n rfl rfl ?_
      refine jw_if_eq 63 rfl rfl (fun z => absurd z (by decide)) (fun _ => ?_)
      refine jw_aload_n rfl rfl ?_
      refine js_bipush (x := 48) rfl rfl ?_
      refine jw_iload_n rfl rfl ?_
      refine jw_iload_n rfl rfl ?_
      refine jw_idivV rfl (by decide) e1 ?_
      refine js_bipush (x := 10) rfl rfl ?_
      refine jw_iremV rfl (by decide) (sg_rem hA hA2) ?_
      refine jw_abs rfl mx_T_50 (by omega) (Nat.le_of_ble_eq_true rfl) (sg_abs s (A % 10) (by omega)) ?_
      refine jw_iaddV rfl (nI_add 48 (A % 10)) ?_
      refine jw_i2cV rfl (nI_c (by omega)) ?_
      by_cases hfull : X1.length = cap
      · have hr := hr (by omega)
        refine js_call (As := [.inl (nI (48 + A % 10))]) rfl l_T_append c_T_35 i_T_append s_T_append jc_o1 rfl (t1.1.1) rfl (ct_app (d := d - 1) (mc := 1) (ms := 6) hg t1 (by omega) (fun _ => by omega) (fun z => absurd z (by omega)) (fun _ => ?_)) (by omega) (Nat.le_of_ble_eq_true rfl) (by omega) (by omega) rfl
        exact q2 (by omega) h1 _ t1 f1
      · refine js_call (As := [.inl (nI (48 + A % 10))]) rfl l_T_append c_T_35 i_T_append s_T_append jc_o1 rfl (t1.1.1) rfl (ct_app (d := d - 1) (mc := 0) (ms := 0) hg t1 (by omega) (fun z => absurd z hfull) (fun _ h2 t2 f2 => ?_) (fun z => absurd z hfull)) (by omega) (Nat.le_of_ble_eq_true rfl) (by omega) (by omega) rfl
        refine jw_iload_n rfl rfl ?_
        refine js_bipush (x := 10) rfl rfl ?_
        refine jw_idivV rfl (by decide) (show nI (10 ^ 0) / 10 = 0 by decide) ?_
        refine js_istore_n rfl rfl (by decide) rfl ?_
        refine jw_goto 34 rfl rfl ?_
        refine jw_iload_n rfl rfl ?_
        refine jw_if_eq 63 rfl rfl (fun _ => ?_) (fun z => absurd (rfl) z)
        refine jw_return rfl rfl ?_
        have t3 : tx_is h2 a ch cap (X ++ sd_num v) := by rw [← eall]; exact t2
        have := t3.1.2.2.2.2.1
        rw [List.length_append] at this
        exact q1 this h2 t3 (f1.tr f2 (fun _ _ z => z))
    | succ m ih =>
      intro hm h9 X1 h1 l3 t1 f1 elen eall
      have p1 : 10 ^ (m + 1) ≤ 1000000000 := Nat.le_trans (Nat.pow_le_pow_right (by decide) h9) (by decide)
      have p0 : 0 < 10 ^ m := Nat.pow_pos (by decide)
      have p2 : 10 ^ (m + 1) = 10 ^ m * 10 := Nat.pow_succ _ _
      have hdv : A / 10 ^ (m + 1) < 2147483648 := by
        have : A / 10 ^ (m + 1) ≤ A / 10 := Nat.div_le_div_left (by omega) (by decide)
        omega
      have e1 : v / nI (10 ^ (m + 1)) = sgI s (A / 10 ^ (m + 1)) := by rw [ev]; exact sg_div hA hA2 (by omega) (by omega) hdv
      have e2 : nI (10 ^ (m + 1)) / 10 = nI (10 ^ m) := (pk_div (d := 10) (by omega) (by decide) (by decide)).trans (congrArg nI (by rw [p2]; exact Nat.mul_div_cancel _ (by decide)))
      have hl := t1.1.2.2.2.2.1
      rw [sd_u_len2] at elen
      rw [sd_u] at eall
      generalize hc : A / 10 ^ (m + 1) % 10 = c at *
      have hc9 : c < 10 := by omega
      refine jw_iload_n rfl rfl ?_
      refine jw_if_eq 63 rfl rfl (fun z => absurd z (nI_ne0 (by omega) (by omega))) (fun _ => ?_)
      refine jw_aload_n rfl rfl ?_
      refine js_bipush (x := 48) rfl rfl ?_
      refine jw_iload_n rfl rfl ?_
      refine jw_iload_n rfl rfl ?_
      refine jw_idivV rfl (nI_ne0 (by omega) (by omega)) e1 ?_
      refine js_bipush (x := 10) rfl rfl ?_
      refine jw_iremV rfl (by decide) ((sg_rem (by omega) (fun _ => hdv)).trans (by rw [hc])) ?_
      refine jw_abs rfl mx_T_50 (by omega) (Nat.le_of_ble_eq_true rfl) (sg_abs s c hc9) ?_
      refine jw_iaddV rfl (nI_add 48 c) ?_
      refine jw_i2cV rfl (nI_c (by omega)) ?_
      by_cases hfull : X1.length = cap
      · have hr := hr (by omega)
        refine js_call (As := [.inl (nI (48 + c))]) rfl l_T_append c_T_35 i_T_append s_T_append jc_o1 rfl (t1.1.1) rfl (ct_app (d := d - 1) (mc := 1) (ms := 6) hg t1 (by omega) (fun _ => by omega) (fun z => absurd z (by omega)) (fun _ => ?_)) (by omega) (Nat.le_of_ble_eq_true rfl) (by omega) (by omega) rfl
        exact q2 (by omega) h1 _ t1 f1
      · refine js_call (As := [.inl (nI (48 + c))]) rfl l_T_append c_T_35 i_T_append s_T_append jc_o1 rfl (t1.1.1) rfl (ct_app (d := d - 1) (mc := 0) (ms := 0) hg t1 (by omega) (fun z => absurd z hfull) (fun _ h2 t2 f2 => ?_) (fun z => absurd z hfull)) (by omega) (Nat.le_of_ble_eq_true rfl) (by omega) (by omega) rfl
        refine jw_iload_n rfl rfl ?_
        refine js_bipush (x := 10) rfl rfl ?_
        refine jw_idivV rfl (by decide) (e2) ?_
        refine js_istore_n rfl rfl (by decide) rfl ?_
        refine jw_goto 34 rfl rfl ?_
        refine ih (by omega) (by omega) _ h2 _ t2 (f1.tr f2 (fun _ _ z => z)) ?_ ?_
        · rw [sd_u_len2, List.length_append]; show X1.length + 1 + (m + 1) = _; omega
        · rw [List.append_assoc]; exact eall
  -- the unit
  have unit : ∀ f i h1, i + f = 10 → A < 10 ^ (i + f + 1) → (i ≤ 9) → 10 ^ i ≤ max A 1 → (∀ l3, jw_J g d m_T_appendNumber jw_T0 34 [some (.inr (.inr (some a))), some (.inl v), some (.inl (nI (10 ^ (i + sd_m f (A / 10 ^ i))))), l3] [] h1 mc ms Q) → jw_J g d m_T_appendNumber jw_T0 17 [some (.inr (.inr (some a))), some (.inl v), some (.inl (nI (10 ^ i))), some (.inl (sgI s (A / 10 ^ (i + 1))))] [] h1 mc ms Q := by
    intro f
    induction f with
    | zero => intro i h1 hi; omega
    | succ f ih =>
      intro i h1 hi hAl hi9 hle go
      have p2 : 10 ^ (i + 1) = 10 ^ i * 10 := Nat.pow_succ _ _
      have p0 : 0 < 10 ^ i := Nat.pow_pos (by decide)
      have p1 : 10 ^ i ≤ 1000000000 := Nat.le_trans (Nat.pow_le_pow_right (by decide) hi9) (by decide)
      have hq : A / 10 ^ (i + 1) = A / 10 ^ i / 10 := by rw [p2, Nat.div_div_eq_div_mul]
      have hdv : A / 10 ^ (i + 1) < 2147483648 := by
        have : A / 10 ^ (i + 1) ≤ A / 10 := Nat.div_le_div_left (by omega) (by decide)
        omega
      rw [sd_m] at go
      refine jw_iload_n rfl rfl ?_
      by_cases c : A / 10 ^ i < 10
      · rw [if_pos c, Nat.add_zero] at go
        refine jw_if_eq 34 rfl rfl (fun _ => ?_) (fun z => absurd ((sg_ne0 hdv).mpr (by rw [hq]; exact Nat.div_eq_of_lt c)) z)
        exact go _
      · rw [if_neg c] at go
        have hne : ¬ A / 10 ^ (i + 1) = 0 := by rw [hq]; exact Nat.pos_iff_ne_zero.mp (Nat.div_pos (Nat.not_lt.mp c) (by decide))
        have hge : 10 ^ (i + 1) ≤ A := by
          rcases Nat.lt_or_ge A (10 ^ (i + 1)) with q | q
          · exact absurd (Nat.div_eq_of_lt q) hne
          · exact q
        have hi8 : i + 1 ≤ 9 := by
          rcases Nat.lt_or_ge i 9 with q | q
          · omega
          · have : i = 9 := by omega
            subst this
            omega
        have e2 : nI (10 ^ i) * 10 = nI (10 ^ (i + 1)) := (pk_mul (10 ^ i) 10).trans (congrArg nI p2.symm)
        have e3 : sgI s (A / 10 ^ (i + 1)) / 10 = sgI s (A / 10 ^ (i + 2)) := (sg_div (u := 10) (by omega) (fun _ => hdv) (by decide) (by decide) (by omega)).trans (by rw [show 10 ^ (i + 2) = 10 ^ (i + 1) * 10 from Nat.pow_succ _ _, Nat.div_div_eq_div_mul])
        refine jw_if_eq 34 rfl rfl (fun z => absurd z (fun z => hne ((sg_ne0 hdv).mp z))) (fun _ => ?_)
        refine jw_iload_n rfl rfl ?_
        refine js_bipush (x := 10) rfl rfl ?_
        refine jw_imulV rfl (e2) ?_
        refine js_istore_n rfl rfl (by decide) rfl ?_
        refine jw_iload_n rfl rfl ?_
        refine js_bipush (x := 10) rfl rfl ?_
        refine jw_idivV rfl (by decide) (e3) ?_
        refine js_istore_n rfl rfl (by decide) rfl ?_
        refine jw_goto 17 rfl rfl ?_
        refine ih (i + 1) h1 (by omega) (by rw [show i + 1 + f + 1 = i + (f + 1) + 1 by omega]; exact hAl) hi8 (by omega) (fun l3 => ?_)
        rw [hq, show i + 1 + sd_m f (A / 10 ^ i / 10) = i + (sd_m f (A / 10 ^ i / 10) + 1) by omega]
        exact go l3
  have hp11 : (2147483648 : Nat) < 10 ^ 11 := by decide
  have hmm := sd_m_le2 10 A (by omega)
  have hm9 : sd_m 10 A ≤ 9 := by
    rcases Nat.lt_or_ge (sd_m 10 A) 10 with q | q
    · omega
    · have : 10 ^ 10 ≤ 10 ^ sd_m 10 A := Nat.pow_le_pow_right (by decide) q
      have : (10 : Nat) ^ 10 = 10000000000 := by decide
      omega
  -- behind the sign
  have main : ∀ X1 h1, tx_is h1 a ch cap X1 → fr (tx_S a ch) h h1 → X1 = X ++ (if v < 0 then [45] else []) → jw_J g d m_T_appendNumber jw_T0 10 [some (.inr (.inr (some a))), some (.inl v), none, none] [] h1 mc ms Q := by
    intro X1 h1 t1 f1 eX
    have e0 : v / 10 = sgI s (A / 10 ^ (0 + 1)) := by rw [ev]; exact sg_div (u := 10) hA hA2 (by decide) (by decide) (by omega)
    refine js_iconst (x := 1) rfl rfl ?_
    refine js_istore_n rfl rfl (by decide) rfl ?_
    refine jw_iload_n rfl rfl ?_
    refine js_bipush (x := 10) rfl rfl ?_
    refine jw_idivV rfl (by decide) (e0) ?_
    refine js_istore_n rfl rfl (by decide) rfl ?_
    refine unit 10 0 h1 (by omega) (Nat.lt_of_le_of_lt hA hp11) (by omega) (by show 1 ≤ _; omega) (fun l3 => ?_)
    rw [Nat.zero_add, Nat.pow_zero, Nat.div_one]
    have eall : X1 ++ sd_u A (sd_m 10 A) = X ++ sd_num v := by rw [eX, enum, List.append_assoc]; rfl
    exact digits (sd_m 10 A) hmm.2 hm9 X1 h1 l3 t1 f1 (by rw [← List.length_append, ← List.length_append, eall]) eall
  refine jw_iload_n rfl rfl ?_
  refine jw_if_ge 10 rfl rfl (fun z => ?_) (fun z => ?_)
  · exact main X h ht fr.rf (by rw [if_neg (Int32.not_lt.mpr z), List.append_nil])
  · have hv : v < 0 := Int32.not_le.mp z
    have hl := ht.1.2.2.2.2.1
    have hlen : 1 ≤ (sd_num v).length := by rw [enum, if_pos hv]; show 1 ≤ (45 :: _).length; simp
    refine jw_aload_n rfl rfl ?_
    refine js_bipush (x := 45) rfl rfl ?_
    by_cases hfull : X.length = cap
    · have hr := hr (by omega)
      refine js_call (As := [.inl (nI 45)]) rfl l_T_append c_T_35 i_T_append s_T_append jc_o1 rfl (ht.1.1) rfl (ct_app (d := d - 1) (mc := 1) (ms := 6) hg ht (by decide) (fun _ => by omega) (fun z => absurd z (by omega)) (fun _ => ?_)) (by omega) (Nat.le_of_ble_eq_true rfl) (by omega) (by omega) rfl
      exact q2 (by omega) h _ ht fr.rf
    · refine js_call (As := [.inl (nI 45)]) rfl l_T_append c_T_35 i_T_append s_T_append jc_o1 rfl (ht.1.1) rfl (ct_app (d := d - 1) (mc := 0) (ms := 0) hg ht (by decide) (fun z => absurd z hfull) (fun _ h2 t2 f2 => ?_) (fun z => absurd z hfull)) (by omega) (Nat.le_of_ble_eq_true rfl) (by omega) (by omega) rfl
      exact main _ h2 t2 f2 (by rw [if_pos hv])

