/-! numbers in decimal -/
def sd_m : Nat → Nat → Nat
  | 0, _ => 0
  | f + 1, a => if a < 10 then 0 else sd_m f (a / 10) + 1
def sd_u (a : Nat) : Nat → List Nat
  | 0 => [48 + a % 10]
  | m + 1 => (48 + a / 10 ^ (m + 1) % 10) :: sd_u a m
def sd_nat (a : Nat) : List Nat := sd_u a (sd_m 10 a)
def sd_abs (v : Int32) : Nat := if v < 0 then (-v.toInt).toNat else v.toInt.toNat
def sd_num (v : Int32) : List Nat := if v < 0 then 45 :: sd_nat (sd_abs v) else sd_nat (sd_abs v)
theorem sd_abs_le (v : Int32) : sd_abs v ≤ 2147483648 := by
  have h1 := Int32.le_toInt v
  have h2 := Int32.toInt_lt v
  rw [sd_abs]
  split <;> omega
theorem sd_abs_p {v : Int32} (h : ¬ v < 0) : v.toInt64 = lN (sd_abs v) := by
  obtain ⟨j, hj, rfl⟩ := nI_of h
  rw [nI_l hj, sd_abs, if_neg h, nI_toInt hj]; rfl
theorem sd_abs_n {v : Int32} (h : v < 0) : -v.toInt64 = lN (sd_abs v) := by
  have h1 := Int32.le_toInt v
  have h2 := Int32.toInt_lt v
  have h3 : v.toInt < 0 := by
    have := Int32.lt_iff_toInt_lt.mp h
    simpa using this
  apply Int64.toInt.inj
  rw [Int64.toInt_neg, Int32.toInt_toInt64, pk_lT (by have := sd_abs_le v; omega), sd_abs, if_pos h, Int.bmod_eq_of_le (by omega) (by omega)]
  omega
set_option maxHeartbeats 4000000 in
set_option maxRecDepth 100000 in
theorem cm_rawNumber {g : jg_G} (hg : (jg_l g).stackTraces = false) {h : jh_H} {mo : Nat} {ar : Nat → Nat} {X : List Nat} {v : Int32} {Q : jw_O → jh_H → Prop} (hm : mo_ok h mo ar) (hx : rw_ok h mo ar X) (hq : ∀ h', mo_fx h h' mo ar rp_F rp_G → rw_ok h' mo ar (X ++ sd_num v) → Q (.inl none) h') : jw_C g 1 0 0 m_M_rawNumber [.inr (.inr (some mo)), .inl v] h Q := by
  refine jw_intro (ls := [some (.inr (.inr (some mo))), some (.inl v), none, none, none, none]) (by decide) k_M_rawNumber rfl (by simp [lo_fit, jv_c]) hg ?_
  have hA := sd_abs_le v
  generalize hAe : sd_abs v = A at hA
  have lp2 : ∀ m, m ≤ 10 → ∀ X1 h1, mo_fx h h1 mo ar rp_F rp_G → rw_ok h1 mo ar X1 → (∀ h', mo_fx h h' mo ar rp_F rp_G → rw_ok h' mo ar (X1 ++ sd_u A m) → Q (.inl none) h') → jw_J g 1 m_M_rawNumber jw_T0 48 [some (.inr (.inr (some mo))), some (.inl v), some (.inr (.inl (lN A))), none, some (.inr (.inl (lN (10 ^ m)))), none] [] h1 0 0 Q := by
    intro m
    induction m with
    | zero =>
      intro _ X1 h1 hf h1x hq
      have hm1 := mo_fx.ok hf hm
      refine jw_lload rfl rfl ?_
      refine jw_lconst rfl ?_
      refine jw_lcmp rfl ?_
      refine jw_if_le 83 rfl rfl (fun z => absurd ((lg_cmp_le _ _).mp z) (by decide)) (fun _ => ?_)
      refine jw_aload_n rfl rfl ?_
      refine jw_ldc2 rfl q_M_293 ?_
      refine jw_lload_n rfl rfl ?_
      refine jw_lload rfl rfl ?_
      refine jw_ldiv rfl (by decide) ?_
      refine jw_ldc2 rfl q_M_291 ?_
      rw [show lN A / lN (10 ^ 0) = lN (A / 1) from pk_lDiv (by omega) (by decide) (by decide)]
      refine jw_lrem rfl (by decide) ?_
      rw [show lN (A / 1) - lN (A / 1) / 10 * 10 = lN (A / 1 % 10) from pk_lRem (b := 10) (by omega) (by decide) (by decide), Nat.div_one]
      refine jw_ladd rfl ?_
      rw [show (48 : Int64) + lN (A % 10) = lN (48 + A % 10) from lN_add 48 _]
      refine jw_l2i rfl ?_
      rw [lN_i]
      refine js_call (As := [.inl (nI (48 + A % 10))]) rfl l_M_rawPut c_M_285 i_M_rawPut s_M_rawPut jc_o8 rfl hm1.1 rfl (cm_rawPut hg hm1 (by omega) h1x (fun h2 f2 x2 => ?_)) (by decide) (Nat.le_of_ble_eq_true rfl) (by omega) (by omega) rfl
      refine jw_lload rfl rfl ?_
      refine jw_ldc2 rfl q_M_291 ?_
      refine jw_ldiv rfl (by decide) ?_
      refine js_lstore rfl rfl (by decide) rfl ?_
      refine jw_goto 48 rfl rfl ?_
      refine jw_lload rfl rfl ?_
      refine jw_lconst rfl ?_
      refine jw_lcmp rfl ?_
      refine jw_if_le 83 rfl rfl (fun _ => ?_) (fun z => absurd ((lg_cmp_le _ _).mpr (by decide)) z)
      refine jw_return rfl rfl ?_
      exact hq h2 (mo_fx.tr hf f2 (fun _ _ z => z) (fun _ z => z)) x2
    | succ m ih =>
      intro hm10 X1 h1 hf h1x hq
      have hm1 := mo_fx.ok hf hm
      have hpow : 10 ^ (m + 1) ≤ 10 ^ 10 := Nat.pow_le_pow_right (by decide) hm10
      have hpos : 0 < 10 ^ (m + 1) := Nat.pow_pos (by decide)
      have hne : ¬ lN (10 ^ (m + 1)) = 0 := fun z => by
        have := (pk_lEQ (a := 10 ^ (m + 1)) (b := 0) (by omega) (by decide)).mp z
        omega
      refine jw_lload rfl rfl ?_
      refine jw_lconst rfl ?_
      refine jw_lcmp rfl ?_
      refine jw_if_le 83 rfl rfl (fun z => absurd ((pk_lLE (b := 0) (by omega) (by decide)).mp ((lg_cmp_le _ _).mp z)) (by omega)) (fun _ => ?_)
      refine jw_aload_n rfl rfl ?_
      refine jw_ldc2 rfl q_M_293 ?_
      refine jw_lload_n rfl rfl ?_
      refine jw_lload rfl rfl ?_
      refine jw_ldiv rfl (hne) ?_
      refine jw_ldc2 rfl q_M_291 ?_
      rw [show lN A / lN (10 ^ (m + 1)) = lN (A / 10 ^ (m + 1)) from pk_lDiv (by omega) hpos (by omega)]
      have hdl : A / 10 ^ (m + 1) ≤ A := Nat.div_le_self _ _
      refine jw_lrem rfl (by decide) ?_
      rw [show lN (A / 10 ^ (m + 1)) - lN (A / 10 ^ (m + 1)) / 10 * 10 = lN (A / 10 ^ (m + 1) % 10) from pk_lRem (b := 10) (by omega) (by decide) (by decide)]
      refine jw_ladd rfl ?_
      rw [show (48 : Int64) + lN (A / 10 ^ (m + 1) % 10) = lN (48 + A / 10 ^ (m + 1) % 10) from lN_add 48 _]
      refine jw_l2i rfl ?_
      rw [lN_i]
      refine js_call (As := [.inl (nI (48 + A / 10 ^ (m + 1) % 10))]) rfl l_M_rawPut c_M_285 i_M_rawPut s_M_rawPut jc_o8 rfl hm1.1 rfl (cm_rawPut hg hm1 (by omega) h1x (fun h2 f2 x2 => ?_)) (by decide) (Nat.le_of_ble_eq_true rfl) (by omega) (by omega) rfl
      refine jw_lload rfl rfl ?_
      refine jw_ldc2 rfl q_M_291 ?_
      refine jw_ldiv rfl (by decide) ?_
      rw [show lN (10 ^ (m + 1)) / 10 = lN (10 ^ m) from by rw [show (10 : Int64) = lN 10 from rfl, pk_lDiv (by omega) (by decide) (by decide), Nat.pow_succ, Nat.mul_div_cancel _ (by decide)]]
      refine js_lstore rfl rfl (by decide) rfl ?_
      refine jw_goto 48 rfl rfl ?_
      refine ih (by omega) (X1 ++ [48 + A / 10 ^ (m + 1) % 10]) h2 (mo_fx.tr hf f2 (fun _ _ z => z) (fun _ z => z)) x2 (fun h' f' x' => hq h' f' ?_)
      rw [sd_u]
      rw [List.append_assoc] at x'
      exact x'
  have lp1 : ∀ f m, m + f = 10 → A < 10 ^ 10 → ∀ X1 h1, mo_fx h h1 mo ar rp_F rp_G → rw_ok h1 mo ar X1 → (∀ h', mo_fx h h' mo ar rp_F rp_G → rw_ok h' mo ar (X1 ++ sd_u A (m + sd_m f (A / 10 ^ m))) → Q (.inl none) h') → jw_J g 1 m_M_rawNumber jw_T0 26 [some (.inr (.inr (some mo))), some (.inl v), some (.inr (.inl (lN A))), none, some (.inr (.inl (lN (10 ^ m)))), none] [] h1 0 0 Q := by
    intro f
    induction f with
    | zero =>
      intro m hmf hA10 X1 h1 hf h1x hq
      have em : m = 10 := by omega
      subst em
      refine jw_lload_n rfl rfl ?_
      refine jw_lload rfl rfl ?_
      refine jw_ldiv rfl (by decide) ?_
      rw [show lN A / lN (10 ^ 10) = lN (A / 10 ^ 10) from pk_lDiv (by omega) (by decide) (by decide), Nat.div_eq_of_lt hA10]
      refine jw_ldc2 rfl q_M_289 ?_
      refine jw_lcmp rfl ?_
      refine jw_if_le 48 rfl rfl (fun _ => ?_) (fun z => absurd ((lg_cmp_le _ _).mpr (by decide)) z)
      exact lp2 10 (by omega) X1 h1 hf h1x hq
    | succ f ih =>
      intro m hmf hA10 X1 h1 hf h1x hq
      have hpow : 10 ^ m ≤ 10 ^ 10 := Nat.pow_le_pow_right (by decide) (by omega)
      have hpos : 0 < 10 ^ m := Nat.pow_pos (by decide)
      have hne : ¬ lN (10 ^ m) = 0 := fun z => by
        have := (pk_lEQ (a := 10 ^ m) (b := 0) (by omega) (by decide)).mp z
        omega
      have hdl : A / 10 ^ m ≤ A := Nat.div_le_self _ _
      rw [sd_m] at hq
      refine jw_lload_n rfl rfl ?_
      refine jw_lload rfl rfl ?_
      refine jw_ldiv rfl (hne) ?_
      rw [show lN A / lN (10 ^ m) = lN (A / 10 ^ m) from pk_lDiv (by omega) hpos (by omega)]
      refine jw_ldc2 rfl q_M_289 ?_
      refine jw_lcmp rfl ?_
      refine jw_if_le 48 rfl rfl (fun z => ?_) (fun z => ?_)
      · have h9 : A / 10 ^ m ≤ 9 := (pk_lLE (b := 9) (by omega) (by decide)).mp ((lg_cmp_le _ _).mp z)
        rw [if_pos (by omega), Nat.add_zero] at hq
        exact lp2 m (by omega) X1 h1 hf h1x hq
      · have h9 : ¬ A / 10 ^ m ≤ 9 := fun y => z ((lg_cmp_le _ _).mpr ((pk_lLE (b := 9) (by omega) (by decide)).mpr y))
        rw [if_neg (by omega)] at hq
        refine jw_lload rfl rfl ?_
        refine jw_ldc2 rfl q_M_291 ?_
        refine jw_lmul rfl ?_
        rw [show lN (10 ^ m) * 10 = lN (10 ^ (m + 1)) from by rw [show (10 : Int64) = lN 10 from rfl, lN_mul, Nat.pow_succ]]
        refine js_lstore rfl rfl (by decide) rfl ?_
        refine jw_goto 26 rfl rfl ?_
        refine ih (m + 1) (by omega) hA10 X1 h1 hf h1x (fun h' f' x' => hq h' f' ?_)
        rw [Nat.div_div_eq_div_mul, ← Nat.pow_succ]
        rw [show m + (sd_m f (A / 10 ^ (m + 1)) + 1) = m + 1 + sd_m f (A / 10 ^ (m + 1)) by omega]
        exact x'
  have hA10 : A < 10 ^ 10 := by omega
  have go : ∀ X1 h1, mo_fx h h1 mo ar rp_F rp_G → rw_ok h1 mo ar X1 → (∀ h', mo_fx h h' mo ar rp_F rp_G → rw_ok h' mo ar (X1 ++ sd_nat A) → Q (.inl none) h') → jw_J g 1 m_M_rawNumber jw_T0 26 [some (.inr (.inr (some mo))), some (.inl v), some (.inr (.inl (lN A))), none, some (.inr (.inl (lN (10 ^ 0)))), none] [] h1 0 0 Q := fun X1 h1 hf h1x hq => lp1 10 0 (by omega) hA10 X1 h1 hf h1x (fun h' f' x' => hq h' f' (by
    rw [Nat.pow_zero, Nat.div_one, Nat.zero_add] at x'; exact x'))
  rw [sd_num] at hq
  refine jw_iload_n rfl rfl ?_
  refine jw_if_ge 10 rfl rfl (fun z => ?_) (fun z => ?_)
  · have hv : ¬ v < 0 := Int32.not_lt.mpr z
    rw [if_neg hv] at hq
    refine jw_iload_n rfl rfl ?_
    refine jw_i2l rfl ?_
    rw [sd_abs_p hv, hAe]
    refine js_lstore_n rfl rfl (by decide) rfl ?_
    refine jw_lconst rfl ?_
    refine js_lstore rfl rfl (by decide) rfl ?_
    refine jw_iload_n rfl rfl ?_
    refine jw_if_ge 26 rfl rfl (fun _ => ?_) (fun y => absurd z y)
    rw [hAe] at hq
    exact go X h mo_fx.rf hx hq
  · have hv : v < 0 := Int32.not_le.mp z
    rw [if_pos hv, hAe] at hq
    refine jw_iload_n rfl rfl ?_
    refine jw_i2l rfl ?_
    refine jw_lneg rfl ?_
    rw [sd_abs_n hv, hAe]
    refine jw_goto 12 rfl rfl ?_
    refine js_lstore_n rfl rfl (by decide) rfl ?_
    refine jw_lconst rfl ?_
    refine js_lstore rfl rfl (by decide) rfl ?_
    refine jw_iload_n rfl rfl ?_
    refine jw_if_ge 26 rfl rfl (fun y => absurd y z) (fun _ => ?_)
    refine jw_aload_n rfl rfl ?_
    refine js_bipush (x := 45) rfl rfl ?_
    refine js_call (As := [.inl 45]) rfl l_M_rawPut c_M_285 i_M_rawPut s_M_rawPut jc_o8 rfl hm.1 rfl (cm_rawPut hg hm (c := 45) (by decide) hx (fun h2 f2 x2 => ?_)) (by decide) (Nat.le_of_ble_eq_true rfl) (by omega) (by omega) rfl
    refine go (X ++ [45]) h2 f2 x2 (fun h' f' x' => hq h' f' ?_)
    rw [List.append_assoc] at x'
    exact x'

