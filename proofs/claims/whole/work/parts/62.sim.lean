/-! the model's rendering is the function rn -/
theorem fr_uw_ext {Fr Fr' : Nat → fr_T} : ∀ m, (∀ u, u < m → Fr' u = Fr u) → fr_uw Fr' m = fr_uw Fr m := by
  intro m
  induction m with
  | zero => intro _; rfl
  | succ m ih => intro h; rw [fr_uw, fr_uw, h m (by omega), ih (fun u hu => h u (by omega))]
theorem fr_here_ext {Fr Fr' : Nat → fr_T} {k0 : Nat} : ∀ m, (∀ u, u < m → Fr' u = Fr u) → fr_here Fr' k0 m = fr_here Fr k0 m := by
  intro m
  induction m with
  | zero => intro _; rfl
  | succ m ih => intro h; rw [fr_here, fr_here, h m (by omega), ih (fun u hu => h u (by omega))]
theorem fr_loop_ext {Fr Fr' : Nat → fr_T} : ∀ m, (∀ u, u < m → Fr' u = Fr u) → fr_loop Fr' m = fr_loop Fr m := by
  intro m
  induction m with
  | zero => intro _; rfl
  | succ m ih => intro h; rw [fr_loop, fr_loop, h m (by omega), ih (fun u hu => h u (by omega))]
theorem fr_old {Fr : Nat → fr_T} {m : Nat} {f : fr_T} : ∀ u, u < m → va_up Fr m f u = Fr u := fun u hu => va_up_ne _ _ (by omega)
theorem fr_uw_pu (Fr : Nat → fr_T) (m : Nat) (f : fr_T) : fr_uw (va_up Fr m f) (m + 1) = if f.2.2.2.1 then fr_uw Fr m + 1 else fr_uw Fr m := by
  rw [fr_uw, va_up_self, fr_uw_ext m fr_old]
theorem fr_here_pu (Fr : Nat → fr_T) (k0 m : Nat) (f : fr_T) : fr_here (va_up Fr m f) k0 (m + 1) = if f.2.2.2.1 then f.1 else fr_here Fr k0 m := by
  rw [fr_here, va_up_self, fr_here_ext m fr_old]
theorem fr_turn_pu (Fr : Nat → fr_T) (m : Nat) (f : fr_T) : fr_turn (va_up Fr m f) (m + 1) = if f.2.2.2.1 then none else if f.2.2.1 = 4 ∧ f.2.2.2.2.1 = false then some f.2.2.2.2.2.1 else fr_turn Fr m := by
  rw [fr_turn, fr_loop, va_up_self, fr_loop_ext m fr_old]
  cases f.2.2.2.1 with
  | true => rfl
  | false =>
    by_cases c : f.2.2.1 = 4 ∧ f.2.2.2.2.1 = false
    · rw [if_neg (by decide), if_pos c, if_neg (by decide), if_pos c]
      show some (va_up Fr m f m).2.2.2.2.2.1 = _
      rw [va_up_self]
    · rw [if_neg (by decide), if_neg c, if_neg (by decide), if_neg c, fr_turn]
      cases hl : fr_loop Fr m with
      | none => rfl
      | some u =>
        show some (va_up Fr m f u).2.2.2.2.2.1 = some (Fr u).2.2.2.2.2.1
        rw [fr_old u (fr_loop_lt m u hl)]
theorem fr_uw_1 (Fr : Nat → fr_T) : ∀ m, 1 ≤ fr_uw Fr m := by
  intro m
  induction m with
  | zero => exact Nat.le_refl _
  | succ m ih => rw [fr_uw]; split <;> omega
theorem un_ok.ext {h : jh_H} {mo : Nat} {ar : Nat → Nat} {m : Nat} {Fr Fr' : Nat → fr_T} (hu : un_ok h mo ar m Fr) (he : ∀ u, u < m → Fr' u = Fr u) : un_ok h mo ar m Fr' := ⟨hu.1, hu.2.1, fun u hlt => by rw [he u hlt]; exact hu.2.2 u hlt⟩
set_option maxHeartbeats 4000000 in
set_option maxRecDepth 100000 in
theorem cw_ok_ext {h : jh_H} {mo : Nat} {ar : Nat → Nat} {n cn : Nat} {D : sd_D} {C C' : Nat → sv_T} (hu : cx_ok h mo ar n D cn C) (he : ∀ u, u < cn → C' u = C u) : cx_ok h mo ar n D cn C' := ⟨hu.1, hu.2.1, fun u hlt => by rw [he u hlt]; exact hu.2.2 u hlt⟩
def go_J (g : jg_G) (Q : jw_O → jh_H → Prop) (h0 : jh_H) (mo : Nat) (ar : Nat → Nat) (n : Nat) (D : sd_D) (k0 k : Nat) (X : tp_X) (i m : Nat) (Fr : Nat → fr_T) (cn : Nat) (C : Nat → sv_T) (O : List Nat) (sn : Nat) : Prop := ∀ h l3 l4 l5, go_S h0 h mo ar n D m Fr cn C O sn → jw_J g 9 m_M_go jw_T0 6 [some (.inr (.inr (some mo))), some (.inl (nI k0)), some (.inl (nI (tp_at X.2.2.1 i + k * 200))), l3, l4, l5] [] h 0 0 Q
/-- where a level of the template ends -/
def go_E (g : jg_G) (Q : jw_O → jh_H → Prop) (h0 : jh_H) (mo : Nat) (ar : Nat → Nat) (n : Nat) (D : sd_D) (k0 k : Nat) (X : tp_X) (d m : Nat) (Fr : Nat → fr_T) (cn : Nat) (C : Nat → sv_T) (O : List Nat) (sn : Nat) : Prop := ∀ i h, i ≤ X.2.1 → ((d = 0 ∧ i = X.2.1) ∨ (0 < d ∧ i < X.2.1 ∧ 6 ≤ rn_s X i ∧ rn_s X i ≤ 9)) → go_S h0 h mo ar n D m Fr cn C O sn → jw_J g 9 m_M_go jw_T0 93 [some (.inr (.inr (some mo))), some (.inl (nI k0)), some (.inl (nI (rn_stop X i + k * 200))), some (.inl (nI k)), some (.inl (if i < X.2.1 then nI (k * 50 + i) else -1)), some (.inl (nI (rn_stop X i + k * 200)))] [] h 0 0 Q
def go_X (Q : jw_O → jh_H → Prop) (h0 : jh_H) (mo : Nat) (ar : Nat → Nat) (c : Nat) : Prop := ∀ h', mo_fx h0 h' mo ar go_F go_G → jh_i h' mo 550 = nI c → (c = 2 ∨ c = 3 ∨ c = 4) → Q (.inl none) h'
set_option maxHeartbeats 4000000 in
set_option maxRecDepth 100000 in
theorem cm_go_x {g : jg_G} {h : jh_H} {mo : Nat} {ar : Nat → Nat} {c : Nat} {Q : jw_O → jh_H → Prop} {l1 l2 l3 l4 l5 : Option jV} (hm : mo_ok h mo ar) (hf : jh_i h mo 550 = nI c) (hc : 0 < c) (hc2 : c < 100) (hq : Q (.inl none) h) : jw_J g 9 m_M_go jw_T0 6 [some (.inr (.inr (some mo))), l1, l2, l3, l4, l5] [] h 0 0 Q := by
  refine jw_aload_n rfl rfl ?_
  refine jw_gi rfl g_M_128 hm.1 (hf) ?_
  refine jw_if_ne 144 rfl rfl (fun _ => ?_) (fun z => absurd z (nI_ne0 hc (by omega)))
  refine jw_return rfl rfl ?_
  exact hq
set_option maxHeartbeats 4000000 in
set_option maxRecDepth 100000 in
theorem cm_go_end {g : jg_G} (hg : (jg_l g).stackTraces = false) {h0 : jh_H} {mo : Nat} {ar t : Nat → Nat} {n k0 : Nat} {D : sd_D} {TP : Nat → Option tp_X} {Q : jw_O → jh_H → Prop} (hD0 : go_D h0 mo ar n D TP t) {k i d m cn cn' sn : Nat} {X : tp_X} {Fr : Nat → fr_T} {C C' : Nat → sv_T} {O : List Nat} {was : Bool} {tu : Nat} {ov : Int32} (hk : k < 4) (hX : TP k = some X) (hi : i < X.2.1) (hs : 3 ≤ rn_s X i ∧ rn_s X i ≤ 5) (hcn : cn' = if was = true ∨ rn_s X i = 3 then cn else cn + 1) (hC : ∀ j, j < cn → C' j = C j) (hov : was = false → rn_s X i = 4 → tu < 20 ∧ ov = nI (en_x (k, k * 50 + i, rn_s X i, false, was, tu, ov)) ∧ en_x (k, k * 50 + i, rn_s X i, false, was, tu, ov) < n ∧ 2 ≤ sd_k D (en_x (k, k * 50 + i, rn_s X i, false, was, tu, ov)))
    (q1 : en_more D (k, k * 50 + i, rn_s X i, false, was, tu, ov) → go_J g Q h0 mo ar n D k0 k X (i + 1) (m + 1) (va_up Fr m (k, k * 50 + i, rn_s X i, false, was, tu + 1, ov)) cn' (va_up C cn (sv_of D (sd_p D (en_x (k, k * 50 + i, rn_s X i, false, was, tu, ov)) (tu + 1)))) O sn)
    (q2 : ¬ en_more D (k, k * 50 + i, rn_s X i, false, was, tu, ov) → go_J g Q h0 mo ar n D k0 k X (rn_after X i) m Fr cn C O sn) : go_E g Q h0 mo ar n D k0 k X (d + 1) (m + 1) (va_up Fr m (k, k * 50 + i, rn_s X i, false, was, tu, ov)) cn' C' O sn := by
  intro i0 h hi0 hend S
  have hend : i0 < X.2.1 ∧ 6 ≤ rn_s X i0 ∧ rn_s X i0 ≤ 9 := by
    rcases hend with z | z
    · exact absurd z.1 (by omega)
    · exact z.2
  obtain ⟨f1, u1, c1, O1, s1, sl1, e1⟩ := S
  have hD := go_D.fx hD0 f1 (fun _ _ z => z)
  have hn50 := (gt_of hD hk hX).2.1.2.2
  rw [if_pos hend.1]
  have F : va_up Fr m (k, k * 50 + i, rn_s X i, false, was, tu, ov) m = (k, k * 50 + i, rn_s X i, false, was, tu, ov) := va_up_self _ _ _
  generalize hFr : va_up Fr m (k, k * 50 + i, rn_s X i, false, was, tu, ov) = Fr' at *
  have blG : ∀ {h' : jh_H}, mo_fx h h' mo ar bl_F bl_G → ou_ok h' mo ar O ∧ jh_i h' mo 517 = nI sn := fun f' => ⟨ou_ok.fx hD.1 f' (fun _ _ z => z) (fun z => absurd rfl z.2.1) O1, (mo_fx.rdi f' (fun z => absurd rfl z.2.2)).trans s1⟩
  refine jw_iload rfl rfl ?_
  refine jw_if_lt 108 rfl rfl (fun z => absurd z (nI_pos (by omega))) (fun _ => ?_)
  refine jw_aload_n rfl rfl ?_
  refine jw_iload rfl rfl ?_
  refine js_call (As := [.inl (nI (k * 50 + i0))]) rfl l_M_tag c_M_396 i_M_tag s_M_tag jc_o8 rfl hD.1.1 rfl (cm_tag_e hg hD hk hX hend.1 hend.2 hi hs u1 c1 e1 (by rw [F]) (by rw [F]) (by rw [F]; intro a b; rw [hcn, if_neg (fun z => by rcases z with z | z; rw [show was = false from a] at z; cases z; exact b z)]; omega) (by rw [F]; exact hov) (fun z h' f' e' u' c' => ?_) (fun z h' f' e' u' c' => ?_)) (by decide) (Nat.le_of_ble_eq_true rfl) (by omega) (by omega) rfl
  · rw [F] at z c' u'
    refine js_istore_n rfl rfl (by decide) rfl ?_
    refine jw_goto 141 rfl rfl ?_
    refine jw_goto 6 rfl rfl ?_
    have hw : was = false := z.2.1
    have h4 : rn_s X i = 4 := z.1
    have ecn : cn' = cn + 1 := by rw [hcn, if_neg (fun y => by rcases y with y | y; rw [hw] at y; cases y; omega)]
    refine q1 z h' _ _ _ ⟨go_tr f1 (go_bl f'), ?_, ?_, (blG f').1, (blG f').2, sl1, e'⟩
    · refine un_ok.ext u' (fun u hu => ?_)
      by_cases y : u = m
      · subst y; rw [va_up_self, va_up_self]; rfl
      · rw [va_up_ne _ _ y, va_up_ne _ _ y, ← hFr, va_up_ne _ _ y]
    · rw [ecn] at c' ⊢
      refine cw_ok_ext c' (fun u hu => ?_)
      rw [Nat.add_sub_cancel]
      by_cases y : u = cn
      · subst y; rw [va_up_self, va_up_self]
      · rw [va_up_ne _ _ y, va_up_ne _ _ y, hC u (by omega)]
  · rw [F] at z c'
    refine js_istore_n rfl rfl (by decide) rfl ?_
    refine jw_goto 141 rfl rfl ?_
    refine jw_goto 6 rfl rfl ?_
    refine q2 z h' _ _ _ ⟨go_tr f1 (go_bl f'), un_ok.ext u' (fun u hu => ?_), ?_, (blG f').1, (blG f').2, sl1, e'⟩
    · rw [← hFr, va_up_ne _ _ (by omega)]
    · have ecn : (if was = true ∨ rn_s X i = 3 then cn' else cn' - 1) = cn := by
        by_cases y : was = true ∨ rn_s X i = 3
        · rw [if_pos y, hcn, if_pos y]
        · rw [if_neg y, hcn, if_neg y]; rfl
      have c' : cx_ok h' mo ar n D (if was = true ∨ rn_s X i = 3 then cn' else cn' - 1) C' := c'
      rw [ecn] at c'
      exact cw_ok_ext c' (fun u hu => (hC u hu).symm)

