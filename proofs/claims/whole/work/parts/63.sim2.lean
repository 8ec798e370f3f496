/-! the model's rendering is the function rn: the induction -/
theorem rn_1 (D : sd_D) (TP : Nat → Option tp_X) (f : Nat) (X : tp_X) (i : Nat) (C : Nat → sv_T) (cn : Nat) (tn : Option Nat) (uw : Nat) (O : List Nat) (sn : Nat) : rn D TP (f + 1) X i C cn tn uw O sn = if 400 < O.length + (rn_text X i).length then .inl 4 else if X.2.1 ≤ i ∨ (6 ≤ rn_s X i ∧ rn_s X i ≤ 9) then .inr (O ++ rn_text X i, sn) else if sn = 600 then .inl 4 else rn_then (rn_do D TP (rn D TP f) X i C cn tn uw (O ++ rn_text X i) (sn + 1)) (rn D TP f X (rn_after X i) C cn tn uw) := rfl
theorem rn_then_l {r : rn_R} {k : List Nat → Nat → rn_R} {c : Nat} (h : r = .inl c) : rn_then r k = .inl c := by rw [h]; rfl
theorem rn_then_r {r : rn_R} {k : List Nat → Nat → rn_R} {O : List Nat} {s : Nat} (h : r = .inr (O, s)) : rn_then r k = k O s := by rw [h]; rfl
def go_I (TP : Nat → Option tp_X) (k0 f k : Nat) (X : tp_X) (i d m : Nat) (Fr : Nat → fr_T) (cn : Nat) (lv : Nat → Nat) : Prop := k < 4 ∧ TP k = some X ∧ lv_ok (tx X) X.1.length X.2.1 X.2.2.1 X.2.2.2.1 X.2.2.2.2 lv ∧ i ≤ X.2.1 ∧ lv i = d ∧ d ≤ 4 ∧ fr_here Fr k0 m = k ∧ fr_uw Fr m ≤ 3 ∧ m ≤ 5 * (fr_uw Fr m - 1) + d ∧ 1 ≤ cn ∧ cn ≤ 1 + 4 * (fr_uw Fr m - 1) + d ∧ (3 - fr_uw Fr m) * 51 + (X.2.1 - i) + 1 ≤ f
set_option maxHeartbeats 4000000 in
set_option maxRecDepth 100000 in
theorem cm_go_sim {g : jg_G} (hg : (jg_l g).stackTraces = false) {h0 : jh_H} {mo : Nat} {ar t : Nat → Nat} {n k0 : Nat} {D : sd_D} {TP : Nat → Option tp_X} {Q : jw_O → jh_H → Prop} (hD0 : go_D h0 mo ar n D TP t) : ∀ f k X i d m Fr cn C O sn lv, go_I TP k0 f k X i d m Fr cn lv → (∀ c, rn D TP f X i C cn (fr_turn Fr m) (fr_uw Fr m) O sn = .inl c → go_X Q h0 mo ar c) → (∀ O' sn', rn D TP f X i C cn (fr_turn Fr m) (fr_uw Fr m) O sn = .inr (O', sn') → go_E g Q h0 mo ar n D k0 k X d m Fr cn C O' sn') → go_J g Q h0 mo ar n D k0 k X i m Fr cn C O sn := by
  intro f
  induction f with
  | zero => intro k X i d m Fr cn C O sn lv I; exact absurd I.2.2.2.2.2.2.2.2.2.2.2 (by omega)
  | succ f ih =>
    intro k X i d m Fr cn C O sn lv I h1 h2 h l3 l4 l5 S
    obtain ⟨hk, hX, hlv, hi, hd, hd4, hhe, huw, hmb, hc1, hcb, hfu⟩ := id I
    refine cm_go_pre hg hD0 S hk hX hhe hi (fun hov h' f' e' => ?_) (fun hfit h' S' => ?_)
    · exact h1 4 (by rw [rn_1, if_pos hov]) h' f' e' (by decide)
    rw [rn_1, if_neg (by omega)] at h1 h2
    by_cases hend : X.2.1 ≤ i ∨ (6 ≤ rn_s X i ∧ rn_s X i ≤ 9)
    · rw [if_pos hend] at h2
      refine h2 _ _ rfl i h' hi ?_ S'
      by_cases hin : X.2.1 ≤ i
      · have : i = X.2.1 := by omega
        subst this
        exact Or.inl ⟨by rw [← hd]; exact hlv.2.1, rfl⟩
      · have hs : 6 ≤ rn_s X i ∧ rn_s X i ≤ 9 := by
          rcases hend with z | z
          · exact absurd z hin
          · exact z
        have hl := hlv.2.2 i (by omega)
        refine Or.inr ⟨?_, by omega, hs⟩
        by_cases h6 : rn_s X i = 6
        · have := (hl.2.2.1 h6).1; omega
        · have h7 := hl.2.2.2.1 ⟨show 7 ≤ rn_s X i by omega, hs.2⟩; omega
    rw [if_neg hend] at h1 h2
    have hlt : i < X.2.1 := by omega
    have hns : ¬ (6 ≤ rn_s X i ∧ rn_s X i ≤ 9) := fun z => hend (Or.inr z)
    obtain ⟨f1, u1, c1, O1, s1, sl1, e1⟩ := S'
    have hD := go_D.fx hD0 f1 (fun _ _ z => z)
    have htp := (gt_of hD hk hX).2.1
    have hn50 := htp.2.2
    have huw1 := fr_uw_1 Fr m
    have hl := hlv.2.2 i hlt
    have hs10 : rn_s X i ≤ 10 := hl.1.2.2.2.2.2.1
    rw [if_pos hlt]
    by_cases h600 : sn = 600
    · rw [if_pos h600] at h1
      rw [h600] at s1
      have F4 : mo_fx h0 (jh_si h' mo 550 4) mo ar go_F go_G := mo_fx.si f1 (by unfold go_G; decide)
      refine jw_iload rfl rfl ?_
      refine jw_if_lt 108 rfl rfl (fun z => absurd z (nI_pos (by omega))) (fun _ => ?_)
      refine jw_aload_n rfl rfl ?_
      refine jw_iload rfl rfl ?_
      refine js_call (As := [.inl (nI (k * 50 + i))]) rfl l_M_tag c_M_396 i_M_tag s_M_tag jc_o8 rfl hD.1.1 rfl (cm_tag_f hg hD hk hX hlt hns s1 ?_) (by decide) (Nat.le_of_ble_eq_true rfl) (by omega) (by omega) rfl
      refine js_istore_n rfl rfl (by decide) rfl ?_
      refine jw_goto 141 rfl rfl ?_
      refine jw_goto 6 rfl rfl ?_
      exact cm_go_x (c := 4) (mo_si hD.1) (jh_u_s _ _ _ _) (by decide) (by decide) (h1 4 rfl _ F4 (jh_u_s _ _ _ _) (by decide))
    rw [if_neg h600] at h1 h2
    have hsn : sn < 600 := by omega
    have hB : ∀ c, rn_do D TP (rn D TP f) X i C cn (fr_turn Fr m) (fr_uw Fr m) (O ++ rn_text X i) (sn + 1) = .inl c → go_X Q h0 mo ar c := fun c hc => h1 c (rn_then_l hc)
    have hA : rn_after X i ≤ X.2.1 → i < rn_after X i → lv (rn_after X i) = d → ∀ O1 sn1, rn_do D TP (rn D TP f) X i C cn (fr_turn Fr m) (fr_uw Fr m) (O ++ rn_text X i) (sn + 1) = .inr (O1, sn1) → go_J g Q h0 mo ar n D k0 k X (rn_after X i) m Fr cn C O1 sn1 := by
      intro ha1 ha2 ha3 O1 sn1 hr
      refine ih k X (rn_after X i) d m Fr cn C O1 sn1 lv ⟨hk, hX, hlv, ha1, ha3, hd4, hhe, huw, hmb, hc1, hcb, by omega⟩ (fun c hc => h1 c ?_) (fun O' sn' hr2 => h2 O' sn' ?_)
      · rw [rn_then_r hr]; exact hc
      · rw [rn_then_r hr]; exact hr2
    clear h1 h2
    generalize hO2 : O ++ rn_text X i = O2 at *
    -- after the tag's number is counted
    have S1 : go_S h0 (jh_si h' mo 517 (nI (sn + 1))) mo ar n D m Fr cn C O2 (sn + 1) := ⟨mo_fx.si f1 (Or.inl rfl), ⟨(jh_u_k _ _ _ _ (by decide)).trans u1.1, u1.2⟩, ⟨(jh_u_k _ _ _ _ (by decide)).trans c1.1, c1.2⟩, ⟨(jh_u_k _ _ _ _ (by decide)).trans O1.1, O1.2⟩, jh_u_s _ _ _ _, by omega, (jh_u_k _ _ _ _ (by decide)).trans e1⟩
    by_cases hb : 3 ≤ rn_s X i ∧ rn_s X i ≤ 5
    rotate_left
    · have eaft : rn_after X i = i + 1 := by rw [rn_after, if_neg hb]
      have hA := hA (by omega) (by omega) (by rw [eaft, hl.2.2.2.2 (by show rn_s X i ≤ 2 ∨ rn_s X i = 10; omega)]; exact hd)
      rw [eaft] at hA
      by_cases s2 : rn_s X i = 2
      · rw [rn_do, if_pos s2] at hA
        refine jw_iload rfl rfl ?_
        refine jw_if_lt 108 rfl rfl (fun z => absurd z (nI_pos (by omega))) (fun _ => ?_)
        refine jw_aload_n rfl rfl ?_
        refine jw_iload rfl rfl ?_
        refine js_call (As := [.inl (nI (k * 50 + i))]) rfl l_M_tag c_M_396 i_M_tag s_M_tag jc_o8 rfl hD.1.1 rfl (cm_tag_r hg hD hk hX hlt s2 s1 hsn ?_) (by decide) (Nat.le_of_ble_eq_true rfl) (by omega) (by omega) rfl
        refine js_istore_n rfl rfl (by decide) rfl ?_
        refine jw_goto 141 rfl rfl ?_
        refine jw_goto 6 rfl rfl ?_
        exact hA _ _ rfl _ _ _ _ S1
      rw [rn_do, if_neg s2] at hA hB
      by_cases s10 : rn_s X i = 10
      · rw [if_pos s10] at hA hB
        refine jw_iload rfl rfl ?_
        refine jw_if_lt 108 rfl rfl (fun z => absurd z (nI_pos (by omega))) (fun _ => ?_)
        refine jw_aload_n rfl rfl ?_
        refine jw_iload rfl rfl ?_
        refine js_call (As := [.inl (nI (k * 50 + i))]) rfl l_M_tag c_M_396 i_M_tag s_M_tag jc_o8 rfl hD.1.1 rfl (cm_tag_p hg hD hk hX hlt s10 u1 (by omega) s1 hsn ?_) (by decide) (Nat.le_of_ble_eq_true rfl) (by omega) (by omega) rfl
        have hD1 := go_D.si hD (k := 517) (v := nI (sn + 1))
        cases hY : TP (rn_pt X i) with
        | none =>
          rw [hY] at hB
          show jw_J _ _ _ _ _ _ _ _ _ _ _
          refine js_istore_n rfl rfl (by decide) rfl ?_
          refine jw_goto 141 rfl rfl ?_
          refine jw_goto 6 rfl rfl ?_
          exact cm_go_x (c := 2) (mo_si hD1.1) (jh_u_s _ _ _ _) (by decide) (by decide) (hB 2 rfl _ (mo_fx.si S1.1 (by unfold go_G; decide)) (jh_u_s _ _ _ _) (by decide))
        | some Y =>
          rw [hY] at hA hB
          by_cases u3 : fr_uw Fr m = 3
          · simp only [if_pos u3] at hB ⊢
            refine js_istore_n rfl rfl (by decide) rfl ?_
            refine jw_goto 141 rfl rfl ?_
            refine jw_goto 6 rfl rfl ?_
            exact cm_go_x (c := 3) (mo_si hD1.1) (jh_u_s _ _ _ _) (by decide) (by decide) (hB 3 rfl _ (mo_fx.si S1.1 (by unfold go_G; decide)) (jh_u_s _ _ _ _) (by decide))
          · simp only [if_neg u3] at hA hB ⊢
            intro h3 f3 u3'
            have hpt4 : rn_pt X i < 4 := by
              have h10 := hl.1.2.2.2.2.2.2.2.2.2 s10
              rw [rn_pt]; omega
            have htpY := (gt_of hD hpt4 hY).2.1
            obtain ⟨lvY, hlvY⟩ := tp_lv htpY
            have euw := fr_uw_pu Fr m (rn_pt X i, k * 50 + i, 10, true, false, 0, -1)
            have etn := fr_turn_pu Fr m (rn_pt X i, k * 50 + i, 10, true, false, 0, -1)
            have ehe := fr_here_pu Fr k0 m (rn_pt X i, k * 50 + i, 10, true, false, 0, -1)
            rw [if_pos rfl] at euw etn ehe
            have ihY := ih (rn_pt X i) Y 0 0 (m + 1) (va_up Fr m (rn_pt X i, k * 50 + i, 10, true, false, 0, -1)) cn C O2 (sn + 1) lvY ⟨hpt4, hY, hlvY, Nat.zero_le _, hlvY.1, by omega, ehe, by rw [euw]; omega, by rw [euw]; omega, hc1, by rw [euw]; omega, by rw [euw]; have := htpY.2.2; omega⟩
            rw [etn, euw] at ihY
            have ihY := ihY hB (fun O' sn' hr => by
              intro i' h4 hi' hen S4
              have hen : i' = Y.2.1 := by
                rcases hen with z | z
                · exact z.2
                · exact absurd z.1 (by omega)
              subst hen
              rw [if_neg (Nat.lt_irrefl _)]
              obtain ⟨f4, u4, c4, O4, s4, sl4, e4⟩ := S4
              have hD4 := go_D.fx hD0 f4 (fun _ _ z => z)
              have w := u4.2.2 m (by omega)
              rw [va_up_self] at w
              have w2 : jh_I h4 (ar 553) m = nI (k * 50 + i) := w.2.1
              have b4 : jh_I h4 (ar 531) (k * 50 + i) = nI (tg_e (X.2.2.1 i) + k * 200) := (ga_of hD4 hk hX hlt).2.2.2.1
              refine jw_iload rfl rfl ?_
              refine jw_if_lt 108 rfl rfl (fun _ => ?_) (fun z => absurd (by decide) z)
              refine jw_aload_n rfl rfl ?_
              refine jw_gi rfl g_M_125 hD4.1.1 (u4.1) ?_
              refine jw_if_ne 116 rfl rfl (fun _ => ?_) (fun z => absurd z (nI_ne0 (by omega) (by omega)))
              refine jw_aload_n rfl rfl ?_
              refine jw_dup rfl rfl ?_
              refine jw_gi rfl g_M_125 hD4.1.1 (u4.1) ?_
              refine js_iconst (x := 1) rfl rfl ?_
              refine jw_isubV rfl (nI_pred m) ?_
              refine jw_pi rfl p_M_go_125 hD4.1.1 ?_
              refine jw_aload_n rfl rfl ?_
              refine jw_gr rfl g_M_71 (mo_si hD4.1).1 (mo_r (mo_si hD4.1) 12 rfl) ?_
              refine jw_aload_n rfl rfl ?_
              refine jw_gr rfl g_M_137 (mo_si hD4.1).1 (mo_r (mo_si hD4.1) 27 rfl) ?_
              refine jw_aload_n rfl rfl ?_
              refine jw_gi rfl g_M_125 (mo_si hD4.1).1 (jh_u_s _ _ _ _) ?_
              refine js_ialdV (m) rfl (mo_a (mo_si hD4.1) 27 rfl) (by decide) (by rfl) rfl (by omega) (by decide) (w2) ?_
              refine js_ialdV (k * 50 + i) rfl (mo_a (mo_si hD4.1) 12 rfl) (by decide) (by rfl) rfl (by omega) (by decide) (b4) ?_
              refine js_istore_n rfl rfl (by decide) rfl ?_
              refine jw_goto 6 rfl rfl ?_
              exact hA O' sn' hr _ _ _ _ ⟨mo_fx.si f4 (by unfold go_G; decide), ⟨jh_u_s _ _ _ _, by omega, fun u hu => by have := u4.2.2 u (by omega); rw [fr_old u hu] at this; exact this⟩, ⟨(jh_u_k _ _ _ _ (by decide)).trans c4.1, c4.2⟩, ⟨(jh_u_k _ _ _ _ (by decide)).trans O4.1, O4.2⟩, (jh_u_k _ _ _ _ (by decide)).trans s4, sl4, (jh_u_k _ _ _ _ (by decide)).trans e4⟩)
            obtain ⟨a1, a2, a3, a4, a5, a6, a7⟩ := S1
            refine js_istore_n rfl rfl (by decide) rfl ?_
            refine jw_goto 141 rfl rfl ?_
            refine jw_goto 6 rfl rfl ?_
            have := ihY h3 (some (.inl (nI k))) (some (.inl (nI (k * 50 + i)))) (some (.inl (nI (rn_stop X i + k * 200)))) ⟨go_tr a1 (go_bl (bl_pu f3)), u3', cx_ok.fx hD1.1 f3 (fun _ _ z => ⟨pu_go z, fun i _ y => by have := rg_F_k y; have := z.1; omega⟩) (by unfold pu_G; decide) a3, ou_ok.fx hD1.1 f3 (fun _ _ z => ⟨pu_go z, by have := z.1; omega⟩) (by unfold pu_G; decide) a4, (mo_fx.rdi f3 (by unfold pu_G; decide)).trans a5, a6, (mo_fx.rdi f3 (by unfold pu_G; decide)).trans a7⟩
            rw [show tp_at Y.2.2.1 0 + rn_pt X i * 200 = rn_pt X i * 200 from Nat.zero_add _] at this
            exact this
      · rw [if_neg s10] at hA hB
        have sle : rn_s X i ≤ 1 := by omega
        refine jw_iload rfl rfl ?_
        refine jw_if_lt 108 rfl rfl (fun z => absurd z (nI_pos (by omega))) (fun _ => ?_)
        refine jw_aload_n rfl rfl ?_
        refine jw_iload rfl rfl ?_
        refine js_call (As := [.inl (nI (k * 50 + i))]) rfl l_M_tag c_M_396 i_M_tag s_M_tag jc_o8 rfl hD.1.1 rfl (cm_tag_s hg hD hk hX hlt sle u1 c1 O1 e1 s1 hsn (fun h3 f3 => ?_)) (by decide) (Nat.le_of_ble_eq_true rfl) (by omega) (by omega) rfl
        have F3 := go_tr f1 f3
        have hD3 := go_D.fx hD f3 (fun _ _ z => z)
        cases hev : ev_ex D C cn (fr_turn Fr m) (rn_ex X i) with
        | none =>
          rw [hev] at hB
          intro e4
          refine js_istore_n rfl rfl (by decide) rfl ?_
          refine jw_goto 141 rfl rfl ?_
          refine jw_goto 6 rfl rfl ?_
          exact cm_go_x (c := 4) hD3.1 e4 (by decide) (by decide) (hB 4 rfl _ F3 e4 (by decide))
        | some v =>
          rw [hev] at hA hB
          simp only [if_pos sle] at hA hB ⊢
          cases hsh : rn_show D (decide (rn_s X i = 1)) v O2 (sn + 1) with
          | inl c =>
            rw [hsh] at hB
            have c4 : c = 4 := by
              rw [rn_show] at hsh
              split at hsh
              · cases hsh
              · cases hsh; rfl
            subst c4
            intro e4
            refine js_istore_n rfl rfl (by decide) rfl ?_
            refine jw_goto 141 rfl rfl ?_
            refine jw_goto 6 rfl rfl ?_
            exact cm_go_x (c := 4) hD3.1 e4 (by decide) (by decide) (hB 4 rfl _ F3 e4 (by decide))
          | inr r =>
            obtain ⟨O3, s3⟩ := r
            have es : s3 = sn + 1 := by
              rw [rn_show] at hsh
              split at hsh
              · cases hsh; rfl
              · cases hsh
            subst es
            intro e3 u3 c3 y3 t3
            refine js_istore_n rfl rfl (by decide) rfl ?_
            refine jw_goto 141 rfl rfl ?_
            refine jw_goto 6 rfl rfl ?_
            exact hA O3 (sn + 1) hsh h3 _ _ _ ⟨F3, u3, c3, y3, t3, by omega, e3⟩
    -- a block
    have hbl := hl.2.1 hb
    obtain ⟨l, hla, hl1, hl2, hl3, hl4, hl5, hot⟩ := hbl.2.2
    have eaft : rn_after X i = l + 1 := by rw [rn_after, if_pos hb, hla]; rfl
    have hA := hA (by omega) (by omega) (by rw [eaft, hl4]; exact hd)
    have hdl : d < 4 := by have := hbl.1; omega
    have hd1 : lv (i + 1) = d + 1 := by rw [hbl.2.1, hd]
    rw [rn_do, if_neg (by omega), if_neg (by omega)] at hA hB
    refine jw_iload rfl rfl ?_
    refine jw_if_lt 108 rfl rfl (fun z => absurd z (nI_pos (by omega))) (fun _ => ?_)
    refine jw_aload_n rfl rfl ?_
    refine jw_iload rfl rfl ?_
    refine js_call (As := [.inl (nI (k * 50 + i))]) rfl l_M_tag c_M_396 i_M_tag s_M_tag jc_o8 rfl hD.1.1 rfl (cm_tag_b hg hD hk hX hlt hb u1 (by omega) c1 (by omega) e1 s1 hsn (fun h3 f3 => ?_)) (by decide) (Nat.le_of_ble_eq_true rfl) (by omega) (by omega) rfl
    obtain ⟨a1, a2, a3, a4, a5, a6, a7⟩ := S1
    have F3 := go_tr a1 (go_bl f3)
    have hD1 := go_D.si hD (k := 517) (v := nI (sn + 1))
    have hD3 := go_D.fx hD1 (go_bl f3) (fun _ _ z => z)
    cases hev : ev_ex D C cn (fr_turn Fr m) (rn_ex X i) with
    | none =>
      rw [hev] at hB
      intro e4
      refine js_istore_n rfl rfl (by decide) rfl ?_
      refine jw_goto 141 rfl rfl ?_
      refine jw_goto 6 rfl rfl ?_
      exact cm_go_x (c := 4) hD3.1 e4 (by decide) (by decide) (hB 4 rfl _ F3 e4 (by decide))
    | some v =>
      rw [hev] at hA hB
      simp only [if_neg (show ¬ rn_s X i ≤ 1 by omega)] at hA hB ⊢
      intro hvx e3 u3 c3
      have O3 : ou_ok h3 mo ar O2 := ou_ok.fx hD1.1 f3 (fun _ _ z => z) (fun z => absurd rfl z.2.1) a4
      have s3 : jh_i h3 mo 517 = nI (sn + 1) := (mo_fx.rdi f3 (fun z => absurd rfl z.2.2)).trans a5
      refine js_istore_n rfl rfl (by decide) rfl ?_
      refine jw_goto 141 rfl rfl ?_
      refine jw_goto 6 rfl rfl ?_
      -- the part that begins behind the tag i'
      have part : ∀ i' Fr' cn' C', bl_out D X k i m Fr cn C v = (i', m + 1, Fr', cn', C') → go_J g Q h0 mo ar n D k0 k X i' (m + 1) Fr' cn' C' O2 (sn + 1) → jw_J g 9 m_M_go jw_T0 6 [some (.inr (.inr (some mo))), some (.inl (nI k0)), some (.inl (nI (tp_at X.2.2.1 (bl_out D X k i m Fr cn C v).1 + k * 200))), some (.inl (nI k)), some (.inl (nI (k * 50 + i))), some (.inl (nI (rn_stop X i + k * 200)))] [] h3 0 0 Q := by
        intro i' Fr' cn' C' ebl hJ
        rw [ebl] at u3 c3 ⊢
        exact hJ h3 _ _ _ ⟨F3, u3, c3, O3, s3, a6, e3⟩
      rw [rn_block] at hA hB
      cases hfi : rn_first D (rn_s X i) v with
      | false =>
        simp only [hfi] at hA hB
        cases ho : X.2.2.2.1 i with
        | none =>
          rw [ho] at hA
          have ebl : bl_out D X k i m Fr cn C v = (rn_after X i, m, Fr, cn, C) := by rw [bl_out, hfi, if_neg (by decide), ho]
          rw [ebl] at u3 c3 ⊢
          exact hA _ _ rfl h3 _ _ _ ⟨F3, u3, c3, O3, s3, a6, e3⟩
        | some o =>
          rw [ho] at hA hB
          have hoo := hot o ho
          have ebl : bl_out D X k i m Fr cn C v = (o + 1, m + 1, va_up Fr m (k, k * 50 + i, rn_s X i, false, true, 0, -1), cn, C) := by rw [bl_out, hfi, if_neg (by decide), ho]
          refine part _ _ _ _ ebl ?_
          have euw := fr_uw_pu Fr m (k, k * 50 + i, rn_s X i, false, true, 0, -1)
          have etn := fr_turn_pu Fr m (k, k * 50 + i, rn_s X i, false, true, 0, -1)
          have ehe := fr_here_pu Fr k0 m (k, k * 50 + i, rn_s X i, false, true, 0, -1)
          rw [if_neg (by exact Bool.false_ne_true)] at euw etn ehe
          rw [if_neg (fun z => absurd z.2 (by intro e; cases e))] at etn
          have ihb := ih k X (o + 1) (d + 1) (m + 1) (va_up Fr m (k, k * 50 + i, rn_s X i, false, true, 0, -1)) cn C O2 (sn + 1) lv ⟨hk, hX, hlv, by omega, by rw [hoo.2.2.2.1, hd], by omega, ehe.trans hhe, by rw [euw]; omega, by rw [euw]; omega, hc1, by rw [euw]; omega, by rw [euw]; omega⟩
          rw [etn, euw] at ihb
          refine ihb hB (fun O' sn' hr => ?_)
          exact cm_go_end hg hD0 hk hX hlt hb (by rw [if_pos (Or.inl rfl)]) (fun _ _ => rfl) (fun z => by cases z) (fun z => absurd z.2.1 (by intro e; cases e)) (fun _ => hA O' sn' hr)
      | true =>
        simp only [hfi, if_true] at hA hB
        by_cases b3 : rn_s X i = 3
        · simp only [if_pos b3] at hA hB
          have ebl : bl_out D X k i m Fr cn C v = (i + 1, m + 1, va_up Fr m (k, k * 50 + i, rn_s X i, false, false, 0, -1), cn, C) := by rw [bl_out, hfi, if_pos rfl, if_pos b3, if_pos b3, if_neg (by omega)]
          refine part _ _ _ _ ebl ?_
          have euw := fr_uw_pu Fr m (k, k * 50 + i, rn_s X i, false, false, 0, -1)
          have etn := fr_turn_pu Fr m (k, k * 50 + i, rn_s X i, false, false, 0, -1)
          have ehe := fr_here_pu Fr k0 m (k, k * 50 + i, rn_s X i, false, false, 0, -1)
          rw [if_neg (by exact Bool.false_ne_true)] at euw etn ehe
          rw [if_neg (fun z => absurd (show rn_s X i = 4 from z.1) (by omega))] at etn
          have ihb := ih k X (i + 1) (d + 1) (m + 1) (va_up Fr m (k, k * 50 + i, rn_s X i, false, false, 0, -1)) cn C O2 (sn + 1) lv ⟨hk, hX, hlv, by omega, hd1, by omega, ehe.trans hhe, by rw [euw]; omega, by rw [euw]; omega, hc1, by rw [euw]; omega, by rw [euw]; omega⟩
          rw [etn, euw] at ihb
          refine ihb hB (fun O' sn' hr => ?_)
          exact cm_go_end hg hD0 hk hX hlt hb (by rw [if_pos (Or.inr b3)]) (fun _ _ => rfl) (fun _ z => absurd z (by omega)) (fun z => absurd (show rn_s X i = 4 from z.1) (by omega)) (fun _ => hA O' sn' hr)
        simp only [if_neg b3] at hA hB
        by_cases b5 : rn_s X i = 5
        · simp only [if_pos b5] at hA hB
          have ebl : bl_out D X k i m Fr cn C v = (i + 1, m + 1, va_up Fr m (k, k * 50 + i, rn_s X i, false, false, 0, -1), cn + 1, va_up C cn v) := by rw [bl_out, hfi, if_pos rfl, if_neg b3, if_neg b3, if_neg (by omega), if_pos b5]
          refine part _ _ _ _ ebl ?_
          have euw := fr_uw_pu Fr m (k, k * 50 + i, rn_s X i, false, false, 0, -1)
          have etn := fr_turn_pu Fr m (k, k * 50 + i, rn_s X i, false, false, 0, -1)
          have ehe := fr_here_pu Fr k0 m (k, k * 50 + i, rn_s X i, false, false, 0, -1)
          rw [if_neg (by exact Bool.false_ne_true)] at euw etn ehe
          rw [if_neg (fun z => absurd (show rn_s X i = 4 from z.1) (by omega))] at etn
          have ihb := ih k X (i + 1) (d + 1) (m + 1) (va_up Fr m (k, k * 50 + i, rn_s X i, false, false, 0, -1)) (cn + 1) (va_up C cn v) O2 (sn + 1) lv ⟨hk, hX, hlv, by omega, hd1, by omega, ehe.trans hhe, by rw [euw]; omega, by rw [euw]; omega, by omega, by rw [euw]; omega, by rw [euw]; omega⟩
          rw [etn, euw] at ihb
          refine ihb hB (fun O' sn' hr => ?_)
          exact cm_go_end hg hD0 hk hX hlt hb (by rw [if_neg (fun z => by rcases z with z | z; cases z; exact b3 z)]) (fun j hj => va_up_ne _ _ (by omega)) (fun _ z => absurd z (by omega)) (fun z => absurd (show rn_s X i = 4 from z.1) (by omega)) (fun _ => hA O' sn' hr)
        simp only [if_neg b5] at hA hB
        have b4 : rn_s X i = 4 := by omega
        have hmany : 0 < rn_many D v := by
          rw [rn_first, if_neg b3, if_neg b5] at hfi
          exact of_decide_eq_true hfi
        obtain ⟨x, rfl⟩ : ∃ x, v = some (.inr (.inr x)) := by
          rcases v with _ | v | L | x
          · exact absurd hmany (Nat.lt_irrefl 0)
          · exact absurd hmany (Nat.lt_irrefl 0)
          · exact absurd hmany (Nat.lt_irrefl 0)
          · exact ⟨x, rfl⟩
        obtain ⟨xn, xk⟩ := hvx x rfl
        have hc10 : sd_c D x ≤ 10 := ((hD.2.1.2 x xn).2.2.2.2.2.1 xk).1
        have hn60 := hD.2.1.1
        have ex : ∀ j, en_x (k, k * 50 + i, rn_s X i, false, false, j, nI x) = x := fun j => nI_clamp (by omega)
        have ebl : bl_out D X k i m Fr cn C (some (.inr (.inr x))) = (i + 1, m + 1, va_up Fr m (k, k * 50 + i, rn_s X i, false, false, 0, nI x), cn + 1, va_up C cn (rn_part D (some (.inr (.inr x))) 0)) := by rw [bl_out, hfi, if_pos rfl, if_neg b3, if_neg b3, if_pos b4, if_neg b5]; rfl
        refine part _ _ _ _ ebl ?_
        have turns : ∀ r j O' sn', j + r = sd_c D x → 0 < r → (∀ c, rn_each (fun j => rn D TP f X (i + 1) (va_up C cn (rn_part D (some (.inr (.inr x))) j)) (cn + 1) (some j) (fr_uw Fr m)) r j O' sn' = .inl c → go_X Q h0 mo ar c) → (∀ O1 sn1, rn_each (fun j => rn D TP f X (i + 1) (va_up C cn (rn_part D (some (.inr (.inr x))) j)) (cn + 1) (some j) (fr_uw Fr m)) r j O' sn' = .inr (O1, sn1) → go_J g Q h0 mo ar n D k0 k X (rn_after X i) m Fr cn C O1 sn1) → go_J g Q h0 mo ar n D k0 k X (i + 1) (m + 1) (va_up Fr m (k, k * 50 + i, rn_s X i, false, false, j, nI x)) (cn + 1) (va_up C cn (rn_part D (some (.inr (.inr x))) j)) O' sn' := by
          intro r
          induction r with
          | zero => intro j O' sn' _ h0; exact absurd h0 (by omega)
          | succ r ihr =>
            intro j O' sn' hj _ hB hA
            have euw := fr_uw_pu Fr m (k, k * 50 + i, rn_s X i, false, false, j, nI x)
            have etn := fr_turn_pu Fr m (k, k * 50 + i, rn_s X i, false, false, j, nI x)
            have ehe := fr_here_pu Fr k0 m (k, k * 50 + i, rn_s X i, false, false, j, nI x)
            rw [if_neg (by exact Bool.false_ne_true)] at euw etn ehe
            rw [if_pos ⟨b4, rfl⟩] at etn
            have ihb := ih k X (i + 1) (d + 1) (m + 1) (va_up Fr m (k, k * 50 + i, rn_s X i, false, false, j, nI x)) (cn + 1) (va_up C cn (rn_part D (some (.inr (.inr x))) j)) O' sn' lv ⟨hk, hX, hlv, by omega, hd1, by omega, ehe.trans hhe, by rw [euw]; omega, by rw [euw]; omega, by omega, by rw [euw]; omega, by rw [euw]; omega⟩
            rw [etn, euw] at ihb
            refine ihb (fun c hc => hB c (rn_then_l hc)) (fun O3 sn3 hr => ?_)
            have hB2 : ∀ c, rn_each (fun j => rn D TP f X (i + 1) (va_up C cn (rn_part D (some (.inr (.inr x))) j)) (cn + 1) (some j) (fr_uw Fr m)) r (j + 1) O3 sn3 = .inl c → go_X Q h0 mo ar c := fun c hc => hB c ((rn_then_r hr).trans hc)
            have hA2 : ∀ O1 sn1, rn_each (fun j => rn D TP f X (i + 1) (va_up C cn (rn_part D (some (.inr (.inr x))) j)) (cn + 1) (some j) (fr_uw Fr m)) r (j + 1) O3 sn3 = .inr (O1, sn1) → go_J g Q h0 mo ar n D k0 k X (rn_after X i) m Fr cn C O1 sn1 := fun O1 sn1 hc => hA O1 sn1 ((rn_then_r hr).trans hc)
            refine cm_go_end hg hD0 hk hX hlt hb (by rw [if_neg (fun z => by rcases z with z | z; cases z; exact b3 z)]) (fun j hj => va_up_ne _ _ (by omega)) (fun _ _ => by rw [ex j]; exact ⟨by omega, rfl, xn, xk⟩) (fun z => ?_) (fun z => ?_)
            · have z2 : j + 1 < sd_c D (en_x (k, k * 50 + i, rn_s X i, false, false, j, nI x)) := z.2.2
              rw [ex j] at z2 ⊢
              exact ihr (j + 1) O3 sn3 (by omega) (by omega) hB2 hA2
            · have hr0 : r = 0 := by
                rcases Nat.eq_zero_or_pos r with q | q
                · exact q
                · exact absurd ⟨b4, rfl, by rw [ex j]; show j + 1 < _; omega⟩ z
              subst hr0
              exact hA2 O3 sn3 rfl
        exact turns (sd_c D x) 0 O2 (sn + 1) (by omega) hmany hB hA

