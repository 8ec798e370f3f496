/-! the model takes the whole line apart -/
theorem mt_537 {h h0 : jh_H} {mo : Nat} {ar : Nat → Nat} (hm : mo_ok h0 mo ar) {a n x : Nat} {v : Int32} {T : pp_T} {ot la : pp_O} (hmt : mt_ok h ar a n T ot la) : mt_ok (jh_sI h (ar 537) x v) ar a n T ot la := by
  intro i hi
  have h1 := hmt i hi
  exact ⟨((jh_u_a _ _ _ _ (mo_ne hm 11 18 rfl rfl (by decide))).trans h1.1), ((jh_u_a _ _ _ _ (mo_ne hm 13 18 rfl rfl (by decide))).trans h1.2.1), ((jh_u_a _ _ _ _ (mo_ne hm 14 18 rfl rfl (by decide))).trans h1.2.2.1), ((jh_u_a _ _ _ _ (mo_ne hm 12 18 rfl rfl (by decide))).trans h1.2.2.2.1), ((jh_u_a _ _ _ _ (mo_ne hm 15 18 rfl rfl (by decide))).trans h1.2.2.2.2.1), ((jh_u_a _ _ _ _ (mo_ne hm 16 18 rfl rfl (by decide))).trans h1.2.2.2.2.2.1), ((jh_u_a _ _ _ _ (mo_ne hm 17 18 rfl rfl (by decide))).trans h1.2.2.2.2.2.2)⟩
theorem mt_535 {h h0 : jh_H} {mo : Nat} {ar : Nat → Nat} (hm : mo_ok h0 mo ar) {a n i0 x : Nat} {T : pp_T} {ot la : pp_O} (hmt : mt_ok h ar a n T ot la) : mt_ok (jh_sI h (ar 535) (a + i0) (nI (a + x))) ar a n T (va_up ot i0 (some x)) la := by
  intro i hi
  have h1 := hmt i hi
  refine ⟨((jh_u_a _ _ _ _ (mo_ne hm 11 16 rfl rfl (by decide))).trans h1.1), ((jh_u_a _ _ _ _ (mo_ne hm 13 16 rfl rfl (by decide))).trans h1.2.1), ((jh_u_a _ _ _ _ (mo_ne hm 14 16 rfl rfl (by decide))).trans h1.2.2.1), ((jh_u_a _ _ _ _ (mo_ne hm 12 16 rfl rfl (by decide))).trans h1.2.2.2.1), ((jh_u_a _ _ _ _ (mo_ne hm 15 16 rfl rfl (by decide))).trans h1.2.2.2.2.1), ?_, ((jh_u_a _ _ _ _ (mo_ne hm 17 16 rfl rfl (by decide))).trans h1.2.2.2.2.2.2)⟩
  by_cases z : i = i0
  · subst z; rw [va_up_self]; exact jh_u_s _ _ _ _
  · rw [va_up_ne _ _ z]; exact (jh_u_k _ _ _ _ (by omega)).trans h1.2.2.2.2.2.1
theorem mt_536 {h h0 : jh_H} {mo : Nat} {ar : Nat → Nat} (hm : mo_ok h0 mo ar) {a n i0 x : Nat} {T : pp_T} {ot la : pp_O} (hmt : mt_ok h ar a n T ot la) : mt_ok (jh_sI h (ar 536) (a + i0) (nI (a + x))) ar a n T ot (va_up la i0 (some x)) := by
  intro i hi
  have h1 := hmt i hi
  refine ⟨((jh_u_a _ _ _ _ (mo_ne hm 11 17 rfl rfl (by decide))).trans h1.1), ((jh_u_a _ _ _ _ (mo_ne hm 13 17 rfl rfl (by decide))).trans h1.2.1), ((jh_u_a _ _ _ _ (mo_ne hm 14 17 rfl rfl (by decide))).trans h1.2.2.1), ((jh_u_a _ _ _ _ (mo_ne hm 12 17 rfl rfl (by decide))).trans h1.2.2.2.1), ((jh_u_a _ _ _ _ (mo_ne hm 15 17 rfl rfl (by decide))).trans h1.2.2.2.2.1), ((jh_u_a _ _ _ _ (mo_ne hm 16 17 rfl rfl (by decide))).trans h1.2.2.2.2.2.1), ?_⟩
  by_cases z : i = i0
  · subst z; rw [va_up_self]; exact jh_u_s _ _ _ _
  · rw [va_up_ne _ _ z]; exact (jh_u_k _ _ _ _ (by omega)).trans h1.2.2.2.2.2.2
set_option maxHeartbeats 4000000 in
set_option maxRecDepth 100000 in
theorem cm_takeApart {g : jg_G} (hg : (jg_l g).stackTraces = false) {h : jh_H} {mo n0 : Nat} {ar ln t0 : Nat → Nat} {Q : jw_O → jh_H → Prop} (hm : mo_ok h mo ar) (hn0 : n0 ≤ 200) (hty : jh_i h mo 514 = nI n0) (hln : ∀ i, i < n0 → jh_I h (ar 519) i = nI (ln i) ∧ ln i < 128) (ht0 : mo_tx h ar t0)
    (hq : ∀ h' t, (∀ i, t i = if 800 ≤ i ∧ i < 800 + n0 then ln (i - 800) else t0 i) → mo_fr h h' ar ta_F → mo_tx h' ar t → match pp_all t 800 (800 + n0) with
      | .inl k => Q (.inl (some (.inl (nI (k - 800))))) h'
      | .inr (n, T, ot, la) => mt_ok h' ar 200 n T ot la → jh_I h' (ar 528) 4 = nI n → n ≤ 50 → Q (.inl (some (.inl (-1)))) h') :
    jw_C g 8 0 0 m_M_takeApart [.inr (.inr (some mo))] h Q := by
  refine jw_intro (ls := [some (.inr (.inr (some mo))), none, none, none, none, none]) (by decide) k_M_takeApart rfl (by simp [lo_fit, jv_c]) hg ?_
  obtain ⟨t, ht⟩ : ∃ t : Nat → Nat, ∀ i, t i = if 800 ≤ i ∧ i < 800 + n0 then ln (i - 800) else t0 i := ⟨fun i => if 800 ≤ i ∧ i < 800 + n0 then ln (i - 800) else t0 i, fun _ => rfl⟩
  have main : ∀ f p n T d os ot la h1, 800 + n0 < p + f → mo_fr h h1 ar ta_F → mo_tx h1 ar t → mt_ok h1 ar 200 n T ot la → d ≤ 4 → (∀ j, j < d → os j < n ∧ jh_I h1 (ar 537) j = nI (200 + os j)) → 800 + 4 * n ≤ p → p ≤ 800 + n0 → (∀ i, i < n → (T i).2.2.2.2 ≤ 10 ∧ 800 ≤ (T i).1 ∧ (T i).1 ≤ 1000 ∧ ∀ x, ot i = some x → x < n) →
      (∀ h' , mo_fr h h' ar ta_F → mo_tx h' ar t → match pp t (800 + n0) f p n T d os ot la with
        | .inl k => Q (.inl (some (.inl (nI (k - 800))))) h'
        | .inr (n, T, ot, la) => mt_ok h' ar 200 n T ot la → jh_I h' (ar 528) 4 = nI n → n ≤ 50 → Q (.inl (some (.inl (-1)))) h') →
      jw_J g 8 m_M_takeApart jw_T0 56 [some (.inr (.inr (some mo))), some (.inl (nI p)), some (.inl (nI (800 + n0))), some (.inl (nI d)), some (.inl (nI (200 + n))), none] [] h1 0 0 Q := by
    intro f
    induction f with
    | zero => intro p n T d os ot la h1 hf _ _ _ _ _ _ hp; omega
    | succ f ih =>
      intro p n T d os ot la h1 hf hfr htx hmt hd hos hpn hp hT hq
      have hm1 : mo_ok h1 mo ar := mo_fr.ok hfr hm
      rw [pp] at hq
      refine jw_aload_n rfl rfl ?_
      refine jw_iload_n rfl rfl ?_
      refine jw_iload_n rfl rfl ?_
      refine jw_iload rfl rfl ?_
      refine js_call (As := [.inl (nI p), .inl (nI (800 + n0)), .inl (nI (200 + n))]) rfl l_M_takeTag c_M_268 i_M_takeTag s_M_takeTag jc_o8 rfl hm1.1 rfl (cm_takeTag hg hm1 htx hp (by omega) (fun hk => ?_) (fun hk => ?_) (fun hk hqe => ?_) (fun hk hqe => ?_)) (by decide) (Nat.le_of_ble_eq_true rfl) (by omega) (by omega) rfl
      · have := (sp_fd_le t (800 + n0) [123, 123] (800 + n0 - p) p hp).2
        have : p ≤ sp_k t p (800 + n0) := this
        omega
      · rw [if_pos hk] at hq
        refine js_istore rfl rfl (by decide) rfl ?_
        refine jw_iload rfl rfl ?_
        refine jw_if_ge 83 rfl rfl (fun _ => ?_) (fun c => absurd (by decide) c)
        refine jw_iload rfl rfl ?_
        refine jw_if_ne 91 rfl rfl (fun c => absurd rfl c) (fun _ => ?_)
        refine jw_goto 129 rfl rfl ?_
        refine jw_aload_n rfl rfl ?_
        refine jw_gr rfl g_M_62 hm1.1 (mo_r hm1 9 rfl) ?_
        refine js_iconst (x := 4) rfl rfl ?_
        refine jw_iload rfl rfl ?_
        refine js_sipush (x := 200) rfl rfl ?_
        refine jw_isub rfl ?_
        rw [show nI (200 + n) - 200 = nI n from by rw [show (200 : Int32) = nI 200 from rfl, pk_sub (by omega)]; congr 1; omega]
        refine js_iast (4) rfl (mo_a hm1 9 rfl) (by decide) (by rfl)  rfl (by decide) (by decide) ?_
        refine jw_iload_n rfl rfl ?_
        have hfr2 : mo_fr h (jh_sI h1 (ar 528) 4 (nI n)) ar ta_F := mo_fr.sI hfr (Or.inr (Or.inr (Or.inr ⟨rfl, rfl⟩)))
        have htx2 : mo_tx (jh_sI h1 (ar 528) 4 (nI n)) ar t := mo_tx_s hm htx 9 rfl (by decide) 4 _
        have q2 := hq _ hfr2 htx2
        refine jw_if_le 165 rfl rfl (fun c => ?_) (fun c => ?_)
        · have h0 : ¬ 0 < d := fun z => absurd ((nI_leI (b := 0) (by omega) (by omega)).mp c) (by omega)
          rw [if_neg h0] at q2
          refine js_iconst (x := (-1)) rfl rfl ?_
          refine jw_ireturn rfl rfl rfl ?_
          refine q2 ?_ (jh_u_s _ _ _ _) (by omega)
          intro i hi
          have m1 := hmt i hi
          exact ⟨((jh_u_a _ _ _ _ (mo_ne hm 11 9 rfl rfl (by decide))).trans m1.1), ((jh_u_a _ _ _ _ (mo_ne hm 13 9 rfl rfl (by decide))).trans m1.2.1), ((jh_u_a _ _ _ _ (mo_ne hm 14 9 rfl rfl (by decide))).trans m1.2.2.1), ((jh_u_a _ _ _ _ (mo_ne hm 12 9 rfl rfl (by decide))).trans m1.2.2.2.1), ((jh_u_a _ _ _ _ (mo_ne hm 15 9 rfl rfl (by decide))).trans m1.2.2.2.2.1), ((jh_u_a _ _ _ _ (mo_ne hm 16 9 rfl rfl (by decide))).trans m1.2.2.2.2.2.1), ((jh_u_a _ _ _ _ (mo_ne hm 17 9 rfl rfl (by decide))).trans m1.2.2.2.2.2.2)⟩
        · have h0 : 0 < d := Nat.pos_of_ne_zero (fun z => c (by rw [z]; decide))
          rw [if_pos h0] at q2
          have ho := hos (d - 1) (by omega)
          have hb := hmt (os (d - 1)) ho.1
          have hT2 := hT (os (d - 1)) ho.1
          refine jw_aload_n rfl rfl ?_
          refine jw_gr rfl g_M_68 (mo_sI hm1).1 (mo_r (mo_sI hm1) 11 rfl) ?_
          refine jw_aload_n rfl rfl ?_
          refine jw_gr rfl g_M_89 (mo_sI hm1).1 (mo_r (mo_sI hm1) 18 rfl) ?_
          refine jw_iload_n rfl rfl ?_
          refine js_iconst (x := 1) rfl rfl ?_
          refine jw_isub rfl ?_
          rw [show nI d - 1 = nI (d - 1) from pk_sub (b := 1) h0]
          refine js_iald (d - 1) rfl (mo_a (mo_sI hm1) 18 rfl) (by decide) (by rfl)  rfl (by omega) (by decide) ?_
          rw [show jh_I (jh_sI h1 (ar 528) 4 (nI n)) (ar 537) (d - 1) = nI (200 + os (d - 1)) from (jh_u_a _ _ _ _ (mo_ne hm 18 9 rfl rfl (by decide))).trans ho.2]
          refine js_iald (200 + os (d - 1)) rfl (mo_a (mo_sI hm1) 11 rfl) (by decide) (by rfl)  rfl (by omega) (by decide) ?_
          rw [show jh_I (jh_sI h1 (ar 528) 4 (nI n)) (ar 530) (200 + os (d - 1)) = nI (T (os (d - 1))).1 from (jh_u_a _ _ _ _ (mo_ne hm 11 9 rfl rfl (by decide))).trans hb.1]
          refine js_sipush (x := 800) rfl rfl ?_
          refine jw_isub rfl ?_
          rw [show nI (T (os (d - 1))).1 - 800 = nI ((T (os (d - 1))).1 - 800) from pk_sub (b := 800) hT2.2.1]
          refine jw_goto 166 rfl rfl ?_
          refine jw_ireturn rfl rfl rfl ?_
          exact q2
      · rw [if_neg (by omega), if_pos hqe] at hq
        have hj : n < 50 := by
          have := (sp_fd_le t (800 + n0) [123, 123] (800 + n0 - p) p hp).2
          have : p ≤ sp_k t p (800 + n0) := this
          omega
        have hk8 : 800 ≤ sp_k t p (800 + n0) := by
          have := (sp_fd_le t (800 + n0) [123, 123] (800 + n0 - p) p hp).2
          have : p ≤ sp_k t p (800 + n0) := this
          omega
        refine js_istore rfl rfl (by decide) rfl ?_
        refine jw_iload rfl rfl ?_
        refine jw_if_ge 83 rfl rfl (fun c => absurd c (by decide)) (fun _ => ?_)
        refine jw_aload_n rfl rfl ?_
        refine jw_gr rfl g_M_68 (mo_sI hm1).1 (mo_r (mo_sI hm1) 11 rfl) ?_
        refine jw_iload rfl rfl ?_
        refine js_iald (200 + n) rfl (mo_a (mo_sI hm1) 11 rfl) (by decide) (by rfl)  rfl (by omega) (by decide) ?_
        rw [show jh_I (jh_sI h1 (ar 530) (200 + n) (nI (sp_k t p (800 + n0)))) (ar 530) (200 + n) = nI (sp_k t p (800 + n0)) from jh_u_s _ _ _ _]
        refine js_sipush (x := 800) rfl rfl ?_
        refine jw_isub rfl ?_
        rw [show nI (sp_k t p (800 + n0)) - 800 = nI (sp_k t p (800 + n0) - 800) from pk_sub (b := 800) hk8]
        refine jw_ireturn rfl rfl rfl ?_
        exact hq _ (mo_fr.sI hfr (Or.inr (Or.inl ⟨by decide, by decide, by omega⟩))) (mo_tx_s hm htx 11 rfl (by decide) _ _)
      · rw [if_neg (by omega), if_neg (by omega)] at hq
        have hpk : p ≤ sp_k t p (800 + n0) := (sp_fd_le t (800 + n0) [123, 123] (800 + n0 - p) p hp).2
        have hj : n < 50 := by omega
        have hk8 : 800 ≤ sp_k t p (800 + n0) := by omega
        have hff := sp_f_le t hp hk
        have hfq : sp_f t p (800 + n0) ≤ sp_q t p (800 + n0) := (sp_fd_le t (800 + n0) _ _ _ hff).2
        have hkf : sp_k t p (800 + n0) + 2 ≤ sp_f t p (800 + n0) := by
          rw [sp_f]; cases sp_th t p (800 + n0) <;> simp [sp_n]
        have hqn : sp_q t p (800 + n0) + sp_n (sp_th t p (800 + n0)) ≤ 800 + n0 := by
          have h1 := sp_fd_at t (800 + n0) (sp_cl (sp_th t p (800 + n0))) (800 + n0 - sp_f t p (800 + n0)) (sp_f t p (800 + n0)) hff (by omega) hqe
          have h2 := sp_st_len t (by cases sp_th t p (800 + n0) <;> simp [sp_cl]) (by cases sp_th t p (800 + n0) <;> simp [sp_cl]) (show sp_q t p (800 + n0) ≤ 800 + n0 by omega) h1
          have h3 : (sp_cl (sp_th t p (800 + n0))).length = sp_n (sp_th t p (800 + n0)) := by cases sp_th t p (800 + n0) <;> rfl
          have h4 : sp_q t p (800 + n0) + (sp_cl (sp_th t p (800 + n0))).length ≤ 800 + n0 := h2
          omega
        have hn2 : 2 ≤ sp_n (sp_th t p (800 + n0)) := by cases sp_th t p (800 + n0) <;> decide
        refine js_istore rfl rfl (by decide) rfl ?_
        refine jw_iload rfl rfl ?_
        cases hs : sp_sort t (sp_f t p (800 + n0)) (sp_q t p (800 + n0)) (sp_th t p (800 + n0)) with
        | none =>
          simp only [hs] at hq
          refine jw_if_ge 83 rfl rfl (fun c => absurd c (by decide)) (fun _ => ?_)
          have hm2 : mo_ok (tg_set h1 ar (200 + n) (sp_k t p (800 + n0)) (sp_f t p (800 + n0)) (sp_q t p (800 + n0)) (sp_n (sp_th t p (800 + n0))) none) mo ar := hm1
          refine jw_aload_n rfl rfl ?_
          refine jw_gr rfl g_M_68 hm2.1 (mo_r hm2 11 rfl) ?_
          refine jw_iload rfl rfl ?_
          refine js_iald (200 + n) rfl (mo_a hm2 11 rfl) (by decide) (by rfl)  rfl (by omega) (by decide) ?_
          rw [tg_530 hm, if_pos rfl]
          refine js_sipush (x := 800) rfl rfl ?_
          refine jw_isub rfl ?_
          rw [show nI (sp_k t p (800 + n0)) - 800 = nI (sp_k t p (800 + n0) - 800) from pk_sub (b := 800) hk8]
          refine jw_ireturn rfl rfl rfl ?_
          exact hq _ (tg_fr hfr (by omega)) (tg_tx hm htx)
        | some s =>
          simp only [hs] at hq
          have hs10 := sp_sort_le hs
          refine jw_if_ge 83 rfl rfl (fun _ => ?_) (fun c => absurd (show (0 : Int32) ≤ 1 by decide) c)
          refine jw_iload rfl rfl ?_
          refine jw_if_ne 91 rfl rfl (fun _ => ?_) (fun c => absurd c (show ¬ (1 : Int32) = 0 by decide))
          generalize hh2 : tg_set h1 ar (200 + n) (sp_k t p (800 + n0)) (sp_f t p (800 + n0)) (sp_q t p (800 + n0)) (sp_n (sp_th t p (800 + n0))) (some s) = h2
          have hfr2 : mo_fr h h2 ar ta_F := by rw [← hh2]; exact tg_fr hfr (by omega)
          have htx2 : mo_tx h2 ar t := by rw [← hh2]; exact tg_tx hm htx
          have hmt2 : mt_ok h2 ar 200 (n + 1) (va_up T n (pp_new t p (800 + n0) s)) (va_up ot n none) (va_up la n none) := by rw [← hh2]; exact tg_mt hm hmt
          have hos2 : ∀ j, j < d → os j < n ∧ jh_I h2 (ar 537) j = nI (200 + os j) := fun j hj => by rw [← hh2, tg_537 hm]; exact hos j hj
          have hm2 : mo_ok h2 mo ar := mo_fr.ok hfr2 hm
          have hsn : jh_I h2 (ar 534) (200 + n) = nI s := by
            have := (hmt2 n (by omega)).2.2.2.2.1
            rwa [va_up_self] at this
          have hT2 : ∀ i, i < n + 1 → (va_up T n (pp_new t p (800 + n0) s) i).2.2.2.2 ≤ 10 ∧ 800 ≤ (va_up T n (pp_new t p (800 + n0) s) i).1 ∧ (va_up T n (pp_new t p (800 + n0) s) i).1 ≤ 1000 ∧ ∀ x, va_up ot n none i = some x → x < n + 1 := by
            intro i hi
            by_cases z : i = n
            · subst z; rw [va_up_self, va_up_self]; exact ⟨hs10, hk8, by show sp_k t p (800 + n0) ≤ 1000; omega, fun x hx => by cases hx⟩
            · rw [va_up_ne _ _ z, va_up_ne _ _ z]
              have := hT i (by omega)
              exact ⟨this.1, this.2.1, this.2.2.1, fun x hx => by have := this.2.2.2 x hx; omega⟩
          generalize hTn : va_up T n (pp_new t p (800 + n0) s) = T2 at hmt2 hT2 hq
          have hTe : (T2 n).2.2.2.1 = sp_q t p (800 + n0) + sp_n (sp_th t p (800 + n0)) ∧ (T2 n).1 = sp_k t p (800 + n0) := by rw [← hTn, va_up_self]; exact ⟨rfl, rfl⟩
          generalize va_up ot n none = ot2 at hmt2 hT2 hq
          generalize va_up la n none = la2 at hmt2 hq
          -- the end of a turn: the next tag
          have next : ∀ (d' : Nat) (os' : Nat → Nat) (ot' la' : pp_O) (h3 : jh_H), pp_fit n s (fun x => (T2 x).2.2.2.2) d os ot2 la2 = some (d', os', ot', la') → mo_fr h h3 ar ta_F → mo_tx h3 ar t → mt_ok h3 ar 200 (n + 1) T2 ot' la' → d' ≤ 4 → (∀ j, j < d' → os' j < n + 1 ∧ jh_I h3 (ar 537) j = nI (200 + os' j)) → (∀ i, i < n + 1 → ∀ x, ot' i = some x → x < n + 1) → jw_J g 8 m_M_takeApart jw_T0 98 [some (.inr (.inr (some mo))), some (.inl (nI p)), some (.inl (nI (800 + n0))), some (.inl (nI d)), some (.inl (nI (200 + n))), some (.inl 1)] [.inl (nI d')] h3 0 0 Q := by
            intro d' os' ot' la' h3 hfit hfr3 htx3 hmt3 hd3 hos3 hot3
            have hm3 : mo_ok h3 mo ar := mo_fr.ok hfr3 hm
            rw [hfit] at hq
            simp only at hq
            refine js_istore_n rfl rfl (by decide) rfl ?_
            refine jw_iload_n rfl rfl ?_
            refine jw_if_ge 115 rfl rfl (fun _ => ?_) (fun c => absurd (nI_pos' (by omega)) c)
            refine jw_aload_n rfl rfl ?_
            refine jw_gr rfl g_M_71 hm3.1 (mo_r hm3 12 rfl) ?_
            refine jw_iload rfl rfl ?_
            refine js_iald (200 + n) rfl (mo_a hm3 12 rfl) (by decide) (by rfl)  rfl (by omega) (by decide) ?_
            rw [(hmt3 n (by omega)).2.2.2.1, hTe.1]
            refine js_istore_n rfl rfl (by decide) rfl ?_
            refine js_iinc rfl rfl (nI_1 (200 + n)) rfl (by decide) rfl ?_
            refine jw_goto 56 rfl rfl ?_
            rw [show 200 + n + 1 = 200 + (n + 1) by omega]
            refine js_drop 5 rfl (ih _ (n + 1) T2 d' os' ot' la' h3 (by omega) hfr3 htx3 hmt3 hd3 hos3 (by omega) hqn (fun i hi => ⟨(hT2 i hi).1, (hT2 i hi).2.1, (hT2 i hi).2.2.1, hot3 i hi⟩) hq)
          have fault : ∀ h3 : jh_H, pp_fit n s (fun x => (T2 x).2.2.2.2) d os ot2 la2 = none → mo_fr h h3 ar ta_F → mo_tx h3 ar t → jh_I h3 (ar 530) (200 + n) = nI (sp_k t p (800 + n0)) → jw_J g 8 m_M_takeApart jw_T0 98 [some (.inr (.inr (some mo))), some (.inl (nI p)), some (.inl (nI (800 + n0))), some (.inl (nI d)), some (.inl (nI (200 + n))), some (.inl 1)] [.inl (-1)] h3 0 0 Q := by
            intro h3 hfit hfr3 htx3 hbeg
            have hm3 : mo_ok h3 mo ar := mo_fr.ok hfr3 hm
            rw [hfit] at hq
            refine js_istore_n rfl rfl (by decide) rfl ?_
            refine jw_iload_n rfl rfl ?_
            refine jw_if_ge 115 rfl rfl (fun c => absurd c (by decide)) (fun _ => ?_)
            refine jw_aload_n rfl rfl ?_
            refine jw_gr rfl g_M_68 hm3.1 (mo_r hm3 11 rfl) ?_
            refine jw_iload rfl rfl ?_
            refine js_iald (200 + n) rfl (mo_a hm3 11 rfl) (by decide) (by rfl)  rfl (by omega) (by decide) ?_
            rw [hbeg]
            refine js_sipush (x := 800) rfl rfl ?_
            refine jw_isub rfl ?_
            rw [show nI (sp_k t p (800 + n0)) - 800 = nI (sp_k t p (800 + n0) - 800) from pk_sub (b := 800) hk8]
            refine jw_ireturn rfl rfl rfl ?_
            exact hq _ hfr3 htx3
          have hbeg2 : jh_I h2 (ar 530) (200 + n) = nI (sp_k t p (800 + n0)) := by rw [(hmt2 n (by omega)).1, hTe.2]
          have hb0 : 0 < d → jh_I h2 (ar 537) (d - 1) = nI (200 + os (d - 1)) ∧ 200 + os (d - 1) < 250 ∧ jh_I h2 (ar 534) (200 + os (d - 1)) = nI (T2 (os (d - 1))).2.2.2.2 ∧ (T2 (os (d - 1))).2.2.2.2 ≤ 10 := by
            intro h0
            have h1 := hos2 (d - 1) (by omega)
            exact ⟨h1.2, by omega, (hmt2 (os (d - 1)) (by omega)).2.2.2.2.1, (hT2 (os (d - 1)) (by omega)).1⟩
          have hw : ∀ {k j : Nat} {v : Int32} {hx : jh_H}, mo_fr h hx ar ta_F → (k = 535 ∨ k = 536) → 200 ≤ j → mo_fr h (jh_sI hx (ar k) j v) ar ta_F := fun hx hk hj => mo_fr.sI hx (Or.inr (Or.inl ⟨by rcases hk with rfl | rfl <;> decide, by rcases hk with rfl | rfl <;> decide, hj⟩))
          refine jw_aload_n rfl rfl ?_
          refine jw_iload rfl rfl ?_
          refine jw_iload_n rfl rfl ?_
          refine js_call (As := [.inl (nI (200 + n)), .inl (nI d)]) rfl l_M_fit c_M_272 i_M_fit s_M_fit jc_o8 rfl hm2.1 rfl (cm_fit hg hm2 (b := 200 + os (d - 1)) (sb := (T2 (os (d - 1))).2.2.2.2) (by omega) hd hsn hs10 hb0 (fun a1 a2 a3 => ?_) (fun a1 a2 a3 => ?_) (fun a1 => ?_) (fun a1 a2 a3 => ?_) (fun a1 a2 a3 => ?_) (fun a1 a2 a3 => ?_) (fun a1 a2 a3 a4 => ?_) (fun a1 a2 a3 a4 => ?_)) (by decide) (Nat.le_of_ble_eq_true rfl) (by omega) (by omega) rfl
          · exact fault h2 (by rw [pp_fit, if_pos ⟨a1, a2⟩, if_pos a3]) hfr2 htx2 hbeg2
          · refine next (d + 1) (va_up os d n) ot2 la2 _ (by rw [pp_fit, if_pos ⟨a1, a2⟩, if_neg (by omega)]) (mo_fr.sI hfr2 (Or.inr (Or.inr (Or.inl rfl)))) (mo_tx_s hm htx2 18 rfl (by decide) _ _) (mt_537 hm hmt2) (by omega) (fun j hj => ?_) (fun i hi => (hT2 i hi).2.2.2)
            by_cases z : j = d
            · subst z; rw [va_up_self]; exact ⟨by omega, jh_u_s _ _ _ _⟩
            · rw [va_up_ne _ _ z]
              have := hos2 j (by omega)
              exact ⟨by omega, (jh_u_k _ _ _ _ z).trans this.2⟩
          · refine next d os ot2 la2 h2 (by rw [pp_fit, if_neg (by omega), if_pos a1]) hfr2 htx2 hmt2 hd (fun j hj => ?_) (fun i hi => (hT2 i hi).2.2.2)
            have := hos2 j hj
            exact ⟨by omega, this.2⟩
          · exact fault h2 (by rw [pp_fit, if_neg (by omega), if_neg (by omega), if_pos a3]) hfr2 htx2 hbeg2
          · have ob := hos2 (d - 1) (by omega)
            have hsm : (ot2 (os (d - 1))).isSome = true := by
              rw [(hmt2 (os (d - 1)) (by omega)).2.2.2.2.2.1] at a3
              exact (mt_o_neg 200 (fun x hx => by have := (hT2 (os (d - 1)) (by omega)).2.2.2 x hx; omega)).mp a3
            refine fault _ (by rw [pp_fit, if_neg (by omega), if_neg (by omega), if_neg (by omega), if_pos a1, if_pos hsm]) (hw hfr2 (Or.inr rfl) (by omega)) (mo_tx_s hm htx2 17 rfl (by decide) _ _) ((jh_u_a _ _ _ _ (mo_ne hm 11 17 rfl rfl (by decide))).trans hbeg2)
          · have ob := hos2 (d - 1) (by omega)
            have hsm : ¬ (ot2 (os (d - 1))).isSome = true := by
              rw [(hmt2 (os (d - 1)) (by omega)).2.2.2.2.2.1] at a3
              exact fun z => a3 ((mt_o_neg 200 (fun x hx => by have := (hT2 (os (d - 1)) (by omega)).2.2.2 x hx; omega)).mpr z)
            refine next d os (va_up ot2 (os (d - 1)) (some n)) (va_up la2 n (some (os (d - 1)))) _ (by rw [pp_fit, if_neg (by omega), if_neg (by omega), if_neg (by omega), if_pos a1, if_neg hsm]) (hw (hw hfr2 (Or.inr rfl) (by omega)) (Or.inl rfl) (by omega)) (mo_tx_s hm (mo_tx_s hm htx2 17 rfl (by decide) _ _) 16 rfl (by decide) _ _) (mt_535 hm (mt_536 hm hmt2)) hd (fun j hj => ?_) (fun i hi x hx => ?_)
            · have := hos2 j hj
              exact ⟨by omega, (jh_u_a _ _ _ _ (mo_ne hm 18 16 rfl rfl (by decide))).trans ((jh_u_a _ _ _ _ (mo_ne hm 18 17 rfl rfl (by decide))).trans this.2)⟩
            · by_cases z : i = os (d - 1)
              · rw [z, va_up_self] at hx; cases hx; omega
              · rw [va_up_ne _ _ z] at hx; exact (hT2 i hi).2.2.2 x hx
          · refine fault _ (by rw [pp_fit, if_neg (by omega), if_neg (by omega), if_neg (by omega), if_neg (by omega), if_pos a4]) (hw hfr2 (Or.inr rfl) (by omega)) (mo_tx_s hm htx2 17 rfl (by decide) _ _) ((jh_u_a _ _ _ _ (mo_ne hm 11 17 rfl rfl (by decide))).trans hbeg2)
          · refine next (d - 1) os ot2 (va_up (va_up la2 n (some (os (d - 1)))) (os (d - 1)) (some n)) _ (by rw [pp_fit, if_neg (by omega), if_neg (by omega), if_neg (by omega), if_neg (by omega), if_neg (fun z => z a4)]) (hw (hw hfr2 (Or.inr rfl) (by omega)) (Or.inr rfl) (by omega)) (mo_tx_s hm (mo_tx_s hm htx2 17 rfl (by decide) _ _) 17 rfl (by decide) _ _) (mt_536 hm (mt_536 hm hmt2)) (by omega) (fun j hj => ?_) (fun i hi => (hT2 i hi).2.2.2)
            have := hos2 j (by omega)
            exact ⟨by omega, (jh_u_a _ _ _ _ (mo_ne hm 18 17 rfl rfl (by decide))).trans ((jh_u_a _ _ _ _ (mo_ne hm 18 17 rfl rfl (by decide))).trans this.2)⟩
  have copy : ∀ m i h1 t1, i + m = n0 → mo_fr h h1 ar ta_F → mo_tx h1 ar t1 → (∀ x, t1 x = if 800 ≤ x ∧ x < 800 + i then ln (x - 800) else t0 x) → jw_J g 8 m_M_takeApart jw_T0 23 [some (.inr (.inr (some mo))), some (.inl (nI 800)), some (.inl (nI (800 + n0))), some (.inl (nI 0)), some (.inl (nI (200 + 0))), some (.inl (nI i))] [] h1 0 0 Q := by
    intro m
    induction m with
    | zero =>
      intro i h1 t1 hi hfr htx ht1
      have hm1 : mo_ok h1 mo ar := mo_fr.ok hfr hm
      have e1 : jh_i h1 mo 514 = nI n0 := by rw [hfr.2.2.1]; exact hty
      have et : t1 = t := by funext x; rw [ht1 x, ht x, show i = n0 by omega]
      refine jw_iload rfl rfl ?_
      refine jw_aload_n rfl rfl ?_
      refine jw_gi rfl g_M_16 hm1.1 e1 ?_
      refine jw_icmp_ge 56 rfl rfl (fun _ => ?_) (fun c => absurd ((nI_leI (by omega) (by omega)).mpr (by omega)) c)
      refine js_drop 5 rfl (main (800 + n0 - 800 + 1) 800 0 (fun _ => (0, 0, 0, 0, 0)) 0 (fun _ => 0) (fun _ => none) (fun _ => none) h1 (by omega) hfr (by rw [← et]; exact htx) (fun i hi => absurd hi (by omega)) (by omega) (fun j hj => absurd hj (by omega)) (by omega) (by omega) (fun i hi => absurd hi (by omega)) (fun h' a1 a2 => hq h' t ht a1 a2))
    | succ m ih =>
      intro i h1 t1 hi hfr htx ht1
      have hm1 : mo_ok h1 mo ar := mo_fr.ok hfr hm
      have e1 : jh_i h1 mo 514 = nI n0 := by rw [hfr.2.2.1]; exact hty
      have hli : jh_I h1 (ar 519) i = nI (ln i) := by
        rw [hfr.2.2.2.2.2.2.2 (ar 519) i ?_]
        · exact (hln i (by omega)).1
        · intro k hk z
          rcases hk with hk | hk | hk | hk
          · exact mo_ne hm 0 7 rfl rfl (by decide) (by rw [z, hk.1])
          · have h3 : k = 530 ∨ k = 531 ∨ k = 532 ∨ k = 533 ∨ k = 534 ∨ k = 535 ∨ k = 536 := by omega
            rcases h3 with rfl | rfl | rfl | rfl | rfl | rfl | rfl
            · exact mo_ne hm 0 11 rfl rfl (by decide) z
            · exact mo_ne hm 0 12 rfl rfl (by decide) z
            · exact mo_ne hm 0 13 rfl rfl (by decide) z
            · exact mo_ne hm 0 14 rfl rfl (by decide) z
            · exact mo_ne hm 0 15 rfl rfl (by decide) z
            · exact mo_ne hm 0 16 rfl rfl (by decide) z
            · exact mo_ne hm 0 17 rfl rfl (by decide) z
          · exact mo_ne hm 0 18 rfl rfl (by decide) (by rw [z, hk])
          · exact mo_ne hm 0 9 rfl rfl (by decide) (by rw [z, hk.1])
      refine jw_iload rfl rfl ?_
      refine jw_aload_n rfl rfl ?_
      refine jw_gi rfl g_M_16 hm1.1 e1 ?_
      refine jw_icmp_ge 56 rfl rfl (fun c => absurd ((nI_leI (by omega) (by omega)).mp c) (by omega)) (fun _ => ?_)
      refine jw_aload_n rfl rfl ?_
      refine jw_gr rfl g_M_56 hm1.1 (mo_r hm1 7 rfl) ?_
      refine js_sipush (x := 800) rfl rfl ?_
      refine jw_iload rfl rfl ?_
      refine jw_iadd rfl ?_
      rw [show (800 : Int32) + nI i = nI (800 + i) from nI_add 800 i]
      refine jw_aload_n rfl rfl ?_
      refine jw_gr rfl g_M_31 hm1.1 (mo_r hm1 0 rfl) ?_
      refine jw_iload rfl rfl ?_
      refine js_cald (i) rfl (mo_a hm1 0 rfl) (by decide) (by rfl)  rfl (by omega) (by decide) ?_
      rw [hli]
      refine js_cast (800 + i) rfl (mo_a hm1 7 rfl) (by decide) (by rfl)  rfl (by omega) (by decide) ?_
      refine js_iinc rfl rfl (nI_1 i) rfl (by decide) rfl ?_
      refine jw_goto 23 rfl rfl ?_
      have hc := (hln i (by omega)).2
      have hnar : vp_nar .char (nI (ln i)) = nI (ln i) := by simp only [vp_nar, (pk_charN (q := ln i) (by omega)).1]
      rw [hnar]
      refine ih (i + 1) _ (va_up t1 (800 + i) (ln i)) (by omega) (mo_fr.sI hfr (Or.inl ⟨rfl, by omega⟩)) (fun x hx => ?_) (fun x => ?_)
      · by_cases z : x = 800 + i
        · subst z; rw [va_up_self]; exact ⟨jh_u_s _ _ _ _, hc⟩
        · rw [va_up_ne _ _ z]
          have := htx x hx
          exact ⟨(jh_u_k _ _ _ _ z).trans this.1, this.2⟩
      · by_cases z : x = 800 + i
        · subst z; rw [va_up_self, if_pos (by omega)]; congr 1; omega
        · rw [va_up_ne _ _ z, ht1 x]
          by_cases z2 : 800 ≤ x ∧ x < 800 + i
          · rw [if_pos z2, if_pos (by omega)]
          · rw [if_neg z2, if_neg (by omega)]
  refine js_sipush (x := 800) rfl rfl ?_
  refine js_istore_n rfl rfl (by decide) rfl ?_
  refine js_sipush (x := 800) rfl rfl ?_
  refine jw_aload_n rfl rfl ?_
  refine jw_gi rfl g_M_16 hm.1 hty ?_
  refine jw_iadd rfl ?_
  rw [show (800 : Int32) + nI n0 = nI (800 + n0) from nI_add 800 n0]
  refine js_istore_n rfl rfl (by decide) rfl ?_
  refine js_iconst (x := 0) rfl rfl ?_
  refine js_istore_n rfl rfl (by decide) rfl ?_
  refine js_sipush (x := 200) rfl rfl ?_
  refine js_istore rfl rfl (by decide) rfl ?_
  refine js_iconst (x := 0) rfl rfl ?_
  refine js_istore rfl rfl (by decide) rfl ?_
  exact copy n0 0 h t0 (by omega) mo_fr.rf ht0 (fun x => by rw [if_neg (by omega)])

