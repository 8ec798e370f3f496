/-! the model takes one tag, and fits it in -/
def sp_fd (t : Nat → Nat) (e : Nat) (w : List Nat) : Nat → Nat → Nat
  | 0, k => k
  | n + 1, k => if k < e ∧ sp_st t e k w = false then sp_fd t e w n (k + 1) else k
theorem sp_fd_le (t : Nat → Nat) (e : Nat) (w : List Nat) : ∀ n k, k ≤ e → sp_fd t e w n k ≤ e ∧ k ≤ sp_fd t e w n k := by
  intro n
  induction n with
  | zero => intro k h; exact ⟨h, Nat.le_refl _⟩
  | succ n ih =>
    intro k h
    rw [sp_fd]
    split
    case isTrue q => have := ih (k + 1) q.1; omega
    case isFalse q => exact ⟨h, Nat.le_refl _⟩
theorem sp_fd_at (t : Nat → Nat) (e : Nat) (w : List Nat) : ∀ n k, k ≤ e → e ≤ k + n → sp_fd t e w n k < e → sp_st t e (sp_fd t e w n k) w = true := by
  intro n
  induction n with
  | zero => intro k h1 h2 h3; rw [sp_fd] at h3; omega
  | succ n ih =>
    intro k h1 h2 h3
    rw [sp_fd] at h3 ⊢
    split
    case isTrue q => rw [if_pos q] at h3; exact ih (k + 1) q.1 (by omega) h3
    case isFalse q =>
      rw [if_neg q] at h3
      cases hs : sp_st t e k w with
      | true => rfl
      | false => exact absurd ⟨h3, hs⟩ q
def sp_n (three : Bool) : Nat := if three then 3 else 2
def sp_cl (three : Bool) : List Nat := if three then [125, 125, 125] else [125, 125]
/-- where the next tag begins; is it one of three; where its inside ends -/
def sp_k (t : Nat → Nat) (p e : Nat) : Nat := sp_fd t e [123, 123] (e - p) p
def sp_th (t : Nat → Nat) (p e : Nat) : Bool := sp_st t e (sp_k t p e) [123, 123, 123]
def sp_f (t : Nat → Nat) (p e : Nat) : Nat := sp_k t p e + sp_n (sp_th t p e)
def sp_q (t : Nat → Nat) (p e : Nat) : Nat := sp_fd t e (sp_cl (sp_th t p e)) (e - sp_f t p e) (sp_f t p e)
theorem sp_f_le (t : Nat → Nat) {p e : Nat} (hp : p ≤ e) (hk : sp_k t p e < e) : sp_f t p e ≤ e := by
  have h1 := sp_fd_at t e [123, 123] (e - p) p hp (by omega) hk
  have h0 := sp_fd_le t e [123, 123] (e - p) p hp
  rw [sp_f]
  cases hth : sp_th t p e with
  | true =>
    have := sp_st_len t (by decide) (by decide) (show sp_k t p e ≤ e by omega) hth
    simpa [sp_n] using this
  | false =>
    have := sp_st_len t (by decide) (by decide) h0.1 h1
    exact this
theorem sp_ite {P : Option Nat → Prop} {c : Prop} {d : Decidable c} {a b : Option Nat} (h1 : P a) (h2 : P b) : P (@ite _ c d a b) := by
  cases d with
  | isTrue h => exact h1
  | isFalse h => exact h2
theorem sp_sort_in (t : Nat → Nat) (p e : Nat) (three : Bool) : sp_sort t p e three ∈ [none, some 0, some 1, some 2, some 3, some 4, some 5, some 6, some 7, some 8, some 9, some 10] := by
  unfold sp_sort
  repeat' (refine sp_ite (P := fun x => x ∈ [none, some 0, some 1, some 2, some 3, some 4, some 5, some 6, some 7, some 8, some 9, some 10]) ?_ ?_)
  all_goals decide
theorem sp_sort_le {t : Nat → Nat} {p e s : Nat} {three : Bool} (h : sp_sort t p e three = some s) : s ≤ 10 := by
  have h1 := sp_sort_in t p e three
  rw [h] at h1
  have h2 : ∀ x ∈ ([none, some 0, some 1, some 2, some 3, some 4, some 5, some 6, some 7, some 8, some 9, some 10] : List (Option Nat)), ∀ y, x = some y → y ≤ 10 := by
    intro x hx y hy
    subst hy
    simp at hx
    omega
  exact h2 _ h1 s rfl
def tg_set (h : jh_H) (ar : Nat → Nat) (j k f q n : Nat) (s : Option Nat) : jh_H :=
  jh_sI (jh_sI (jh_sI (jh_sI (jh_sI (jh_sI (jh_sI h (ar 530) j (nI k)) (ar 532) j (nI f)) (ar 533) j (nI q)) (ar 531) j (nI (q + n))) (ar 534) j (sp_o s)) (ar 535) j (-1)) (ar 536) j (-1)
set_option maxHeartbeats 4000000 in
set_option maxRecDepth 100000 in
theorem cm_takeTag {g : jg_G} (hg : (jg_l g).stackTraces = false) {h : jh_H} {mo p e j : Nat} {ar t : Nat → Nat} {Q : jw_O → jh_H → Prop} (hm : mo_ok h mo ar) (ht : mo_tx h ar t) (hp : p ≤ e) (he : e ≤ 1000) (hj0 : sp_k t p e < e → j < 250)
    (q0 : e ≤ sp_k t p e → Q (.inl (some (.inl 0))) h) (q1 : sp_k t p e < e → e ≤ sp_q t p e → Q (.inl (some (.inl (-1)))) (jh_sI h (ar 530) j (nI (sp_k t p e))))
    (q2 : sp_k t p e < e → sp_q t p e < e → Q (.inl (some (.inl (if (sp_sort t (sp_f t p e) (sp_q t p e) (sp_th t p e)).isSome then 1 else -1)))) (tg_set h ar j (sp_k t p e) (sp_f t p e) (sp_q t p e) (sp_n (sp_th t p e)) (sp_sort t (sp_f t p e) (sp_q t p e) (sp_th t p e)))) :
    jw_C g 7 0 0 m_M_takeTag [.inr (.inr (some mo)), .inl (nI p), .inl (nI e), .inl (nI j)] h Q := by
  refine jw_intro (ls := [some (.inr (.inr (some mo))), some (.inl (nI p)), some (.inl (nI e)), some (.inl (nI j)), none, none, none, none]) (by decide) k_M_takeTag rfl (by simp [lo_fit, jv_c]) hg ?_
  have lp1 : ∀ n k, k ≤ e → e ≤ k + n → (∀ k', k' = sp_fd t e [123, 123] n k → k' ≤ e → jw_J g 7 m_M_takeTag jw_T0 28 [some (.inr (.inr (some mo))), some (.inl (nI p)), some (.inl (nI e)), some (.inl (nI j)), some (.inl (nI k')), none, none, none] [] h 0 0 Q) → jw_J g 7 m_M_takeTag jw_T0 3 [some (.inr (.inr (some mo))), some (.inl (nI p)), some (.inl (nI e)), some (.inl (nI j)), some (.inl (nI k)), none, none, none] [] h 0 0 Q := by
    intro n
    induction n with
    | zero =>
      intro k hk hn kk
      refine jw_iload rfl rfl ?_
      refine jw_iload_n rfl rfl ?_
      refine jw_icmp_ge 28 rfl rfl (fun _ => kk k rfl hk) (fun c => absurd ((nI_leI (by omega) (by omega)).mpr (by omega)) c)
    | succ n ih =>
      intro k hk hn kk
      rw [sp_fd] at kk
      refine jw_iload rfl rfl ?_
      refine jw_iload_n rfl rfl ?_
      refine jw_icmp_ge 28 rfl rfl (fun c1 => ?_) (fun c1 => ?_)
      · have h1 := (nI_leI (by omega) (by omega)).mp c1
        rw [if_neg (by omega)] at kk
        exact kk k rfl hk
      · have h1 : k < e := Nat.lt_of_not_le (fun z => c1 ((nI_leI (by omega) (by omega)).mpr z))
        refine jw_aload_n rfl rfl ?_
        refine jw_iload rfl rfl ?_
        refine jw_iload_n rfl rfl ?_
        refine jw_ldc2 rfl q_M_256 ?_
        refine js_call (As := [.inl (nI k), .inl (nI e), .inr (.inl _)]) rfl l_M_stands c_M_199 i_M_stands s_M_stands jc_o8 rfl (hm.1) rfl (cm_st hg sw_256 hm ht (by omega) he ?_) (by decide) (Nat.le_of_ble_eq_true rfl) (by omega) (by omega) rfl
        refine jw_if_ne 28 rfl rfl (fun c2 => ?_) (fun c2 => ?_)
        · rw [if_neg (fun z => by rw [sp_b1 c2] at z; exact absurd z.2 (by decide))] at kk
          exact kk k rfl hk
        · rw [if_pos ⟨h1, sp_b0 c2⟩] at kk
          refine js_iinc rfl rfl (nI_1 k) rfl (by decide) rfl ?_
          refine jw_goto 3 rfl rfl ?_
          exact ih (k + 1) h1 (by omega) kk
  refine jw_iload_n rfl rfl ?_
  refine js_istore rfl rfl (by decide) rfl ?_
  refine lp1 (e - p) p hp (by omega) (fun k hk hke => ?_)
  have ek : k = sp_k t p e := hk
  refine jw_iload rfl rfl ?_
  refine jw_iload_n rfl rfl ?_
  refine jw_icmp_lt 36 rfl rfl (fun c1 => ?_) (fun c1 => ?_)
  rotate_left
  · have h1 : ¬ k < e := fun z => c1 ((nI_ltI (by omega) (by omega)).mpr z)
    refine js_iconst (x := 0) rfl rfl ?_
    refine jw_ireturn rfl rfl rfl ?_
    exact q0 (by omega)
  have h1 : k < e := (nI_ltI (by omega) (by omega)).mp c1
  have hj : j < 250 := hj0 (by rw [← ek]; exact h1)
  have hf := sp_f_le t hp (by rw [← ek]; exact h1)
  have hth : sp_th t p e = sp_st t e k [123, 123, 123] := by rw [sp_th, ← ek]
  have ef : sp_f t p e = k + sp_n (sp_th t p e) := by rw [sp_f, ← ek]
  have hm1 : mo_ok (jh_sI h (ar 530) j (nI k)) mo ar := hm
  have ht1 : mo_tx (jh_sI h (ar 530) j (nI k)) ar t := mo_tx_s hm ht 11 rfl (by decide) j _
  refine jw_aload_n rfl rfl ?_
  refine jw_gr rfl g_M_68 hm.1 (mo_r hm 11 rfl) ?_
  refine jw_iload_n rfl rfl ?_
  refine jw_iload rfl rfl ?_
  refine js_iast (j) rfl (mo_a hm 11 rfl) (by decide) (by rfl)  rfl (by omega) (by decide) ?_
  refine jw_aload_n rfl rfl ?_
  refine jw_iload rfl rfl ?_
  refine jw_iload_n rfl rfl ?_
  refine jw_ldc2 rfl q_M_258 ?_
  refine js_call (As := [.inl (nI k), .inl (nI e), .inr (.inl _)]) rfl l_M_stands c_M_199 i_M_stands s_M_stands jc_o8 rfl (hm1.1) rfl (cm_st hg sw_258 hm1 ht1 (by omega) he ?_) (by decide) (Nat.le_of_ble_eq_true rfl) (by omega) (by omega) rfl
  refine js_istore rfl rfl (by decide) rfl ?_
  refine jw_iload rfl rfl ?_
  rw [← hth]
  have go : ∀ (th : Bool), th = sp_th t p e → jw_J g 7 m_M_takeTag jw_T0 66 [some (.inr (.inr (some mo))), some (.inl (nI p)), some (.inl (nI e)), some (.inl (nI j)), some (.inl (nI k)), some (.inl (sp_b th)), none, none] [.inl (nI (sp_n th))] (jh_sI h (ar 530) j (nI k)) 0 0 Q := by
    intro th hth2
    have ef2 : k + sp_n th = sp_f t p e := by rw [ef, hth2]
    refine js_istore rfl rfl (by decide) rfl ?_
    refine jw_iload rfl rfl ?_
    refine jw_iload rfl rfl ?_
    refine jw_iadd rfl ?_
    rw [nI_add, ef2]
    refine js_istore rfl rfl (by decide) rfl ?_
    have lp2 : ∀ n k2, k2 ≤ e → e ≤ k2 + n → (∀ k', k' = sp_fd t e (sp_cl th) n k2 → k' ≤ e → jw_J g 7 m_M_takeTag jw_T0 111 [some (.inr (.inr (some mo))), some (.inl (nI p)), some (.inl (nI e)), some (.inl (nI j)), some (.inl (nI k)), some (.inl (sp_b th)), some (.inl (nI (sp_n th))), some (.inl (nI k'))] [] (jh_sI h (ar 530) j (nI k)) 0 0 Q) → jw_J g 7 m_M_takeTag jw_T0 75 [some (.inr (.inr (some mo))), some (.inl (nI p)), some (.inl (nI e)), some (.inl (nI j)), some (.inl (nI k)), some (.inl (sp_b th)), some (.inl (nI (sp_n th))), some (.inl (nI k2))] [] (jh_sI h (ar 530) j (nI k)) 0 0 Q := by
      intro n
      induction n with
      | zero =>
        intro k2 hk2 hn kk
        refine jw_iload rfl rfl ?_
        refine jw_iload_n rfl rfl ?_
        refine jw_icmp_ge 111 rfl rfl (fun _ => kk k2 rfl hk2) (fun c => absurd ((nI_leI (by omega) (by omega)).mpr (by omega)) c)
      | succ n ih =>
        intro k2 hk2 hn kk
        rw [sp_fd] at kk
        refine jw_iload rfl rfl ?_
        refine jw_iload_n rfl rfl ?_
        refine jw_icmp_ge 111 rfl rfl (fun c1 => ?_) (fun c1 => ?_)
        · have h1 := (nI_leI (by omega) (by omega)).mp c1
          rw [if_neg (by omega)] at kk
          exact kk k2 rfl hk2
        · have h1 : k2 < e := Nat.lt_of_not_le (fun z => c1 ((nI_leI (by omega) (by omega)).mpr z))
          have behind : ∀ b : Bool, b = sp_st t e k2 (sp_cl th) → jw_J g 7 m_M_takeTag jw_T0 102 [some (.inr (.inr (some mo))), some (.inl (nI p)), some (.inl (nI e)), some (.inl (nI j)), some (.inl (nI k)), some (.inl (sp_b th)), some (.inl (nI (sp_n th))), some (.inl (nI k2))] [.inl (sp_b b)] (jh_sI h (ar 530) j (nI k)) 0 0 Q := by
            intro b hb
            rw [← hb] at kk
            refine jw_if_ne 111 rfl rfl (fun c2 => ?_) (fun c2 => ?_)
            · rw [if_neg (fun z => by rw [sp_b1 c2] at z; exact absurd z.2 (by decide))] at kk
              exact kk k2 rfl hk2
            · rw [if_pos ⟨h1, sp_b0 c2⟩] at kk
              refine js_iinc rfl rfl (nI_1 k2) rfl (by decide) rfl ?_
              refine jw_goto 75 rfl rfl ?_
              exact ih (k2 + 1) h1 (by omega) kk
          refine jw_aload_n rfl rfl ?_
          refine jw_iload rfl rfl ?_
          refine jw_iload_n rfl rfl ?_
          refine jw_iload rfl rfl ?_
          cases th with
          | true =>
            refine jw_if_eq 96 rfl rfl (fun c => absurd c (by decide)) (fun _ => ?_)
            refine jw_ldc2 rfl q_M_260 ?_
            refine jw_goto 99 rfl rfl ?_
            refine js_call (As := [.inl (nI k2), .inl (nI e), .inr (.inl _)]) rfl l_M_stands c_M_199 i_M_stands s_M_stands jc_o8 rfl (hm1.1) rfl (cm_st hg sw_260 hm1 ht1 (by omega) he ?_) (by decide) (Nat.le_of_ble_eq_true rfl) (by omega) (by omega) rfl
            exact behind _ rfl
          | false =>
            refine jw_if_eq 96 rfl rfl (fun _ => ?_) (fun c => absurd rfl c)
            refine jw_ldc2 rfl q_M_262 ?_
            refine js_call (As := [.inl (nI k2), .inl (nI e), .inr (.inl _)]) rfl l_M_stands c_M_199 i_M_stands s_M_stands jc_o8 rfl (hm1.1) rfl (cm_st hg sw_262 hm1 ht1 (by omega) he ?_) (by decide) (Nat.le_of_ble_eq_true rfl) (by omega) (by omega) rfl
            exact behind _ rfl
    refine lp2 (e - sp_f t p e) (sp_f t p e) hf (by omega) (fun q hq hqe => ?_)
    have eq1 : q = sp_q t p e := by rw [hq, sp_q, hth2]
    have hfq : sp_f t p e ≤ q := by
      rw [hq]; exact (sp_fd_le t e _ _ _ hf).2
    refine jw_iload rfl rfl ?_
    refine jw_iload_n rfl rfl ?_
    refine jw_icmp_lt 119 rfl rfl (fun c2 => ?_) (fun c2 => ?_)
    rotate_left
    · have h2 : ¬ q < e := fun z => c2 ((nI_ltI (by omega) (by omega)).mpr z)
      refine js_iconst (x := (-1)) rfl rfl ?_
      refine jw_ireturn rfl rfl rfl ?_
      have := q1 (by omega) (by omega)
      rw [← ek] at this
      exact this
    have h2 : q < e := (nI_ltI (by omega) (by omega)).mp c2
    refine jw_aload_n rfl rfl ?_
    refine jw_gr rfl g_M_74 hm1.1 (mo_r hm1 13 rfl) ?_
    refine jw_iload_n rfl rfl ?_
    refine jw_iload rfl rfl ?_
    refine jw_iload rfl rfl ?_
    refine jw_iadd rfl ?_
    rw [nI_add, ef2]
    refine js_iast (j) rfl (mo_a hm1 13 rfl) (by decide) (by rfl)  rfl (by omega) (by decide) ?_
    refine jw_aload_n rfl rfl ?_
    refine jw_gr rfl g_M_77 (mo_sI hm1).1 (mo_r (mo_sI hm1) 14 rfl) ?_
    refine jw_iload_n rfl rfl ?_
    refine jw_iload rfl rfl ?_
    refine js_iast (j) rfl (mo_a (mo_sI hm1) 14 rfl) (by decide) (by rfl)  rfl (by omega) (by decide) ?_
    refine jw_aload_n rfl rfl ?_
    refine jw_gr rfl g_M_71 (mo_sI (mo_sI hm1)).1 (mo_r (mo_sI (mo_sI hm1)) 12 rfl) ?_
    refine jw_iload_n rfl rfl ?_
    refine jw_iload rfl rfl ?_
    refine jw_iload rfl rfl ?_
    refine jw_iadd rfl ?_
    rw [nI_add]
    refine js_iast (j) rfl (mo_a (mo_sI (mo_sI hm1)) 12 rfl) (by decide) (by rfl)  rfl (by omega) (by decide) ?_
    refine jw_aload_n rfl rfl ?_
    refine jw_gr rfl g_M_80 (mo_sI (mo_sI (mo_sI hm1))).1 (mo_r (mo_sI (mo_sI (mo_sI hm1))) 15 rfl) ?_
    refine jw_iload_n rfl rfl ?_
    refine jw_aload_n rfl rfl ?_
    refine jw_iload rfl rfl ?_
    refine jw_iload rfl rfl ?_
    refine jw_iadd rfl ?_
    rw [nI_add, ef2]
    have hm4 : mo_ok (jh_sI (jh_sI (jh_sI (jh_sI h (ar 530) j (nI k)) (ar 532) j (nI (sp_f t p e))) (ar 533) j (nI q)) (ar 531) j (nI (q + sp_n th))) mo ar := hm
    have ht4 : mo_tx (jh_sI (jh_sI (jh_sI (jh_sI h (ar 530) j (nI k)) (ar 532) j (nI (sp_f t p e))) (ar 533) j (nI q)) (ar 531) j (nI (q + sp_n th))) ar t := mo_tx_s hm (mo_tx_s hm (mo_tx_s hm ht1 13 rfl (by decide) j _) 14 rfl (by decide) j _) 12 rfl (by decide) j _
    refine jw_iload rfl rfl ?_
    refine jw_iload rfl rfl ?_
    refine js_call (As := [.inl (nI (sp_f t p e)), .inl (nI q), .inl (sp_b th)]) rfl l_M_sortOf c_M_264 i_M_sortOf s_M_sortOf jc_o8 rfl (hm4.1) rfl (cm_sortOf hg hm4 ht4 hfq (by omega) ?_) (by decide) (Nat.le_of_ble_eq_true rfl) (by omega) (by omega) rfl
    refine js_iast (j) rfl (mo_a (mo_sI (mo_sI (mo_sI hm1))) 15 rfl) (by decide) (by rfl)  rfl (by omega) (by decide) ?_
    refine jw_aload_n rfl rfl ?_
    refine jw_gr rfl g_M_83 (mo_sI (mo_sI (mo_sI (mo_sI hm1)))).1 (mo_r (mo_sI (mo_sI (mo_sI (mo_sI hm1)))) 16 rfl) ?_
    refine jw_iload_n rfl rfl ?_
    refine js_iconst (x := (-1)) rfl rfl ?_
    refine js_iast (j) rfl (mo_a (mo_sI (mo_sI (mo_sI (mo_sI hm1)))) 16 rfl) (by decide) (by rfl)  rfl (by omega) (by decide) ?_
    refine jw_aload_n rfl rfl ?_
    refine jw_gr rfl g_M_86 (mo_sI (mo_sI (mo_sI (mo_sI (mo_sI hm1))))).1 (mo_r (mo_sI (mo_sI (mo_sI (mo_sI (mo_sI hm1))))) 17 rfl) ?_
    refine jw_iload_n rfl rfl ?_
    refine js_iconst (x := (-1)) rfl rfl ?_
    refine js_iast (j) rfl (mo_a (mo_sI (mo_sI (mo_sI (mo_sI (mo_sI hm1))))) 17 rfl) (by decide) (by rfl)  rfl (by omega) (by decide) ?_
    refine jw_aload_n rfl rfl ?_
    refine jw_gr rfl g_M_80 (mo_sI (mo_sI (mo_sI (mo_sI (mo_sI (mo_sI hm1)))))).1 (mo_r (mo_sI (mo_sI (mo_sI (mo_sI (mo_sI (mo_sI hm1)))))) 15 rfl) ?_
    refine jw_iload_n rfl rfl ?_
    refine js_iald (j) rfl (mo_a (mo_sI (mo_sI (mo_sI (mo_sI (mo_sI (mo_sI hm1)))))) 15 rfl) (by decide) (by rfl)  rfl (by omega) (by decide) ?_
    have fin := q2 (by omega) (by omega)
    rw [← ek, ← eq1, ← hth2] at fin
    have ers : jh_I (tg_set h ar j k (sp_f t p e) q (sp_n th) (sp_sort t (sp_f t p e) q th)) (ar 534) j = sp_o (sp_sort t (sp_f t p e) q th) := by
      show jh_u (jh_u (jh_u _ (ar 534) j _) (ar 535) j (-1)) (ar 536) j (-1) (ar 534) j = _
      rw [jh_u_a _ _ _ _ (mo_ne hm 15 17 rfl rfl (by decide)), jh_u_a _ _ _ _ (mo_ne hm 15 16 rfl rfl (by decide)), jh_u_s]
    refine jw_if_ge 195 rfl rfl (fun c3 => ?_) (fun c3 => ?_)
    · replace c3 : 0 ≤ jh_I (tg_set h ar j k (sp_f t p e) q (sp_n th) (sp_sort t (sp_f t p e) q th)) (ar 534) j := c3
      rw [ers] at c3
      have hsome : (sp_sort t (sp_f t p e) q th).isSome = true := by
        cases hs : sp_sort t (sp_f t p e) q th with
        | none => rw [hs] at c3; exact absurd c3 (by decide)
        | some s => rfl
      rw [hsome] at fin
      refine js_iconst (x := 1) rfl rfl ?_
      refine jw_ireturn rfl rfl rfl ?_
      exact fin
    · replace c3 : ¬ 0 ≤ jh_I (tg_set h ar j k (sp_f t p e) q (sp_n th) (sp_sort t (sp_f t p e) q th)) (ar 534) j := c3
      rw [ers] at c3
      have hnone : (sp_sort t (sp_f t p e) q th).isSome = false := by
        cases hs : sp_sort t (sp_f t p e) q th with
        | none => rfl
        | some s =>
          rw [hs] at c3
          refine absurd (nI_pos' (n := s) ?_) c3
          have : s ≤ 10 := sp_sort_le hs
          omega
      rw [hnone] at fin
      refine js_iconst (x := (-1)) rfl rfl ?_
      refine jw_goto 196 rfl rfl ?_
      refine jw_ireturn rfl rfl rfl ?_
      exact fin
  refine jw_if_eq 65 rfl rfl (fun c2 => ?_) (fun c2 => ?_)
  · have := sp_b0 c2
    refine js_iconst (x := 2) rfl rfl ?_
    have := go false this.symm
    rw [sp_b0 c2]
    exact this
  · have := sp_b1 c2
    refine js_iconst (x := 3) rfl rfl ?_
    refine jw_goto 66 rfl rfl ?_
    have := go true this.symm
    rw [sp_b1 c2]
    exact this
set_option maxHeartbeats 4000000 in
set_option maxRecDepth 100000 in
theorem cm_fit {g : jg_G} (hg : (jg_l g).stackTraces = false) {h : jh_H} {mo j dl s b sb : Nat} {ar : Nat → Nat} {Q : jw_O → jh_H → Prop} (hm : mo_ok h mo ar) (hj : j < 250) (hdl : dl ≤ 4) (hs : jh_I h (ar 534) j = nI s) (hs10 : s ≤ 10) (hb : 0 < dl → jh_I h (ar 537) (dl - 1) = nI b ∧ b < 250 ∧ jh_I h (ar 534) b = nI sb ∧ sb ≤ 10)
    (qA : 2 < s → s < 6 → dl = 4 → Q (.inl (some (.inl (-1)))) h) (qB : 2 < s → s < 6 → dl < 4 → Q (.inl (some (.inl (nI (dl + 1))))) (jh_sI h (ar 537) dl (nI j))) (qC : s ≤ 2 ∨ s = 10 → Q (.inl (some (.inl (nI dl)))) h) (qD : 6 ≤ s → s ≤ 9 → dl = 0 → Q (.inl (some (.inl (-1)))) h)
    (qE : s = 6 → 0 < dl → 0 ≤ jh_I h (ar 535) b → Q (.inl (some (.inl (-1)))) (jh_sI h (ar 536) j (nI b))) (qE2 : s = 6 → 0 < dl → ¬ 0 ≤ jh_I h (ar 535) b → Q (.inl (some (.inl (nI dl)))) (jh_sI (jh_sI h (ar 536) j (nI b)) (ar 535) b (nI j)))
    (qF : 7 ≤ s → s ≤ 9 → 0 < dl → sb ≠ s - 4 → Q (.inl (some (.inl (-1)))) (jh_sI h (ar 536) j (nI b))) (qF2 : 7 ≤ s → s ≤ 9 → 0 < dl → sb = s - 4 → Q (.inl (some (.inl (nI (dl - 1))))) (jh_sI (jh_sI h (ar 536) j (nI b)) (ar 536) b (nI j))) :
    jw_C g 0 0 0 m_M_fit [.inr (.inr (some mo)), .inl (nI j), .inl (nI dl)] h Q := by
  refine jw_intro (ls := [some (.inr (.inr (some mo))), some (.inl (nI j)), some (.inl (nI dl)), none, none]) (by decide) k_M_fit rfl (by simp [lo_fit, jv_c]) hg ?_
  refine jw_aload_n rfl rfl ?_
  refine jw_gr rfl g_M_80 hm.1 (mo_r hm 15 rfl) ?_
  refine jw_iload_n rfl rfl ?_
  refine js_iald (j) rfl (mo_a hm 15 rfl) (by decide) (by rfl)  rfl (by omega) (by decide) ?_
  rw [hs]
  have at36 : (s ≤ 2 ∨ 6 ≤ s) → jw_J g 0 m_M_fit jw_T0 36 [some (.inr (.inr (some mo))), some (.inl (nI j)), some (.inl (nI dl)), some (.inl (nI s)), none] [] h 0 0 Q := by
    intro h36
    have at48 : (s ≤ 2 ∨ s = 10) → jw_J g 0 m_M_fit jw_T0 48 [some (.inr (.inr (some mo))), some (.inl (nI j)), some (.inl (nI dl)), some (.inl (nI s)), none] [] h 0 0 Q := by
      intro hc
      refine jw_iload_n rfl rfl ?_
      refine jw_ireturn rfl rfl rfl ?_
      exact qC hc
    refine jw_iload_n rfl rfl ?_
    refine js_bipush (x := 6) rfl rfl ?_
    refine jw_icmp_lt 48 rfl rfl (fun c1 => at48 (by have := (nI_ltI (b := 6) (by omega) (by omega)).mp c1; omega)) (fun c1 => ?_)
    have h6 : ¬ s < 6 := fun z => c1 ((nI_ltI (b := 6) (by omega) (by omega)).mpr z)
    refine jw_iload_n rfl rfl ?_
    refine js_bipush (x := 10) rfl rfl ?_
    refine jw_icmp_ne 50 rfl rfl (fun c2 => ?_) (fun c2 => at48 (Or.inr ((nI_eq (b := 10) (by omega) (by omega)).mp c2)))
    have h10 : ¬ s = 10 := fun z => c2 (by rw [z]; rfl)
    refine jw_iload_n rfl rfl ?_
    refine jw_if_ne 56 rfl rfl (fun c3 => ?_) (fun c3 => ?_)
    rotate_left
    · have h3 : dl = 0 := (nI_eq (b := 0) (by omega) (by omega)).mp c3
      refine js_iconst (x := (-1)) rfl rfl ?_
      refine jw_ireturn rfl rfl rfl ?_
      exact qD (by omega) (by omega) h3
    have h3 : 0 < dl := Nat.pos_of_ne_zero (fun z => c3 (by rw [z]; rfl))
    obtain ⟨hb1, hb2, hb3, hb4⟩ := hb h3
    refine jw_aload_n rfl rfl ?_
    refine jw_gr rfl g_M_89 hm.1 (mo_r hm 18 rfl) ?_
    refine jw_iload_n rfl rfl ?_
    refine js_iconst (x := 1) rfl rfl ?_
    refine jw_isub rfl ?_
    rw [show nI dl - 1 = nI (dl - 1) from pk_sub (b := 1) h3]
    refine js_iald (dl - 1) rfl (mo_a hm 18 rfl) (by decide) (by rfl)  rfl (by omega) (by decide) ?_
    rw [hb1]
    refine js_istore rfl rfl (by decide) rfl ?_
    refine jw_aload_n rfl rfl ?_
    refine jw_gr rfl g_M_86 hm.1 (mo_r hm 17 rfl) ?_
    refine jw_iload_n rfl rfl ?_
    refine jw_iload rfl rfl ?_
    refine js_iast (j) rfl (mo_a hm 17 rfl) (by decide) (by rfl)  rfl (by omega) (by decide) ?_
    refine jw_iload_n rfl rfl ?_
    refine js_bipush (x := 6) rfl rfl ?_
    refine jw_icmp_ne 102 rfl rfl (fun c4 => ?_) (fun c4 => ?_)
    · have h7 : ¬ s = 6 := fun z => c4 (by rw [z]; rfl)
      refine jw_aload_n rfl rfl ?_
      refine jw_gr rfl g_M_80 (mo_sI hm).1 (mo_r (mo_sI hm) 15 rfl) ?_
      refine jw_iload rfl rfl ?_
      refine js_iald (b) rfl (mo_a (mo_sI hm) 15 rfl) (by decide) (by rfl)  rfl (by omega) (by decide) ?_
      rw [show jh_I (jh_sI h (ar 536) j (nI b)) (ar 534) b = nI sb from (jh_u_a _ _ _ _ (mo_ne hm 15 17 rfl rfl (by decide))).trans hb3]
      refine jw_iload_n rfl rfl ?_
      refine js_iconst (x := 4) rfl rfl ?_
      refine jw_isub rfl ?_
      rw [show nI s - 4 = nI (s - 4) from pk_sub (b := 4) (by omega)]
      refine jw_icmp_eq 117 rfl rfl (fun c5 => ?_) (fun c5 => ?_)
      · have h5 : sb = s - 4 := (nI_eq (by omega) (by omega)).mp c5
        refine jw_aload_n rfl rfl ?_
        refine jw_gr rfl g_M_86 (mo_sI hm).1 (mo_r (mo_sI hm) 17 rfl) ?_
        refine jw_iload rfl rfl ?_
        refine jw_iload_n rfl rfl ?_
        refine js_iast (b) rfl (mo_a (mo_sI hm) 17 rfl) (by decide) (by rfl)  rfl (by omega) (by decide) ?_
        refine jw_iload_n rfl rfl ?_
        refine js_iconst (x := 1) rfl rfl ?_
        refine jw_isub rfl ?_
        rw [show nI dl - 1 = nI (dl - 1) from pk_sub (b := 1) h3]
        refine jw_ireturn rfl rfl rfl ?_
        exact qF2 (by omega) (by omega) h3 h5
      · have h5 : ¬ sb = s - 4 := fun z => c5 (by rw [z])
        refine js_iconst (x := (-1)) rfl rfl ?_
        refine jw_ireturn rfl rfl rfl ?_
        exact qF (by omega) (by omega) h3 h5
    · have h7 : s = 6 := (nI_eq (b := 6) (by omega) (by omega)).mp c4
      refine jw_aload_n rfl rfl ?_
      refine jw_gr rfl g_M_83 (mo_sI hm).1 (mo_r (mo_sI hm) 16 rfl) ?_
      refine jw_iload rfl rfl ?_
      refine js_iald (b) rfl (mo_a (mo_sI hm) 16 rfl) (by decide) (by rfl)  rfl (by omega) (by decide) ?_
      rw [show jh_I (jh_sI h (ar 536) j (nI b)) (ar 535) b = jh_I h (ar 535) b from jh_u_a _ _ _ _ (mo_ne hm 16 17 rfl rfl (by decide))]
      refine jw_if_lt 92 rfl rfl (fun c5 => ?_) (fun c5 => ?_)
      · refine jw_aload_n rfl rfl ?_
        refine jw_gr rfl g_M_83 (mo_sI hm).1 (mo_r (mo_sI hm) 16 rfl) ?_
        refine jw_iload rfl rfl ?_
        refine jw_iload_n rfl rfl ?_
        refine js_iast (b) rfl (mo_a (mo_sI hm) 16 rfl) (by decide) (by rfl)  rfl (by omega) (by decide) ?_
        refine jw_iload_n rfl rfl ?_
        refine jw_ireturn rfl rfl rfl ?_
        exact qE2 h7 h3 (Int32.not_le.mpr c5)
      · refine js_iconst (x := (-1)) rfl rfl ?_
        refine jw_ireturn rfl rfl rfl ?_
        exact qE h7 h3 (Int32.not_lt.mp c5)
  refine js_istore_n rfl rfl (by decide) rfl ?_
  refine jw_iload_n rfl rfl ?_
  refine js_iconst (x := 2) rfl rfl ?_
  refine jw_icmp_le 36 rfl rfl (fun c1 => at36 (Or.inl ((nI_leI (b := 2) (by omega) (by omega)).mp c1))) (fun c1 => ?_)
  have h2 : ¬ s ≤ 2 := fun z => c1 ((nI_leI (b := 2) (by omega) (by omega)).mpr z)
  refine jw_iload_n rfl rfl ?_
  refine js_bipush (x := 6) rfl rfl ?_
  refine jw_icmp_ge 36 rfl rfl (fun c2 => at36 (Or.inr ((nI_leI (a := 6) (by omega) (by omega)).mp c2))) (fun c2 => ?_)
  have h6 : s < 6 := Nat.lt_of_not_le (fun z => c2 ((nI_leI (a := 6) (by omega) (by omega)).mpr z))
  refine jw_iload_n rfl rfl ?_
  refine js_iconst (x := 4) rfl rfl ?_
  refine jw_icmp_ne 25 rfl rfl (fun c3 => ?_) (fun c3 => ?_)
  · have h4 : ¬ dl = 4 := fun z => c3 (by rw [z]; rfl)
    refine jw_aload_n rfl rfl ?_
    refine jw_gr rfl g_M_89 hm.1 (mo_r hm 18 rfl) ?_
    refine jw_iload_n rfl rfl ?_
    refine jw_iload_n rfl rfl ?_
    refine js_iast (dl) rfl (mo_a hm 18 rfl) (by decide) (by rfl)  rfl (by omega) (by decide) ?_
    refine jw_iload_n rfl rfl ?_
    refine js_iconst (x := 1) rfl rfl ?_
    refine jw_iadd rfl ?_
    rw [show nI dl + 1 = nI (dl + 1) from nI_1 dl]
    refine jw_ireturn rfl rfl rfl ?_
    exact qB (by omega) h6 (by omega)
  · have h4 : dl = 4 := (nI_eq (b := 4) (by omega) (by omega)).mp c3
    refine js_iconst (x := (-1)) rfl rfl ?_
    refine jw_ireturn rfl rfl rfl ?_
    exact qA (by omega) h6 h4

