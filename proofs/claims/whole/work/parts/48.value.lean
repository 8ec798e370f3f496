/-! expressions as they are read, and what they give -/
abbrev ex_S : Type := List Nat ⊕ Nat
abbrev ex_O : Type := Int32 ⊕ List Nat ⊕ Bool ⊕ (Nat × List ex_S)
abbrev ex_E : Type := Nat × ex_O × ex_O
def sp_sub (t : Nat → Nat) (p n : Nat) : List Nat := (List.range n).map (fun i => t (p + i))
/-- the steps behind the first name -/
def ex_tail (t : Nat → Nat) (e : Nat) : Nat → Nat → List ex_S
  | 0, _ => []
  | f + 1, k => if sp_at t k e = 46 then (if 0 < sp_letters t (k + 1) e then .inl (sp_sub t (k + 1) (sp_letters t (k + 1) e)) :: ex_tail t e f (k + (1 + sp_letters t (k + 1) e)) else .inr (t (k + 1)) :: ex_tail t e f (k + 2)) else []
def ex_this (t : Nat → Nat) (k e : Nat) : Bool := decide (sp_letters t k e = 4) && (sp_st t e k [116, 104, 105, 115] && decide (sp_at t (k + 4) e ≠ 46))
def ex_path (t : Nat → Nat) (p e : Nat) : Nat × List ex_S := ((sp_up t e (e - p) p - p) / 3, if ex_this t (sp_up t e (e - p) p) e then [] else .inl (sp_sub t (sp_up t e (e - p) p) (sp_letters t (sp_up t e (e - p) p) e)) :: ex_tail t e (e - p) (sp_up t e (e - p) p + sp_letters t (sp_up t e (e - p) p) e))
def ex_dec (t : Nat → Nat) : Nat → Nat → Int32 → Int32
  | 0, _, v => v
  | n + 1, p, v => ex_dec t n (p + 1) (v * 10 + nI (t p) - 48)
def ex_op (t : Nat → Nat) (p e : Nat) : ex_O := if t p = 34 then .inr (.inl (sp_sub t (p + 1) (e - p - 2))) else if sp_dg (t p) then .inl (ex_dec t (e - p) p 0) else if t p = 64 then .inr (.inr (.inl (decide (t (p + 1) = 105)))) else .inr (.inr (.inr (ex_path t p e)))
def ex_ex (t : Nat → Nat) (p e : Nat) : ex_E := if sp_helper t p e = 0 then (0, ex_op t p e, .inl 0) else (sp_helper t p e, ex_op t (p + sp_hs (sp_helper t p e)) ((sp_operandEnd t (p + sp_hs (sp_helper t p e)) e).getD 0), if 3 < sp_helper t p e then ex_op t ((sp_operandEnd t (p + sp_hs (sp_helper t p e)) e).getD 0 + 1) e else .inl 0)
/-- a NAME's code, as the model reckons it -/
def nm_c : List Nat → Int64 → Int64
  | [], w => w
  | c :: r, w => nm_c r (w * 32 + (nI c).toInt64 - 96)
def ev_fd (D : sd_D) (x : Nat) (w : Int64) : Nat → Nat → Option Nat
  | 0, _ => none
  | m + 1, i => if sd_n D x i = w then some i else ev_fd D x w m (i + 1)
def ev_mem (D : sd_D) (v : sv_T) (w : Int64) : sv_T := match v with
  | some (.inr (.inr x)) => if sd_k D x = 3 then (match ev_fd D x w (sd_c D x) 0 with | some i => sv_of D (sd_p D x i) | none => none) else none
  | _ => none
def ev_el (D : sd_D) (v : sv_T) (k : Int32) : sv_T := match v with
  | some (.inr (.inr x)) => if sd_k D x = 2 ∧ 0 ≤ k ∧ k < nI (sd_c D x) then sv_of D (sd_p D x k.toNatClampNeg) else none
  | _ => none
def ev_step (D : sd_D) (v : sv_T) (s : ex_S) : sv_T := match s with
  | .inl L => ev_mem D v (nm_c L 0)
  | .inr c => ev_el D v (nI c - 48)
def ev_steps (D : sd_D) (v : sv_T) : List ex_S → sv_T
  | [] => v
  | s :: r => ev_steps D (ev_step D v s) r
/-- contexts C 0 .. C (cn - 1), and which turn of a loop is under way -/
def ev_op (D : sd_D) (C : Nat → sv_T) (cn : Nat) (tn : Option Nat) (o : ex_O) : sv_T := match o with
  | .inl v => some (.inl v)
  | .inr (.inl L) => some (.inr (.inl L))
  | .inr (.inr (.inl b)) => (match tn with | none => none | some k => some (.inl (if b then nI k else if k = 0 then 1 else 0)))
  | .inr (.inr (.inr (back, S))) => ev_steps D (if cn ≤ back then none else C (cn - 1 - back)) S
def ev_up (c : Nat) : Nat := if sp_lt c then c - 32 else c
def ev_num (v : sv_T) : Option Int32 := match v with
  | some (.inl x) => some x
  | _ => none
/-- none: too long -/
def ev_ex (D : sd_D) (C : Nat → sv_T) (cn : Nat) (tn : Option Nat) (E : ex_E) : Option sv_T :=
  if E.1 = 0 then some (ev_op D C cn tn E.2.1)
  else if E.1 = 1 then (if 400 < (sv_raw D (ev_op D C cn tn E.2.1)).length then none else some (some (.inr (.inl ((sv_raw D (ev_op D C cn tn E.2.1)).map ev_up)))))
  else if E.1 = 2 then some (some (.inl (nI (sv_len D (ev_op D C cn tn E.2.1)))))
  else if E.1 = 3 then some (some (.inl (sp_b (sv_false D (ev_op D C cn tn E.2.1)))))
  else if E.1 = 4 then some (match ev_num (ev_op D C cn tn E.2.1), ev_num (ev_op D C cn tn E.2.2) with | some a, some b => some (.inl (a + b)) | _, _ => none)
  else if E.1 = 5 then (if 400 < (sv_raw D (ev_op D C cn tn E.2.1)).length ∨ 400 < (sv_raw D (ev_op D C cn tn E.2.2)).length then none else some (some (.inl (sp_b (decide (sv_raw D (ev_op D C cn tn E.2.1) = sv_raw D (ev_op D C cn tn E.2.2)))))))
  else some (ev_el D (ev_op D C cn tn E.2.1) (match ev_num (ev_op D C cn tn E.2.2) with | some b => b | none => -1))
theorem ev_fd_none {D : sd_D} {x : Nat} {w : Int64} : ∀ m i, (∀ j, i ≤ j → j < i + m → sd_n D x j ≠ w) → ev_fd D x w m i = none := by
  intro m
  induction m with
  | zero => intro i _; rfl
  | succ m ih =>
    intro i h
    rw [ev_fd, if_neg (h i (Nat.le_refl _) (by omega))]
    exact ih (i + 1) (fun j h1 h2 => h j (by omega) (by omega))
theorem ev_fd_some {D : sd_D} {x : Nat} {w : Int64} : ∀ m i k, i ≤ k → k < i + m → (∀ j, i ≤ j → j < k → sd_n D x j ≠ w) → sd_n D x k = w → ev_fd D x w m i = some k := by
  intro m
  induction m with
  | zero => intro i k h1 h2 _ _; omega
  | succ m ih =>
    intro i k h1 h2 h3 h4
    rw [ev_fd]
    by_cases z : i = k
    · subst z; rw [if_pos h4]
    · rw [if_neg (h3 i (Nat.le_refl _) (by omega))]
      exact ih (i + 1) k (by omega) (by omega) (fun j h5 h6 => h3 j (by omega) h6) h4
/-- what a value may be: DATA there are, and texts of characters -/
def sv_ok (D : sd_D) (n : Nat) (v : sv_T) : Prop := match v with
  | some (.inr (.inr x)) => x < n ∧ 2 ≤ sd_k D x
  | some (.inr (.inl L)) => L.length ≤ 400 ∧ ∀ c ∈ L, c < 128
  | _ => True
/-- register r set to a number or to nothing -/
theorem rg_nonef {h : jh_H} {mo : Nat} {ar : Nat → Nat} {r : Nat} : mo_fx h (jh_sI h (ar 538) r (-1)) mo ar (rg_F r) no_G := mo_fx.sI mo_fx.rf (Or.inl ⟨Or.inl rfl, rfl⟩)
theorem rg_nonev {h : jh_H} {ar : Nat → Nat} {n r : Nat} {D : sd_D} : mo_R (jh_sI h (ar 538) r (-1)) ar n D r none := jh_u_s _ _ _ _
theorem rg_numf {h : jh_H} {mo : Nat} {ar : Nat → Nat} {r : Nat} {v : Int32} : mo_fx h (jh_sI (jh_sI h (ar 538) r 0) (ar 539) r v) mo ar (rg_F r) no_G := mo_fx.sI (mo_fx.sI mo_fx.rf (Or.inl ⟨Or.inl rfl, rfl⟩)) (Or.inl ⟨Or.inr (Or.inl rfl), rfl⟩)
theorem rg_numv {h h0 : jh_H} {mo : Nat} {ar : Nat → Nat} {n r : Nat} {D : sd_D} {v : Int32} (hm : mo_ok h0 mo ar) : mo_R (jh_sI (jh_sI h (ar 538) r 0) (ar 539) r v) ar n D r (some (.inl v)) :=
  ⟨(mo_rs hm 19 20 rfl rfl (by decide)).trans (jh_u_s _ _ _ _), jh_u_s _ _ _ _⟩
theorem mo_D.rg {h h' h0 : jh_H} {mo : Nat} {ar : Nat → Nat} {r : Nat} {G : Nat → Prop} {n : Nat} {D : sd_D} (hm : mo_ok h0 mo ar) (hf : mo_fx h h' mo ar (rg_F r) G) (hD : mo_D h ar n D) : mo_D h' ar n D := mo_D.fx hm hf (fun k j z => ⟨Or.inr (by have := rg_F_k z; omega), rg_F_in z⟩) hD
theorem mo_tx.rg {h h' h0 : jh_H} {mo : Nat} {ar t : Nat → Nat} {r : Nat} {G : Nat → Prop} (hm : mo_ok h0 mo ar) (hf : mo_fx h h' mo ar (rg_F r) G) (ht : mo_tx h ar t) : mo_tx h' ar t := fun i hi => by
  rw [mo_fx.rd hm hf 7 rfl (fun k z => ⟨by have := rg_F_k z; omega, rg_F_in z⟩)]; exact ht i hi
set_option maxHeartbeats 4000000 in
set_option maxRecDepth 100000 in
theorem cm_element {g : jg_G} (hg : (jg_l g).stackTraces = false) {h : jh_H} {mo : Nat} {ar : Nat → Nat} {n r : Nat} {k : Int32} {D : sd_D} {v : sv_T} {Q : jw_O → jh_H → Prop} (hm : mo_ok h mo ar) (hD : mo_D h ar n D) (hr : r < 18) (hv : mo_R h ar n D r v)
    (hq : ∀ h', mo_fx h h' mo ar (rg_F r) no_G → mo_R h' ar n D r (ev_el D v k) → Q (.inl none) h') : jw_C g 2 0 0 m_M_element [.inr (.inr (some mo)), .inl (nI r), .inl k] h Q := by
  refine jw_intro (ls := [some (.inr (.inr (some mo))), some (.inl (nI r)), some (.inl k)]) (by decide) k_M_element rfl (by simp [lo_fit, jv_c]) hg ?_
  have hn60 := hD.1
  have no : ev_el D v k = none → jw_J g 2 m_M_element jw_T0 29 [some (.inr (.inr (some mo))), some (.inl (nI r)), some (.inl k)] [] h 0 0 Q := by
    intro e
    rw [e] at hq
    refine jw_aload_n rfl rfl ?_
    refine jw_iload_n rfl rfl ?_
    refine js_call (As := [.inl (nI r)]) rfl l_M_nothing c_M_310 i_M_nothing s_M_nothing jc_o8 rfl hm.1 rfl (cm_nothing hg hm hr ?_) (by decide) (Nat.le_of_ble_eq_true rfl) (by omega) (by omega) rfl
    refine jw_goto 58 rfl rfl ?_
    refine jw_return rfl rfl ?_
    exact hq _ rg_nonef rg_nonev
  by_cases z2 : jh_I h (ar 538) r = 2
  · rcases v with _ | v | L | x
    · exact absurd (z2.symm.trans hv) (by decide)
    · exact absurd (z2.symm.trans hv.1) (by decide)
    · exact absurd (z2.symm.trans hv.1) (by decide)
    · obtain ⟨hw, hnum, hxn, hk2⟩ : jh_I h (ar 538) r = nI (sd_k D x) ∧ jh_I h (ar 539) r = nI x ∧ x < n ∧ 2 ≤ sd_k D x := hv
      obtain ⟨d1, d2, d3, d4, d5, d6, d7⟩ := hD.2 x hxn
      have d4 := d4 (by omega)
      have hk : sd_k D x = 2 := (nI_eq (b := 2) (by omega) (by omega)).mp (hw.symm.trans z2)
      have hc := d6 hk2
      refine jw_aload_n rfl rfl ?_
      refine jw_gr rfl g_M_92 hm.1 (mo_r hm 19 rfl) ?_
      refine jw_iload_n rfl rfl ?_
      refine js_ialdV (r) rfl (mo_a hm 19 rfl) (by decide) (by rfl) rfl (by omega) (by decide) (z2) ?_
      refine js_iconst (x := 2) rfl rfl ?_
      refine jw_icmp_ne 29 rfl rfl (fun z => absurd (rfl) z) (fun _ => ?_)
      refine jw_iload_n rfl rfl ?_
      refine jw_if_lt 29 rfl rfl (fun z => no ?_) (fun z => ?_)
      · simp only [ev_el]; exact if_neg (fun q => absurd q.2.1 (by rw [Int32.not_le]; exact z))
      refine jw_iload_n rfl rfl ?_
      refine jw_aload_n rfl rfl ?_
      refine jw_gr rfl g_M_39 hm.1 (mo_r hm 2 rfl) ?_
      refine jw_aload_n rfl rfl ?_
      refine jw_gr rfl g_M_95 hm.1 (mo_r hm 20 rfl) ?_
      refine jw_iload_n rfl rfl ?_
      refine js_ialdV (r) rfl (mo_a hm 20 rfl) (by decide) (by rfl) rfl (by omega) (by decide) (hnum) ?_
      refine js_ialdV (x) rfl (mo_a hm 2 rfl) (by decide) (by rfl) rfl (by omega) (by decide) (d3.trans d4) ?_
      refine jw_icmp_lt 37 rfl rfl (fun z1 => ?_) (fun z1 => no ?_)
      rotate_left
      · simp only [ev_el]; exact if_neg (fun q => z1 q.2.2)
      have z0 : 0 ≤ k := Int32.not_lt.mp z
      have hkk : k = nI k.toNatClampNeg := by
        have := Int32.ofNat_toNatClampNeg k z0
        exact this.symm
      have hlt : k.toNatClampNeg < sd_c D x := by
        rw [hkk] at z1
        have h1 : k.toNatClampNeg < 2 ^ 31 := by
          have := Int32.toInt_lt k
          unfold Int32.toNatClampNeg
          omega
        exact (nI_ltI (by omega) (by omega)).mp z1
      refine jw_aload_n rfl rfl ?_
      refine jw_iload_n rfl rfl ?_
      refine jw_aload_n rfl rfl ?_
      refine jw_gr rfl g_M_45 hm.1 (mo_r hm 4 rfl) ?_
      refine jw_aload_n rfl rfl ?_
      refine jw_gr rfl g_M_95 hm.1 (mo_r hm 20 rfl) ?_
      refine jw_iload_n rfl rfl ?_
      refine js_ialdV (r) rfl (mo_a hm 20 rfl) (by decide) (by rfl) rfl (by omega) (by decide) (hnum) ?_
      refine js_bipush (x := 10) rfl rfl ?_
      refine jw_imulV rfl (pk_mul x 10) ?_
      refine jw_iload_n rfl rfl ?_
      rw [hkk]
      refine jw_iaddV rfl (nI_add _ _) ?_
      refine js_ialdV (x * 10 + k.toNatClampNeg) rfl (mo_a hm 4 rfl) (by decide) (by rfl) rfl (by omega) (by decide) ((hc.2 _ hlt).1) ?_
      refine js_call (As := [.inl (nI r), .inl (nI (sd_p D x k.toNatClampNeg))]) rfl l_M_load c_M_313 i_M_load s_M_load jc_o8 rfl hm.1 rfl (cm_load hg hm hD hr (hc.2 _ hlt).2 (fun h' f' v' => ?_)) (by decide) (Nat.le_of_ble_eq_true rfl) (by omega) (by omega) rfl
      refine jw_return rfl rfl ?_
      refine hq h' f' ?_
      have e : ev_el D (some (.inr (.inr x))) k = sv_of D (sd_p D x k.toNatClampNeg) := by
        simp only [ev_el]; exact if_pos ⟨hk, z0, z1⟩
      rw [e]; exact v'
  · refine jw_aload_n rfl rfl ?_
    refine jw_gr rfl g_M_92 hm.1 (mo_r hm 19 rfl) ?_
    refine jw_iload_n rfl rfl ?_
    refine js_iald (r) rfl (mo_a hm 19 rfl) (by decide) (by rfl) rfl (by omega) (by decide) ?_
    refine js_iconst (x := 2) rfl rfl ?_
    refine jw_icmp_ne 29 rfl rfl (fun _ => ?_) (fun z => absurd z (z2))
    refine no ?_
    rcases v with _ | v | L | x
    · rfl
    · rfl
    · rfl
    · simp only [ev_el]; exact if_neg (fun q => z2 (hv.1.trans (by rw [q.1]; rfl)))
set_option maxHeartbeats 4000000 in
set_option maxRecDepth 100000 in
theorem cm_member {g : jg_G} (hg : (jg_l g).stackTraces = false) {h : jh_H} {mo : Nat} {ar t : Nat → Nat} {n r p m : Nat} {D : sd_D} {v : sv_T} {Q : jw_O → jh_H → Prop} (hm : mo_ok h mo ar) (hD : mo_D h ar n D) (ht : mo_tx h ar t) (hr : r < 18) (hp : p + m ≤ 1000) (hv : mo_R h ar n D r v)
    (hq : ∀ h', mo_fx h h' mo ar (rg_F r) no_G → mo_R h' ar n D r (ev_mem D v (nm_c (sp_sub t p m) 0)) → Q (.inl none) h') : jw_C g 2 0 0 m_M_member [.inr (.inr (some mo)), .inl (nI r), .inl (nI p), .inl (nI m)] h Q := by
  refine jw_intro (ls := [some (.inr (.inr (some mo))), some (.inl (nI r)), some (.inl (nI p)), some (.inl (nI m)), none, none, none]) (by decide) k_M_member rfl (by simp [lo_fit, jv_c]) hg ?_
  have hn60 := hD.1
  generalize hW : nm_c (sp_sub t p m) 0 = W at hq
  have no : ev_mem D v W = none → ∀ a, a = (-1 : Int32) → jw_J g 2 m_M_member jw_T0 67 [some (.inr (.inr (some mo))), some (.inl (nI r)), some (.inl (nI p)), some (.inl (nI m)), some (.inr (.inl W)), none, none] [.inl a] h 0 0 Q := by
    intro e a ea
    rw [e] at hq
    subst ea
    refine js_istore rfl rfl (by decide) rfl ?_
    refine jw_iload rfl rfl ?_
    refine jw_if_ge 82 rfl rfl (fun z => absurd z (by decide)) (fun _ => ?_)
    refine jw_aload_n rfl rfl ?_
    refine jw_iload_n rfl rfl ?_
    refine js_call (As := [.inl (nI r)]) rfl l_M_nothing c_M_310 i_M_nothing s_M_nothing jc_o8 rfl hm.1 rfl (cm_nothing hg hm hr ?_) (by decide) (Nat.le_of_ble_eq_true rfl) (by omega) (by omega) rfl
    refine jw_goto 104 rfl rfl ?_
    refine jw_return rfl rfl ?_
    exact hq _ rg_nonef rg_nonev
  have at41 : jw_J g 2 m_M_member jw_T0 41 [some (.inr (.inr (some mo))), some (.inl (nI r)), some (.inl (nI p)), some (.inl (nI m)), some (.inr (.inl W)), none, none] [] h 0 0 Q := by
    by_cases z3 : jh_I h (ar 538) r = 3
    · rcases v with _ | v | L | x
      · exact absurd (z3.symm.trans hv) (by decide)
      · exact absurd (z3.symm.trans hv.1) (by decide)
      · exact absurd (z3.symm.trans hv.1) (by decide)
      · obtain ⟨hw, hnum, hxn, hk2⟩ : jh_I h (ar 538) r = nI (sd_k D x) ∧ jh_I h (ar 539) r = nI x ∧ x < n ∧ 2 ≤ sd_k D x := hv
        obtain ⟨d1, d2, d3, d4, d5, d6, d7⟩ := hD.2 x hxn
        have d4 := d4 (by omega)
        have hk : sd_k D x = 3 := (nI_eq (b := 3) (by omega) (by omega)).mp (hw.symm.trans z3)
        have hc := d6 hk2
        have d7 := d7 hk
        refine jw_aload_n rfl rfl ?_
        refine jw_gr rfl g_M_92 hm.1 (mo_r hm 19 rfl) ?_
        refine jw_iload_n rfl rfl ?_
        refine js_ialdV (r) rfl (mo_a hm 19 rfl) (by decide) (by rfl) rfl (by omega) (by decide) (z3) ?_
        refine js_iconst (x := 3) rfl rfl ?_
        refine jw_icmp_ne 66 rfl rfl (fun z => absurd (rfl) z) (fun _ => ?_)
        refine jw_aload_n rfl rfl ?_
        refine jw_aload_n rfl rfl ?_
        refine jw_gr rfl g_M_95 hm.1 (mo_r hm 20 rfl) ?_
        refine jw_iload_n rfl rfl ?_
        refine js_ialdV (r) rfl (mo_a hm 20 rfl) (by decide) (by rfl) rfl (by omega) (by decide) (hnum) ?_
        refine jw_lload rfl rfl ?_
        refine js_call (As := [.inl (nI x), .inr (.inl W)]) rfl l_M_find c_M_188 i_M_find s_M_find jc_o8 rfl hm.1 rfl (cm_find (c := sd_c D x) hg hm (by omega) (d3.trans d4) hc.1 (fun q => ?_) (fun i hi q q2 => ?_)) (by decide) (Nat.le_of_ble_eq_true rfl) (by omega) (by omega) rfl
        · refine jw_goto 67 rfl rfl ?_
          refine no ?_ _ rfl
          simp only [ev_mem, if_pos hk]
          rw [ev_fd_none (sd_c D x) 0 (fun j _ h2 => by rw [← d7 j (by omega)]; exact q j (by omega))]
        · refine jw_goto 67 rfl rfl ?_
          refine js_istore rfl rfl (by decide) rfl ?_
          refine jw_iload rfl rfl ?_
          refine jw_if_ge 82 rfl rfl (fun _ => ?_) (fun z => absurd (nI_pos' (by omega)) z)
          refine jw_aload_n rfl rfl ?_
          refine jw_iload_n rfl rfl ?_
          refine jw_aload_n rfl rfl ?_
          refine jw_gr rfl g_M_45 hm.1 (mo_r hm 4 rfl) ?_
          refine jw_aload_n rfl rfl ?_
          refine jw_gr rfl g_M_95 hm.1 (mo_r hm 20 rfl) ?_
          refine jw_iload_n rfl rfl ?_
          refine js_ialdV (r) rfl (mo_a hm 20 rfl) (by decide) (by rfl) rfl (by omega) (by decide) (hnum) ?_
          refine js_bipush (x := 10) rfl rfl ?_
          refine jw_imulV rfl (pk_mul x 10) ?_
          refine jw_iload rfl rfl ?_
          refine jw_iaddV rfl (nI_add _ _) ?_
          refine js_ialdV (x * 10 + i) rfl (mo_a hm 4 rfl) (by decide) (by rfl) rfl (by omega) (by decide) ((hc.2 i hi).1) ?_
          refine js_call (As := [.inl (nI r), .inl (nI (sd_p D x i))]) rfl l_M_load c_M_313 i_M_load s_M_load jc_o8 rfl hm.1 rfl (cm_load hg hm hD hr (hc.2 i hi).2 (fun h' f' v' => ?_)) (by decide) (Nat.le_of_ble_eq_true rfl) (by omega) (by omega) rfl
          refine jw_return rfl rfl ?_
          refine hq h' f' ?_
          have e : ev_mem D (some (.inr (.inr x))) W = sv_of D (sd_p D x i) := by
            simp only [ev_mem, if_pos hk]
            rw [ev_fd_some (sd_c D x) 0 i (by omega) (by omega) (fun j _ h2 => by rw [← d7 j (by omega)]; exact q2 j h2) (by rw [← d7 i hi]; exact q)]
          rw [e]; exact v'
    · refine jw_aload_n rfl rfl ?_
      refine jw_gr rfl g_M_92 hm.1 (mo_r hm 19 rfl) ?_
      refine jw_iload_n rfl rfl ?_
      refine js_iald (r) rfl (mo_a hm 19 rfl) (by decide) (by rfl) rfl (by omega) (by decide) ?_
      refine js_iconst (x := 3) rfl rfl ?_
      refine jw_icmp_ne 66 rfl rfl (fun _ => ?_) (fun z => absurd z (z3))
      refine js_iconst (x := (-1)) rfl rfl ?_
      refine no ?_ _ rfl
      rcases v with _ | v | L | x
      · rfl
      · rfl
      · rfl
      · simp only [ev_mem]; exact if_neg (fun q => z3 (hv.1.trans (by rw [q]; rfl)))
  have loop : ∀ k j w, j + k = m → nm_c (sp_sub t (p + j) k) w = W → jw_J g 2 m_M_member jw_T0 6 [some (.inr (.inr (some mo))), some (.inl (nI r)), some (.inl (nI p)), some (.inl (nI m)), some (.inr (.inl w)), none, some (.inl (nI (p + j)))] [] h 0 0 Q := by
    intro k
    induction k with
    | zero =>
      intro j w hj hw
      have ew : w = W := hw
      subst ew
      refine jw_iload rfl rfl ?_
      refine jw_iload_n rfl rfl ?_
      refine jw_iload_n rfl rfl ?_
      refine jw_iaddV rfl (nI_add _ _) ?_
      refine jw_icmp_ge 41 rfl rfl (fun _ => ?_) (fun z => absurd ((nI_leI (by omega) (by omega)).mpr (by omega)) z)
      exact js_drop 6 rfl at41
    | succ k ih =>
      intro j w hj hw
      refine jw_iload rfl rfl ?_
      refine jw_iload_n rfl rfl ?_
      refine jw_iload_n rfl rfl ?_
      refine jw_iaddV rfl (nI_add _ _) ?_
      refine jw_icmp_ge 41 rfl rfl (fun z => absurd z (fun z => absurd ((nI_leI (by omega) (by omega)).mp z) (by omega))) (fun _ => ?_)
      refine jw_lload rfl rfl ?_
      refine jw_ldc2 rfl q_M_180 ?_
      refine jw_lmul rfl ?_
      refine jw_aload_n rfl rfl ?_
      refine jw_gr rfl g_M_56 hm.1 (mo_r hm 7 rfl) ?_
      refine jw_iload rfl rfl ?_
      refine js_caldV (p + j) rfl (mo_a hm 7 rfl) (by decide) (by rfl) rfl (by omega) (by decide) ((ht (p + j) (by omega)).1) ?_
      refine jw_i2l rfl ?_
      refine jw_ladd rfl ?_
      refine jw_ldc2 rfl q_M_182 ?_
      refine jw_lsub rfl ?_
      refine js_lstore rfl rfl (by decide) rfl ?_
      refine js_iinc rfl rfl (nI_1 (p + j)) rfl (by decide) rfl ?_
      refine jw_goto 6 rfl rfl ?_
      refine ih (j + 1) _ (by omega) ?_
      rw [← hw, sp_sub, sp_sub, List.range_succ_eq_map, List.map_cons, List.map_map, nm_c]
      refine congrArg (fun q => nm_c q _) (List.map_congr_left (fun a _ => ?_))
      show t (p + (j + 1) + a) = t (p + j + (a + 1))
      congr 1; omega
  refine jw_lconst rfl ?_
  refine js_lstore rfl rfl (by decide) rfl ?_
  refine jw_iload_n rfl rfl ?_
  refine js_istore rfl rfl (by decide) rfl ?_
  exact loop m 0 0 (by omega) hW

