/-! READER: taking apart -/
theorem rs_fact {t : Nat → Nat} {c e : Nat} {three : Bool} : 2 ≤ (rs_o t c e three).1 ∧ (rs_o t c e three).1 ≤ 12 ∧ ((rs_o t c e three).1 = 5 → (rs_o t c e three).2 = 2) ∧ ((rs_o t c e three).1 = 2 ∨ (rs_o t c e three).1 = 3 ∨ (rs_o t c e three).1 = 6 ∨ (rs_o t c e three).1 = 7 ∨ (rs_o t c e three).1 = 8 → (rs_o t c e three).2 = rn_xo (rr_s (rs_o t c e three).1)) := by
  unfold rs_o
  repeat' split
  all_goals exact ⟨by decide, by decide, by decide, by decide⟩
theorem os_rr {o : Nat} (h1 : 2 ≤ o) (h2 : o ≤ 12) : o_s (rr_s o) = o ∧ rr_s o ≤ 10 ∧ (rr_s o = 10 → o = 5) ∧ (rr_s o ≠ 2 → rr_s o ≠ 10 → rr_s o < 6 → (o = 2 ∨ o = 3 ∨ o = 6 ∨ o = 7 ∨ o = 8)) := by
  have : o = 2 ∨ o = 3 ∨ o = 4 ∨ o = 5 ∨ o = 6 ∨ o = 7 ∨ o = 8 ∨ o = 9 ∨ o = 10 ∨ o = 11 ∨ o = 12 := by omega
  rcases this with rfl | rfl | rfl | rfl | rfl | rfl | rfl | rfl | rfl | rfl | rfl <;> decide
/-- the reader's source, its row, the count of tags, no fault so far -/
def rcc (h : jh_H) (r sb sch cap st : Nat) (L : List Nat) (n : Nat) : Prop := jh_r h r 256 = some sb ∧ tx_is h sb sch cap L ∧ jh_r h r 265 = some st ∧ jh_A h st 2 200 ∧ jh_i h r 261 = nI n ∧ jh_i h r 262 = -1
def fS (h0 : jh_H) (r op rt st b : Nat) : Prop := b = r ∨ b = op ∨ b = rt ∨ b = st ∨ b ∉ jh_L h0
def FF (h0 : jh_H) (r op rt st : Nat) (h : jh_H) : Prop := fr (fS h0 r op rt st) h0 h ∧ jh_r h r 257 = jh_r h0 r 257
/-- what lies apart -/
def ra (h0 : jh_H) (r op rt sb sch st : Nat) : Prop := sb ∈ jh_L h0 ∧ sch ∈ jh_L h0 ∧ st ∈ jh_L h0 ∧ sb ≠ r ∧ sb ≠ op ∧ sb ≠ rt ∧ sch ≠ r ∧ sch ≠ op ∧ sch ≠ rt ∧ sb ≠ st ∧ sch ≠ st ∧ st ≠ r ∧ st ≠ op ∧ st ≠ rt ∧ r ∈ jh_L h0 ∧ op ∈ jh_L h0 ∧ rt ∈ jh_L h0 ∧ r ≠ rt ∧ r ≠ op ∧ op ≠ rt
theorem rcc.tf {h0 h h' : jh_H} {r op rt sb sch cap st : Nat} {L : List Nat} {n : Nat} (hc : rcc h r sb sch cap st L n) (ha : ra h0 r op rt sb sch st) (f : tf h0 r op rt h h') : rcc h' r sb sch cap st L n := by
  obtain ⟨c1, c2, c3, c4, c5, c6⟩ := hc
  obtain ⟨a1, a2, a3, a4, a5, a6, a7, a8, a9, a10⟩ := ha
  refine ⟨(f.2.2 256 (by decide)).trans c1, c2.fr f.1 (fun z => ?_) (fun z => ?_), (f.2.2 265 (by decide)).trans c3, f.1.A c4, (f.2.1 261 (by decide)).trans c5, (f.2.1 262 (by decide)).trans c6⟩
  · rcases z with z | z | z | z
    · exact a4 z
    · exact a5 z
    · exact a6 z
    · exact z a1
  · rcases z with z | z | z | z
    · exact a7 z
    · exact a8 z
    · exact a9 z
    · exact z a2
theorem rcc.rd {h0 h h' : jh_H} {r op rt sb sch cap st : Nat} {L : List Nat} {n : Nat} (hc : rcc h r sb sch cap st L n) (ha : ra h0 r op rt sb sch st) (f : rd_f r st h h') : rcc h' r sb sch cap st L n := by
  obtain ⟨c1, c2, c3, c4, c5, c6⟩ := hc
  obtain ⟨a1, a2, a3, a4, a5, a6, a7, a8, a9, a10, a11, a12⟩ := ha
  refine ⟨(f.2.2 256).trans c1, c2.fr f.1 (fun z => ?_) (fun z => ?_), (f.2.2 265).trans c3, f.1.A c4, (f.2.1 261 (by decide)).trans c5, (f.2.1 262 (by decide)).trans c6⟩
  · rcases z with z | z
    · exact a4 z
    · exact a10 z
  · rcases z with z | z
    · exact a7 z
    · exact a11 z
theorem FF.tf {h0 h h' : jh_H} {r op rt st : Nat} (hF : FF h0 r op rt st h) (f : tf h0 r op rt h h') : FF h0 r op rt st h' := ⟨hF.1.tr (f.1.mono (S := fS h0 r op rt st) (fun b _ z => by rcases z with z | z | z | z; exact Or.inl z; exact Or.inr (Or.inl z); exact Or.inr (Or.inr (Or.inl z)); exact Or.inr (Or.inr (Or.inr (Or.inr z))))) (fun _ _ z => z), (f.2.2 257 (by decide)).trans hF.2⟩
theorem FF.rd {h0 h h' : jh_H} {r op rt st : Nat} (hF : FF h0 r op rt st h) (f : rd_f r st h h') : FF h0 r op rt st h' := ⟨hF.1.tr (f.1.mono (S := fS h0 r op rt st) (fun b _ z => by rcases z with z | z; exact Or.inl z; exact Or.inr (Or.inr (Or.inr (Or.inl z))))) (fun _ _ z => z), (f.2.2 257).trans hF.2⟩
theorem FF.si {h0 h : jh_H} {r op rt st k : Nat} {v : Int32} (hF : FF h0 r op rt st h) : FF h0 r op rt st (jh_si h r k v) := ⟨fr.si hF.1 (Or.inl rfl), hF.2⟩
-- an int of the reader
theorem RT.si {g : jg_G} {h0 h : jh_H} {r op rt k : Nat} {v : Int32} {X : tp_X} {A B : Nat → Nat} {d : Nat} {os : Nat → Nat} {lst W : Option Nat} (hT : RT g h0 h r op rt X A B d os lst W) (hk : k ≠ 259) : RT g h0 (jh_si h r k v) r op rt X A B d os lst W := by
  have rR : r ≠ rt := fun e => jO_ne hT.1.1 hT.2.2.2.2.1.1 (by decide) e
  have rO : r ≠ op := fun e => jOA_ne hT.1.1 hT.1.2.2.1 (by decide) e
  refine hT.mv (S := fun b => b = r) (fr.si fr.rf rfl) (fun b hb _ e => hb (by rw [e]; exact hT.2.2.2.2.2.2.2.1)) (Ne.symm rR) (Ne.symm rO) (jh_u_k _ _ _ _ (Ne.symm hk)) (fun _ => rfl)
theorem MD.si {g : jg_G} {h0 h : jh_H} {r rt k : Nat} {v : Int32} {X : tp_X} {A B : Nat → Nat} {d : Nat} {os : Nat → Nat} {lst W : Option Nat} {txt : List Nat} (hM : MD g h0 h rt X A B d os lst W txt) (hr : r ∈ jh_L h0) : MD g h0 (jh_si h r k v) rt X A B d os lst W txt := hM.mv (S := fun b => b = r) (fr.si fr.rf rfl) (fun b hb _ e => hb (by rw [e]; exact hr))
theorem rcc.si {h : jh_H} {r sb sch cap st k : Nat} {v : Int32} {L : List Nat} {n : Nat} (hc : rcc h r sb sch cap st L n) (ho : jh_O h r 4) (h1 : k ≠ 261) (h2 : k ≠ 262) : rcc (jh_si h r k v) r sb sch cap st L n := by
  obtain ⟨c1, c2, c3, c4, c5, c6⟩ := hc
  have f : fr (fun b => b = r) h (jh_si h r k v) := fr.si fr.rf rfl
  exact ⟨c1, c2.fr f (fun e => jO_ne c2.1.1 ho (by decide) e) (fun e => jOA_ne ho c2.1.2.1 (by decide) e.symm), c3, c4, (jh_u_k _ _ _ _ (Ne.symm h1)).trans c5, (jh_u_k _ _ _ _ (Ne.symm h2)).trans c6⟩
-- behind a fault the loop ends
set_option maxHeartbeats 4000000 in
set_option maxRecDepth 100000 in
theorem cp_stop {g : jg_G} {d kc ks : Nat} {h : jh_H} {r sb sch cap x p i : Nat} {L : List Nat} {l3 l4 l5 l6 : Option jV} {Q : jw_O → jh_H → Prop} (ho : jh_O h r 4) (hs : jh_r h r 256 = some sb) (ht : tx_is h sb sch cap L) (hL : L.length ≤ 200) (hx : x ≤ 200) (hf : jh_i h r 262 = nI x) (hp : p ≤ 1000) (hi : i ≤ 1000) (hq : Q (.inl none) h) : jw_J g d m_P_takeApart jw_T0 4 [some (.inr (.inr (some r))), some (.inl (nI p)), some (.inl (nI i)), l3, l4, l5, l6] [] h kc ks Q := by
  have n1 : ¬ (nI x = -1) := fun e => by
    have := congrArg Int32.toInt e
    rw [nI_toInt (by omega)] at this
    rw [show Int32.toInt (-1) = -1 from rfl] at this
    omega
  have at198 : jw_J g d m_P_takeApart jw_T0 198 [some (.inr (.inr (some r))), some (.inl (nI p)), some (.inl (nI i)), l3, l4, l5, l6] [] h kc ks Q := by
    refine jw_aload_n rfl rfl ?_
    refine jw_gi rfl g_P_30 (ho) (hf) ?_
    refine js_iconst (x := (-1)) rfl rfl ?_
    refine jw_icmp_ne 229 rfl rfl (fun _ => ?_) (fun z => absurd z (n1))
    refine jw_return rfl rfl ?_
    exact hq
  refine jw_iload_n rfl rfl ?_
  refine js_sipush (x := 200) rfl rfl ?_
  by_cases c1 : 200 < i
  · refine jw_icmp_gt 198 rfl rfl (fun _ => ?_) (fun z => absurd ((nI_ltI (a := 200) (by decide) (by omega)).mpr c1) z)
    exact at198
  · refine jw_icmp_gt 198 rfl rfl (fun z => absurd z (fun z => c1 ((nI_ltI (a := 200) (by decide) (by omega)).mp z))) (fun _ => ?_)
    refine jw_iload_n rfl rfl ?_
    refine jw_aload_n rfl rfl ?_
    refine jw_gr rfl g_P_38 (ho) (hs) ?_
    refine jw_gi rfl g_P_42 (ht.1.1) (ht.1.2.2.2.1) ?_
    by_cases c2 : L.length ≤ p
    · refine jw_icmp_ge 198 rfl rfl (fun _ => ?_) (fun z => absurd ((nI_leI (by omega) (by omega)).mpr c2) z)
      exact at198
    · refine jw_icmp_ge 198 rfl rfl (fun z => absurd z (fun z => c2 ((nI_leI (by omega) (by omega)).mp z))) (fun _ => ?_)
      refine jw_aload_n rfl rfl ?_
      refine jw_gi rfl g_P_30 (ho) (hf) ?_
      refine js_iconst (x := (-1)) rfl rfl ?_
      refine jw_icmp_ne 198 rfl rfl (fun _ => ?_) (fun z => absurd z (n1))
      exact at198

