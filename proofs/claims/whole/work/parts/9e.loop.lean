/-! THE LAW: its loop -/
theorem and15 (v : Int32) : ∃ q, q < 16 ∧ v &&& 15 = nI q := by
  refine ⟨v.toBitVec.toNat % 16, Nat.mod_lt _ (by decide), ?_⟩
  apply Int32.toBitVec_inj.mp
  rw [Int32.toBitVec_and]
  apply BitVec.eq_of_toNat_eq
  rw [BitVec.toNat_and]
  show v.toBitVec.toNat &&& 15 = (BitVec.ofNat 32 (v.toBitVec.toNat % 16)).toNat
  rw [BitVec.toNat_ofNat]
  have h1 : v.toBitVec.toNat &&& 15 = v.toBitVec.toNat % 16 := Nat.and_two_pow_sub_one_eq_mod v.toBitVec.toNat 4
  rw [h1]
  have h2 : v.toBitVec.toNat % 16 < 16 := Nat.mod_lt _ (by decide)
  exact (Nat.mod_eq_of_lt (by omega)).symm
theorem nI_s3 {L : Nat} (h : 3 ≤ L) : nI L - 3 = nI (L - 3) := by
  obtain ⟨m, rfl⟩ : ∃ m, L = m + 3 := ⟨L - 3, by omega⟩
  rw [← nI_add m 3, show m + 3 - 3 = m by omega]
  exact Int32.add_sub_cancel _ _
theorem lo_in {L j : Nat} (hL : L ≤ 1536) (h : 3 * j + 3 ≤ L) : ¬ (nI L - 3 < nI (3 * j)) := by
  rw [nI_s3 (by omega)]
  intro z
  have := (nI_ltI (by omega) (by omega)).mp z
  omega
theorem lo_out {L j : Nat} (hL : L ≤ 1536) (hj : j ≤ 512) (h : L < 3 * j + 3) : nI L - 3 < nI (3 * j) := by
  by_cases c : 3 ≤ L
  · rw [nI_s3 c]
    exact (nI_ltI (by omega) (by omega)).mpr (by omega)
  · have h0 : nI L - 3 < 0 := by
      rcases (show L = 0 ∨ L = 1 ∨ L = 2 by omega) with rfl | rfl | rfl <;> decide
    exact Int32.lt_of_lt_of_le h0 (nI_pos' (by omega))
theorem law_exit {N : State → Prop} {g : jg_G} {d b L j mo ou kc ks : Nat} {xs : Nat → Int32} {ad : Nat → Nat} {h : jh_H} {Q : jw_O → jh_H → Prop} (hX : jy_scr N g b L xs) (hL : L ≤ 1536) (hj : j ≤ 512) (hlt : L < 3 * j + 3) (hq : Q (.inl (some (.inl 1))) h) : jy_J N g d m_law jw_T0 23 [some (.inr (.inr (some b))), some (.inr (.inr (some (ad 0)))), some (.inr (.inr (some mo))), some (.inr (.inr (some ou))), some (.inl (nI (3 * j))), none, none] [] h kc ks Q := by
  refine jy_iload rfl rfl ?_
  refine jy_aload_n rfl rfl ?_
  refine jy_slen hX rfl ?_
  refine jz_iconst (x := 3) rfl rfl ?_
  refine jy_isub rfl ?_
  refine jy_icmp_gt 824 rfl rfl (fun _ => ?_) (fun z => absurd (lo_out hL hj hlt) z)
  refine jz_iconst (x := 1) rfl rfl ?_
  refine jy_ireturn rfl rfl (by decide) ?_
  exact hq
set_option maxHeartbeats 4000000 in
set_option maxRecDepth 100000 in
theorem law_loop {N : State → Prop} {g : jg_G} (hg : (jg_l g).stackTraces = false) {d b L : Nat} {xs : Nat → Int32} (hX : jy_scr N g b L xs) (hN0 : ∀ s, N s → jw_NC s) (hL : L ≤ 1536) (hd : 200 ≤ d) {ad ar : Nat → Nat} {mo ou : Nat} {Q : jw_O → jh_H → Prop} (hq : ∀ h, Q (.inl (some (.inl 1))) h) : ∀ n j h col R E se t S kc ks, LI g h col ad R E se mo ar t ou S → se ≤ j → j + n ≤ 512 → L < 3 * (j + n) + 3 → 610 * n ≤ kc → 3000 * n ≤ ks → jy_J N g d m_law jw_T0 23 [some (.inr (.inr (some b))), some (.inr (.inr (some (ad 0)))), some (.inr (.inr (some mo))), some (.inr (.inr (some ou))), some (.inl (nI (3 * j))), none, none] [] h kc ks Q := by
  intro n
  induction n with
  | zero => intro j h col R E se t S kc ks li hse hj hlt _ _; exact law_exit hX hL (by omega) (by omega) (hq h)
  | succ n ih =>
    intro j h col R E se t S kc ks li hse hj hlt hkc hks
    by_cases c : 3 * j + 3 ≤ L
    · refine jy_iload rfl rfl ?_
      refine jy_aload_n rfl rfl ?_
      refine jy_slen hX rfl ?_
      refine jz_iconst (x := 3) rfl rfl ?_
      refine jy_isub rfl ?_
      refine jy_icmp_gt 824 rfl rfl (fun z => absurd z (lo_in hL c)) (fun _ => ?_)
      refine jy_aload_n rfl rfl ?_
      refine jy_iload rfl rfl ?_
      refine jy_sld (3 * j) hX rfl rfl (by omega) (by omega) ?_
      refine jz_bipush (x := 15) rfl rfl ?_
      refine jy_iand rfl ?_
      obtain ⟨q, hq16, eq⟩ := and15 (xs (3 * j))
      rw [eq]
      have k818 : ∀ h' col' R' E' se' t' S', LI g h' col' ad R' E' se' mo ar t' ou S' → se' ≤ se + 1 → jy_J N g d m_law jw_T0 818 [some (.inr (.inr (some b))), some (.inr (.inr (some (ad 0)))), some (.inr (.inr (some mo))), some (.inr (.inr (some ou))), some (.inl (nI (3 * j))), none, none] [] h' (kc - 610) (ks - 3000) Q := by
        intro h' col' R' E' se' t' S' li' hse'
        refine jz_iinc (y := nI (3 * (j + 1))) rfl rfl (nI_add (3 * j) 3) rfl (by decide) rfl ?_
        refine jy_goto 23 rfl rfl ?_
        exact ih (j + 1) h' col' R' E' se' t' S' _ _ li' (by omega) (by omega) (by omega) (by omega) (by omega)
      rcases (show q = 0 ∨ q = 1 ∨ q = 2 ∨ q = 3 ∨ q = 4 ∨ q = 5 ∨ q = 6 ∨ q = 7 ∨ q = 8 ∨ q = 9 ∨ q = 10 ∨ q = 11 ∨ q = 12 ∨ q = 13 ∨ q = 14 ∨ q = 15 by omega) with rfl | rfl | rfl | rfl | rfl | rfl | rfl | rfl | rfl | rfl | rfl | rfl | rfl | rfl | rfl | rfl
      · refine jy_tableIn 108 rfl (by decide) (by decide) rfl rfl ?_
        exact law_type hg hX hN0 hL hd li (by omega) (by omega) (by omega) (by omega) k818
      · refine jy_tableIn 164 rfl (by decide) (by decide) rfl rfl ?_
        exact law_number hg hX hN0 hL hd li (by omega) (by omega) (by omega) (by omega) k818
      · refine jy_tableIn 220 rfl (by decide) (by decide) rfl rfl ?_
        exact law_text hg hX hN0 hL hd li (by omega) (by omega) (by omega) (by omega) k818
      · refine jy_tableIn 264 rfl (by decide) (by decide) rfl rfl ?_
        exact law_list hg hX hN0 hL hd li (by omega) (by omega) (by omega) (by omega) k818
      · refine jy_tableIn 308 rfl (by decide) (by decide) rfl rfl ?_
        exact law_map hg hX hN0 hL hd li (by omega) (by omega) (by omega) (by omega) k818
      · refine jy_tableIn 352 rfl (by decide) (by decide) rfl rfl ?_
        exact law_add hg hX hN0 hL hd li (by omega) (by omega) (by omega) (by omega) k818
      · refine jy_tableIn 420 rfl (by decide) (by decide) rfl rfl ?_
        exact law_put hg hX hN0 hL hd li (by omega) (by omega) (by omega) (by omega) k818
      · refine jy_tableIn 488 rfl (by decide) (by decide) rfl rfl ?_
        exact law_compile hg hX hN0 hL hd li (by omega) (by omega) (by omega) (by omega) k818
      · refine jy_tableIn 544 rfl (by decide) (by decide) rfl rfl ?_
        exact law_errorAt hg hX hN0 hL hd li (by omega) (by omega) (by omega) (by omega) k818
      · refine jy_tableIn 557 rfl (by decide) (by decide) rfl rfl ?_
        exact law_render hg hX hN0 hL hd li (by omega) (by omega) (by omega) (by omega) k818
      · refine jy_tableIn 625 rfl (by decide) (by decide) rfl rfl ?_
        exact law_at hg hX hN0 hL hd li (by omega) (by omega) (by omega) (by omega) k818
      · refine jy_tableIn 681 rfl (by decide) (by decide) rfl rfl ?_
        exact law_kind hg hX hN0 hL hd li (by omega) (by omega) (by omega) (by omega) k818
      · refine jy_tableIn 737 rfl (by decide) (by decide) rfl rfl ?_
        exact law_size hg hX hN0 hL hd li (by omega) (by omega) (by omega) (by omega) k818
      · refine jy_tableIn 793 rfl (by decide) (by decide) rfl rfl ?_
        exact law_count hg hX hN0 hL hd li (by omega) (by omega) (by omega) (by omega) k818
      · refine jy_tableOut 818 rfl (by decide) rfl ?_
        exact jy_room (by omega) (by omega) (k818 h col R E se t S li (by omega))
      · refine jy_tableOut 818 rfl (by decide) rfl ?_
        exact jy_room (by omega) (by omega) (k818 h col R E se t S li (by omega))
    · exact law_exit hX hL (by omega) (by omega) (hq h)
