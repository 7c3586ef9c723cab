/-! THE REFERENCE: the small calls, type -/
theorem v_lcmp {σ : Type} {K : Cf} {wp : σ → Heap → Prop} {M : σ} {cc : ByteArray} {pc : Nat} {lv : List (Nat × Value)} {rest : List Value} (h0 : C0 K cc) {x y : Int64} (hdg : decode cc pc = .ok (.lcmp, 1)) (k : V K wp M (pc + 1) lv (.int (lg_cmp x y) :: rest)) : V K wp M pc lv (.long y :: .long x :: rest) := fun H locs ls hw hS hl => W.lcmp h0.1 h0.2 hdg (k H locs ls hw hS hl)
theorem lc_33 : ∀ a, a < 256 → (lg_cmp (lN a) 33 < 0 ↔ a < 33) := by decide +kernel
theorem lc_126 : ∀ a, a < 256 → (lg_cmp (lN a) 126 ≤ 0 ↔ a ≤ 126) := by decide +kernel
theorem in_9 {x : Int32} : x < 10 ↔ ¬ nI 9 < x := by
  have e : (nI 9).toInt = 9 := by decide
  have e2 : (10 : Int32).toInt = 10 := by decide
  rw [Int32.lt_iff_toInt_lt, Int32.lt_iff_toInt_lt, e, e2]; omega
theorem up2_id (M : Me) {i k : Nat} {v : Int32} (h : M i k = v) : up2 M i k v = M := by
  funext a b; rw [up2_if]; split
  · next q => rw [q.1, q.2, h]
  · rfl
theorem tyM_s (M : Me) (x : Int64) (L i : Nat) (a c : Int32) : up2 (up2 (up2 (upR M 1 (tyR (M 1) x L i)) 0 1 a) 1 (L + i) (nI (byN x i))) 0 1 c = up2 (upR M 1 (tyR (M 1) x L (i + 1))) 0 1 c := by
  rw [← tyR_s]
  funext p q
  by_cases h0 : p = 0
  · subst h0
    by_cases hq : q = 1
    · subst hq; rw [up2_s, up2_s]
    · rw [up2_n _ _ (by omega), up2_n _ _ (by omega), up2_n _ _ (by omega), up2_n _ _ (by omega), upR_n _ _ (by omega), upR_n _ _ (by omega)]
  · rw [up2_q _ _ h0, up2_q _ _ h0]
    by_cases h1 : p = 1
    · subst h1
      rw [upR_s]
      unfold upd
      by_cases hq : q = L + i
      · rw [if_pos hq, hq, up2_s]
      · rw [if_neg hq, up2_n _ _ (by omega), up2_n _ _ (by omega), upR_s]
    · rw [up2_q _ _ h1, up2_q _ _ h0, upR_n _ _ h1, upR_n _ _ h1]
/-- the parts of the reference's memory that the relation reads -/
theorem ab_gen {M M' β β' : Me} (h : AbR0 M β) (hs : SameT β β') (hr : ∀ i, 2 ≤ i → i ≤ 13 → i ≠ 9 → M' i = M i) (hb : ∀ i, 5 ≤ i → i ≤ 8 → β' i = β i) (hC : CoR M' β') : AbR0 M' β' := by
  obtain ⟨hT, hE, hR, -⟩ := h
  refine ⟨fun d hd => ?_, fun d hd hw => ?_, fun d hd => ?_, hC⟩
  · have := hT d hd
    rw [hr 2 (by omega) (by omega) (by omega), hr 3 (by omega) (by omega) (by omega), hr 4 (by omega) (by omega) (by omega), hr 7 (by omega) (by omega) (by omega), hr 8 (by omega) (by omega) (by omega), hs.1, hs.2.1, hs.2.2, hs.wl, hs.us]
    exact this
  · rw [hs.wl] at hw
    rw [hr 5 (by omega) (by omega) (by omega), hr 6 (by omega) (by omega) (by omega), hs.2.2, hs.st]
    exact hE d hd hw
  · rw [hr 10 (by omega) (by omega) (by omega), hr 11 (by omega) (by omega) (by omega), hr 12 (by omega) (by omega) (by omega), hr 13 (by omega) (by omega) (by omega), hb 5 (by omega) (by omega), hb 6 (by omega) (by omega), hb 7 (by omega) (by omega), hb 8 (by omega) (by omega)]
    exact hR d hd
theorem ab_sp {M M' β : Me} {x : Int32} (h : AbR0 M β) (q1 : ∀ k, k ≠ 9 → M' k = M k) (q2 : ∀ d, d < 10 → M' 9 d = spβ β x 4 d) : AbsR M' (spβ β x) := by
  refine ⟨ab_gen h (sp_same β x) (fun i a b c => q1 i c) (fun i a b => sp_n β x (by omega)) ?_, q2⟩
  unfold CoR
  rw [q1 0 (by omega), q1 1 (by omega), sp_n β x (by omega), sp_n β x (by omega)]
  exact h.2.2.2
theorem ab_tyβ {M β : Me} {x : Int64} {L m : Nat} (h : AbsR M β) : AbsR (up2 (upR M 1 (tyR (M 1) x L m)) 0 1 (nI (L + m))) (tyβ β x L m) := by
  have hs : SameT β (tyβ β x L m) := by
    unfold tyβ
    exact ⟨by rw [up2_r _ _ _ (by omega), upR_n _ _ (by omega)], by rw [up2_r _ _ _ (by omega), upR_n _ _ (by omega)], fun c => by rw [up2_r _ _ _ (by omega), upR_n _ _ (by omega)]⟩
  have rb : ∀ i, i ≠ 0 → i ≠ 1 → tyβ β x L m i = β i := fun i w1 w2 => by unfold tyβ; rw [up2_r _ _ _ w1, upR_n _ _ w2]
  have b1 : tyβ β x L m 1 = tyR (β 1) x L m := by unfold tyβ; rw [up2_r _ _ _ (by omega), upR_s]
  have b01 : tyβ β x L m 0 1 = β 0 1 := by unfold tyβ; rw [up2_n _ _ (by omega), upR_n _ _ (by omega)]
  have rm : ∀ i, i ≠ 0 → i ≠ 1 → (up2 (upR M 1 (tyR (M 1) x L m)) 0 1 (nI (L + m))) i = M i := fun i w1 w2 => by rw [up2_r _ _ _ w1, upR_n _ _ w2]
  obtain ⟨c1, c2, c3, c4⟩ := h.1.2.2.2
  refine ⟨ab_gen h.1 hs (fun i a b c => rm i (by omega) (by omega)) (fun i a b => rb i (by omega) (by omega)) ⟨?_, ?_, fun k hk => ?_, ?_⟩, fun d hd => ?_⟩
  · rw [up2_s]; exact (up2_s _ _ _ _).symm
  · rw [up2_n _ _ (by omega), upR_n _ _ (by omega), b01]; exact c2
  · rw [up2_q _ _ (by omega), upR_s, b1]; unfold tyR; split
    · rfl
    · exact c3 k hk
  · rw [b1]
    intro j hj
    unfold tyR
    split
    · exact (pk_charN (by have := byN_lt x (j - L); omega)).2
    · exact c4 j hj
  · rw [rm 9 (by omega) (by omega), rb 4 (by omega) (by omega)]; exact h.2 d hd
def TyQ (M : Me) (x : Int64) (y : Int32) (L : Nat) (r : Option Value) (M' : Me) : Prop :=
  (∃ m, tyC x y L m ∧ r = some (.int (nI (L + m))) ∧ M' = up2 (upR M 1 (tyR (M 1) x L m)) 0 1 (nI (L + m))) ∨ ((∀ m, ¬ tyC x y L m) ∧ r = some (.int (-1)) ∧ M = M')
set_option maxHeartbeats 4000000 in
theorem m_Mo_type (l : Launch) (g : Gd) (hI : sI (sR g)) (M : Me) (x : Int64) (y : Int32) {L : Nat} (hL : M 0 1 = nI L) (hL24 : L ≤ 24) : CR l g y_Mo_type c_Mo_type 7 (some .int) 1 [.ref (ga g 0), .long x, .int y] M (TyQ M x y L) := by
  refine Ct.of hI (sR_N0 g) rfl (Nat.le_of_ble_eq_true rfl) (fun K h0 hC hR hkl hn => ?_)
  have hC : Cx (sR g) K gC_Mo _ := hC
  show V K (wp (sR g)) M 0 [(0, .ref (ga g 0)), (1, .long x), (3, .int y)] []
  have lp2 : ∀ (m : Nat), tyC x y L m → ∀ (t i : Nat), i + t = m → V K (wp (sR g)) (up2 (upR M 1 (tyR (M 1) x L i)) 0 1 (nI (L + i))) 75 [(4, .int (nI i)), (0, .ref (ga g 0)), (1, .long x), (3, .int (nI m))] [] := by
    intro m hm t
    obtain ⟨hm1, hm8, hym, hLm, htp⟩ := id hm
    induction t with
    | zero =>
      intro i hi
      obtain rfl : i = m := by omega
      refine v_iload h0 d_Mo_type_75 0 rfl ?_
      refine v_iload_n h0 d_Mo_type_77 3 rfl ?_
      refine n_icmp_ge h0 (by omega) (by omega) d_Mo_type_78 rfl (fun h78 => ?_) (fun h78 => absurd h78 (by omega))
      refine v_aload_n h0 d_Mo_type_119 1 rfl ?_
      refine g_Mo_typedCount_ h0 hC wd_449 d_Mo_type_120 ?_
      refine v_int (nI (L + i)) (up2_s _ _ _ _) ?_
      exact v_iret h0 hC hR d_Mo_type_123 (Or.inl ⟨i, hm, rfl, rfl⟩)
    | succ t ih =>
      intro i hi
      have hbl := byN_lt x i
      refine v_iload h0 d_Mo_type_75 0 rfl ?_
      refine v_iload_n h0 d_Mo_type_77 3 rfl ?_
      refine n_icmp_ge h0 (by omega) (by omega) d_Mo_type_78 rfl (fun h78 => absurd h78 (by omega)) (fun h78 => ?_)
      refine v_aload_n h0 d_Mo_type_81 1 rfl ?_
      refine g_Mo_typed_ h0 hC wd_448 d_Mo_type_82 ?_
      refine v_aload_n h0 d_Mo_type_85 1 rfl ?_
      refine g_Mo_typedCount_ h0 hC wd_449 d_Mo_type_86 ?_
      refine v_int (nI (L + i)) (up2_s _ _ _ _) ?_
      refine v_lload_n h0 d_Mo_type_89 2 rfl ?_
      refine v_bipush h0 d_Mo_type_90 (v := nI 8) (by decide) ?_
      refine v_iload h0 d_Mo_type_92 0 rfl ?_
      refine v_imul h0 d_Mo_type_94 ?_
      refine v_int (nI (8 * i)) (pk_mul 8 i) ?_
      refine v_lshr h0 d_Mo_type_95 ?_
      refine v_ldc2 h0 hC (v := 255) wd_547 d_Mo_type_96 ?_
      refine v_land h0 d_Mo_type_99 ?_
      refine v_long (lN (byN x i)) (by_s x (by omega)) ?_
      refine v_l2i h0 d_Mo_type_100 ?_
      refine v_i2c h0 d_Mo_type_101 ?_
      refine v_int (nI (byN x i)) (by_c x i) ?_
      refine s_Mo_typed_ h0 hC (L + i) (rfl) (z := nI (byN x i)) (Value.int.inj (pk_charN (by omega)).1) (by omega) d_Mo_type_102 ?_
      refine v_aload_n h0 d_Mo_type_103 1 rfl ?_
      refine v_dup h0 d_Mo_type_104 rfl ?_
      refine g_Mo_typedCount_ h0 hC wd_449 d_Mo_type_105 ?_
      refine v_int (nI (L + i)) (by rw [up2_n _ _ (by omega), up2_s]) ?_
      refine v_iconst h0 d_Mo_type_108 (v := nI 1) (by decide) ?_
      refine v_iadd h0 d_Mo_type_109 ?_
      refine v_int (nI (L + i + 1)) (nI_add (L + i) 1) ?_
      refine p_Mo_typedCount_ h0 hC wd_449 d_Mo_type_110 ?_
      refine v_iinc h0 d_Mo_type_113 (lv' := [(4, .int (nI (i + 1))), (0, .ref (ga g 0)), (1, .long x), (3, .int (nI m))]) 0 rfl (inc1 i) (lt_kn hn (by decide)) rfl ?_
      refine v_goto h0 d_Mo_type_116 rfl ?_
      refine v_eq (ih (i + 1) (by omega)) (tyM_s M x L i _ _) rfl rfl rfl
  have lp1 : ∀ (m : Nat), 1 ≤ m → m ≤ 8 → y = nI m → L + m ≤ 24 → ∀ (t i : Nat), i + t = m → tpB x i = true → V K (wp (sR g)) M 27 [(4, .int (nI i)), (0, .ref (ga g 0)), (1, .long x), (3, .int (nI m))] [] := by
    intro m hm1 hm8 hym hLm t
    induction t with
    | zero =>
      intro i hi hp
      obtain rfl : i = m := by omega
      refine v_iload h0 d_Mo_type_27 0 rfl ?_
      refine v_iload_n h0 d_Mo_type_29 3 rfl ?_
      refine n_icmp_ge h0 (by omega) (by omega) d_Mo_type_30 rfl (fun h30 => ?_) (fun h30 => absurd h30 (by omega))
      refine v_iconst h0 d_Mo_type_72 (v := nI 0) (by decide) ?_
      refine v_istore h0 d_Mo_type_73 (lv' := [(4, .int (nI 0)), (0, .ref (ga g 0)), (1, .long x), (3, .int (nI i))]) (lt_kn hn (by decide)) rfl ?_
      refine v_eq (lp2 i ⟨hm1, hm8, hym, hLm, hp⟩ i 0 (by omega)) (by rw [tyR_0, upR_id M 1 _ rfl]; exact (up2_id M hL).symm) rfl rfl rfl
    | succ t ih =>
      intro i hi hp
      have hbl := byN_lt x i
      refine v_iload h0 d_Mo_type_27 0 rfl ?_
      refine v_iload_n h0 d_Mo_type_29 3 rfl ?_
      refine n_icmp_ge h0 (by omega) (by omega) d_Mo_type_30 rfl (fun h30 => absurd h30 (by omega)) (fun h30 => ?_)
      refine v_lload_n h0 d_Mo_type_33 2 rfl ?_
      refine v_bipush h0 d_Mo_type_34 (v := nI 8) (by decide) ?_
      refine v_iload h0 d_Mo_type_36 0 rfl ?_
      refine v_imul h0 d_Mo_type_38 ?_
      refine v_int (nI (8 * i)) (pk_mul 8 i) ?_
      refine v_lshr h0 d_Mo_type_39 ?_
      refine v_ldc2 h0 hC (v := 255) wd_547 d_Mo_type_40 ?_
      refine v_land h0 d_Mo_type_43 ?_
      refine v_long (lN (byN x i)) (by_s x (by omega)) ?_
      refine v_lstore h0 d_Mo_type_44 (lv' := [(5, .long (lN (byN x i))), (4, .int (nI i)), (0, .ref (ga g 0)), (1, .long x), (3, .int (nI m))]) (lt_kn hn (by decide)) rfl ?_
      refine v_lload h0 d_Mo_type_46 0 rfl ?_
      refine v_ldc2 h0 hC (v := 33) wd_548 d_Mo_type_48 ?_
      refine v_lcmp h0 d_Mo_type_51 ?_
      refine v_if_lt h0 d_Mo_type_52 rfl (fun h52 => ?_) (fun h52 => ?_)
      · skip
        have hc := (lc_33 _ hbl).mp h52
        refine v_iconst h0 d_Mo_type_64 (v := -1) (by decide) ?_
        exact v_iret h0 hC hR d_Mo_type_65 (Or.inr ⟨fun q w => (by have e := nI_inj (by omega) (by have := w.2.1; omega) (hym.symm.trans w.2.2.1); subst e; have := tpB_no (x := x) (n := m) (i := i) (by omega) (by omega); have w5 := w.2.2.2.2; rw [this] at w5; cases w5), rfl, rfl⟩)
      · skip
        have hc : ¬ byN x i < 33 := fun z => h52 ((lc_33 _ hbl).mpr z)
        refine v_lload h0 d_Mo_type_55 0 rfl ?_
        refine v_ldc2 h0 hC (v := 126) wd_549 d_Mo_type_57 ?_
        refine v_lcmp h0 d_Mo_type_60 ?_
        refine v_if_le h0 d_Mo_type_61 rfl (fun h61 => ?_) (fun h61 => ?_)
        · skip
          have hd := (lc_126 _ hbl).mp h61
          refine v_iinc h0 d_Mo_type_66 (lv' := [(4, .int (nI (i + 1))), (5, .long (lN (byN x i))), (0, .ref (ga g 0)), (1, .long x), (3, .int (nI m))]) 1 rfl (inc1 i) (lt_kn hn (by decide)) rfl ?_
          refine v_goto h0 d_Mo_type_69 rfl ?_
          refine v_sub [0, 2, 3, 4] rfl ?_
          exact ih (i + 1) (by omega) (by simp only [tpB, hp, Bool.true_and]; exact decide_eq_true (by omega))
        · skip
          have hd : ¬ byN x i ≤ 126 := fun z => h61 ((lc_126 _ hbl).mpr z)
          refine v_iconst h0 d_Mo_type_64 (v := -1) (by decide) ?_
          exact v_iret h0 hC hR d_Mo_type_65 (Or.inr ⟨fun q w => (by have e := nI_inj (by omega) (by have := w.2.1; omega) (hym.symm.trans w.2.2.1); subst e; have := tpB_no (x := x) (n := m) (i := i) (by omega) (by omega); have w5 := w.2.2.2.2; rw [this] at w5; cases w5), rfl, rfl⟩)
  refine v_iload_n h0 d_Mo_type_0 2 rfl ?_
  refine v_iconst h0 d_Mo_type_1 (v := nI 1) (by decide) ?_
  refine v_icmp_lt h0 d_Mo_type_2 rfl (fun h2 => ?_) (fun h2 => ?_)
  · skip
    have hno : ∀ m, ¬ tyC x y L m := fun m q => absurd h2 (by rw [q.2.2.1]; exact nI_nlt q.1 (by have := q.2.1; omega))
    refine v_iconst h0 d_Mo_type_22 (v := -1) (by decide) ?_
    exact v_iret h0 hC hR d_Mo_type_23 (Or.inr ⟨hno, rfl, rfl⟩)
  · skip
    refine v_iload_n h0 d_Mo_type_5 2 rfl ?_
    refine v_bipush h0 d_Mo_type_6 (v := nI 8) (by decide) ?_
    refine v_icmp_gt h0 d_Mo_type_8 rfl (fun h8 => ?_) (fun h8 => ?_)
    · skip
      have hno : ∀ m, ¬ tyC x y L m := fun m q => absurd h8 (by rw [q.2.2.1]; exact nI_nlt q.2.1 (by decide))
      refine v_iconst h0 d_Mo_type_22 (v := -1) (by decide) ?_
      exact v_iret h0 hC hR d_Mo_type_23 (Or.inr ⟨hno, rfl, rfl⟩)
    · skip
      obtain ⟨m, hm8, rfl⟩ := nI_of2 (M := nI 8) (n := 8) (by decide) (fun q => h2 (Int32.lt_trans q (by decide))) (i_nlt h8)
      have hm1 : 1 ≤ m := (nI_leI (by decide) (by omega)).mp (i_nlt h2)
      refine v_aload_n h0 d_Mo_type_11 0 rfl ?_
      refine g_Mo_typedCount_ h0 hC wd_449 d_Mo_type_12 ?_
      refine v_int (nI L) (hL) ?_
      refine v_iload_n h0 d_Mo_type_15 2 rfl ?_
      refine v_iadd h0 d_Mo_type_16 ?_
      refine v_int (nI (L + m)) (nI_add L m) ?_
      refine v_bipush h0 d_Mo_type_17 (v := nI 24) (by decide) ?_
      refine n_icmp_le h0 (by omega) (by omega) d_Mo_type_19 rfl (fun h19 => ?_) (fun h19 => ?_)
      · skip
        refine v_iconst h0 d_Mo_type_24 (v := nI 0) (by decide) ?_
        refine v_istore h0 d_Mo_type_25 (lv' := [(4, .int (nI 0)), (0, .ref (ga g 0)), (1, .long x), (3, .int (nI m))]) (lt_kn hn (by decide)) rfl ?_
        exact lp1 m hm1 hm8 rfl h19 m 0 (by omega) rfl
      · skip
        have hno : ∀ q, ¬ tyC x (nI m) L q := fun q w => by have e := nI_inj (by omega) (by have := w.2.1; omega) w.2.2.1; subst e; have := w.2.2.2.1; omega
        refine v_iconst h0 d_Mo_type_22 (v := -1) (by decide) ?_
        exact v_iret h0 hC hR d_Mo_type_23 (Or.inr ⟨hno, rfl, rfl⟩)
theorem q_type (l : Launch) (g : Gd) (hI0 : sI (sR g)) {M β : Me} (hA : AbsR M β) (hIv : Iv β) (x : Int64) (y : Int32) : CR l g y_Mo_type c_Mo_type 7 (some .int) 1 [.ref (ga g 0), .long x, .int y] M (fun r M' => r = some (.int (opTy β x y).1) ∧ AbsR M' (opTy β x y).2) := by
  obtain ⟨L, hL, hB⟩ := hIv.1.2.1
  have hM : M 0 1 = nI L := hA.1.2.2.2.1.trans hB
  have hc : cI (β 0 0) = L := by rw [hB]; exact nI_clamp (by omega)
  refine (m_Mo_type l g hI0 M x y hM hL).mono (fun r M' hp => ?_)
  unfold opTy
  rcases hp with ⟨m, hm, rfl, rfl⟩ | ⟨hno, rfl, rfl⟩
  · obtain ⟨w1, w2, rfl, w4, w5⟩ := hm
    have e : cI (nI m) = m := nI_clamp (by omega)
    rw [e, hc, if_pos ⟨w1, w2, rfl, w4, w5⟩]
    exact ⟨rfl, ab_tyβ hA⟩
  · rw [hc, if_neg (show ¬ (1 ≤ cI y ∧ cI y ≤ 8 ∧ y = nI (cI y) ∧ L + cI y ≤ 24 ∧ tpB x (cI y) = true) from hno (cI y))]
    exact ⟨rfl, hA⟩
theorem st_n {β : Me} {x : Int32} (h : inB x = false) : opSt β x = 0 := by unfold opSt; rw [if_neg (by rw [h]; decide)]
theorem st_c {β : Me} {c : Nat} (hc : c < 10) : opSt β (nI c) = shβ β c := by unfold opSt; rw [if_pos (inB_c hc).1, (inB_c hc).2]
theorem st_14 {β : Me} {x : Int32} (h : opSt β x = 14) : ∃ c, c < 10 ∧ x = nI c := by
  cases q : inB x with
  | true => exact in_c q
  | false => rw [st_n q] at h; exact absurd h (by decide)
theorem va_n {β : Me} {x : Int32} (h : ¬ opSt β x = 14) : opVa β x = 0 ∧ opKi β x = 0 := by
  unfold opSt at h; unfold opVa opKi
  cases q : inB x with
  | true => rw [q, if_pos rfl] at h; exact ⟨by rw [if_pos rfl, if_neg h], by rw [if_pos rfl, if_neg h]⟩
  | false => exact ⟨rfl, rfl⟩
theorem va_y {β : Me} {c : Nat} (hc : c < 10) (h : opSt β (nI c) = 14) : opVa β (nI c) = β 6 c ∧ opKi β (nI c) = β 7 c := by
  rw [st_c hc] at h; unfold opVa opKi
  rw [(inB_c hc).2]; exact ⟨by rw [if_pos (inB_c hc).1, if_pos h], by rw [if_pos (inB_c hc).1, if_pos h]⟩
set_option maxHeartbeats 4000000 in
theorem q_status (l : Launch) (g : Gd) (hI : sI (sR g)) (M : Me) {β : Me} (hA : AbsR M β) (hIv : Iv β) (x : Int32) : CR l g y_Mo_status c_Mo_status 3 (some .int) 5 [.ref (ga g 0), .int x] M (fun r M' => r = some (.int (opSt β x)) ∧ M = M') := by
  refine Ct.of hI (sR_N0 g) rfl (Nat.le_of_ble_eq_true rfl) (fun K h0 hC hR hkl hn => ?_)
  have hC : Cx (sR g) K gC_Mo _ := hC
  show V K (wp (sR g)) M 0 [(0, .ref (ga g 0)), (1, .int x)] []
  refine v_iload_n h0 d_Mo_status_0 1 rfl ?_
  refine v_callS h0 hC (sR_N0 g) (av := [.int x]) (rest := []) (m_Mo_isCell (kl K) g hI M x) wd_556 wd_554 wd_555 wd_6 hd_Mo_isCell (by omega) (by decide) rfl rfl (Nat.le_of_ble_eq_true rfl) d_Mo_status_1 (fun r9 M9 hp9 => ?_)
  obtain ⟨rfl, rfl⟩ := hp9
  refine v_r1 ?_
  refine b_if_eq h0 d_Mo_status_4 rfl (fun h4 => ?_) (fun h4 => ?_)
  · skip
    refine v_iconst h0 d_Mo_status_15 (v := nI 0) (by decide) ?_
    exact v_iret h0 hC hR d_Mo_status_16 (⟨by rw [st_n h4]; rfl, rfl⟩)
  · skip
    obtain ⟨c, hc, rfl⟩ := in_c h4
    refine v_aload_n h0 d_Mo_status_7 0 rfl ?_
    refine v_iload_n h0 d_Mo_status_8 1 rfl ?_
    refine v_callV h0 hC (sR_N0 g) 0 (show 0 < 22 by omega) (show enR g 0 _ = _ from rfl) rfl (av := [.int (nI c)]) (rest := []) (m_Mo_isThere (kl K) g hI M hc (hA.1.1 c hc).1) wd_603 wd_600 wd_602 ws_38 wd_6 hd_Mo_isThere (by omega) (by decide) rfl rfl (Nat.le_of_ble_eq_true rfl) d_Mo_status_9 (fun r9 M9 hp9 => ?_)
    obtain ⟨rfl, rfl⟩ := hp9
    refine v_r1 ?_
    refine b_if_ne h0 d_Mo_status_12 rfl (fun h12 => ?_) (fun h12 => ?_)
    · skip
      refine v_aload_n h0 d_Mo_status_17 0 rfl ?_
      refine v_iload_n h0 d_Mo_status_18 1 rfl ?_
      refine v_callV h0 hC (sR_N0 g) 0 (show 0 < 22 by omega) (show enR g 0 _ = _ from rfl) rfl (av := [.int (nI c)]) (rest := []) (m_Mo_fault (kl K) g hI M hc hA.1.1 hIv.1.1) wd_627 wd_624 wd_626 ws_42 wd_6 hd_Mo_fault (by omega) (by decide) rfl rfl (Nat.le_of_ble_eq_true rfl) d_Mo_status_19 (fun r9 M9 hp9 => ?_)
      obtain ⟨rfl, rfl⟩ := hp9
      refine v_r1 ?_
      refine v_istore_n h0 d_Mo_status_22 (lv' := [(2, .int (ftI β c)), (0, .ref (ga g 0)), (1, .int (nI c))]) (lt_kn hn (by decide)) rfl ?_
      refine v_iload_n h0 d_Mo_status_23 0 rfl ?_
      refine v_if_eq h0 d_Mo_status_24 rfl (fun h24 => ?_) (fun h24 => ?_)
      · skip
        refine v_aload_n h0 d_Mo_status_31 1 rfl ?_
        refine g_Mo_stale_ h0 hC wd_457 d_Mo_status_32 ?_
        refine v_iload_n h0 d_Mo_status_35 2 rfl ?_
        refine a_Mo_stale_ h0 hC c (rfl) (by omega) d_Mo_status_36 ?_
        refine v_int (β 4 c) (hA.2 c hc) ?_
        refine v_if_eq h0 d_Mo_status_37 rfl (fun h37 => ?_) (fun h37 => ?_)
        · skip
          refine v_aload_n h0 d_Mo_status_45 1 rfl ?_
          refine g_Mo_result_ h0 hC wd_458 d_Mo_status_46 ?_
          refine v_iload_n h0 d_Mo_status_49 2 rfl ?_
          refine a_Mo_result_ h0 hC c (rfl) (by omega) d_Mo_status_50 ?_
          refine v_int (β 5 c) ((hA.1.2.2.1 c hc).1) ?_
          exact v_iret h0 hC hR d_Mo_status_51 (⟨by rw [st_c hc]; unfold shβ; rw [if_pos h12, if_pos h24, if_neg (by rw [h37]; decide)], rfl⟩)
        · skip
          refine v_bipush h0 d_Mo_status_40 (v := nI 12) (by decide) ?_
          refine v_goto h0 d_Mo_status_42 rfl ?_
          exact v_iret h0 hC hR d_Mo_status_51 (⟨by rw [st_c hc]; unfold shβ; rw [if_pos h12, if_pos h24, if_pos ((hIv.1.2.2.2.1 c hc).resolve_left h37)]; rfl, rfl⟩)
      · skip
        refine v_iload_n h0 d_Mo_status_27 0 rfl ?_
        refine v_goto h0 d_Mo_status_28 rfl ?_
        exact v_iret h0 hC hR d_Mo_status_51 (⟨by rw [st_c hc]; unfold shβ; rw [if_pos h12, if_neg h24], rfl⟩)
    · skip
      refine v_iconst h0 d_Mo_status_15 (v := nI 0) (by decide) ?_
      exact v_iret h0 hC hR d_Mo_status_16 (⟨by rw [st_c hc]; unfold shβ; rw [if_neg (by rw [h12]; decide)]; rfl, rfl⟩)
set_option maxHeartbeats 4000000 in
theorem q_value (l : Launch) (g : Gd) (hI : sI (sR g)) (M : Me) {β : Me} (hA : AbsR M β) (hIv : Iv β) (x : Int32) : CR l g y_Mo_value c_Mo_value 2 (some .int) 6 [.ref (ga g 0), .int x] M (fun r M' => r = some (.int (opVa β x)) ∧ M = M') := by
  refine Ct.of hI (sR_N0 g) rfl (Nat.le_of_ble_eq_true rfl) (fun K h0 hC hR hkl hn => ?_)
  have hC : Cx (sR g) K gC_Mo _ := hC
  show V K (wp (sR g)) M 0 [(0, .ref (ga g 0)), (1, .int x)] []
  refine v_aload_n h0 d_Mo_value_0 0 rfl ?_
  refine v_iload_n h0 d_Mo_value_1 1 rfl ?_
  refine v_callV h0 hC (sR_N0 g) 0 (show 0 < 22 by omega) (show enR g 0 _ = _ from rfl) rfl (av := [.int x]) (rest := []) (q_status (kl K) g hI M hA hIv x) wd_715 wd_720 wd_713 wd_714 wd_6 hd_Mo_status (by omega) (by decide) rfl rfl (Nat.le_of_ble_eq_true rfl) d_Mo_value_2 (fun r9 M9 hp9 => ?_)
  obtain ⟨rfl, rfl⟩ := hp9
  refine v_r1 ?_
  refine v_bipush h0 d_Mo_value_5 (v := 14) (by decide) ?_
  refine v_icmp_ne h0 d_Mo_value_7 rfl (fun h7 => ?_) (fun h7 => ?_)
  · skip
    refine v_iconst h0 d_Mo_value_19 (v := nI 0) (by decide) ?_
    exact v_iret h0 hC hR d_Mo_value_20 (⟨by rw [(va_n h7).1]; rfl, rfl⟩)
  · skip
    obtain ⟨c, hc, rfl⟩ := st_14 h7
    have h14 : β 5 c = 14 := sh_14 ((st_c hc).symm.trans h7)
    refine v_aload_n h0 d_Mo_value_10 0 rfl ?_
    refine g_Mo_valueOf_ h0 hC wd_459 d_Mo_value_11 ?_
    refine v_iload_n h0 d_Mo_value_14 1 rfl ?_
    refine a_Mo_valueOf_ h0 hC c (rfl) (by omega) d_Mo_value_15 ?_
    refine v_goto h0 d_Mo_value_16 rfl ?_
    refine v_int (β 6 c) (((hA.1.2.2.1 c hc).2.2 h14).1) ?_
    exact v_iret h0 hC hR d_Mo_value_20 (⟨by rw [(va_y hc h7).1], rfl⟩)
set_option maxHeartbeats 4000000 in
theorem q_kind (l : Launch) (g : Gd) (hI : sI (sR g)) (M : Me) {β : Me} (hA : AbsR M β) (hIv : Iv β) (x : Int32) : CR l g y_Mo_kind c_Mo_kind 2 (some .int) 6 [.ref (ga g 0), .int x] M (fun r M' => r = some (.int (opKi β x)) ∧ M = M') := by
  refine Ct.of hI (sR_N0 g) rfl (Nat.le_of_ble_eq_true rfl) (fun K h0 hC hR hkl hn => ?_)
  have hC : Cx (sR g) K gC_Mo _ := hC
  show V K (wp (sR g)) M 0 [(0, .ref (ga g 0)), (1, .int x)] []
  refine v_aload_n h0 d_Mo_kind_0 0 rfl ?_
  refine v_iload_n h0 d_Mo_kind_1 1 rfl ?_
  refine v_callV h0 hC (sR_N0 g) 0 (show 0 < 22 by omega) (show enR g 0 _ = _ from rfl) rfl (av := [.int x]) (rest := []) (q_status (kl K) g hI M hA hIv x) wd_715 wd_720 wd_713 wd_714 wd_6 hd_Mo_status (by omega) (by decide) rfl rfl (Nat.le_of_ble_eq_true rfl) d_Mo_kind_2 (fun r9 M9 hp9 => ?_)
  obtain ⟨rfl, rfl⟩ := hp9
  refine v_r1 ?_
  refine v_bipush h0 d_Mo_kind_5 (v := 14) (by decide) ?_
  refine v_icmp_ne h0 d_Mo_kind_7 rfl (fun h7 => ?_) (fun h7 => ?_)
  · skip
    refine v_iconst h0 d_Mo_kind_19 (v := nI 0) (by decide) ?_
    exact v_iret h0 hC hR d_Mo_kind_20 (⟨by rw [(va_n h7).2]; rfl, rfl⟩)
  · skip
    obtain ⟨c, hc, rfl⟩ := st_14 h7
    have h14 : β 5 c = 14 := sh_14 ((st_c hc).symm.trans h7)
    refine v_aload_n h0 d_Mo_kind_10 0 rfl ?_
    refine g_Mo_kindOf_ h0 hC wd_460 d_Mo_kind_11 ?_
    refine v_iload_n h0 d_Mo_kind_14 1 rfl ?_
    refine a_Mo_kindOf_ h0 hC c (rfl) (by omega) d_Mo_kind_15 ?_
    refine v_goto h0 d_Mo_kind_16 rfl ?_
    refine v_int (β 7 c) (((hA.1.2.2.1 c hc).2.2 h14).2) ?_
    exact v_iret h0 hC hR d_Mo_kind_20 (⟨by rw [(va_y hc h7).2], rfl⟩)
set_option maxHeartbeats 4000000 in
theorem q_uses (l : Launch) (g : Gd) (hI : sI (sR g)) (M : Me) {β : Me} (hA : AbsR M β) (x : Int32) : CR l g y_Mo_uses c_Mo_uses 2 (some .int) 2 [.ref (ga g 0), .int x] M (fun r M' => r = some (.int (opUs β x)) ∧ M = M') := by
  refine Ct.of hI (sR_N0 g) rfl (Nat.le_of_ble_eq_true rfl) (fun K h0 hC hR hkl hn => ?_)
  have hC : Cx (sR g) K gC_Mo _ := hC
  show V K (wp (sR g)) M 0 [(0, .ref (ga g 0)), (1, .int x)] []
  refine v_iload_n h0 d_Mo_uses_0 1 rfl ?_
  refine v_callS h0 hC (sR_N0 g) (av := [.int x]) (rest := []) (m_Mo_isCell (kl K) g hI M x) wd_556 wd_554 wd_555 wd_6 hd_Mo_isCell (by omega) (by decide) rfl rfl (Nat.le_of_ble_eq_true rfl) d_Mo_uses_1 (fun r9 M9 hp9 => ?_)
  obtain ⟨rfl, rfl⟩ := hp9
  refine v_r1 ?_
  refine b_if_eq h0 d_Mo_uses_4 rfl (fun h4 => ?_) (fun h4 => ?_)
  · skip
    refine v_iconst h0 d_Mo_uses_16 (v := nI 0) (by decide) ?_
    exact v_iret h0 hC hR d_Mo_uses_17 (⟨by unfold opUs; rw [if_neg (by rw [h4]; decide)]; rfl, rfl⟩)
  · skip
    obtain ⟨c, hc, rfl⟩ := in_c h4
    refine v_aload_n h0 d_Mo_uses_7 0 rfl ?_
    refine g_Mo_used_ h0 hC wd_456 d_Mo_uses_8 ?_
    refine v_iload_n h0 d_Mo_uses_11 1 rfl ?_
    refine a_Mo_used_ h0 hC c (rfl) (by omega) d_Mo_uses_12 ?_
    refine v_goto h0 d_Mo_uses_13 rfl ?_
    refine v_int (usI β c) ((hA.1.1 c hc).2.2.2.2.2) ?_
    exact v_iret h0 hC hR d_Mo_uses_17 (⟨by unfold opUs; rw [if_pos (inB_c hc).1, (inB_c hc).2], rfl⟩)
set_option maxHeartbeats 4000000 in
theorem q_runs (l : Launch) (g : Gd) (hI : sI (sR g)) (M : Me) {β : Me} (hA : AbsR M β) (x : Int32) : CR l g y_Mo_runs c_Mo_runs 2 (some .int) 2 [.ref (ga g 0), .int x] M (fun r M' => r = some (.int (opRu β x)) ∧ M = M') := by
  refine Ct.of hI (sR_N0 g) rfl (Nat.le_of_ble_eq_true rfl) (fun K h0 hC hR hkl hn => ?_)
  have hC : Cx (sR g) K gC_Mo _ := hC
  show V K (wp (sR g)) M 0 [(0, .ref (ga g 0)), (1, .int x)] []
  refine v_iload_n h0 d_Mo_runs_0 1 rfl ?_
  refine v_callS h0 hC (sR_N0 g) (av := [.int x]) (rest := []) (m_Mo_isCell (kl K) g hI M x) wd_556 wd_554 wd_555 wd_6 hd_Mo_isCell (by omega) (by decide) rfl rfl (Nat.le_of_ble_eq_true rfl) d_Mo_runs_1 (fun r9 M9 hp9 => ?_)
  obtain ⟨rfl, rfl⟩ := hp9
  refine v_r1 ?_
  refine b_if_eq h0 d_Mo_runs_4 rfl (fun h4 => ?_) (fun h4 => ?_)
  · skip
    refine v_iconst h0 d_Mo_runs_16 (v := nI 0) (by decide) ?_
    exact v_iret h0 hC hR d_Mo_runs_17 (⟨by unfold opRu; rw [if_neg (by rw [h4]; decide)]; rfl, rfl⟩)
  · skip
    obtain ⟨c, hc, rfl⟩ := in_c h4
    refine v_aload_n h0 d_Mo_runs_7 0 rfl ?_
    refine g_Mo_runsOf_ h0 hC wd_461 d_Mo_runs_8 ?_
    refine v_iload_n h0 d_Mo_runs_11 1 rfl ?_
    refine a_Mo_runsOf_ h0 hC c (rfl) (by omega) d_Mo_runs_12 ?_
    refine v_goto h0 d_Mo_runs_13 rfl ?_
    refine v_int (β 8 c) ((hA.1.2.2.1 c hc).2.1) ?_
    exact v_iret h0 hC hR d_Mo_runs_17 (⟨by unfold opRu; rw [if_pos (inB_c hc).1, (inB_c hc).2], rfl⟩)
set_option maxHeartbeats 4000000 in
theorem q_steps (l : Launch) (g : Gd) (hI : sI (sR g)) (M : Me) {β : Me} (hA : AbsR M β) : CR l g y_Mo_steps c_Mo_steps 1 (some .int) 1 [.ref (ga g 0)] M (fun r M' => r = some (.int (β 0 1)) ∧ M = M') := by
  refine Ct.of hI (sR_N0 g) rfl (Nat.le_of_ble_eq_true rfl) (fun K h0 hC hR hkl hn => ?_)
  have hC : Cx (sR g) K gC_Mo _ := hC
  show V K (wp (sR g)) M 0 [(0, .ref (ga g 0))] []
  refine v_aload_n h0 d_Mo_steps_0 0 rfl ?_
  refine g_Mo_made_ h0 hC wd_462 d_Mo_steps_1 ?_
  refine v_int (β 0 1) (hA.1.2.2.2.2.1) ?_
  exact v_iret h0 hC hR d_Mo_steps_4 (⟨rfl, rfl⟩)
theorem ca_n {β : Me} {x : Int32} (h : inB x = false) : opCa β x = (0, β) := by unfold opCa; rw [if_neg (fun w => by rw [h] at w; cases w.1)]
theorem ca_c {β : Me} {c : Nat} (hc : c < 10) (h : ¬ shβ β c = 12) : opCa β (nI c) = (0, β) := by unfold opCa; rw [(inB_c hc).2, if_neg (fun w => h w.2)]
theorem ca_y {β : Me} {c : Nat} (hc : c < 10) (h1 : thB β c = true) (h2 : ftI β c = 0) (h4 : β 4 c = 1) : opCa β (nI c) = (1, caβ β c) := by
  unfold opCa
  rw [(inB_c hc).2, if_pos ⟨(inB_c hc).1, by unfold shβ; rw [if_pos h1, if_pos h2, if_pos h4]⟩]
theorem ca_st {M β : Me} {c : Nat} (hc : c < 10) (h : AbsR M β) : AbsR (up2 (up2 M 9 c 0) 10 c 11) (caβ β c) := by
  refine ⟨ab_one hc (ab_st 0 h.1) (by decide) ⟨fun i a b => up2_q _ _ (by omega), up2_n _ _ (by omega), up2_n _ _ (by omega), fun d hd => up2_n _ _ (by omega), up2_s _ _ _ _, up2_q _ _ (by omega), up2_q _ _ (by omega), up2_q _ _ (by omega)⟩, fun d hd => ?_⟩
  unfold caβ
  rw [up2_q (up2 M 9 c 0) 11 (show (9 : Nat) ≠ 10 by omega), up2_q (up2 β 4 c 0) 11 (show (4 : Nat) ≠ 5 by omega)]
  by_cases e : d = c
  · rw [e, up2_s, up2_s]
  · rw [up2_n _ _ (by omega), up2_n _ _ (by omega)]; exact h.2 d hd
set_option maxHeartbeats 4000000 in
theorem q_cancel (l : Launch) (g : Gd) (hI : sI (sR g)) (M : Me) {β : Me} (hA : AbsR M β) (hIv : Iv β) (hI2 : Iv2 β) (x : Int32) : CR l g y_Mo_cancel c_Mo_cancel 2 (some .boolean) 5 [.ref (ga g 0), .int x] M (fun r M' => r = some (.int (opCa β x).1) ∧ AbsR M' (opCa β x).2) := by
  refine Ct.of hI (sR_N0 g) rfl (Nat.le_of_ble_eq_true rfl) (fun K h0 hC hR hkl hn => ?_)
  have hC : Cx (sR g) K gC_Mo _ := hC
  show V K (wp (sR g)) M 0 [(0, .ref (ga g 0)), (1, .int x)] []
  refine v_iload_n h0 d_Mo_cancel_0 1 rfl ?_
  refine v_callS h0 hC (sR_N0 g) (av := [.int x]) (rest := []) (m_Mo_isCell (kl K) g hI M x) wd_556 wd_554 wd_555 wd_6 hd_Mo_isCell (by omega) (by decide) rfl rfl (Nat.le_of_ble_eq_true rfl) d_Mo_cancel_1 (fun r9 M9 hp9 => ?_)
  obtain ⟨rfl, rfl⟩ := hp9
  refine v_r1 ?_
  refine b_if_eq h0 d_Mo_cancel_4 rfl (fun h4 => ?_) (fun h4 => ?_)
  · skip
    refine v_iconst h0 d_Mo_cancel_32 (v := nI 0) (by decide) ?_
    exact v_zret h0 hC hR (rfl) d_Mo_cancel_33 (by rw [ca_n h4]; exact ⟨rfl, hA⟩)
  · skip
    obtain ⟨c, hc, rfl⟩ := in_c h4
    refine v_aload_n h0 d_Mo_cancel_7 0 rfl ?_
    refine v_iload_n h0 d_Mo_cancel_8 1 rfl ?_
    refine v_callV h0 hC (sR_N0 g) 0 (show 0 < 22 by omega) (show enR g 0 _ = _ from rfl) rfl (av := [.int (nI c)]) (rest := []) (m_Mo_isThere (kl K) g hI M hc (hA.1.1 c hc).1) wd_603 wd_600 wd_602 ws_38 wd_6 hd_Mo_isThere (by omega) (by decide) rfl rfl (Nat.le_of_ble_eq_true rfl) d_Mo_cancel_9 (fun r9 M9 hp9 => ?_)
    obtain ⟨rfl, rfl⟩ := hp9
    refine v_r1 ?_
    refine b_if_eq h0 d_Mo_cancel_12 rfl (fun h12 => ?_) (fun h12 => ?_)
    · skip
      refine v_iconst h0 d_Mo_cancel_32 (v := nI 0) (by decide) ?_
      exact v_zret h0 hC hR (rfl) d_Mo_cancel_33 (by rw [ca_c hc (fun z => by have := (sh_12 hIv hc z).1; rw [h12] at this; cases this)]; exact ⟨rfl, hA⟩)
    · skip
      refine v_aload_n h0 d_Mo_cancel_15 0 rfl ?_
      refine g_Mo_stale_ h0 hC wd_457 d_Mo_cancel_16 ?_
      refine v_iload_n h0 d_Mo_cancel_19 1 rfl ?_
      refine a_Mo_stale_ h0 hC c (rfl) (by omega) d_Mo_cancel_20 ?_
      refine v_int (β 4 c) (hA.2 c hc) ?_
      refine v_if_eq h0 d_Mo_cancel_21 rfl (fun h21 => ?_) (fun h21 => ?_)
      · skip
        refine v_iconst h0 d_Mo_cancel_32 (v := nI 0) (by decide) ?_
        exact v_zret h0 hC hR (rfl) d_Mo_cancel_33 (by rw [ca_c hc (fun z => (sh_12 hIv hc z).2.2.elim (fun w => by rw [h21] at w; exact absurd w (by decide)) (hI2 c hc))]; exact ⟨rfl, hA⟩)
      · skip
        refine v_aload_n h0 d_Mo_cancel_24 0 rfl ?_
        refine v_iload_n h0 d_Mo_cancel_25 1 rfl ?_
        refine v_callV h0 hC (sR_N0 g) 0 (show 0 < 22 by omega) (show enR g 0 _ = _ from rfl) rfl (av := [.int (nI c)]) (rest := []) (m_Mo_fault (kl K) g hI M hc hA.1.1 hIv.1.1) wd_627 wd_624 wd_626 ws_42 wd_6 hd_Mo_fault (by omega) (by decide) rfl rfl (Nat.le_of_ble_eq_true rfl) d_Mo_cancel_26 (fun r9 M9 hp9 => ?_)
        obtain ⟨rfl, rfl⟩ := hp9
        refine v_r1 ?_
        refine v_if_eq h0 d_Mo_cancel_29 rfl (fun h29 => ?_) (fun h29 => ?_)
        · skip
          refine v_aload_n h0 d_Mo_cancel_34 0 rfl ?_
          refine g_Mo_stale_ h0 hC wd_457 d_Mo_cancel_35 ?_
          refine v_iload_n h0 d_Mo_cancel_38 1 rfl ?_
          refine v_iconst h0 d_Mo_cancel_39 (v := nI 0) (by decide) ?_
          refine s_Mo_stale_ h0 hC c (rfl) (z := 0) (by decide) (by omega) d_Mo_cancel_40 ?_
          refine v_aload_n h0 d_Mo_cancel_41 0 rfl ?_
          refine g_Mo_result_ h0 hC wd_458 d_Mo_cancel_42 ?_
          refine v_iload_n h0 d_Mo_cancel_45 1 rfl ?_
          refine v_bipush h0 d_Mo_cancel_46 (v := 11) (by decide) ?_
          refine s_Mo_result_ h0 hC c (rfl) (z := 11) (rfl) (by omega) d_Mo_cancel_48 ?_
          refine v_iconst h0 d_Mo_cancel_49 (v := nI 1) (by decide) ?_
          exact v_zret h0 hC hR (rfl) d_Mo_cancel_50 (by rw [ca_y hc h12 h29 ((hIv.1.2.2.2.1 c hc).resolve_left h21)]; exact ⟨rfl, ca_st hc hA⟩)
        · skip
          refine v_iconst h0 d_Mo_cancel_32 (v := nI 0) (by decide) ?_
          exact v_zret h0 hC hR (rfl) d_Mo_cancel_33 (by rw [ca_c hc (fun z => h29 (sh_12 hIv hc z).2.1)]; exact ⟨rfl, hA⟩)
