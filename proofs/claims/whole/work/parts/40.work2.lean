/-- no error is 14 -/
theorem EV_ne {tx : Nat → Nat → Int32} {df : Nat → Nat} {am : Nat → Int32} {cl : Nat → Int32 → Nat → Rs} (hcl : ∀ c a m, ¬ (cl c a m).1 = 14) (c : Nat) : ∀ (d k : Nat) (lc : Nat → Int32) (m : Nat), ¬ (EV tx df am cl c d k lc m).1 = 14 := by
  have bdn : ∀ (r : Rs) (f : Int32 → Nat → Rs), ¬ r.1 = 14 → (∀ v m, ¬ (f v m).1 = 14) → ¬ (bd r f).1 = 14 := by
    intro r f h1 h2
    unfold bd
    split
    · exact h2 _ _
    · exact h1
  have n0 : ¬ (0 : Int32) = 14 := by decide
  have n7 : ¬ (7 : Int32) = 14 := by decide
  have n8 : ¬ (8 : Int32) = 14 := by decide
  have n9 : ¬ (9 : Int32) = 14 := by decide
  have n10 : ¬ (10 : Int32) = 14 := by decide
  intro d
  induction d with
  | zero => intro k lc m; exact n9
  | succ d ih =>
    intro k lc m
    unfold EV
    split
    · exact n10
    · split
      · refine bdn _ _ (ih _ _ _) (fun v p => ?_)
        split
        · exact n0
        · refine bdn _ _ (ih _ _ _) (fun w p => ?_)
          unfold jn
          repeat' split
          all_goals first | exact n0 | exact n7
      · exact bdn _ _ (ih _ _ _) (fun v p => n0)
      · exact bdn _ _ (ih _ _ _) (fun v p => bdn _ _ (ih _ _ _) (fun _ _ => n0))
      · exact bdn _ _ (ih _ _ _) (fun v p => bdn _ _ (ih _ _ _) (fun _ _ => n0))
      · exact bdn _ _ (ih _ _ _) (fun v p => bdn _ _ (hcl _ _ _) (fun _ _ => n0))
      · refine bdn _ _ (ih _ _ _) (fun v p => ?_)
        split
        · exact bdn _ _ (ih _ _ _) (fun _ _ => n0)
        · split
          · exact bdn _ _ (ih _ _ _) (fun _ _ => n0)
          · exact n8
      · exact n0
      · exact n0
      · exact n0
theorem CL_ne {tx : Nat → Nat → Int32} {df : Nat → Nat} {am : Nat → Int32} : ∀ (o c : Nat) (a : Int32) (m : Nat), ¬ (CL tx df am o c a m).1 = 14 := by
  intro o
  induction o with
  | zero => intro c a m; show ¬ (9 : Int32) = 14; decide
  | succ o ih => intro c a m; exact EV_ne ih c 6 2 _ m
theorem ev_ne14 (β : Me) (c : Nat) : ¬ (evR β c).1 = 14 := EV_ne (CL_ne 5) c 6 0 _ 0
/-! WORK (the book) -/
theorem wk_run {M M' β : Me} (h : AbsB M β) {c : Nat} (hc : c < 10) {t : Int32} (hr : RunP (up2 M (7 + c) 3 0) c t (evR β c) none M') : AbsB M' (if (evR β c).1 = 0 then up2 (up2 (up2 (up2 (up2 (up2 β 4 c 0) 5 c 14) 6 c (evR β c).2.1) 7 c t) 8 c (β 8 c + 1)) 0 1 (β 0 1 + nI (evR β c).2.2)
  else up2 (up2 (up2 (up2 β 4 c 0) 5 c (evR β c).1) 8 c (β 8 c + 1)) 0 1 (β 0 1 + nI (evR β c).2.2)) := by
  obtain ⟨-, r1, r2, r3, r4, r5, r6, r7⟩ := hr
  have b1 := wk_a h hc
  have e4 : (up2 M (7 + c) 3 0) 4 3 = β 0 1 := by rw [up2_r _ _ _ (by omega)]; exact h.2.1.2.2.1
  have e7 : (up2 M (7 + c) 3 0) (7 + c) 7 = β 8 c := by rw [up2_n _ _ (by omega)]; exact (h.2.2.1 c hc).2.2.1
  have e3 : M' (7 + c) 3 = 0 := by rw [r3 3 (by omega), up2_s]
  rw [e4] at r2
  rw [e7] at r7
  have oth : ∀ d, d < 10 → d ≠ c → M' (7 + d) = M (7 + d) := fun d hd hne => by rw [r1 _ (by omega) (by omega) (by omega), up2_r _ _ _ (by omega)]
  have h7 : ∀ d, d < 10 → M' (7 + d) 1 = M (7 + d) 1 ∧ M' (7 + d) 2 = M (7 + d) 2 := by
    intro d hd
    by_cases e : d = c
    · subst e; rw [r3 1 (by omega), r3 2 (by omega), up2_n _ _ (by omega), up2_n _ _ (by omega)]; exact ⟨rfl, rfl⟩
    · rw [oth d hd e]; exact ⟨rfl, rfl⟩
  have hrow : ∀ i, i < 47 → i ≠ 4 → ¬ (7 ≤ i ∧ i < 17) → M' i = M i := fun i w1 w2 w3 => by rw [r1 i w1 w2 (by omega), up2_r _ _ _ (by omega)]
  by_cases z : (evR β c).1 = 0
  · rw [if_pos z]
    refine abs_of h ((((((same_up β c 0 (by omega)).tr (same_up _ c 14 (by omega))).tr (same_up _ c _ (by omega))).tr (same_up _ c _ (by omega))).tr (same_up _ c _ (by omega))).tr (same_up _ 1 _ (by omega))) h7 hrow (by rw [up2_s]; exact r2) ?_ ?_ (fun d hd => ?_)
    · simp only [up2_if]; simp
    · funext k; simp only [up2_if]; simp
    · simp only [up2_if]
      by_cases e : d = c
      · subst e; simp [e3, r4, r5 z, r6, r7, z]
      · obtain ⟨k1, k2, k3, k4, -⟩ := h.2.2.1 d hd
        simp [e, oth d hd e, k1, k2, k3]
        exact k4
  · rw [if_neg z]
    have hne := r4
    rw [if_neg z] at hne
    refine abs_of h ((((same_up β c 0 (by omega)).tr (same_up _ c _ (by omega))).tr (same_up _ c _ (by omega))).tr (same_up _ 1 _ (by omega))) h7 hrow (by rw [up2_s]; exact r2) ?_ ?_ (fun d hd => ?_)
    · simp only [up2_if]; simp
    · funext k; simp only [up2_if]; simp
    · simp only [up2_if]
      by_cases e : d = c
      · subst e
        simp [e3, hne, r7]
        intro w
        exact absurd w (ev_ne14 β d)
      · obtain ⟨k1, k2, k3, k4, -⟩ := h.2.2.1 d hd
        simp [e, oth d hd e, k1, k2, k3]
        exact k4
set_option maxHeartbeats 4000000 in
theorem m_B_workOn (l : Launch) (g : Gd) (hI0 : sI (sB g)) (M : Me) {β : Me} {c : Nat} (hc : c < 10) (h : AbsB M β) (hI : Iv β) (hr : rdB β c = true) : CB l g y_B_workOn c_B_workOn 4 none 91 [.ref (ga g 0), .int (nI c)] M (fun r M' => r = none ∧ AbsB M' (wkβ β c)) := by
  have hA1 := M1_abs h hc
  have hd1 : ∀ j, j < 10 → (up2 M (7 + c) 3 0) 2 j = dfE β j 10 := fun j hj => by rw [up2_r _ _ _ (by omega)]; exact h.2.2.2 j hj
  have hch1 : ∀ d, d < 10 → chF ((up2 M (7 + c) 3 0) (27 + d)) := fun d hd => by rw [up2_r _ _ _ (by omega)]; exact h.2.1.2.2.2.2 d hd
  have ht : thB β c = true := by unfold rdB at hr; simp only [Bool.and_eq_true] at hr; exact hr.1
  have hft : (up2 M (7 + c) 3 0) (7 + c) 2 = ftI β c := by rw [up2_n _ _ (by omega), (h.2.2.1 c hc).2.2.2.2, if_pos ht]
  have hs6 : ∀ d, d < 10 → β 5 d = 14 → (up2 M (7 + c) 3 0) (7 + d) 6 = β 7 d := fun d hd e => by rw [up2_n _ _ (by omega)]; exact ((h.2.2.1 d hd).2.2.2.1 e).2
  have hs5 : ∀ d, d < 10 → β 5 d = 14 → (up2 (up2 M (7 + c) 3 0) 4 1 1) (7 + d) 5 = β 6 d := fun d hd e => by rw [up2_r _ _ _ (by omega), up2_n _ _ (by omega)]; exact ((h.2.2.1 d hd).2.2.2.1 e).1
  refine Ct.of hI0 (sB_N0 g) rfl (Nat.le_of_ble_eq_true rfl) (fun K h0 hC hR hkl hn => ?_)
  have hC : Cx (sB g) K gC_B _ := hC
  show V K (wp (sB g)) M 0 [(0, .ref (ga g 0)), (1, .int (nI c))] []
  refine v_aload_n h0 d_B_workOn_0 0 rfl ?_
  refine g_B_cells h0 hC wd_139 d_B_workOn_1 ?_
  refine v_iload_n h0 d_B_workOn_4 1 rfl ?_
  refine a_B_cells h0 hC c (rfl) (by omega) d_B_workOn_5 ?_
  refine v_astore_n h0 d_B_workOn_6 (lv' := [(2, .ref (ga g (7 + c))), (0, .ref (ga g 0)), (1, .int (nI c))]) (lt_kn hn (by decide)) rfl ?_
  refine v_aload_n h0 d_B_workOn_7 0 rfl ?_
  refine v_iconst h0 d_B_workOn_8 (v := 0) (by decide) ?_
  refine pN_Ce_stale h0 hC (by omega) (Or.inl rfl) wn_9 d_B_workOn_9 ?_
  refine v_aload_n h0 d_B_workOn_12 0 rfl ?_
  refine gN_Ce_fault h0 hC (by omega) wn_8 d_B_workOn_13 ?_
  refine v_if_eq h0 d_B_workOn_16 rfl (fun h16 => ?_) (fun h16 => ?_)
  · skip
    have hf0 : ftI β c = 0 := hft.symm.trans h16
    refine v_aload_n h0 d_B_workOn_20 1 rfl ?_
    refine v_iload_n h0 d_B_workOn_21 2 rfl ?_
    refine v_callV h0 hC (sB_N0 g) 0 (show 0 < 59 by omega) (eB_B g _) rfl (av := [.int (nI c)]) (rest := []) (m_B_othersUsedBy (kl K) g hI0 (up2 M (7 + c) 3 0) hc) wd_262 wd_259 wd_261 ws_10 wd_1 hd_B_othersUsedBy (by omega) (by decide) rfl rfl (Nat.le_of_ble_eq_true rfl) d_B_workOn_22 (fun r9 M9 hp9 => ?_)
    obtain ⟨rfl, rfl⟩ := hp9
    refine v_r1 ?_
    refine v_aload_n h0 d_B_workOn_25 1 rfl ?_
    refine v_callV h0 hC (sB_N0 g) 0 (show 0 < 59 by omega) (eB_B g _) rfl (av := []) (rest := [.int (otM (up2 M (7 + c) 3 0) c)]) (m_B_usableCells (kl K) g hI0 (up2 M (7 + c) 3 0)) wd_315 wd_312 wd_314 ws_19 wd_1 hd_B_usableCells (by omega) (by decide) rfl rfl (Nat.le_of_ble_eq_true rfl) d_B_workOn_26 (fun r9 M9 hp9 => ?_)
    obtain ⟨rfl, rfl⟩ := hp9
    refine v_r1 ?_
    refine v_iconst h0 d_B_workOn_29 (v := -1) (by decide) ?_
    refine v_ixor h0 d_B_workOn_30 ?_
    refine v_iand h0 d_B_workOn_31 ?_
    refine v_if_eq h0 d_B_workOn_32 rfl (fun h32 => ?_) (fun h32 => ?_)
    · skip
      have hbk : bkB β c = false := by rw [← bk_eq h hI.1 hc hr hf0]; exact decide_eq_false (fun q => q h32)
      have hg : ∀ d, d < 10 → d ≠ c → ndB β c d = true → gdB β d = true := fun d hd hne hn => rd_gd hI.1 hc hr hf0 hbk hd hne hn
      have hw := (ft_0 hf0).1
      obtain ⟨x1, x2, x3⟩ := tx_of hA1 hch1 hI.1 hc hw
      have hty := ty_M hA1 hd1 hs6 hI hc hf0 hg
      refine v_aload_n h0 d_B_workOn_41 1 rfl ?_
      refine g_B_definers h0 hC wd_140 d_B_workOn_42 ?_
      refine v_aload_n h0 d_B_workOn_45 0 rfl ?_
      refine gN_Ce_text h0 hC (by omega) wn_5 d_B_workOn_46 ?_
      refine v_callS h0 hC (sB_N0 g) (av := [.ref (ga g 2), .ref (ga g (17 + c))]) (rest := []) (m_Ty_ofText (kl K) g hI0 (up2 M (7 + c) 3 0) hc x1 (dv_of hd1) x2 (wl_ok hw).1 x3) wd_326 wd_324 wd_325 wd_9 hd_Ty_ofText (by omega) (by decide) rfl rfl (Nat.le_of_ble_eq_true rfl) d_B_workOn_49 (fun r9 M9 hp9 => ?_)
      obtain ⟨rfl, rfl⟩ := hp9
      refine v_r1 ?_
      refine v_int ((if fnB β c = true ∧ ¬ tyI β c = 1 then 0 else tyI β c)) (by rw [fu_eq hA1 hc, hty]) ?_
      refine v_istore_n h0 d_B_workOn_52 (lv' := [(3, .int (if fnB β c = true ∧ ¬ tyI β c = 1 then 0 else tyI β c)), (2, .ref (ga g (7 + c))), (0, .ref (ga g 0)), (1, .int (nI c))]) (lt_kn hn (by decide)) rfl ?_
      refine v_iload_n h0 d_B_workOn_53 0 rfl ?_
      refine v_if_ne h0 d_B_workOn_54 rfl (fun h54 => ?_) (fun h54 => ?_)
      · skip
        have tq : ¬ (fnB β c = true ∧ ¬ tyI β c = 1) := fun q => h54 (if_pos q)
        have tz : ¬ (tyI β c = 0 ∨ (fnB β c = true ∧ ¬ tyI β c = 1)) := fun q => q.elim (fun q => h54 (by rw [if_neg tq]; exact q)) tq
        refine v_aload_n h0 d_B_workOn_66 1 rfl ?_
        refine gN_Ce_text h0 hC (by omega) wn_5 d_B_workOn_67 ?_
        refine v_callV h0 hC (sB_N0 g) (17 + c) (show (17 + c) < 59 by omega) (eB_Te g (by omega) _) rfl (av := []) (rest := []) (m_Te_isFunction (kl K) g hI0 (up2 M (7 + c) 3 0) hc) wd_258 wd_255 wd_256 wd_257 wd_3 hd_Te_isFunction (by omega) (by decide) rfl rfl (Nat.le_of_ble_eq_true rfl) d_B_workOn_70 (fun r9 M9 hp9 => ?_)
        obtain ⟨rfl, rfl⟩ := hp9
        refine v_r1 ?_
        refine b_if_eq h0 d_B_workOn_73 rfl (fun h73 => ?_) (fun h73 => ?_)
        · skip
          have fz : fnB β c = false := by rw [← fu_eq hA1 hc]; exact h73
          have hst0 : stN β c = 0 := by unfold stN; rw [show hdB β c = false from by unfold fnB at fz; rw [hw, Bool.true_and] at fz; exact fz]; rfl
          have hb00 : ∀ j, j < 6 → b0 β c j = false := fun j _ => by unfold b0; rw [show hdB β c = false from by unfold fnB at fz; rw [hw, Bool.true_and] at fz; exact fz]; rfl
          have hE := ec_of (hA1.rows (M' := up2 (up2 M (7 + c) 3 0) 4 1 1) (fun d _ => by rw [up2_r _ _ _ (by omega)]) (fun i w1 w2 => up2_r _ _ _ (by omega))) (fun j hj => by rw [up2_r _ _ _ (by omega)]; exact hd1 j hj) (fun d hd => by rw [up2_r _ _ _ (by omega)]; exact hch1 d hd) hs5 hI (up2_s _ _ _ _)
          have htE := ty_E hc hf0 hg (fun q => by rw [fz] at q; cases q)
          refine v_aload_n h0 d_B_workOn_85 2 rfl ?_
          refine g_B_evaluator h0 hC wd_142 d_B_workOn_86 ?_
          refine v_aload_n h0 d_B_workOn_89 1 rfl ?_
          refine v_iload_n h0 d_B_workOn_90 0 rfl ?_
          refine v_aload_n h0 d_B_workOn_91 2 rfl ?_
          refine g_B_definers h0 hC wd_140 d_B_workOn_92 ?_
          refine v_callV h0 hC (sB_N0 g) 4 (show 4 < 59 by omega) (eB_Ev g _) rfl (av := [.ref (ga g (7 + c)), .int (if fnB β c = true ∧ ¬ tyI β c = 1 then 0 else tyI β c), .ref (ga g 2)]) (rest := []) (m_Ev_run (kl K) g hI0 (up2 M (7 + c) 3 0) (x := (if fnB β c = true ∧ ¬ tyI β c = 1 then 0 else tyI β c)) hc hE x1 rfl x2 hb00 (wl_ok hw).1 x3 (by rw [htE]; exact fun q => tz (Or.inl q))) wd_362 wd_359 wd_360 wd_361 wd_4 hd_Ev_run (by omega) (by decide) rfl rfl (Nat.le_of_ble_eq_true rfl) d_B_workOn_95 (fun r9 M9 hp9 => ?_)
          rw [hst0] at hp9
          obtain rfl : r9 = none := hp9.1
          refine v_r0 ?_
          exact v_vret h0 hC hR d_B_workOn_98 (⟨rfl, by unfold wkβ; rw [if_neg (fun q => q hf0), if_neg (by rw [hbk]; decide), if_neg tz, if_neg (by rw [fz]; decide)]; rw [if_neg tq] at hp9; exact wk_run h hc hp9⟩)
        · skip
          have fz : fnB β c = true := by rw [← fu_eq hA1 hc]; exact h73
          refine v_aload_n h0 d_B_workOn_76 1 rfl ?_
          refine v_bipush h0 d_B_workOn_77 (v := 13) (by decide) ?_
          refine pN_Ce_result h0 hC (by omega) wn_11 d_B_workOn_79 ?_
          refine v_goto h0 d_B_workOn_82 rfl ?_
          exact v_vret h0 hC hR d_B_workOn_98 (⟨rfl, by unfold wkβ; rw [if_neg (fun q => q hf0), if_neg (by rw [hbk]; decide), if_neg tz, if_pos fz]; exact wk_b (wk_a h hc) hc (by decide)⟩)
      · skip
        have tz : tyI β c = 0 ∨ (fnB β c = true ∧ ¬ tyI β c = 1) := by by_cases q : fnB β c = true ∧ ¬ tyI β c = 1; exact Or.inr q; rw [if_neg q] at h54; exact Or.inl h54
        refine v_aload_n h0 d_B_workOn_57 1 rfl ?_
        refine v_bipush h0 d_B_workOn_58 (v := 6) (by decide) ?_
        refine pN_Ce_result h0 hC (by omega) wn_11 d_B_workOn_60 ?_
        refine v_goto h0 d_B_workOn_63 rfl ?_
        exact v_vret h0 hC hR d_B_workOn_98 (⟨rfl, by unfold wkβ; rw [if_neg (fun q => q hf0), if_neg (by rw [hbk]; decide), if_pos tz]; exact wk_b (wk_a h hc) hc (by decide)⟩)
    · skip
      have hbk : bkB β c = true := by rw [← bk_eq h hI.1 hc hr hf0]; exact decide_eq_true h32
      refine v_aload_n h0 d_B_workOn_35 0 rfl ?_
      refine v_iconst h0 d_B_workOn_36 (v := 5) (by decide) ?_
      refine pN_Ce_result h0 hC (by omega) wn_11 d_B_workOn_37 ?_
      exact v_vret h0 hC hR d_B_workOn_40 (⟨rfl, by unfold wkβ; rw [if_neg (fun q => q hf0), if_pos hbk]; exact wk_b (wk_a h hc) hc (by decide)⟩)
  · skip
    have hf1 : ¬ ftI β c = 0 := fun q => h16 (hft.trans q)
    exact v_vret h0 hC hR d_B_workOn_19 (⟨rfl, by unfold wkβ; rw [if_pos hf1]; exact wk_a h hc⟩)
