/-! THE REFERENCE WORKS -/
def StR (M β : Me) : Prop := ∀ c, c < 10 → M 9 c = β 4 c
def CoR (M β : Me) : Prop := M 0 1 = β 0 0 ∧ M 0 14 = β 0 1 ∧ (∀ k, k < 24 → M 1 k = β 1 k) ∧ chF (β 1)
def AbR0 (M β : Me) : Prop := TxR M β ∧ TeR M β ∧ RsR M β ∧ CoR M β
def AbsR (M β : Me) : Prop := AbR0 M β ∧ StR M β
def EvaP (M : Me) (c : Nat) (x : Int32) (R : Rs) (r : Option Value) (M' : Me) : Prop := r = none ∧ (∀ i, 1 ≤ i → i ≤ 9 → M' i = M i) ∧ M' 0 1 = M 0 1 ∧ M' 0 14 = M 0 14 + nI R.2.2 ∧ (∀ d, d ≠ c → M' 10 d = M 10 d ∧ M' 11 d = M 11 d ∧ M' 12 d = M 12 d ∧ M' 13 d = M 13 d) ∧ M' 10 c = (if R.1 = 0 then 14 else R.1) ∧ (R.1 = 0 → M' 11 c = R.2.1) ∧ M' 12 c = x ∧ M' 13 c = M 13 c + 1
set_option maxHeartbeats 4000000 in
theorem m_Mo_evaluate (l : Launch) (g : Gd) (hI : sI (sR g)) (M : Me) {β : Me} {c : Nat} (x : Int32) (hc : c < 10) (hIv : Iv β) (hE : ECR M β) (hw : wlB β c = true) (hfn : fnB β c = false) (hty : ¬ TY (β (20 + c)) (tnE β) (fnE β) 6 (stN β c) = 0) : CR l g y_Mo_evaluate c_Mo_evaluate 3 none 4 [.ref (ga g 0), .int (nI c), .int x] M (EvaP M c x (evR β c)) := by
  refine Ct.of hI (sR_N0 g) rfl (Nat.le_of_ble_eq_true rfl) (fun K h0 hC hR hkl hn => ?_)
  have hC : Cx (sR g) K gC_Mo _ := hC
  show V K (wp (sR g)) M 0 [(0, .ref (ga g 0)), (1, .int (nI c)), (2, .int x)] []
  have hno : hdB β c = false := by have := fn_hd hw; rw [hfn] at this; exact this.symm
  have hst : stN β c = 0 := by unfold stN; rw [hno]; rfl
  have hok := (wl_ok hw).1
  rw [hst] at hok hty
  have hEnd : ∀ (M1 : Me), EFr (up2 M 13 c (M 13 c + nI 1)) M1 → M1 0 14 = M 0 14 + nI (evR β c).2.2 → ((evR β c).1 = 0 ∧ M1 0 30 = 0 ∧ M1 0 29 = (evR β c).2.1 ∨ ¬ (evR β c).1 = 0 ∧ M1 0 30 = (evR β c).1) → V K (wp (sR g)) M1 57 [(0, .ref (ga g 0)), (1, .int (nI c)), (2, .int x)] [] := by
    intro M1 hF h14 hz
    refine v_aload_n h0 d_Mo_evaluate_57 0 rfl ?_
    refine g_Mo_result_ h0 hC wd_458 d_Mo_evaluate_58 ?_
    refine v_iload_n h0 d_Mo_evaluate_61 1 rfl ?_
    refine v_aload_n h0 d_Mo_evaluate_62 0 rfl ?_
    refine g_Mo_error_ h0 hC wd_478 d_Mo_evaluate_63 ?_
    refine v_int (M1 0 30) (rfl) ?_
    refine v_if_eq h0 d_Mo_evaluate_66 rfl (fun h66 => ?_) (fun h66 => ?_)
    · skip
      refine v_bipush h0 d_Mo_evaluate_76 (v := nI 14) (by decide) ?_
      refine s_Mo_result_ h0 hC c (rfl) (z := nI 14) (rfl) (by omega) d_Mo_evaluate_78 ?_
      refine v_aload_n h0 d_Mo_evaluate_79 0 rfl ?_
      refine g_Mo_valueOf_ h0 hC wd_459 d_Mo_evaluate_80 ?_
      refine v_iload_n h0 d_Mo_evaluate_83 1 rfl ?_
      refine v_aload_n h0 d_Mo_evaluate_84 0 rfl ?_
      refine g_Mo_out_ h0 hC wd_477 d_Mo_evaluate_85 ?_
      refine s_Mo_valueOf_ h0 hC c (rfl) (z := (up2 M1 10 c (nI 14)) 0 29) (rfl) (by omega) d_Mo_evaluate_88 ?_
      refine v_aload_n h0 d_Mo_evaluate_89 0 rfl ?_
      refine g_Mo_kindOf_ h0 hC wd_460 d_Mo_evaluate_90 ?_
      refine v_iload_n h0 d_Mo_evaluate_93 1 rfl ?_
      refine v_iload_n h0 d_Mo_evaluate_94 2 rfl ?_
      refine s_Mo_kindOf_ h0 hC c (rfl) (z := x) (rfl) (by omega) d_Mo_evaluate_95 ?_
      exact v_vret h0 hC hR d_Mo_evaluate_96 (⟨rfl, fun i w1 w2 => by rw [up2_q _ _ (by omega), up2_q _ _ (by omega), up2_q _ _ (by omega), hF.1 i (by omega) (by omega), up2_q _ _ (by omega)], by rw [up2_n _ _ (by omega), up2_n _ _ (by omega), up2_n _ _ (by omega), hF.2 1 (by omega) (by omega) (by omega) (by omega) (by omega) (by omega), up2_n _ _ (by omega)], by rw [up2_n _ _ (by omega), up2_n _ _ (by omega), up2_n _ _ (by omega)]; exact h14, fun d hd => ⟨by rw [up2_n _ _ (by omega), up2_n _ _ (by omega), up2_n _ _ (by omega), hF.1 10 (by omega) (by omega), up2_n _ _ (by omega)], by rw [up2_n _ _ (by omega), up2_n _ _ (by omega), up2_n _ _ (by omega), hF.1 11 (by omega) (by omega), up2_n _ _ (by omega)], by rw [up2_n _ _ (by omega), up2_n _ _ (by omega), up2_n _ _ (by omega), hF.1 12 (by omega) (by omega), up2_n _ _ (by omega)], by rw [up2_n _ _ (by omega), up2_n _ _ (by omega), up2_n _ _ (by omega), hF.1 13 (by omega) (by omega), up2_n _ _ (by omega)]⟩, by rw [up2_n _ _ (by omega), up2_n _ _ (by omega), up2_s]; exact hz.elim (fun q => (if_pos q.1).symm) (fun q => absurd (q.2.symm.trans h66) q.1), fun _ => by rw [up2_n _ _ (by omega), up2_s, up2_n _ _ (by omega)]; exact hz.elim (fun q => q.2.2) (fun q => absurd (q.2.symm.trans h66) q.1), up2_s _ _ _ _, by rw [up2_n _ _ (by omega), up2_n _ _ (by omega), up2_n _ _ (by omega), hF.1 13 (by omega) (by omega), up2_s]; rfl⟩)
    · skip
      refine v_aload_n h0 d_Mo_evaluate_69 0 rfl ?_
      refine g_Mo_error_ h0 hC wd_478 d_Mo_evaluate_70 ?_
      refine v_goto h0 d_Mo_evaluate_73 rfl ?_
      refine s_Mo_result_ h0 hC c (rfl) (z := M1 0 30) (rfl) (by omega) d_Mo_evaluate_78 ?_
      refine v_aload_n h0 d_Mo_evaluate_79 0 rfl ?_
      refine g_Mo_valueOf_ h0 hC wd_459 d_Mo_evaluate_80 ?_
      refine v_iload_n h0 d_Mo_evaluate_83 1 rfl ?_
      refine v_aload_n h0 d_Mo_evaluate_84 0 rfl ?_
      refine g_Mo_out_ h0 hC wd_477 d_Mo_evaluate_85 ?_
      refine s_Mo_valueOf_ h0 hC c (rfl) (z := (up2 M1 10 c (M1 0 30)) 0 29) (rfl) (by omega) d_Mo_evaluate_88 ?_
      refine v_aload_n h0 d_Mo_evaluate_89 0 rfl ?_
      refine g_Mo_kindOf_ h0 hC wd_460 d_Mo_evaluate_90 ?_
      refine v_iload_n h0 d_Mo_evaluate_93 1 rfl ?_
      refine v_iload_n h0 d_Mo_evaluate_94 2 rfl ?_
      refine s_Mo_kindOf_ h0 hC c (rfl) (z := x) (rfl) (by omega) d_Mo_evaluate_95 ?_
      exact v_vret h0 hC hR d_Mo_evaluate_96 (⟨rfl, fun i w1 w2 => by rw [up2_q _ _ (by omega), up2_q _ _ (by omega), up2_q _ _ (by omega), hF.1 i (by omega) (by omega), up2_q _ _ (by omega)], by rw [up2_n _ _ (by omega), up2_n _ _ (by omega), up2_n _ _ (by omega), hF.2 1 (by omega) (by omega) (by omega) (by omega) (by omega) (by omega), up2_n _ _ (by omega)], by rw [up2_n _ _ (by omega), up2_n _ _ (by omega), up2_n _ _ (by omega)]; exact h14, fun d hd => ⟨by rw [up2_n _ _ (by omega), up2_n _ _ (by omega), up2_n _ _ (by omega), hF.1 10 (by omega) (by omega), up2_n _ _ (by omega)], by rw [up2_n _ _ (by omega), up2_n _ _ (by omega), up2_n _ _ (by omega), hF.1 11 (by omega) (by omega), up2_n _ _ (by omega)], by rw [up2_n _ _ (by omega), up2_n _ _ (by omega), up2_n _ _ (by omega), hF.1 12 (by omega) (by omega), up2_n _ _ (by omega)], by rw [up2_n _ _ (by omega), up2_n _ _ (by omega), up2_n _ _ (by omega), hF.1 13 (by omega) (by omega), up2_n _ _ (by omega)]⟩, by rw [up2_n _ _ (by omega), up2_n _ _ (by omega), up2_s]; exact hz.elim (fun q => absurd q.2.1 h66) (fun q => (if_neg q.1).symm ▸ q.2), fun y => hz.elim (fun q => absurd q.2.1 h66) (fun q => absurd y q.1), up2_s _ _ _ _, by rw [up2_n _ _ (by omega), up2_n _ _ (by omega), up2_n _ _ (by omega), hF.1 13 (by omega) (by omega), up2_s]; rfl⟩)
  refine v_aload_n h0 d_Mo_evaluate_0 0 rfl ?_
  refine g_Mo_runsOf_ h0 hC wd_461 d_Mo_evaluate_1 ?_
  refine v_iload_n h0 d_Mo_evaluate_4 1 rfl ?_
  refine v_dup2 h0 d_Mo_evaluate_5 rfl rfl ?_
  refine a_Mo_runsOf_ h0 hC c (rfl) (by omega) d_Mo_evaluate_6 ?_
  refine v_iconst h0 d_Mo_evaluate_7 (v := nI 1) (by decide) ?_
  refine v_iadd h0 d_Mo_evaluate_8 ?_
  refine s_Mo_runsOf_ h0 hC c (rfl) (z := (M 13 c) + (nI 1)) (rfl) (by omega) d_Mo_evaluate_9 ?_
  refine v_aload_n h0 d_Mo_evaluate_10 0 rfl ?_
  refine v_iconst h0 d_Mo_evaluate_11 (v := nI 0) (by decide) ?_
  refine p_Mo_open_ h0 hC wd_473 d_Mo_evaluate_12 ?_
  refine v_aload_n h0 d_Mo_evaluate_15 0 rfl ?_
  refine v_iconst h0 d_Mo_evaluate_16 (v := nI 0) (by decide) ?_
  refine p_Mo_depth_ h0 hC wd_475 d_Mo_evaluate_17 ?_
  refine v_aload_n h0 d_Mo_evaluate_20 0 rfl ?_
  refine v_iconst h0 d_Mo_evaluate_21 (v := nI 0) (by decide) ?_
  refine p_Mo_fuel_ h0 hC wd_476 d_Mo_evaluate_22 ?_
  refine v_aload_n h0 d_Mo_evaluate_25 0 rfl ?_
  refine v_iconst h0 d_Mo_evaluate_26 (v := nI 0) (by decide) ?_
  refine p_Mo_error_ h0 hC wd_478 d_Mo_evaluate_27 ?_
  refine v_aload_n h0 d_Mo_evaluate_30 0 rfl ?_
  refine v_iload_n h0 d_Mo_evaluate_31 1 rfl ?_
  refine v_iconst h0 d_Mo_evaluate_32 (v := nI 0) (by decide) ?_
  refine v_callV h0 hC (sR_N0 g) 0 (show 0 < 22 by omega) (show enR g 0 _ = _ from rfl) rfl (av := [.int (nI c), .int (nI 0)]) (rest := []) (m_Mo_enter (kl K) g hI (up2 (up2 (up2 (up2 (up2 M 13 c ((M 13 c) + (nI 1))) 0 25 (nI 0)) 0 27 (nI 0)) 0 28 (nI 0)) 0 30 (nI 0)) (o := 0) (fu := 0) (by simp [up2_if]) (by omega) (by simp [up2_if]) (by omega)) wd_679 wd_676 wd_678 ws_55 wd_6 hd_Mo_enter (by omega) (by decide) rfl rfl (Nat.le_of_ble_eq_true rfl) d_Mo_evaluate_33 (fun r9 M9 hp9 => ?_)
  obtain ⟨rfl, rfl⟩ := hp9
  refine v_r0 ?_
  have hF0 : EFr (up2 M 13 c (M 13 c + nI 1)) (up2 (up2 (up2 (up2 (up2 M 13 c (M 13 c + nI 1)) 0 25 (nI 0)) 0 27 (nI 0)) 0 28 (nI 0)) 0 30 (nI 0)) := ((((EFr.refl _).in0 (by omega) _).in0 (by omega) _).in0 (by omega) _).in0 (by omega) _
  have hS0 : EvS 0 0 (M 0 14) 0 (up2 (up2 (up2 (up2 (up2 M 13 c (M 13 c + nI 1)) 0 25 (nI 0)) 0 27 (nI 0)) 0 28 (nI 0)) 0 30 (nI 0)) := ⟨by simp [up2_if], by simp [up2_if], by rw [up2_s]; rfl, by simp [up2_if], by rw [up2_n _ _ (by omega), up2_n _ _ (by omega), up2_n _ _ (by omega), up2_n _ _ (by omega), up2_n _ _ (by omega)]; exact (Int32.add_zero _).symm⟩
  have hE1 : ECR (up2 M 13 c (M 13 c + nI 1)) β := ⟨hE.1.rows (fun i hi => up2_q _ _ (by omega)), fun d hd e => by rw [up2_q _ _ (by omega)]; exact hE.2.1 d hd e, fun d hd e => by unfold edR; rw [up2_q _ _ (by omega)]; exact hE.2.2 d hd e⟩
  have hE2 := hE1.fr hF0
  have heo : EO (β (20 + c)) (edR (up2 (up2 (up2 (up2 (up2 M 13 c (M 13 c + nI 1)) 0 25 (nI 0)) 0 27 (nI 0)) 0 28 (nI 0)) 0 30 (nI 0)) c) 6 0 := by have e := hE2.2.2 c hc hw; rw [hst] at e; exact e
  generalize up2 (up2 (up2 (up2 (up2 M 13 c (M 13 c + nI 1)) 0 25 (nI 0)) 0 27 (nI 0)) 0 28 (nI 0)) 0 30 (nI 0) = M2 at *
  refine EvN_all hI h0 hC hn hIv 5 6 M2 c 0 0 0 0 (b0 β c) (fun _ => 0) hc (by omega) (by omega) hE2 hS0 (by omega) hw hok heo hty (fun j hj hb => by unfold b0 at hb; rw [hno] at hb; cases hb) (evR β c) rfl (fun y M3 q3 v3 f3 m3 => ?_) (fun y M3 q3 v3 m3 => hEnd M3 (hF0.trans q3) m3 (Or.inr ⟨y, v3⟩))
  exact lp_end hI h0 hC hn q3.2.1 (hEnd M3 (hF0.trans q3.1) m3 (Or.inl ⟨y, q3.2.2.2.1, v3⟩))
def blB (β : Me) (d : Nat) : Bool := decide (ftI β d ≠ 0) || (decide (β 5 d ≠ 14) && decide (β 5 d ≠ 13))
set_option maxHeartbeats 4000000 in
theorem m_Mo_blocks (l : Launch) (g : Gd) (hI : sI (sR g)) (M : Me) {β : Me} {c : Nat} (hc : c < 10) (hT : TxR M β) (hN : Nmb β) (hR9 : RsR M β) : CR l g y_Mo_blocks c_Mo_blocks 2 (some .boolean) 5 [.ref (ga g 0), .int (nI c)] M (fun r M' => r = some (.int (bI (blB β c))) ∧ M = M') := by
  refine Ct.of hI (sR_N0 g) rfl (Nat.le_of_ble_eq_true rfl) (fun K h0 hC hR hkl hn => ?_)
  have hC : Cx (sR g) K gC_Mo _ := hC
  show V K (wp (sR g)) M 0 [(0, .ref (ga g 0)), (1, .int (nI c))] []
  refine v_aload_n h0 d_Mo_blocks_0 0 rfl ?_
  refine v_iload_n h0 d_Mo_blocks_1 1 rfl ?_
  refine v_callV h0 hC (sR_N0 g) 0 (show 0 < 22 by omega) (show enR g 0 _ = _ from rfl) rfl (av := [.int (nI c)]) (rest := []) (m_Mo_fault (kl K) g hI M hc hT hN) wd_627 wd_624 wd_626 ws_42 wd_6 hd_Mo_fault (by omega) (by decide) rfl rfl (Nat.le_of_ble_eq_true rfl) d_Mo_blocks_2 (fun r9 M9 hp9 => ?_)
  obtain ⟨rfl, rfl⟩ := hp9
  refine v_r1 ?_
  refine v_if_ne h0 d_Mo_blocks_5 rfl (fun h5 => ?_) (fun h5 => ?_)
  · skip
    refine v_iconst h0 d_Mo_blocks_30 (v := nI 1) (by decide) ?_
    refine v_goto h0 d_Mo_blocks_31 rfl ?_
    exact v_zret h0 hC hR (rfl) d_Mo_blocks_35 (⟨ret_t (by unfold blB; rw [decide_eq_true h5, Bool.true_or]), rfl⟩)
  · skip
    refine v_aload_n h0 d_Mo_blocks_8 0 rfl ?_
    refine g_Mo_result_ h0 hC wd_458 d_Mo_blocks_9 ?_
    refine v_iload_n h0 d_Mo_blocks_12 1 rfl ?_
    refine a_Mo_result_ h0 hC c (rfl) (by omega) d_Mo_blocks_13 ?_
    refine v_int (β 5 c) ((hR9 c hc).1) ?_
    refine v_bipush h0 d_Mo_blocks_14 (v := 14) (by decide) ?_
    refine v_icmp_eq h0 d_Mo_blocks_16 rfl (fun h16 => ?_) (fun h16 => ?_)
    · skip
      refine v_iconst h0 d_Mo_blocks_34 (v := nI 0) (by decide) ?_
      exact v_zret h0 hC hR (rfl) d_Mo_blocks_35 (⟨ret_f (by unfold blB; rw [decide_eq_false (fun z => z h5), decide_eq_false (fun z => z h16)]; rfl), rfl⟩)
    · skip
      refine v_aload_n h0 d_Mo_blocks_19 0 rfl ?_
      refine g_Mo_result_ h0 hC wd_458 d_Mo_blocks_20 ?_
      refine v_iload_n h0 d_Mo_blocks_23 1 rfl ?_
      refine a_Mo_result_ h0 hC c (rfl) (by omega) d_Mo_blocks_24 ?_
      refine v_int (β 5 c) ((hR9 c hc).1) ?_
      refine v_bipush h0 d_Mo_blocks_25 (v := 13) (by decide) ?_
      refine v_icmp_eq h0 d_Mo_blocks_27 rfl (fun h27 => ?_) (fun h27 => ?_)
      · skip
        refine v_iconst h0 d_Mo_blocks_34 (v := nI 0) (by decide) ?_
        exact v_zret h0 hC hR (rfl) d_Mo_blocks_35 (⟨ret_f (by unfold blB; rw [decide_eq_false (fun z => z h5), decide_eq_false (fun z => z h27 : ¬ β 5 c ≠ 13), Bool.and_false]; rfl), rfl⟩)
      · skip
        refine v_iconst h0 d_Mo_blocks_30 (v := nI 1) (by decide) ?_
        refine v_goto h0 d_Mo_blocks_31 rfl ?_
        exact v_zret h0 hC hR (rfl) d_Mo_blocks_35 (⟨ret_t (by unfold blB; rw [decide_eq_true h16, decide_eq_true h27, Bool.and_self, Bool.or_true]), rfl⟩)
def bkU (β : Me) (c i : Nat) : Bool := (List.range i).any fun d => decide (d ≠ c) && (ndB β c d && blB β d)
theorem bkU_s (β : Me) (c i : Nat) : bkU β c (i + 1) = (bkU β c i || (decide (i ≠ c) && (ndB β c i && blB β i))) := by unfold bkU; rw [List.range_succ, List.any_append]; simp
def wsU (β : Me) (c i : Nat) : Bool := (List.range i).any fun d => decide (d ≠ c) && (ndB β c d && decide (β 4 d = 1))
theorem wsU_s (β : Me) (c i : Nat) : wsU β c (i + 1) = (wsU β c i || (decide (i ≠ c) && (ndB β c i && decide (β 4 i = 1)))) := by unfold wsU; rw [List.range_succ, List.any_append]; simp
/-- the result of a cell, and what goes with it, is changed -/
theorem ab_res {M M' β β' : Me} {c : Nat} (hc : c < 10) (h : AbR0 M β) (hs : SameT β β') (hr : ∀ i, 1 ≤ i → i ≤ 8 → M' i = M i) (h01 : M' 0 1 = M 0 1) (h14 : M' 0 14 = β' 0 1) (hb0 : β' 0 0 = β 0 0) (hb1 : β' 1 = β 1) (hd : ∀ d, d ≠ c → M' 10 d = M 10 d ∧ M' 11 d = M 11 d ∧ M' 12 d = M 12 d ∧ M' 13 d = M 13 d) (hbd : ∀ d, d ≠ c → β' 5 d = β 5 d ∧ β' 6 d = β 6 d ∧ β' 7 d = β 7 d ∧ β' 8 d = β 8 d) (h10 : M' 10 c = β' 5 c) (h13 : M' 13 c = β' 8 c) (h11 : β' 5 c = 14 → M' 11 c = β' 6 c ∧ M' 12 c = β' 7 c) : AbR0 M' β' := by
  obtain ⟨hT, hE, hR, hC⟩ := h
  refine ⟨fun d hd => ?_, fun d hd hw => ?_, fun d hd2 => ?_, ?_⟩
  · have := hT d hd
    rw [hr 2 (by omega) (by omega), hr 3 (by omega) (by omega), hr 4 (by omega) (by omega), hr 7 (by omega) (by omega), hr 8 (by omega) (by omega), hs.1, hs.2.1, hs.2.2, hs.wl, hs.us]
    exact this
  · rw [hs.wl] at hw
    have := hE d hd hw
    rw [hr 5 (by omega) (by omega), hr 6 (by omega) (by omega), hs.2.2, hs.st]
    exact this
  · by_cases z : d = c
    · subst z; exact ⟨h10, h13, h11⟩
    · obtain ⟨a1, a2, a3, a4⟩ := hd d z
      obtain ⟨b1, b2, b3, b4⟩ := hbd d z
      rw [a1, a2, a3, a4, b1, b2, b3, b4]
      exact hR d hd2
  · obtain ⟨c1, c2, c3, c4⟩ := hC
    refine ⟨by rw [h01, hb0]; exact c1, h14, fun k hk => ?_, by rw [hb1]; exact c4⟩
    rw [hr 1 (by omega) (by omega), hb1]; exact c3 k hk
theorem up_ne (β : Me) {i k a b : Nat} (v : Int32) (h : b ≠ k) : up2 β i k v a b = β a b := up2_n _ _ (fun z => h z.2)
theorem ab_one {M M' β : Me} {c : Nat} {v : Int32} (hc : c < 10) (h : AbR0 M β) (hv : ¬ v = 14) (hM : (∀ i, 1 ≤ i → i ≤ 8 → M' i = M i) ∧ M' 0 1 = M 0 1 ∧ M' 0 14 = M 0 14 ∧ (∀ d, d ≠ c → M' 10 d = M 10 d) ∧ M' 10 c = v ∧ M' 11 = M 11 ∧ M' 12 = M 12 ∧ M' 13 = M 13) : AbR0 M' (up2 (up2 β 4 c 0) 5 c v) := by
  obtain ⟨m1, m2, m3, m4, m5, m6, m7, m8⟩ := hM
  have hs : SameT β (up2 (up2 β 4 c 0) 5 c v) := (same_up β c 0 (by omega)).tr (same_up _ c v (by omega))
  refine ab_res hc h hs m1 m2 ?_ ?_ ?_ (fun d hd => ⟨m4 d hd, by rw [m6], by rw [m7], by rw [m8]⟩) (fun d hd => ⟨by rw [up_ne _ _ hd, up_ne _ _ hd], by rw [up_ne _ _ hd, up_ne _ _ hd], by rw [up_ne _ _ hd, up_ne _ _ hd], by rw [up_ne _ _ hd, up_ne _ _ hd]⟩) ?_ ?_ (fun e => ?_)
  · rw [m3, up2_n _ _ (by omega), up2_n _ _ (by omega)]; exact h.2.2.2.2.1
  · rw [up2_n _ _ (by omega), up2_n _ _ (by omega)]
  · rw [up2_q _ _ (by omega), up2_q _ _ (by omega)]
  · rw [up2_s]; exact m5
  · rw [m8, up2_n _ _ (by omega), up2_n _ _ (by omega)]; exact (h.2.2.1 c hc).2.1
  · rw [up2_s] at e; exact absurd e hv
theorem ab_ev {M M' β : Me} {c : Nat} (hc : c < 10) (h : AbR0 M β) (hE : EvaP M c (tyI β c) (evR β c) none M') : AbR0 M' (if (evR β c).1 = 0 then up2 (up2 (up2 (up2 (up2 (up2 β 4 c 0) 5 c 14) 6 c (evR β c).2.1) 7 c (tyI β c)) 8 c (β 8 c + 1)) 0 1 (β 0 1 + nI (evR β c).2.2)
  else up2 (up2 (up2 (up2 β 4 c 0) 5 c (evR β c).1) 8 c (β 8 c + 1)) 0 1 (β 0 1 + nI (evR β c).2.2)) := by
  obtain ⟨-, m1, m2, m3, m4, m5, m6, m7, m8⟩ := hE
  by_cases he : (evR β c).1 = 0
  · rw [if_pos he] at m5 ⊢
    have hs := ((((((same_up β (i := 4) c 0 (by omega)).tr (same_up _ (i := 5) c 14 (by omega))).tr (same_up _ (i := 6) c (evR β c).2.1 (by omega))).tr (same_up _ (i := 7) c (tyI β c) (by omega))).tr (same_up _ (i := 8) c (β 8 c + 1) (by omega))).tr (same_up _ (i := 0) 1 (β 0 1 + nI (evR β c).2.2) (by omega)))
    refine ab_res hc h hs (fun i a b => m1 i a (by omega)) m2 ?_ ?_ ?_ m4 (fun d hd => ?_) ?_ ?_ (fun e => ?_)
    · rw [m3, up2_s, h.2.2.2.2.1]
    · simp only [up2_if]; simp
    · funext k; simp only [up2_if]; simp
    · refine ⟨?_, ?_, ?_, ?_⟩ <;> (simp only [up2_if]; simp [hd])
    · rw [m5]; simp only [up2_if]; simp
    · rw [m8, (h.2.2.1 c hc).2.1]; simp only [up2_if]; simp
    · refine ⟨?_, ?_⟩
      · rw [m6 he]; simp only [up2_if]; simp
      · rw [m7]; simp only [up2_if]; simp
  · rw [if_neg he] at m5 ⊢
    have hs := ((((same_up β (i := 4) c 0 (by omega)).tr (same_up _ (i := 5) c (evR β c).1 (by omega))).tr (same_up _ (i := 8) c (β 8 c + 1) (by omega))).tr (same_up _ (i := 0) 1 (β 0 1 + nI (evR β c).2.2) (by omega)))
    refine ab_res hc h hs (fun i a b => m1 i a (by omega)) m2 ?_ ?_ ?_ m4 (fun d hd => ?_) ?_ ?_ (fun e => ?_)
    · rw [m3, up2_s, h.2.2.2.2.1]
    · simp only [up2_if]; simp
    · funext k; simp only [up2_if]; simp
    · refine ⟨?_, ?_, ?_, ?_⟩ <;> (simp only [up2_if]; simp [hd])
    · rw [m5]; simp only [up2_if]; simp
    · rw [m8, (h.2.2.1 c hc).2.1]; simp only [up2_if]; simp
    · simp only [up2_if] at e; simp at e; exact absurd e (ev_ne14 β c)
theorem ab_ty {M M' β : Me} (h : AbR0 M β) (t1 : ∀ i, i ≠ 0 → i ≠ 16 → M' i = M i) (t2 : ∀ k, k ≠ 20 → M' 0 k = M 0 k) : AbR0 M' β := by
  obtain ⟨hT, hE, hR, hC⟩ := h
  refine ⟨hT.rows (fun i hi => t1 i (by omega) (by omega)), fun d hd hw => ?_, hR.rows (fun i a b => t1 i (by omega) (by omega)), ?_⟩
  · rw [t1 5 (by omega) (by omega), t1 6 (by omega) (by omega)]; exact hE d hd hw
  · exact ⟨(t2 1 (by omega)).trans hC.1, (t2 14 (by omega)).trans hC.2.1, fun k hk => by rw [t1 1 (by omega) (by omega)]; exact hC.2.2.1 k hk, hC.2.2.2⟩
set_option maxHeartbeats 4000000 in
theorem m_Mo_workOut (l : Launch) (g : Gd) (hI : sI (sR g)) (M : Me) {β : Me} {c : Nat} (hc : c < 10) (hA : AbR0 M β) (hIv : Iv β) (hr : rdB β c = true) (hft : ftI β c = 0) : CR l g y_Mo_workOut c_Mo_workOut 5 none 6 [.ref (ga g 0), .int (nI c)] M (fun r M' => r = none ∧ AbR0 M' (wkβ β c) ∧ M' 9 = M 9) := by
  refine Ct.of hI (sR_N0 g) rfl (Nat.le_of_ble_eq_true rfl) (fun K h0 hC hR hkl hn => ?_)
  have hC : Cx (sR g) K gC_Mo _ := hC
  show V K (wp (sR g)) M 0 [(0, .ref (ga g 0)), (1, .int (nI c))] []
  obtain ⟨hT, hTe, hR9, hCo⟩ := hA
  have hA : AbR0 M β := ⟨hT, hTe, hR9, hCo⟩
  have hw := (ft_0 hft).1
  have ht := wl_th hw
  have hN := hIv.1.1
  have loop : ∀ (t i : Nat), i + t = 10 → V K (wp (sR g)) M 4 [(3, .int (nI i)), (2, .int (bI (bkU β c i))), (0, .ref (ga g 0)), (1, .int (nI c))] [] := by
    intro t
    induction t with
    | zero =>
      intro i hi
      obtain rfl : i = 10 := by omega
      refine v_iload_n h0 d_Mo_workOut_4 0 rfl ?_
      refine v_bipush h0 d_Mo_workOut_5 (v := nI 10) (by decide) ?_
      refine n_icmp_ge h0 (by omega) (by omega) d_Mo_workOut_7 rfl (fun h7 => ?_) (fun h7 => absurd h7 (by omega))
      refine v_iload_n h0 d_Mo_workOut_48 1 rfl ?_
      refine b_if_eq h0 d_Mo_workOut_49 rfl (fun h49 => ?_) (fun h49 => ?_)
      · skip
        refine v_aload_n h0 d_Mo_workOut_60 2 rfl ?_
        refine v_iload_n h0 d_Mo_workOut_61 3 rfl ?_
        refine v_callV h0 hC (sR_N0 g) 0 (show 0 < 22 by omega) (show enR g 0 _ = _ from rfl) rfl (av := [.int (nI c)]) (rest := []) (m_Mo_typeOf (kl K) g hI M hc hT hR9 hft (hIv.1.2.2.1 c hc ht) (hTe c hc hw).2) wd_647 wd_644 wd_646 ws_47 wd_6 hd_Mo_typeOf (by omega) (by decide) rfl rfl (Nat.le_of_ble_eq_true rfl) d_Mo_workOut_62 (fun r9 N1 hp9 => ?_)
        obtain ⟨rfl, t1, t2⟩ := hp9
        refine v_r1 ?_
        have hT1 : TxR N1 β := hT.rows (fun i hi => t1 i (by omega) (by omega))
        have hbk : bkB β c = false := h49
        have hg : ∀ d, d < 10 → d ≠ c → ndB β c d = true → gdB β d = true := fun d hd hne hn => rd_gd hIv.1 hc hr hft hbk hd hne hn
        refine v_istore_n h0 d_Mo_workOut_65 (lv' := [(3, .int (tyI β c)), (2, .int (bI (bkU β c 10))), (0, .ref (ga g 0)), (1, .int (nI c))]) (lt_kn hn (by decide)) rfl ?_
        refine v_aload_n h0 d_Mo_workOut_66 2 rfl ?_
        refine v_iload_n h0 d_Mo_workOut_67 3 rfl ?_
        refine v_callV h0 hC (sR_N0 g) 0 (show 0 < 22 by omega) (show enR g 0 _ = _ from rfl) rfl (av := [.int (nI c)]) (rest := []) (m_Mo_isFunction (kl K) g hI N1 hc hT1) wd_592 wd_589 wd_591 ws_36 wd_6 hd_Mo_isFunction (by omega) (by decide) rfl rfl (Nat.le_of_ble_eq_true rfl) d_Mo_workOut_68 (fun r9 M9 hp9 => ?_)
        obtain ⟨rfl, rfl⟩ := hp9
        refine v_r1 ?_
        refine v_istore h0 d_Mo_workOut_71 (lv' := [(4, .int (bI (fnB β c))), (3, .int (tyI β c)), (2, .int (bI (bkU β c 10))), (0, .ref (ga g 0)), (1, .int (nI c))]) (lt_kn hn (by decide)) rfl ?_
        refine v_iload_n h0 d_Mo_workOut_73 1 rfl ?_
        refine v_if_eq h0 d_Mo_workOut_74 rfl (fun h74 => ?_) (fun h74 => ?_)
        · skip
          refine v_aload_n h0 d_Mo_workOut_87 3 rfl ?_
          refine g_Mo_result_ h0 hC wd_458 d_Mo_workOut_88 ?_
          refine v_iload_n h0 d_Mo_workOut_91 4 rfl ?_
          refine v_bipush h0 d_Mo_workOut_92 (v := 6) (by decide) ?_
          refine s_Mo_result_ h0 hC c (rfl) (z := 6) (rfl) (by omega) d_Mo_workOut_94 ?_
          refine v_goto h0 d_Mo_workOut_95 rfl ?_
          exact v_vret h0 hC hR d_Mo_workOut_120 (⟨rfl, by unfold wkβ; rw [if_neg (fun z => z hft), if_neg (show ¬ bkB β c = true by rw [show bkB β c = false from h49]; decide), if_pos (Or.inl h74)]; exact ab_one hc hA (by decide) ⟨fun i a b => (up2_q _ _ (by omega)).trans (t1 i (by omega) (by omega)), (up2_n _ _ (by omega)).trans (t2 _ (by omega)), (up2_n _ _ (by omega)).trans (t2 _ (by omega)), fun d hd => (up2_n _ _ (by omega)).trans (congrFun (t1 10 (by omega) (by omega)) d), up2_s _ _ _ _, (up2_q _ _ (by omega)).trans (t1 _ (by omega) (by omega)), (up2_q _ _ (by omega)).trans (t1 _ (by omega) (by omega)), (up2_q _ _ (by omega)).trans (t1 _ (by omega) (by omega))⟩, (up2_q _ _ (by omega)).trans (t1 9 (by omega) (by omega))⟩)
        · skip
          refine v_iload h0 d_Mo_workOut_77 0 rfl ?_
          refine b_if_eq h0 d_Mo_workOut_79 rfl (fun h79 => ?_) (fun h79 => ?_)
          · skip
            refine v_iload h0 d_Mo_workOut_98 0 rfl ?_
            refine b_if_eq h0 d_Mo_workOut_100 rfl (fun h100 => ?_) (fun h100 => absurd h100 (by rw [h79]; decide))
            refine v_aload_n h0 d_Mo_workOut_114 3 rfl ?_
            refine v_iload_n h0 d_Mo_workOut_115 4 rfl ?_
            refine v_iload_n h0 d_Mo_workOut_116 1 rfl ?_
            have hE1 : ECR N1 β := ⟨hT1, fun d hd e => by rw [t1 11 (by omega) (by omega)]; exact ((hR9 d hd).2.2 e).1, fun d hd e => by unfold edR; rw [t1 5 (by omega) (by omega)]; exact (hTe d hd e).1⟩
            refine v_callV h0 hC (sR_N0 g) 0 (show 0 < 22 by omega) (show enR g 0 _ = _ from rfl) rfl (av := [.int (nI c), .int (tyI β c)]) (rest := []) (m_Mo_evaluate (kl K) g hI N1 (tyI β c) hc hIv hE1 hw h79 (by rw [ty_E hc hft hg (fun z => by rw [h79] at z; cases z)]; exact h74)) wd_675 wd_672 wd_674 ws_54 wd_6 hd_Mo_evaluate (by omega) (by decide) rfl rfl (Nat.le_of_ble_eq_true rfl) d_Mo_workOut_117 (fun r9 N2 hp9 => ?_)
            obtain ⟨rfl, hV2⟩ := hp9
            have hV : EvaP N1 c (tyI β c) (evR β c) none N2 := ⟨rfl, hV2⟩
            refine v_r0 ?_
            exact v_vret h0 hC hR d_Mo_workOut_120 (⟨rfl, by unfold wkβ; rw [if_neg (fun z => z hft), if_neg (show ¬ bkB β c = true by rw [show bkB β c = false from h49]; decide), if_neg (fun z => z.elim h74 (fun y => by rw [h79] at y; cases y.1)), if_neg (by rw [h79]; decide)]; exact ab_ev hc (ab_ty hA t1 t2) hV, (hV2.1 9 (by omega) (by omega)).trans (t1 9 (by omega) (by omega))⟩)
          · skip
            refine v_iload_n h0 d_Mo_workOut_82 1 rfl ?_
            refine v_iconst h0 d_Mo_workOut_83 (v := 1) (by decide) ?_
            refine v_icmp_eq h0 d_Mo_workOut_84 rfl (fun h84 => ?_) (fun h84 => ?_)
            · skip
              refine v_iload h0 d_Mo_workOut_98 0 rfl ?_
              refine b_if_eq h0 d_Mo_workOut_100 rfl (fun h100 => absurd h100 (by rw [h79]; decide)) (fun h100 => ?_)
              refine v_aload_n h0 d_Mo_workOut_103 3 rfl ?_
              refine g_Mo_result_ h0 hC wd_458 d_Mo_workOut_104 ?_
              refine v_iload_n h0 d_Mo_workOut_107 4 rfl ?_
              refine v_bipush h0 d_Mo_workOut_108 (v := 13) (by decide) ?_
              refine s_Mo_result_ h0 hC c (rfl) (z := 13) (rfl) (by omega) d_Mo_workOut_110 ?_
              refine v_goto h0 d_Mo_workOut_111 rfl ?_
              exact v_vret h0 hC hR d_Mo_workOut_120 (⟨rfl, by unfold wkβ; rw [if_neg (fun z => z hft), if_neg (show ¬ bkB β c = true by rw [show bkB β c = false from h49]; decide), if_neg (fun z => z.elim h74 (fun y => y.2 h84)), if_pos h79]; exact ab_one hc hA (by decide) ⟨fun i a b => (up2_q _ _ (by omega)).trans (t1 i (by omega) (by omega)), (up2_n _ _ (by omega)).trans (t2 _ (by omega)), (up2_n _ _ (by omega)).trans (t2 _ (by omega)), fun d hd => (up2_n _ _ (by omega)).trans (congrFun (t1 10 (by omega) (by omega)) d), up2_s _ _ _ _, (up2_q _ _ (by omega)).trans (t1 _ (by omega) (by omega)), (up2_q _ _ (by omega)).trans (t1 _ (by omega) (by omega)), (up2_q _ _ (by omega)).trans (t1 _ (by omega) (by omega))⟩, (up2_q _ _ (by omega)).trans (t1 9 (by omega) (by omega))⟩)
            · skip
              refine v_aload_n h0 d_Mo_workOut_87 3 rfl ?_
              refine g_Mo_result_ h0 hC wd_458 d_Mo_workOut_88 ?_
              refine v_iload_n h0 d_Mo_workOut_91 4 rfl ?_
              refine v_bipush h0 d_Mo_workOut_92 (v := 6) (by decide) ?_
              refine s_Mo_result_ h0 hC c (rfl) (z := 6) (rfl) (by omega) d_Mo_workOut_94 ?_
              refine v_goto h0 d_Mo_workOut_95 rfl ?_
              exact v_vret h0 hC hR d_Mo_workOut_120 (⟨rfl, by unfold wkβ; rw [if_neg (fun z => z hft), if_neg (show ¬ bkB β c = true by rw [show bkB β c = false from h49]; decide), if_pos (Or.inr ⟨h79, h84⟩)]; exact ab_one hc hA (by decide) ⟨fun i a b => (up2_q _ _ (by omega)).trans (t1 i (by omega) (by omega)), (up2_n _ _ (by omega)).trans (t2 _ (by omega)), (up2_n _ _ (by omega)).trans (t2 _ (by omega)), fun d hd => (up2_n _ _ (by omega)).trans (congrFun (t1 10 (by omega) (by omega)) d), up2_s _ _ _ _, (up2_q _ _ (by omega)).trans (t1 _ (by omega) (by omega)), (up2_q _ _ (by omega)).trans (t1 _ (by omega) (by omega)), (up2_q _ _ (by omega)).trans (t1 _ (by omega) (by omega))⟩, (up2_q _ _ (by omega)).trans (t1 9 (by omega) (by omega))⟩)
      · skip
        refine v_aload_n h0 d_Mo_workOut_52 2 rfl ?_
        refine g_Mo_result_ h0 hC wd_458 d_Mo_workOut_53 ?_
        refine v_iload_n h0 d_Mo_workOut_56 3 rfl ?_
        refine v_iconst h0 d_Mo_workOut_57 (v := 5) (by decide) ?_
        refine s_Mo_result_ h0 hC c (rfl) (z := 5) (rfl) (by omega) d_Mo_workOut_58 ?_
        exact v_vret h0 hC hR d_Mo_workOut_59 (⟨rfl, by unfold wkβ; rw [if_neg (fun z => z hft), if_pos (show bkB β c = true from h49)]; exact ab_one hc hA (by decide) ⟨fun i a b => up2_q _ _ (by omega), up2_n _ _ (by omega), up2_n _ _ (by omega), fun d hd => up2_n _ _ (by omega), up2_s _ _ _ _, up2_q _ _ (by omega), up2_q _ _ (by omega), up2_q _ _ (by omega)⟩, up2_q _ _ (by omega)⟩)
    | succ t ih =>
      intro i hi
      refine v_iload_n h0 d_Mo_workOut_4 0 rfl ?_
      refine v_bipush h0 d_Mo_workOut_5 (v := nI 10) (by decide) ?_
      refine n_icmp_ge h0 (by omega) (by omega) d_Mo_workOut_7 rfl (fun h7 => absurd h7 (by omega)) (fun h7 => ?_)
      refine v_iload_n h0 d_Mo_workOut_10 1 rfl ?_
      refine b_if_ne h0 d_Mo_workOut_11 rfl (fun h11 => ?_) (fun h11 => ?_)
      · skip
        refine v_iconst h0 d_Mo_workOut_36 (v := nI 1) (by decide) ?_
        refine v_goto h0 d_Mo_workOut_37 rfl ?_
        refine v_istore_n h0 d_Mo_workOut_41 (lv' := [(2, .int (nI 1)), (3, .int (nI i)), (0, .ref (ga g 0)), (1, .int (nI c))]) (lt_kn hn (by decide)) rfl ?_
        refine v_iinc h0 d_Mo_workOut_42 (lv' := [(3, .int (nI (i + 1))), (2, .int (nI 1)), (0, .ref (ga g 0)), (1, .int (nI c))]) 1 rfl (inc1 i) (lt_kn hn (by decide)) rfl ?_
        refine v_goto h0 d_Mo_workOut_45 rfl ?_
        refine v_eq (ih (i + 1) (by omega)) rfl rfl (by rw [bkU_s, h11, Bool.true_or]; rfl) rfl
      · skip
        refine v_iload_n h0 d_Mo_workOut_14 0 rfl ?_
        refine v_iload_n h0 d_Mo_workOut_15 3 rfl ?_
        refine n_icmp_eq h0 (by omega) (by omega) d_Mo_workOut_16 rfl (fun h16 => ?_) (fun h16 => ?_)
        · skip
          refine v_iconst h0 d_Mo_workOut_40 (v := nI 0) (by decide) ?_
          refine v_istore_n h0 d_Mo_workOut_41 (lv' := [(2, .int (nI 0)), (3, .int (nI i)), (0, .ref (ga g 0)), (1, .int (nI c))]) (lt_kn hn (by decide)) rfl ?_
          refine v_iinc h0 d_Mo_workOut_42 (lv' := [(3, .int (nI (i + 1))), (2, .int (nI 0)), (0, .ref (ga g 0)), (1, .int (nI c))]) 1 rfl (inc1 i) (lt_kn hn (by decide)) rfl ?_
          refine v_goto h0 d_Mo_workOut_45 rfl ?_
          refine v_eq (ih (i + 1) (by omega)) rfl rfl (by rw [bkU_s, h11, decide_eq_false (by omega : ¬ i ≠ c), Bool.false_and, Bool.or_self]; rfl) rfl
        · skip
          refine v_aload_n h0 d_Mo_workOut_19 2 rfl ?_
          refine v_iload_n h0 d_Mo_workOut_20 3 rfl ?_
          refine v_iload_n h0 d_Mo_workOut_21 0 rfl ?_
          refine v_callV h0 hC (sR_N0 g) 0 (show 0 < 22 by omega) (show enR g 0 _ = _ from rfl) rfl (av := [.int (nI c), .int (nI i)]) (rest := []) (m_Mo_needs (kl K) g hI M hc (by omega) hT hN) wd_607 wd_604 wd_606 ws_39 wd_6 hd_Mo_needs (by omega) (by decide) rfl rfl (Nat.le_of_ble_eq_true rfl) d_Mo_workOut_22 (fun r9 M9 hp9 => ?_)
          obtain ⟨rfl, rfl⟩ := hp9
          refine v_r1 ?_
          refine b_if_eq h0 d_Mo_workOut_25 rfl (fun h25 => ?_) (fun h25 => ?_)
          · skip
            refine v_iconst h0 d_Mo_workOut_40 (v := nI 0) (by decide) ?_
            refine v_istore_n h0 d_Mo_workOut_41 (lv' := [(2, .int (nI 0)), (3, .int (nI i)), (0, .ref (ga g 0)), (1, .int (nI c))]) (lt_kn hn (by decide)) rfl ?_
            refine v_iinc h0 d_Mo_workOut_42 (lv' := [(3, .int (nI (i + 1))), (2, .int (nI 0)), (0, .ref (ga g 0)), (1, .int (nI c))]) 1 rfl (inc1 i) (lt_kn hn (by decide)) rfl ?_
            refine v_goto h0 d_Mo_workOut_45 rfl ?_
            refine v_eq (ih (i + 1) (by omega)) rfl rfl (by rw [bkU_s, h11, h25, Bool.false_and, Bool.and_false, Bool.or_self]; rfl) rfl
          · skip
            refine v_aload_n h0 d_Mo_workOut_28 2 rfl ?_
            refine v_iload_n h0 d_Mo_workOut_29 0 rfl ?_
            refine v_callV h0 hC (sR_N0 g) 0 (show 0 < 22 by omega) (show enR g 0 _ = _ from rfl) rfl (av := [.int (nI i)]) (rest := []) (m_Mo_blocks (kl K) g hI M (by omega) hT hN hR9) wd_643 wd_640 wd_642 ws_46 wd_6 hd_Mo_blocks (by omega) (by decide) rfl rfl (Nat.le_of_ble_eq_true rfl) d_Mo_workOut_30 (fun r9 M9 hp9 => ?_)
            obtain ⟨rfl, rfl⟩ := hp9
            refine v_r1 ?_
            refine b_if_eq h0 d_Mo_workOut_33 rfl (fun h33 => ?_) (fun h33 => ?_)
            · skip
              refine v_iconst h0 d_Mo_workOut_40 (v := nI 0) (by decide) ?_
              refine v_istore_n h0 d_Mo_workOut_41 (lv' := [(2, .int (nI 0)), (3, .int (nI i)), (0, .ref (ga g 0)), (1, .int (nI c))]) (lt_kn hn (by decide)) rfl ?_
              refine v_iinc h0 d_Mo_workOut_42 (lv' := [(3, .int (nI (i + 1))), (2, .int (nI 0)), (0, .ref (ga g 0)), (1, .int (nI c))]) 1 rfl (inc1 i) (lt_kn hn (by decide)) rfl ?_
              refine v_goto h0 d_Mo_workOut_45 rfl ?_
              refine v_eq (ih (i + 1) (by omega)) rfl rfl (by rw [bkU_s, h11, h33, Bool.and_false, Bool.and_false, Bool.or_self]; rfl) rfl
            · skip
              refine v_iconst h0 d_Mo_workOut_36 (v := nI 1) (by decide) ?_
              refine v_goto h0 d_Mo_workOut_37 rfl ?_
              refine v_istore_n h0 d_Mo_workOut_41 (lv' := [(2, .int (nI 1)), (3, .int (nI i)), (0, .ref (ga g 0)), (1, .int (nI c))]) (lt_kn hn (by decide)) rfl ?_
              refine v_iinc h0 d_Mo_workOut_42 (lv' := [(3, .int (nI (i + 1))), (2, .int (nI 1)), (0, .ref (ga g 0)), (1, .int (nI c))]) 1 rfl (inc1 i) (lt_kn hn (by decide)) rfl ?_
              refine v_goto h0 d_Mo_workOut_45 rfl ?_
              refine v_eq (ih (i + 1) (by omega)) rfl rfl (by rw [bkU_s, h25, h33, decide_eq_true h16, Bool.and_self, Bool.and_self, Bool.or_true]; rfl) rfl
  refine v_iconst h0 d_Mo_workOut_0 (v := nI 0) (by decide) ?_
  refine v_istore_n h0 d_Mo_workOut_1 (lv' := [(2, .int (nI 0)), (0, .ref (ga g 0)), (1, .int (nI c))]) (lt_kn hn (by decide)) rfl ?_
  refine v_iconst h0 d_Mo_workOut_2 (v := nI 0) (by decide) ?_
  refine v_istore_n h0 d_Mo_workOut_3 (lv' := [(3, .int (nI 0)), (2, .int (nI 0)), (0, .ref (ga g 0)), (1, .int (nI c))]) (lt_kn hn (by decide)) rfl ?_
  exact loop 10 0 rfl
set_option maxHeartbeats 4000000 in
theorem m_Mo_isReady (l : Launch) (g : Gd) (hI : sI (sR g)) (M : Me) {β : Me} {c : Nat} (hc : c < 10) (hT : TxR M β) (hSt : StR M β) (hIv : Iv β) : CR l g y_Mo_isReady c_Mo_isReady 4 (some .boolean) 5 [.ref (ga g 0), .int (nI c)] M (fun r M' => r = some (.int (bI (rdB β c))) ∧ M = M') := by
  refine Ct.of hI (sR_N0 g) rfl (Nat.le_of_ble_eq_true rfl) (fun K h0 hC hR hkl hn => ?_)
  have hC : Cx (sR g) K gC_Mo _ := hC
  show V K (wp (sR g)) M 0 [(0, .ref (ga g 0)), (1, .int (nI c))] []
  have hN := hIv.1.1
  have loop : thB β c = true → β 4 c = 1 → ftI β c = 0 → ∀ (t i : Nat), i + t = 10 → V K (wp (sR g)) M 33 [(3, .int (nI i)), (2, .int (bI (wsU β c i))), (0, .ref (ga g 0)), (1, .int (nI c))] [] := by
    intro ht h4 hf t
    induction t with
    | zero =>
      intro i hi
      obtain rfl : i = 10 := by omega
      refine v_iload_n h0 d_Mo_isReady_33 0 rfl ?_
      refine v_bipush h0 d_Mo_isReady_34 (v := nI 10) (by decide) ?_
      refine n_icmp_ge h0 (by omega) (by omega) d_Mo_isReady_36 rfl (fun h36 => ?_) (fun h36 => absurd h36 (by omega))
      refine v_iload_n h0 d_Mo_isReady_78 1 rfl ?_
      refine b_if_ne h0 d_Mo_isReady_79 rfl (fun h79 => ?_) (fun h79 => ?_)
      · skip
        refine v_iconst h0 d_Mo_isReady_86 (v := nI 0) (by decide) ?_
        exact v_zret h0 hC hR (rfl) d_Mo_isReady_87 (⟨ret_f (by unfold rdB; rw [ht, decide_eq_true h4, decide_eq_false (fun z => z hf), show ((List.range 10).any fun d => decide (d ≠ c) && (ndB β c d && decide (β 4 d = 1))) = true from h79]; rfl), rfl⟩)
      · skip
        refine v_iconst h0 d_Mo_isReady_82 (v := nI 1) (by decide) ?_
        refine v_goto h0 d_Mo_isReady_83 rfl ?_
        exact v_zret h0 hC hR (rfl) d_Mo_isReady_87 (⟨ret_t (by unfold rdB; rw [ht, decide_eq_true h4, decide_eq_false (fun z => z hf), show ((List.range 10).any fun d => decide (d ≠ c) && (ndB β c d && decide (β 4 d = 1))) = false from h79]; rfl), rfl⟩)
    | succ t ih =>
      intro i hi
      refine v_iload_n h0 d_Mo_isReady_33 0 rfl ?_
      refine v_bipush h0 d_Mo_isReady_34 (v := nI 10) (by decide) ?_
      refine n_icmp_ge h0 (by omega) (by omega) d_Mo_isReady_36 rfl (fun h36 => absurd h36 (by omega)) (fun h36 => ?_)
      refine v_iload_n h0 d_Mo_isReady_39 1 rfl ?_
      refine b_if_ne h0 d_Mo_isReady_40 rfl (fun h40 => ?_) (fun h40 => ?_)
      · skip
        refine v_iconst h0 d_Mo_isReady_66 (v := nI 1) (by decide) ?_
        refine v_goto h0 d_Mo_isReady_67 rfl ?_
        refine v_istore_n h0 d_Mo_isReady_71 (lv' := [(2, .int (nI 1)), (3, .int (nI i)), (0, .ref (ga g 0)), (1, .int (nI c))]) (lt_kn hn (by decide)) rfl ?_
        refine v_iinc h0 d_Mo_isReady_72 (lv' := [(3, .int (nI (i + 1))), (2, .int (nI 1)), (0, .ref (ga g 0)), (1, .int (nI c))]) 1 rfl (inc1 i) (lt_kn hn (by decide)) rfl ?_
        refine v_goto h0 d_Mo_isReady_75 rfl ?_
        refine v_eq (ih (i + 1) (by omega)) rfl rfl (by rw [wsU_s, h40, Bool.true_or]; rfl) rfl
      · skip
        refine v_iload_n h0 d_Mo_isReady_43 0 rfl ?_
        refine v_iload_n h0 d_Mo_isReady_44 3 rfl ?_
        refine n_icmp_eq h0 (by omega) (by omega) d_Mo_isReady_45 rfl (fun h45 => ?_) (fun h45 => ?_)
        · skip
          refine v_iconst h0 d_Mo_isReady_70 (v := nI 0) (by decide) ?_
          refine v_istore_n h0 d_Mo_isReady_71 (lv' := [(2, .int (nI 0)), (3, .int (nI i)), (0, .ref (ga g 0)), (1, .int (nI c))]) (lt_kn hn (by decide)) rfl ?_
          refine v_iinc h0 d_Mo_isReady_72 (lv' := [(3, .int (nI (i + 1))), (2, .int (nI 0)), (0, .ref (ga g 0)), (1, .int (nI c))]) 1 rfl (inc1 i) (lt_kn hn (by decide)) rfl ?_
          refine v_goto h0 d_Mo_isReady_75 rfl ?_
          refine v_eq (ih (i + 1) (by omega)) rfl rfl (by rw [wsU_s, h40, decide_eq_false (by omega : ¬ i ≠ c), Bool.false_and, Bool.or_self]; rfl) rfl
        · skip
          refine v_aload_n h0 d_Mo_isReady_48 2 rfl ?_
          refine v_iload_n h0 d_Mo_isReady_49 3 rfl ?_
          refine v_iload_n h0 d_Mo_isReady_50 0 rfl ?_
          refine v_callV h0 hC (sR_N0 g) 0 (show 0 < 22 by omega) (show enR g 0 _ = _ from rfl) rfl (av := [.int (nI c), .int (nI i)]) (rest := []) (m_Mo_needs (kl K) g hI M hc (by omega) hT hN) wd_607 wd_604 wd_606 ws_39 wd_6 hd_Mo_needs (by omega) (by decide) rfl rfl (Nat.le_of_ble_eq_true rfl) d_Mo_isReady_51 (fun r9 M9 hp9 => ?_)
          obtain ⟨rfl, rfl⟩ := hp9
          refine v_r1 ?_
          refine b_if_eq h0 d_Mo_isReady_54 rfl (fun h54 => ?_) (fun h54 => ?_)
          · skip
            refine v_iconst h0 d_Mo_isReady_70 (v := nI 0) (by decide) ?_
            refine v_istore_n h0 d_Mo_isReady_71 (lv' := [(2, .int (nI 0)), (3, .int (nI i)), (0, .ref (ga g 0)), (1, .int (nI c))]) (lt_kn hn (by decide)) rfl ?_
            refine v_iinc h0 d_Mo_isReady_72 (lv' := [(3, .int (nI (i + 1))), (2, .int (nI 0)), (0, .ref (ga g 0)), (1, .int (nI c))]) 1 rfl (inc1 i) (lt_kn hn (by decide)) rfl ?_
            refine v_goto h0 d_Mo_isReady_75 rfl ?_
            refine v_eq (ih (i + 1) (by omega)) rfl rfl (by rw [wsU_s, h40, h54, Bool.false_and, Bool.and_false, Bool.or_self]; rfl) rfl
          · skip
            refine v_aload_n h0 d_Mo_isReady_57 2 rfl ?_
            refine g_Mo_stale_ h0 hC wd_457 d_Mo_isReady_58 ?_
            refine v_iload_n h0 d_Mo_isReady_61 0 rfl ?_
            refine a_Mo_stale_ h0 hC i (rfl) (by omega) d_Mo_isReady_62 ?_
            refine v_int (β 4 i) (hSt i (by omega)) ?_
            refine v_if_eq h0 d_Mo_isReady_63 rfl (fun h63 => ?_) (fun h63 => ?_)
            · skip
              refine v_iconst h0 d_Mo_isReady_70 (v := nI 0) (by decide) ?_
              refine v_istore_n h0 d_Mo_isReady_71 (lv' := [(2, .int (nI 0)), (3, .int (nI i)), (0, .ref (ga g 0)), (1, .int (nI c))]) (lt_kn hn (by decide)) rfl ?_
              refine v_iinc h0 d_Mo_isReady_72 (lv' := [(3, .int (nI (i + 1))), (2, .int (nI 0)), (0, .ref (ga g 0)), (1, .int (nI c))]) 1 rfl (inc1 i) (lt_kn hn (by decide)) rfl ?_
              refine v_goto h0 d_Mo_isReady_75 rfl ?_
              refine v_eq (ih (i + 1) (by omega)) rfl rfl (by rw [wsU_s, h40, decide_eq_false (by rw [h63]; decide : ¬ β 4 i = 1), Bool.and_false, Bool.and_false, Bool.or_self]; rfl) rfl
            · skip
              refine v_iconst h0 d_Mo_isReady_66 (v := nI 1) (by decide) ?_
              refine v_goto h0 d_Mo_isReady_67 rfl ?_
              refine v_istore_n h0 d_Mo_isReady_71 (lv' := [(2, .int (nI 1)), (3, .int (nI i)), (0, .ref (ga g 0)), (1, .int (nI c))]) (lt_kn hn (by decide)) rfl ?_
              refine v_iinc h0 d_Mo_isReady_72 (lv' := [(3, .int (nI (i + 1))), (2, .int (nI 1)), (0, .ref (ga g 0)), (1, .int (nI c))]) 1 rfl (inc1 i) (lt_kn hn (by decide)) rfl ?_
              refine v_goto h0 d_Mo_isReady_75 rfl ?_
              refine v_eq (ih (i + 1) (by omega)) rfl rfl (by rw [wsU_s, h54, decide_eq_true ((hIv.1.2.2.2.1 i (by omega)).resolve_left h63), decide_eq_true h45, Bool.and_self, Bool.and_self, Bool.or_true]; rfl) rfl
  refine v_aload_n h0 d_Mo_isReady_0 0 rfl ?_
  refine v_iload_n h0 d_Mo_isReady_1 1 rfl ?_
  refine v_callV h0 hC (sR_N0 g) 0 (show 0 < 22 by omega) (show enR g 0 _ = _ from rfl) rfl (av := [.int (nI c)]) (rest := []) (m_Mo_isThere (kl K) g hI M hc (hT c hc).1) wd_603 wd_600 wd_602 ws_38 wd_6 hd_Mo_isThere (by omega) (by decide) rfl rfl (Nat.le_of_ble_eq_true rfl) d_Mo_isReady_2 (fun r9 M9 hp9 => ?_)
  obtain ⟨rfl, rfl⟩ := hp9
  refine v_r1 ?_
  refine b_if_eq h0 d_Mo_isReady_5 rfl (fun h5 => ?_) (fun h5 => ?_)
  · skip
    refine v_iconst h0 d_Mo_isReady_17 (v := nI 0) (by decide) ?_
    exact v_zret h0 hC hR (rfl) d_Mo_isReady_18 (⟨ret_f (by unfold rdB; rw [h5]; rfl), rfl⟩)
  · skip
    refine v_aload_n h0 d_Mo_isReady_8 0 rfl ?_
    refine g_Mo_stale_ h0 hC wd_457 d_Mo_isReady_9 ?_
    refine v_iload_n h0 d_Mo_isReady_12 1 rfl ?_
    refine a_Mo_stale_ h0 hC c (rfl) (by omega) d_Mo_isReady_13 ?_
    refine v_int (β 4 c) (hSt c hc) ?_
    refine v_if_ne h0 d_Mo_isReady_14 rfl (fun h14 => ?_) (fun h14 => ?_)
    · skip
      refine v_aload_n h0 d_Mo_isReady_19 0 rfl ?_
      refine v_iload_n h0 d_Mo_isReady_20 1 rfl ?_
      refine v_callV h0 hC (sR_N0 g) 0 (show 0 < 22 by omega) (show enR g 0 _ = _ from rfl) rfl (av := [.int (nI c)]) (rest := []) (m_Mo_fault (kl K) g hI M hc hT hN) wd_627 wd_624 wd_626 ws_42 wd_6 hd_Mo_fault (by omega) (by decide) rfl rfl (Nat.le_of_ble_eq_true rfl) d_Mo_isReady_21 (fun r9 M9 hp9 => ?_)
      obtain ⟨rfl, rfl⟩ := hp9
      refine v_r1 ?_
      refine v_if_eq h0 d_Mo_isReady_24 rfl (fun h24 => ?_) (fun h24 => ?_)
      · skip
        refine v_iconst h0 d_Mo_isReady_29 (v := nI 0) (by decide) ?_
        refine v_istore_n h0 d_Mo_isReady_30 (lv' := [(2, .int (nI 0)), (0, .ref (ga g 0)), (1, .int (nI c))]) (lt_kn hn (by decide)) rfl ?_
        refine v_iconst h0 d_Mo_isReady_31 (v := nI 0) (by decide) ?_
        refine v_istore_n h0 d_Mo_isReady_32 (lv' := [(3, .int (nI 0)), (2, .int (nI 0)), (0, .ref (ga g 0)), (1, .int (nI c))]) (lt_kn hn (by decide)) rfl ?_
        exact loop h5 ((hIv.1.2.2.2.1 c hc).resolve_left h14) h24 10 0 rfl
      · skip
        refine v_iconst h0 d_Mo_isReady_27 (v := nI 1) (by decide) ?_
        exact v_zret h0 hC hR (rfl) d_Mo_isReady_28 (⟨ret_t (by unfold rdB; rw [h5, decide_eq_true ((hIv.1.2.2.2.1 c hc).resolve_left h14), decide_eq_true h24]; rfl), rfl⟩)
    · skip
      refine v_iconst h0 d_Mo_isReady_17 (v := nI 0) (by decide) ?_
      exact v_zret h0 hC hR (rfl) d_Mo_isReady_18 (⟨ret_f (by unfold rdB; rw [h5, decide_eq_false (by rw [h14]; decide : ¬ β 4 c = 1)]; rfl), rfl⟩)
theorem wk_4 (β : Me) (c : Nat) : ∀ d, wkβ β c 4 d = (up2 β 4 c 0) 4 d := by
  intro d
  unfold wkβ
  repeat' split
  all_goals (simp [up2_if])
theorem ab_st {M β : Me} {c : Nat} (v : Int32) (h : AbR0 M β) : AbR0 (up2 M 9 c v) β := by
  obtain ⟨hT, hE, hR, hC⟩ := h
  refine ⟨hT.rows (fun i hi => up2_q _ _ (by omega)), fun d hd hw => ?_, hR.rows (fun i a b => up2_q _ _ (by omega)), ?_⟩
  · rw [up2_q _ _ (by omega), up2_q _ _ (by omega)]; exact hE d hd hw
  · exact ⟨(up2_n _ _ (by omega)).trans hC.1, (up2_n _ _ (by omega)).trans hC.2.1, fun k hk => by rw [up2_n _ _ (by omega)]; exact hC.2.2.1 k hk, hC.2.2.2⟩
theorem ab_same {M β β' : Me} (h : AbR0 M β) (hs : SameT β β') (hb : ∀ i, 5 ≤ i → i ≤ 8 → β' i = β i) (h0 : β' 0 = β 0) (h1 : β' 1 = β 1) : AbR0 M β' := by
  obtain ⟨hT, hE, hR, hC⟩ := h
  refine ⟨fun d hd => ?_, fun d hd hw => ?_, fun d hd => ?_, ?_⟩
  · rw [hs.1, hs.2.1, hs.2.2, hs.wl, hs.us]; exact hT d hd
  · rw [hs.wl] at hw; rw [hs.2.2, hs.st]; exact hE d hd hw
  · rw [hb 5 (by omega) (by omega), hb 6 (by omega) (by omega), hb 7 (by omega) (by omega), hb 8 (by omega) (by omega)]; exact hR d hd
  · unfold CoR; rw [h0, h1]; exact hC
theorem st_wk {M β : Me} {c : Nat} (h : StR M β) : StR (up2 M 9 c 0) (wkβ β c) := by
  intro d hd
  rw [wk_4]
  by_cases z : d = c
  · subst z; rw [up2_s, up2_s]
  · rw [up2_n _ _ (by omega), up2_n _ _ (by omega)]; exact h d hd
set_option maxHeartbeats 4000000 in
theorem m_Mo_workOnce (l : Launch) (g : Gd) (hI : sI (sR g)) (M : Me) {β : Me} (hA : AbsR M β) (hIv : Iv β) : CR l g y_Mo_workOnce c_Mo_workOnce 2 (some .boolean) 7 [.ref (ga g 0)] M (fun r M' => (∃ c, c < 10 ∧ r = some (.int 1) ∧ nxt β 10 = c ∧ rdB β c = true ∧ AbsR M' (wkβ β c)) ∨ (r = some (.int 0) ∧ M = M' ∧ nxt β 10 = 10)) := by
  refine Ct.of hI (sR_N0 g) rfl (Nat.le_of_ble_eq_true rfl) (fun K h0 hC hR hkl hn => ?_)
  have hC : Cx (sR g) K gC_Mo _ := hC
  show V K (wp (sR g)) M 0 [(0, .ref (ga g 0))] []
  have loop : ∀ (t i : Nat), i + t = 10 → (∀ q, q < i → rdB β q = false) → V K (wp (sR g)) M 2 [(1, .int (nI i)), (0, .ref (ga g 0))] [] := by
    intro t
    induction t with
    | zero =>
      intro i hi hq
      obtain rfl : i = 10 := by omega
      refine v_iload_n h0 d_Mo_workOnce_2 0 rfl ?_
      refine v_bipush h0 d_Mo_workOnce_3 (v := nI 10) (by decide) ?_
      refine n_icmp_ge h0 (by omega) (by omega) d_Mo_workOnce_5 rfl (fun h5 => ?_) (fun h5 => absurd h5 (by omega))
      refine v_iload_n h0 d_Mo_workOnce_22 0 rfl ?_
      refine v_bipush h0 d_Mo_workOnce_23 (v := nI 10) (by decide) ?_
      refine n_icmp_ne h0 (by omega) (by omega) d_Mo_workOnce_25 rfl (fun h25 => absurd h25 (by omega)) (fun h25 => ?_)
      refine v_iconst h0 d_Mo_workOnce_28 (v := nI 0) (by decide) ?_
      exact v_zret h0 hC hR (rfl) d_Mo_workOnce_29 (Or.inr ⟨rfl, rfl, nxt_n hq 10⟩)
    | succ t ih =>
      intro i hi hq
      refine v_iload_n h0 d_Mo_workOnce_2 0 rfl ?_
      refine v_bipush h0 d_Mo_workOnce_3 (v := nI 10) (by decide) ?_
      refine n_icmp_ge h0 (by omega) (by omega) d_Mo_workOnce_5 rfl (fun h5 => absurd h5 (by omega)) (fun h5 => ?_)
      refine v_aload_n h0 d_Mo_workOnce_8 1 rfl ?_
      refine v_iload_n h0 d_Mo_workOnce_9 0 rfl ?_
      refine v_callV h0 hC (sR_N0 g) 0 (show 0 < 22 by omega) (show enR g 0 _ = _ from rfl) rfl (av := [.int (nI i)]) (rest := []) (m_Mo_isReady (kl K) g hI M (by omega) hA.1.1 hA.2 hIv) wd_623 wd_620 wd_622 ws_41 wd_6 hd_Mo_isReady (by omega) (by decide) rfl rfl (Nat.le_of_ble_eq_true rfl) d_Mo_workOnce_10 (fun r9 M9 hp9 => ?_)
      obtain ⟨rfl, rfl⟩ := hp9
      refine v_r1 ?_
      refine b_if_ne h0 d_Mo_workOnce_13 rfl (fun h13 => ?_) (fun h13 => ?_)
      · skip
        refine v_iload_n h0 d_Mo_workOnce_22 0 rfl ?_
        refine v_bipush h0 d_Mo_workOnce_23 (v := nI 10) (by decide) ?_
        refine n_icmp_ne h0 (by omega) (by omega) d_Mo_workOnce_25 rfl (fun h25 => ?_) (fun h25 => absurd h25 (by omega))
        refine v_aload_n h0 d_Mo_workOnce_30 1 rfl ?_
        refine g_Mo_stale_ h0 hC wd_457 d_Mo_workOnce_31 ?_
        refine v_iload_n h0 d_Mo_workOnce_34 0 rfl ?_
        refine v_iconst h0 d_Mo_workOnce_35 (v := nI 0) (by decide) ?_
        refine s_Mo_stale_ h0 hC i (rfl) (z := 0) (by decide) (by omega) d_Mo_workOnce_36 ?_
        refine v_aload_n h0 d_Mo_workOnce_37 1 rfl ?_
        refine v_iload_n h0 d_Mo_workOnce_38 0 rfl ?_
        refine v_callV h0 hC (sR_N0 g) 0 (show 0 < 22 by omega) (show enR g 0 _ = _ from rfl) rfl (av := [.int (nI i)]) (rest := []) (m_Mo_fault (kl K) g hI _ (by omega) (ab_st 0 hA.1).1 hIv.1.1) wd_627 wd_624 wd_626 ws_42 wd_6 hd_Mo_fault (by omega) (by decide) rfl rfl (Nat.le_of_ble_eq_true rfl) d_Mo_workOnce_39 (fun r9 M9 hp9 => ?_)
        obtain ⟨rfl, rfl⟩ := hp9
        refine v_r1 ?_
        refine v_if_ne h0 d_Mo_workOnce_42 rfl (fun h42 => ?_) (fun h42 => ?_)
        · skip
          refine v_iconst h0 d_Mo_workOnce_50 (v := nI 1) (by decide) ?_
          exact v_zret h0 hC hR (rfl) d_Mo_workOnce_51 (Or.inl ⟨i, by omega, rfl, nxt_c (by omega) h13 hq 10 (by omega) (by omega), h13, ⟨ab_same (ab_st 0 hA.1) (by unfold wkβ; rw [if_pos h42]; exact same_up β i 0 (by omega)) (fun j a b => by unfold wkβ; rw [if_pos h42]; exact up2_q _ _ (by omega)) (by unfold wkβ; rw [if_pos h42]; exact up2_q _ _ (by omega)) (by unfold wkβ; rw [if_pos h42]; exact up2_q _ _ (by omega)), st_wk hA.2⟩⟩)
        · skip
          refine v_aload_n h0 d_Mo_workOnce_45 1 rfl ?_
          refine v_iload_n h0 d_Mo_workOnce_46 0 rfl ?_
          refine v_callV h0 hC (sR_N0 g) 0 (show 0 < 22 by omega) (show enR g 0 _ = _ from rfl) rfl (av := [.int (nI i)]) (rest := []) (m_Mo_workOut (kl K) g hI _ (by omega) (ab_st 0 hA.1) hIv h13 h42) wd_639 wd_636 wd_638 ws_45 wd_6 hd_Mo_workOut (by omega) (by decide) rfl rfl (Nat.le_of_ble_eq_true rfl) d_Mo_workOnce_47 (fun r9 N1 hp9 => ?_)
          obtain ⟨rfl, hA1, h91⟩ := hp9
          refine v_r0 ?_
          refine v_iconst h0 d_Mo_workOnce_50 (v := nI 1) (by decide) ?_
          exact v_zret h0 hC hR (rfl) d_Mo_workOnce_51 (Or.inl ⟨i, by omega, rfl, nxt_c (by omega) h13 hq 10 (by omega) (by omega), h13, ⟨hA1, fun d hd => by rw [h91]; exact st_wk hA.2 d hd⟩⟩)
      · skip
        refine v_iinc h0 d_Mo_workOnce_16 (lv' := [(1, .int (nI (i + 1))), (0, .ref (ga g 0))]) 0 rfl (inc1 i) (lt_kn hn (by decide)) rfl ?_
        refine v_goto h0 d_Mo_workOnce_19 rfl ?_
        refine ih (i + 1) (by omega) (fun q hq2 => ?_)
        by_cases z : q = i
        · subst z; exact h13
        · exact hq q (by omega)
  refine v_iconst h0 d_Mo_workOnce_0 (v := nI 0) (by decide) ?_
  refine v_istore_n h0 d_Mo_workOnce_1 (lv' := [(1, .int (nI 0)), (0, .ref (ga g 0))]) (lt_kn hn (by decide)) rfl ?_
  exact loop 10 0 rfl (fun q hq => by omega)
set_option maxHeartbeats 4000000 in
theorem q_work (l : Launch) (g : Gd) (hI : sI (sR g)) (M : Me) {β : Me} (hA : AbsR M β) (hIv : Iv β) (y : Int32) : CR l g y_Mo_work c_Mo_work 3 (some .int) 8 [.ref (ga g 0), .int y] M (fun r M' => r = some (.int (opWk β y).1) ∧ AbsR M' (opWk β y).2) := by
  refine Ct.of hI (sR_N0 g) rfl (Nat.le_of_ble_eq_true rfl) (fun K h0 hC hR hkl hn => ?_)
  have hC : Cx (sR g) K gC_Mo _ := hC
  show V K (wp (sR g)) M 0 [(0, .ref (ga g 0)), (1, .int y)] []
  have loop : ∀ (n : Nat), n ≤ 20 → y = nI n → ∀ (t i : Nat) (M1 β1 : Me), i + t = n → AbsR M1 β1 → Iv β1 → (wkN n β).1 = i + (wkN t β1).1 → (wkN n β).2 = (wkN t β1).2 → V K (wp (sR g)) M1 14 [(2, .int (nI i)), (0, .ref (ga g 0)), (1, .int (nI n))] [] := by
    intro n hn20 hy t
    have hop : opWk β y = (nI (wkN n β).1, (wkN n β).2) := by unfold opWk; rw [hy, if_pos ⟨nI_pos' (by omega), (nI_leI (by omega) (by decide)).mpr hn20⟩, show cI (nI n) = n from nI_clamp (by omega)]
    induction t with
    | zero =>
      intro i M1 β1 hi h1 hI1 e1 e2
      refine v_iload_n h0 d_Mo_work_14 0 rfl ?_
      refine v_iload_n h0 d_Mo_work_15 2 rfl ?_
      refine n_icmp_ge h0 (by omega) (by omega) d_Mo_work_16 rfl (fun h16 => ?_) (fun h16 => absurd h16 (by omega))
      refine v_iload_n h0 d_Mo_work_32 0 rfl ?_
      exact v_iret h0 hC hR d_Mo_work_33 (by rw [hop, e1, e2]; exact ⟨by rw [show i + (wkN 0 β1).1 = i from rfl], h1⟩)
    | succ t ih =>
      intro i M1 β1 hi h1 hI1 e1 e2
      refine v_iload_n h0 d_Mo_work_14 0 rfl ?_
      refine v_iload_n h0 d_Mo_work_15 2 rfl ?_
      refine n_icmp_ge h0 (by omega) (by omega) d_Mo_work_16 rfl (fun h16 => absurd h16 (by omega)) (fun h16 => ?_)
      refine v_aload_n h0 d_Mo_work_19 1 rfl ?_
      refine v_callV h0 hC (sR_N0 g) 0 (show 0 < 22 by omega) (show enR g 0 _ = _ from rfl) rfl (av := []) (rest := []) (m_Mo_workOnce (kl K) g hI M1 h1 hI1) wd_619 wd_616 wd_618 ws_40 wd_6 hd_Mo_workOnce (by omega) (by decide) rfl rfl (Nat.le_of_ble_eq_true rfl) d_Mo_work_20 (fun r9 M2 hp9 => ?_)
      rcases hp9 with ⟨c, hc, rfl, hx, hr, hA2⟩ | ⟨rfl, rfl, hx⟩
      · skip
        refine v_r1 ?_
        refine v_if_eq h0 d_Mo_work_23 rfl (fun h23 => absurd h23 (by decide)) (fun h23 => ?_)
        refine v_iinc h0 d_Mo_work_26 (lv' := [(2, .int (nI (i + 1))), (0, .ref (ga g 0)), (1, .int (nI n))]) 0 rfl (inc1 i) (lt_kn hn (by decide)) rfl ?_
        refine v_goto h0 d_Mo_work_29 rfl ?_
        exact ih (i + 1) M2 (wkβ β1 c) (by omega) hA2 (wk_Iv hI1 hc hr) (by rw [e1, wkN_t hx hc]; show i + ((wkN t (wkβ β1 c)).1 + 1) = _; omega) (by rw [e2, wkN_t hx hc])
      · skip
        refine v_r1 ?_
        refine v_if_eq h0 d_Mo_work_23 rfl (fun h23 => ?_) (fun h23 => absurd h23 (fun z => z rfl))
        refine v_iload_n h0 d_Mo_work_32 0 rfl ?_
        exact v_iret h0 hC hR d_Mo_work_33 (by rw [hop, e1, e2, wkN_f hx]; exact ⟨rfl, h1⟩)
  refine v_iload_n h0 d_Mo_work_0 1 rfl ?_
  refine v_if_lt h0 d_Mo_work_1 rfl (fun h1 => ?_) (fun h1 => ?_)
  · skip
    have hno : opWk β y = (-1, β) := by unfold opWk; rw [if_neg (fun q => absurd h1 (Int32.not_lt.mpr q.1))]
    refine v_iconst h0 d_Mo_work_10 (v := -1) (by decide) ?_
    exact v_iret h0 hC hR d_Mo_work_11 (by rw [hno]; exact ⟨rfl, hA⟩)
  · skip
    refine v_iload_n h0 d_Mo_work_4 1 rfl ?_
    refine v_bipush h0 d_Mo_work_5 (v := nI 20) (by decide) ?_
    refine v_icmp_le h0 d_Mo_work_7 rfl (fun h7 => ?_) (fun h7 => ?_)
    · skip
      obtain ⟨n, hn20, hy⟩ := nI_of2 (M := nI 20) (n := 20) (by decide) h1 h7
      subst hy
      refine v_iconst h0 d_Mo_work_12 (v := nI 0) (by decide) ?_
      refine v_istore_n h0 d_Mo_work_13 (lv' := [(2, .int (nI 0)), (0, .ref (ga g 0)), (1, .int (nI n))]) (lt_kn hn (by decide)) rfl ?_
      exact loop n hn20 rfl n 0 M β (by omega) hA hIv (by omega) rfl
    · skip
      have hno : opWk β y = (-1, β) := by unfold opWk; rw [if_neg (fun q => h7 q.2)]
      refine v_iconst h0 d_Mo_work_10 (v := -1) (by decide) ?_
      exact v_iret h0 hC hR d_Mo_work_11 (by rw [hno]; exact ⟨rfl, hA⟩)
