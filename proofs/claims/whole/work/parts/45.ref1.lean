/-! THE REFERENCE: its texts, and the methods that change nothing -/
def LO (s : Nat → Int32) (l : Nat → Int32) : Nat → Nat → Prop
  | 0, _ => True
  | d + 1, k => l k = 0 ∧ match kd (s k) with
    | 2 => LO s l d (k + 1) ∧ LO s l d (EN s d (k + 1))
    | 1 => LO s l d (k + 1)
    | 3 => LO s l d (k + 1) ∧ LO s l d (EN s d (k + 1)) ∧ LO s l d (EN s d (EN s d (k + 1)))
    | 4 => l (k + 1) = 1 ∧ LO s l d (k + 2) ∧ LO s l d (EN s d (k + 2))
    | 5 => l (k + 1) = 1 ∧ LO s l d (k + 2)
    | 6 => LO s l d (k + 1) ∧ l (EN s d (k + 1)) = 1 ∧ LO s l d (EN s d (k + 1) + 1) ∧ l (EN s d (EN s d (k + 1) + 1)) = 1 ∧ LO s l d (EN s d (EN s d (k + 1) + 1) + 1)
    | _ => True
def TR (M : Me) (c : Nat) (s : Nat → Int32) (n : Nat) : Prop := M 3 c = nI n ∧ n ≤ 24 ∧ (∀ k, k < 24 → M 2 (24 * c + k) = s k) ∧ chF s
def chR (s : Nat → Int32) (n k : Nat) : Int32 := if k < n then s k else 32
theorem chR_z {s : Nat → Int32} (h : chF s) {n : Nat} (hn : n ≤ 24) (k : Nat) : narrow .char (.int (chR s n k)) = .int (chR s n k) := by
  unfold chR
  split
  · exact h.s k (by omega)
  · rfl
/-- names, texts, lengths, well-formedness, uses -/
def TxR (M β : Me) : Prop := ∀ c, c < 10 → M 4 c = β 2 c ∧ (∀ k, k < 24 → M 2 (24 * c + k) = β (20 + c) k) ∧ chF (β (20 + c)) ∧ M 3 c = β 3 c ∧ M 7 c = bI (wlB β c) ∧ M 8 c = usI β c
def TeR (M β : Me) : Prop := ∀ c, c < 10 → wlB β c = true → EO (β (20 + c)) (fun k => M 5 (24 * c + k)) 6 (stN β c) ∧ LO (β (20 + c)) (fun k => M 6 (24 * c + k)) 6 (stN β c)
theorem wl_92 {β : Me} {c : Nat} (h : wlB β c = true) : decide (β (20 + c) 0 = 92) = hdB β c := by
  cases hh : hdB β c with
  | true =>
    unfold hdB at hh
    simp only [Bool.and_eq_true] at hh
    exact hh.1
  | false =>
    have hs : stN β c = 0 := by unfold stN; rw [hh]; rfl
    have ho := (wl_ok h).1
    rw [hs] at ho
    refine decide_eq_false (fun z => ?_)
    have hk := OK_kd ho
    rw [z] at hk
    revert hk; decide
theorem TxR.tr {M β : Me} (h : TxR M β) {c : Nat} (hc : c < 10) {n : Nat} (hn : n ≤ 24) (e : β 3 c = nI n) : TR M c (β (20 + c)) n := by
  obtain ⟨h1, h2, h3, h4, h5, h6⟩ := h c hc
  exact ⟨h4.trans e, hn, h2, h3⟩
set_option maxHeartbeats 4000000 in
theorem m_Mo_isThere (l : Launch) (g : Gd) (hI : sI (sR g)) (M : Me) {β : Me} {c : Nat} (hc : c < 10) (e : M 4 c = β 2 c) : CR l g y_Mo_isThere c_Mo_isThere 2 (some .boolean) 1 [.ref (ga g 0), .int (nI c)] M (fun r M' => r = some (.int (bI (thB β c))) ∧ M = M') := by
  refine Ct.of hI (sR_N0 g) rfl (Nat.le_of_ble_eq_true rfl) (fun K h0 hC hR hkl hn => ?_)
  have hC : Cx (sR g) K gC_Mo _ := hC
  show V K (wp (sR g)) M 0 [(0, .ref (ga g 0)), (1, .int (nI c))] []
  refine v_aload_n h0 d_Mo_isThere_0 0 rfl ?_
  refine g_Mo_named_ h0 hC wd_452 d_Mo_isThere_1 ?_
  refine v_iload_n h0 d_Mo_isThere_4 1 rfl ?_
  refine a_Mo_named_ h0 hC c (rfl) (by omega) d_Mo_isThere_5 ?_
  refine v_int (β 2 c) (e) ?_
  refine v_if_lt h0 d_Mo_isThere_6 rfl (fun h6 => ?_) (fun h6 => ?_)
  · skip
    refine v_iconst h0 d_Mo_isThere_13 (v := nI 0) (by decide) ?_
    exact v_zret h0 hC hR (rfl) d_Mo_isThere_14 (⟨ret_f (decide_eq_false (Int32.not_le.mpr h6)), rfl⟩)
  · skip
    refine v_iconst h0 d_Mo_isThere_9 (v := nI 1) (by decide) ?_
    refine v_goto h0 d_Mo_isThere_10 rfl ?_
    exact v_zret h0 hC hR (rfl) d_Mo_isThere_14 (⟨ret_t (decide_eq_true (Int32.not_lt.mp h6)), rfl⟩)
set_option maxHeartbeats 4000000 in
theorem m_Mo_charAt (l : Launch) (g : Gd) (hI : sI (sR g)) (M : Me) {s : Nat → Int32} {c n k : Nat} (hc : c < 10) (hk : k < 1000) (hT : TR M c s n) : CR l g y_Mo_charAt c_Mo_charAt 3 (some .char) 1 [.ref (ga g 0), .int (nI c), .int (nI k)] M (fun r M' => r = some (.int (chR s n k)) ∧ M = M') := by
  refine Ct.of hI (sR_N0 g) rfl (Nat.le_of_ble_eq_true rfl) (fun K h0 hC hR hkl hn => ?_)
  have hC : Cx (sR g) K gC_Mo _ := hC
  show V K (wp (sR g)) M 0 [(0, .ref (ga g 0)), (1, .int (nI c)), (2, .int (nI k))] []
  refine v_iload_n h0 d_Mo_charAt_0 2 rfl ?_
  refine v_aload_n h0 d_Mo_charAt_1 0 rfl ?_
  refine g_Mo_length_ h0 hC wd_451 d_Mo_charAt_2 ?_
  refine v_iload_n h0 d_Mo_charAt_5 1 rfl ?_
  refine a_Mo_length_ h0 hC c (rfl) (by omega) d_Mo_charAt_6 ?_
  have hn24 := hT.2.1
  refine v_int (nI n) (hT.1) ?_
  refine n_icmp_ge h0 (by omega) (by omega) d_Mo_charAt_7 rfl (fun h7 => ?_) (fun h7 => ?_)
  · skip
    refine v_bipush h0 d_Mo_charAt_24 (v := nI 32) (by decide) ?_
    exact v_zret h0 hC hR (rfl) d_Mo_charAt_26 (⟨by unfold chR; rw [if_neg (by omega)]; rfl, rfl⟩)
  · skip
    refine v_aload_n h0 d_Mo_charAt_10 0 rfl ?_
    refine g_Mo_text_ h0 hC wd_450 d_Mo_charAt_11 ?_
    refine v_bipush h0 d_Mo_charAt_14 (v := nI 24) (by decide) ?_
    refine v_iload_n h0 d_Mo_charAt_16 1 rfl ?_
    refine v_imul h0 d_Mo_charAt_17 ?_
    refine v_int (nI (24 * c)) (pk_mul 24 c) ?_
    refine v_iload_n h0 d_Mo_charAt_18 2 rfl ?_
    refine v_iadd h0 d_Mo_charAt_19 ?_
    refine v_int (nI (24 * c + k)) (nI_add (24 * c) k) ?_
    refine a_Mo_text_ h0 hC (24 * c + k) (rfl) (by omega) d_Mo_charAt_20 ?_
    refine v_goto h0 d_Mo_charAt_21 rfl ?_
    refine v_int (s k) (hT.2.2.1 k (by omega)) ?_
    exact v_zret h0 hC hR (hT.2.2.2.s k (by omega)) d_Mo_charAt_26 (⟨by unfold chR; rw [if_pos h7], rfl⟩)
set_option maxHeartbeats 4000000 in
theorem m_Mo_isFunction (l : Launch) (g : Gd) (hI : sI (sR g)) (M : Me) {β : Me} {c : Nat} (hc : c < 10) (hT : TxR M β) : CR l g y_Mo_isFunction c_Mo_isFunction 2 (some .boolean) 1 [.ref (ga g 0), .int (nI c)] M (fun r M' => r = some (.int (bI (fnB β c))) ∧ M = M') := by
  refine Ct.of hI (sR_N0 g) rfl (Nat.le_of_ble_eq_true rfl) (fun K h0 hC hR hkl hn => ?_)
  have hC : Cx (sR g) K gC_Mo _ := hC
  show V K (wp (sR g)) M 0 [(0, .ref (ga g 0)), (1, .int (nI c))] []
  refine v_aload_n h0 d_Mo_isFunction_0 0 rfl ?_
  refine g_Mo_well_ h0 hC wd_455 d_Mo_isFunction_1 ?_
  refine v_iload_n h0 d_Mo_isFunction_4 1 rfl ?_
  refine a_Mo_well_ h0 hC c (rfl) (by omega) d_Mo_isFunction_5 ?_
  refine v_int (bI (wlB β c)) ((hT c hc).2.2.2.2.1) ?_
  refine b_if_eq h0 d_Mo_isFunction_6 rfl (fun h6 => ?_) (fun h6 => ?_)
  · skip
    refine v_iconst h0 d_Mo_isFunction_27 (v := nI 0) (by decide) ?_
    exact v_zret h0 hC hR (rfl) d_Mo_isFunction_28 (⟨ret_f (by unfold fnB; rw [h6]; rfl), rfl⟩)
  · skip
    refine v_aload_n h0 d_Mo_isFunction_9 0 rfl ?_
    refine g_Mo_text_ h0 hC wd_450 d_Mo_isFunction_10 ?_
    refine v_bipush h0 d_Mo_isFunction_13 (v := nI 24) (by decide) ?_
    refine v_iload_n h0 d_Mo_isFunction_15 1 rfl ?_
    refine v_imul h0 d_Mo_isFunction_16 ?_
    refine v_int (nI (24 * c)) (pk_mul 24 c) ?_
    refine a_Mo_text_ h0 hC (24 * c + 0) (rfl) (by omega) d_Mo_isFunction_17 ?_
    refine v_int (β (20 + c) 0) ((hT c hc).2.1 0 (by omega)) ?_
    refine v_bipush h0 d_Mo_isFunction_18 (v := 92) (by decide) ?_
    refine v_icmp_ne h0 d_Mo_isFunction_20 rfl (fun h20 => ?_) (fun h20 => ?_)
    · skip
      refine v_iconst h0 d_Mo_isFunction_27 (v := nI 0) (by decide) ?_
      exact v_zret h0 hC hR (rfl) d_Mo_isFunction_28 (⟨ret_f (by unfold fnB; rw [h6, ← wl_92 h6, decide_eq_false h20]; rfl), rfl⟩)
    · skip
      refine v_iconst h0 d_Mo_isFunction_23 (v := nI 1) (by decide) ?_
      refine v_goto h0 d_Mo_isFunction_24 rfl ?_
      exact v_zret h0 hC hR (rfl) d_Mo_isFunction_28 (⟨ret_t (by unfold fnB; rw [h6, ← wl_92 h6, decide_eq_true h20]; rfl), rfl⟩)
set_option maxHeartbeats 4000000 in
theorem m_Mo_isBinary (l : Launch) (g : Gd) (hI : sI (sR g)) (M : Me) (x : Int32) : CR l g y_Mo_isBinary c_Mo_isBinary 1 (some .boolean) 1 [.int x] M (fun r M' => r = some (.int (bI (kdB 2 x))) ∧ M = M') := by
  refine Ct.of hI (sR_N0 g) rfl (Nat.le_of_ble_eq_true rfl) (fun K h0 hC hR hkl hn => ?_)
  have hC : Cx (sR g) K gC_Mo _ := hC
  show V K (wp (sR g)) M 0 [(0, .int x)] []
  refine v_iload_n h0 d_Mo_isBinary_0 0 rfl ?_
  refine v_bipush h0 d_Mo_isBinary_1 (v := nI 43) (by decide) ?_
  refine v_icmp_eq h0 d_Mo_isBinary_3 rfl (fun h3 => ?_) (fun h3 => ?_)
  · skip
    refine v_iconst h0 d_Mo_isBinary_42 (v := nI 1) (by decide) ?_
    refine v_goto h0 d_Mo_isBinary_43 rfl ?_
    exact v_zret h0 hC hR (rfl) d_Mo_isBinary_47 (⟨ret_t (decide_eq_true ((kd_2 x).mpr (by rw [h3]; decide))), rfl⟩)
  · skip
    refine v_iload_n h0 d_Mo_isBinary_6 0 rfl ?_
    refine v_bipush h0 d_Mo_isBinary_7 (v := nI 45) (by decide) ?_
    refine v_icmp_eq h0 d_Mo_isBinary_9 rfl (fun h9 => ?_) (fun h9 => ?_)
    · skip
      refine v_iconst h0 d_Mo_isBinary_42 (v := nI 1) (by decide) ?_
      refine v_goto h0 d_Mo_isBinary_43 rfl ?_
      exact v_zret h0 hC hR (rfl) d_Mo_isBinary_47 (⟨ret_t (decide_eq_true ((kd_2 x).mpr (by rw [h9]; decide))), rfl⟩)
    · skip
      refine v_iload_n h0 d_Mo_isBinary_12 0 rfl ?_
      refine v_bipush h0 d_Mo_isBinary_13 (v := nI 42) (by decide) ?_
      refine v_icmp_eq h0 d_Mo_isBinary_15 rfl (fun h15 => ?_) (fun h15 => ?_)
      · skip
        refine v_iconst h0 d_Mo_isBinary_42 (v := nI 1) (by decide) ?_
        refine v_goto h0 d_Mo_isBinary_43 rfl ?_
        exact v_zret h0 hC hR (rfl) d_Mo_isBinary_47 (⟨ret_t (decide_eq_true ((kd_2 x).mpr (by rw [h15]; decide))), rfl⟩)
      · skip
        refine v_iload_n h0 d_Mo_isBinary_18 0 rfl ?_
        refine v_bipush h0 d_Mo_isBinary_19 (v := nI 47) (by decide) ?_
        refine v_icmp_eq h0 d_Mo_isBinary_21 rfl (fun h21 => ?_) (fun h21 => ?_)
        · skip
          refine v_iconst h0 d_Mo_isBinary_42 (v := nI 1) (by decide) ?_
          refine v_goto h0 d_Mo_isBinary_43 rfl ?_
          exact v_zret h0 hC hR (rfl) d_Mo_isBinary_47 (⟨ret_t (decide_eq_true ((kd_2 x).mpr (by rw [h21]; decide))), rfl⟩)
        · skip
          refine v_iload_n h0 d_Mo_isBinary_24 0 rfl ?_
          refine v_bipush h0 d_Mo_isBinary_25 (v := nI 60) (by decide) ?_
          refine v_icmp_eq h0 d_Mo_isBinary_27 rfl (fun h27 => ?_) (fun h27 => ?_)
          · skip
            refine v_iconst h0 d_Mo_isBinary_42 (v := nI 1) (by decide) ?_
            refine v_goto h0 d_Mo_isBinary_43 rfl ?_
            exact v_zret h0 hC hR (rfl) d_Mo_isBinary_47 (⟨ret_t (decide_eq_true ((kd_2 x).mpr (by rw [h27]; decide))), rfl⟩)
          · skip
            refine v_iload_n h0 d_Mo_isBinary_30 0 rfl ?_
            refine v_bipush h0 d_Mo_isBinary_31 (v := nI 61) (by decide) ?_
            refine v_icmp_eq h0 d_Mo_isBinary_33 rfl (fun h33 => ?_) (fun h33 => ?_)
            · skip
              refine v_iconst h0 d_Mo_isBinary_42 (v := nI 1) (by decide) ?_
              refine v_goto h0 d_Mo_isBinary_43 rfl ?_
              exact v_zret h0 hC hR (rfl) d_Mo_isBinary_47 (⟨ret_t (decide_eq_true ((kd_2 x).mpr (by rw [h33]; decide))), rfl⟩)
            · skip
              refine v_iload_n h0 d_Mo_isBinary_36 0 rfl ?_
              refine v_bipush h0 d_Mo_isBinary_37 (v := nI 38) (by decide) ?_
              refine v_icmp_ne h0 d_Mo_isBinary_39 rfl (fun h39 => ?_) (fun h39 => ?_)
              · skip
                refine v_iconst h0 d_Mo_isBinary_46 (v := nI 0) (by decide) ?_
                exact v_zret h0 hC hR (rfl) d_Mo_isBinary_47 (⟨ret_f (decide_eq_false (fun q => by rcases (kd_2 x).mp q with w | w | w | w | w | w | w; exact h3 w; exact h9 w; exact h15 w; exact h21 w; exact h27 w; exact h33 w; exact h39 w)), rfl⟩)
              · skip
                refine v_iconst h0 d_Mo_isBinary_42 (v := nI 1) (by decide) ?_
                refine v_goto h0 d_Mo_isBinary_43 rfl ?_
                exact v_zret h0 hC hR (rfl) d_Mo_isBinary_47 (⟨ret_t (decide_eq_true ((kd_2 x).mpr (by rw [h39]; decide))), rfl⟩)
def opN (x : Int32) : Nat := if kd x = 2 ∨ kd x = 4 then 2 else if kd x = 1 ∨ kd x = 5 then 1 else if kd x = 3 ∨ kd x = 6 then 3 else 0
set_option maxHeartbeats 4000000 in
theorem m_Mo_operands (l : Launch) (g : Gd) (hI : sI (sR g)) (M : Me) (x : Int32) : CR l g y_Mo_operands c_Mo_operands 1 (some .int) 2 [.int x] M (fun r M' => r = some (.int (nI (opN x))) ∧ M = M') := by
  refine Ct.of hI (sR_N0 g) rfl (Nat.le_of_ble_eq_true rfl) (fun K h0 hC hR hkl hn => ?_)
  have hC : Cx (sR g) K gC_Mo _ := hC
  show V K (wp (sR g)) M 0 [(0, .int x)] []
  refine v_iload_n h0 d_Mo_operands_0 0 rfl ?_
  refine v_callS h0 hC (sR_N0 g) (av := [.int x]) (rest := []) (m_Mo_isBinary (kl K) g hI M _) wd_584 wd_582 wd_583 wd_6 hd_Mo_isBinary (by omega) (by decide) rfl rfl (Nat.le_of_ble_eq_true rfl) d_Mo_operands_1 (fun r9 M9 hp9 => ?_)
  obtain ⟨rfl, rfl⟩ := hp9
  refine v_r1 ?_
  refine b_if_ne h0 d_Mo_operands_4 rfl (fun h4 => ?_) (fun h4 => ?_)
  · skip
    refine v_iconst h0 d_Mo_operands_13 (v := nI 2) (by decide) ?_
    refine v_goto h0 d_Mo_operands_14 rfl ?_
    exact v_iret h0 hC hR d_Mo_operands_50 (⟨by unfold opN; rw [if_pos (Or.inl (of_decide_eq_true h4))], rfl⟩)
  · skip
    refine v_iload_n h0 d_Mo_operands_7 0 rfl ?_
    refine v_bipush h0 d_Mo_operands_8 (v := nI 36) (by decide) ?_
    refine v_icmp_ne h0 d_Mo_operands_10 rfl (fun h10 => ?_) (fun h10 => ?_)
    · skip
      refine v_iload_n h0 d_Mo_operands_17 0 rfl ?_
      refine v_bipush h0 d_Mo_operands_18 (v := nI 126) (by decide) ?_
      refine v_icmp_eq h0 d_Mo_operands_20 rfl (fun h20 => ?_) (fun h20 => ?_)
      · skip
        refine v_iconst h0 d_Mo_operands_29 (v := nI 1) (by decide) ?_
        refine v_goto h0 d_Mo_operands_30 rfl ?_
        exact v_iret h0 hC hR d_Mo_operands_50 (⟨by rw [h20]; decide, rfl⟩)
      · skip
        refine v_iload_n h0 d_Mo_operands_23 0 rfl ?_
        refine v_bipush h0 d_Mo_operands_24 (v := nI 33) (by decide) ?_
        refine v_icmp_ne h0 d_Mo_operands_26 rfl (fun h26 => ?_) (fun h26 => ?_)
        · skip
          refine v_iload_n h0 d_Mo_operands_33 0 rfl ?_
          refine v_bipush h0 d_Mo_operands_34 (v := nI 63) (by decide) ?_
          refine v_icmp_eq h0 d_Mo_operands_36 rfl (fun h36 => ?_) (fun h36 => ?_)
          · skip
            refine v_iconst h0 d_Mo_operands_45 (v := nI 3) (by decide) ?_
            refine v_goto h0 d_Mo_operands_46 rfl ?_
            exact v_iret h0 hC hR d_Mo_operands_50 (⟨by rw [h36]; decide, rfl⟩)
          · skip
            refine v_iload_n h0 d_Mo_operands_39 0 rfl ?_
            refine v_bipush h0 d_Mo_operands_40 (v := nI 35) (by decide) ?_
            refine v_icmp_ne h0 d_Mo_operands_42 rfl (fun h42 => ?_) (fun h42 => ?_)
            · skip
              refine v_iconst h0 d_Mo_operands_49 (v := nI 0) (by decide) ?_
              exact v_iret h0 hC hR d_Mo_operands_50 (⟨by unfold opN; rw [if_neg (fun q => q.elim (of_decide_eq_false h4) (fun w => h10 ((kd_4 x).mp w))), if_neg (fun q => q.elim (fun w => h20 ((kd_1 x).mp w)) (fun w => h26 ((kd_5 x).mp w))), if_neg (fun q => q.elim (fun w => h36 ((kd_3 x).mp w)) (fun w => h42 ((kd_6 x).mp w)))], rfl⟩)
            · skip
              refine v_iconst h0 d_Mo_operands_45 (v := nI 3) (by decide) ?_
              refine v_goto h0 d_Mo_operands_46 rfl ?_
              exact v_iret h0 hC hR d_Mo_operands_50 (⟨by rw [h42]; decide, rfl⟩)
        · skip
          refine v_iconst h0 d_Mo_operands_29 (v := nI 1) (by decide) ?_
          refine v_goto h0 d_Mo_operands_30 rfl ?_
          exact v_iret h0 hC hR d_Mo_operands_50 (⟨by rw [h26]; decide, rfl⟩)
    · skip
      refine v_iconst h0 d_Mo_operands_13 (v := nI 2) (by decide) ?_
      refine v_goto h0 d_Mo_operands_14 rfl ?_
      exact v_iret h0 hC hR d_Mo_operands_50 (⟨by unfold opN; rw [if_pos (Or.inr ((kd_4 x).mpr h10))], rfl⟩)
set_option maxHeartbeats 4000000 in
theorem m_Mo_definer (l : Launch) (g : Gd) (hI : sI (sR g)) (M : Me) {β : Me} (e : ∀ c, c < 10 → M 4 c = β 2 c) (j : Nat) : CR l g y_Mo_definer c_Mo_definer 4 (some .int) 1 [.ref (ga g 0), .int (nI j)] M (fun r M' => r = some (.int (dfL β j 10)) ∧ M = M') := by
  refine Ct.of hI (sR_N0 g) rfl (Nat.le_of_ble_eq_true rfl) (fun K h0 hC hR hkl hn => ?_)
  have hC : Cx (sR g) K gC_Mo _ := hC
  show V K (wp (sR g)) M 0 [(0, .ref (ga g 0)), (1, .int (nI j))] []
  have loop : ∀ (t i : Nat), i + t = 10 → V K (wp (sR g)) M 4 [(3, .int (nI i)), (2, .int (dfL β j i)), (0, .ref (ga g 0)), (1, .int (nI j))] [] := by
    intro t
    induction t with
    | zero =>
      intro i hi
      refine v_iload_n h0 d_Mo_definer_4 0 rfl ?_
      refine v_bipush h0 d_Mo_definer_5 (v := nI 10) (by decide) ?_
      refine n_icmp_ge h0 (by omega) (by omega) d_Mo_definer_7 rfl (fun h7 => ?_) (fun h7 => absurd h7 (by omega))
      refine v_iload_n h0 d_Mo_definer_32 1 rfl ?_
      exact v_iret h0 hC hR d_Mo_definer_33 (⟨by rw [show i = 10 by omega], rfl⟩)
    | succ t ih =>
      intro i hi
      refine v_iload_n h0 d_Mo_definer_4 0 rfl ?_
      refine v_bipush h0 d_Mo_definer_5 (v := nI 10) (by decide) ?_
      refine n_icmp_ge h0 (by omega) (by omega) d_Mo_definer_7 rfl (fun h7 => absurd h7 (by omega)) (fun h7 => ?_)
      refine v_aload_n h0 d_Mo_definer_10 2 rfl ?_
      refine g_Mo_named_ h0 hC wd_452 d_Mo_definer_11 ?_
      refine v_iload_n h0 d_Mo_definer_14 0 rfl ?_
      refine a_Mo_named_ h0 hC i (rfl) (by omega) d_Mo_definer_15 ?_
      refine v_int (β 2 i) (e i (by omega)) ?_
      refine v_iload_n h0 d_Mo_definer_16 3 rfl ?_
      refine v_icmp_ne h0 d_Mo_definer_17 rfl (fun h17 => ?_) (fun h17 => ?_)
      · skip
        refine v_iload_n h0 d_Mo_definer_24 1 rfl ?_
        refine v_istore_n h0 d_Mo_definer_25 (lv' := [(2, .int (dfL β j i)), (3, .int (nI i)), (0, .ref (ga g 0)), (1, .int (nI j))]) (lt_kn hn (by decide)) rfl ?_
        refine v_iinc h0 d_Mo_definer_26 (lv' := [(3, .int (nI (i + 1))), (2, .int (dfL β j i)), (0, .ref (ga g 0)), (1, .int (nI j))]) 1 rfl (inc1 i) (lt_kn hn (by decide)) rfl ?_
        refine v_goto h0 d_Mo_definer_29 rfl ?_
        refine v_eq (ih (i + 1) (by omega)) rfl rfl (by simp only [dfL]; rw [if_neg h17]) rfl
      · skip
        refine v_iload_n h0 d_Mo_definer_20 0 rfl ?_
        refine v_goto h0 d_Mo_definer_21 rfl ?_
        refine v_istore_n h0 d_Mo_definer_25 (lv' := [(2, .int (nI i)), (3, .int (nI i)), (0, .ref (ga g 0)), (1, .int (nI j))]) (lt_kn hn (by decide)) rfl ?_
        refine v_iinc h0 d_Mo_definer_26 (lv' := [(3, .int (nI (i + 1))), (2, .int (nI i)), (0, .ref (ga g 0)), (1, .int (nI j))]) 1 rfl (inc1 i) (lt_kn hn (by decide)) rfl ?_
        refine v_goto h0 d_Mo_definer_29 rfl ?_
        refine v_eq (ih (i + 1) (by omega)) rfl rfl (by simp only [dfL]; rw [if_pos h17]) rfl
  refine v_iconst h0 d_Mo_definer_0 (v := -1) (by decide) ?_
  refine v_istore_n h0 d_Mo_definer_1 (lv' := [(2, .int (-1)), (0, .ref (ga g 0)), (1, .int (nI j))]) (lt_kn hn (by decide)) rfl ?_
  refine v_iconst h0 d_Mo_definer_2 (v := nI 0) (by decide) ?_
  refine v_istore_n h0 d_Mo_definer_3 (lv' := [(3, .int (nI 0)), (2, .int (-1)), (0, .ref (ga g 0)), (1, .int (nI j))]) (lt_kn hn (by decide)) rfl ?_
  exact loop 10 0 rfl
set_option maxHeartbeats 4000000 in
theorem m_Mo_ownName (l : Launch) (g : Gd) (hI : sI (sR g)) (M : Me) {β : Me} {c : Nat} (hc : c < 10) (e : M 4 c = β 2 c) (j : Nat) : CR l g y_Mo_ownName c_Mo_ownName 3 (some .boolean) 1 [.ref (ga g 0), .int (nI c), .int (nI j)] M (fun r M' => r = some (.int (bI (decide (β 2 c = nI j)))) ∧ M = M') := by
  refine Ct.of hI (sR_N0 g) rfl (Nat.le_of_ble_eq_true rfl) (fun K h0 hC hR hkl hn => ?_)
  have hC : Cx (sR g) K gC_Mo _ := hC
  show V K (wp (sR g)) M 0 [(0, .ref (ga g 0)), (1, .int (nI c)), (2, .int (nI j))] []
  refine v_aload_n h0 d_Mo_ownName_0 0 rfl ?_
  refine g_Mo_named_ h0 hC wd_452 d_Mo_ownName_1 ?_
  refine v_iload_n h0 d_Mo_ownName_4 1 rfl ?_
  refine a_Mo_named_ h0 hC c (rfl) (by omega) d_Mo_ownName_5 ?_
  refine v_int (β 2 c) (e) ?_
  refine v_iload_n h0 d_Mo_ownName_6 2 rfl ?_
  refine v_icmp_ne h0 d_Mo_ownName_7 rfl (fun h7 => ?_) (fun h7 => ?_)
  · skip
    refine v_iconst h0 d_Mo_ownName_14 (v := nI 0) (by decide) ?_
    exact v_zret h0 hC hR (rfl) d_Mo_ownName_15 (⟨ret_f (decide_eq_false h7), rfl⟩)
  · skip
    refine v_iconst h0 d_Mo_ownName_10 (v := nI 1) (by decide) ?_
    refine v_goto h0 d_Mo_ownName_11 rfl ?_
    exact v_zret h0 hC hR (rfl) d_Mo_ownName_15 (⟨ret_t (decide_eq_true h7), rfl⟩)
theorem b_top {x : Int32} {v : Int32} {i : Nat} (hi : i < 32) (e : v = nI i) : (x >>> (v &&& 31)) &&& nI 1 = bI (bt x i) := by rw [e]; exact b_get x hi
theorem bI_n1 {b : Bool} (h : ¬ bI b = nI 1) : b = false := by cases b; rfl; exact absurd rfl h
theorem bI_e1 {b : Bool} (h : bI b = nI 1) : b = true := by cases b; exact absurd h (by decide); rfl
set_option maxHeartbeats 4000000 in
theorem m_Mo_needs (l : Launch) (g : Gd) (hI : sI (sR g)) (M : Me) {β : Me} {c d : Nat} (hc : c < 10) (hd : d < 10) (hT : TxR M β) (hN : Nmb β) : CR l g y_Mo_needs c_Mo_needs 3 (some .boolean) 2 [.ref (ga g 0), .int (nI c), .int (nI d)] M (fun r M' => r = some (.int (bI (ndB β c d))) ∧ M = M') := by
  refine Ct.of hI (sR_N0 g) rfl (Nat.le_of_ble_eq_true rfl) (fun K h0 hC hR hkl hn => ?_)
  have hC : Cx (sR g) K gC_Mo _ := hC
  show V K (wp (sR g)) M 0 [(0, .ref (ga g 0)), (1, .int (nI c)), (2, .int (nI d))] []
  refine v_aload_n h0 d_Mo_needs_0 0 rfl ?_
  refine v_iload_n h0 d_Mo_needs_1 2 rfl ?_
  refine v_callV h0 hC (sR_N0 g) 0 (show 0 < 22 by omega) (show enR g 0 _ = _ from rfl) rfl (av := [.int (nI d)]) (rest := []) (m_Mo_isThere (kl K) g hI M hd (hT d hd).1) wd_603 wd_600 wd_602 ws_38 wd_6 hd_Mo_isThere (by omega) (by decide) rfl rfl (Nat.le_of_ble_eq_true rfl) d_Mo_needs_2 (fun r9 M9 hp9 => ?_)
  obtain ⟨rfl, rfl⟩ := hp9
  refine v_r1 ?_
  refine b_if_eq h0 d_Mo_needs_5 rfl (fun h5 => ?_) (fun h5 => ?_)
  · skip
    refine v_iconst h0 d_Mo_needs_31 (v := nI 0) (by decide) ?_
    exact v_zret h0 hC hR (rfl) d_Mo_needs_32 (⟨ret_f (by unfold ndB; rw [h5]; rfl), rfl⟩)
  · skip
    refine v_aload_n h0 d_Mo_needs_8 0 rfl ?_
    refine g_Mo_used_ h0 hC wd_456 d_Mo_needs_9 ?_
    refine v_iload_n h0 d_Mo_needs_12 1 rfl ?_
    refine a_Mo_used_ h0 hC c (rfl) (by omega) d_Mo_needs_13 ?_
    refine v_int (usI β c) ((hT c hc).2.2.2.2.2) ?_
    refine v_aload_n h0 d_Mo_needs_14 0 rfl ?_
    refine g_Mo_named_ h0 hC wd_452 d_Mo_needs_15 ?_
    refine v_iload_n h0 d_Mo_needs_18 2 rfl ?_
    refine a_Mo_named_ h0 hC d (rfl) (by omega) d_Mo_needs_19 ?_
    refine v_int (nI (nmN β d)) ((hT d hd).1.trans (th_t hN hd h5).2) ?_
    refine v_ishr h0 d_Mo_needs_20 ?_
    refine v_iconst h0 d_Mo_needs_21 (v := nI 1) (by decide) ?_
    refine v_iand h0 d_Mo_needs_22 ?_
    refine v_int (bI (bt (usI β c) (nmN β d))) (b_top (by have := (th_t hN hd h5).1; omega) rfl) ?_
    refine v_iconst h0 d_Mo_needs_23 (v := nI 1) (by decide) ?_
    refine v_icmp_ne h0 d_Mo_needs_24 rfl (fun h24 => ?_) (fun h24 => ?_)
    · skip
      refine v_iconst h0 d_Mo_needs_31 (v := nI 0) (by decide) ?_
      exact v_zret h0 hC hR (rfl) d_Mo_needs_32 (⟨ret_f (by unfold ndB; rw [h5, bI_n1 h24]; rfl), rfl⟩)
    · skip
      refine v_iconst h0 d_Mo_needs_27 (v := nI 1) (by decide) ?_
      refine v_goto h0 d_Mo_needs_28 rfl ?_
      exact v_zret h0 hC hR (rfl) d_Mo_needs_32 (⟨ret_t (by unfold ndB; rw [h5, bI_e1 h24]; rfl), rfl⟩)
/-! A SET THAT GROWS -/
def Cl (E : Nat → Nat → Bool) (x : Int32) : Prop := ∀ a, a < 10 → bt x a = true → ∀ d, d < 10 → E a d = true → bt x d = true
def Gs (E : Nat → Nat → Bool) (J : Nat → Bool) (x : Int32) : Prop := (∀ d, d < 10 → J d = true → bt x d = true) ∧ ∀ S : Nat → Bool, (∀ d, d < 10 → J d = true → S d = true) → (∀ a, a < 10 → S a = true → ∀ d, d < 10 → E a d = true → S d = true) → ∀ d, d < 10 → bt x d = true → S d = true
def Gr (E : Nat → Nat → Bool) (J : Nat → Bool) (n : Nat) (x : Int32) : Prop := Gs E J x ∧ (Cl E x ∨ n ≤ cnt (bt x) 10)
def Gm (E : Nat → Nat → Bool) (J : Nat → Bool) (x0 : Int32) (a : Nat) (x : Int32) : Prop := Gs E J x ∧ (∀ d, d < 10 → bt x0 d = true → bt x d = true) ∧ ∀ b, b < a → bt x0 b = true → ∀ d, d < 10 → E b d = true → bt x d = true
def Gi (E : Nat → Nat → Bool) (J : Nat → Bool) (x0 : Int32) (a d : Nat) (x : Int32) : Prop := Gm E J x0 a x ∧ (bt x a = true → ∀ e, e < d → E a e = true → bt x e = true)
section GR
variable {E : Nat → Nat → Bool} {J : Nat → Bool} {x0 x : Int32} {a d n : Nat}
theorem bt_or (d : Nat) (hd : d < 10) {i : Nat} (hi : i < 10) : bt (x ||| (nI 1 <<< (nI d &&& 31))) i = (bt x i || decide (i = d)) := by
  rw [b_or]; congr 1; exact b_bit (by omega) (by omega)
theorem Gi_add (hd : d < 10) (ha : a < 10) (h : Gi E J x0 a d x) (hb : bt x a = true) (he : E a d = true) : Gi E J x0 a (d + 1) (x ||| (nI 1 <<< (nI d &&& 31))) := by
  have up : ∀ i, i < 10 → bt x i = true → bt (x ||| (nI 1 <<< (nI d &&& 31))) i = true := fun i hi hx => by rw [bt_or d hd hi, hx]; rfl
  obtain ⟨⟨⟨g1, g2⟩, g3, g4⟩, g5⟩ := h
  refine ⟨⟨⟨fun i hi hj => up i hi (g1 i hi hj), fun S s1 s2 i hi hx => ?_⟩, fun i hi hx => up i hi (g3 i hi hx), fun b hb1 hb2 i hi hx => up i hi (g4 b hb1 hb2 i hi hx)⟩, fun _ e he1 he2 => ?_⟩
  · rw [bt_or d hd hi, Bool.or_eq_true, decide_eq_true_eq] at hx
    rcases hx with hx | hx
    · exact g2 S s1 s2 i hi hx
    · subst hx; exact s2 a ha (g2 S s1 s2 a ha hb) i hi he
  · by_cases q : e = d
    · subst q; rw [bt_or e hd hd]; simp
    · exact up e (by omega) (g5 hb e (by omega) he2)
theorem Gi_skip (h : Gi E J x0 a d x) (he : E a d = false) : Gi E J x0 a (d + 1) x := by
  refine ⟨h.1, fun hb e he1 he2 => ?_⟩
  by_cases q : e = d
  · subst q; rw [he] at he2; cases he2
  · exact h.2 hb e (by omega) he2
theorem Gi_start (h : Gm E J x0 a x) : Gi E J x0 a 0 x := ⟨h, fun _ e he => by omega⟩
theorem Gi_end (ha : a < 10) (h : Gi E J x0 a d x) (hq : d = 10 ∨ bt x a = false) : Gm E J x0 (a + 1) x := by
  refine ⟨h.1.1, h.1.2.1, fun b hb hx i hi he => ?_⟩
  by_cases q : b = a
  · subst q
    have hx2 := h.1.2.1 b ha hx
    rcases hq with hq | hq
    · subst hq; exact h.2 hx2 i hi he
    · rw [hq] at hx2; cases hx2
  · exact h.1.2.2 b (by omega) hx i hi he
theorem Gm_start (h : Gr E J n x) : Gm E J x 0 x := ⟨h.1, fun _ _ h => h, fun b hb => by omega⟩
theorem Gm_end (h0 : Gr E J n x0) (h : Gm E J x0 10 x) : Gr E J (n + 1) x := by
  refine ⟨h.1, ?_⟩
  by_cases hq : ∀ i, i < 10 → bt x i = true → bt x0 i = true
  · left
    intro a ha hx i hi he
    exact h.2.2 a ha (hq a ha hx) i hi he
  · right
    simp only [Classical.not_forall] at hq
    obtain ⟨i, hi, hx, hn⟩ := hq
    rcases h0.2 with hc | hc
    · exact absurd (h.1.2 (bt x0) h0.1.1 hc i hi hx) hn
    · have hf : bt x0 i = false := by cases z : bt x0 i; rfl; exact absurd z hn
      have := cnt_lt 10 h.2.1 i hi hf hx
      omega
theorem Gr_fin (h : Gr E J 10 x) : Cl E x := by
  rcases h.2 with hc | hc
  · exact hc
  · intro a ha _ d hd _
    refine Classical.byContradiction (fun z => ?_)
    have hf : bt x d = false := by cases w : bt x d; rfl; exact absurd w z
    have := cnt_lt (f := bt x) (g := fun _ => true) 10 (fun _ _ _ => rfl) d hd hf rfl
    have := cnt_le (fun _ => true) 10
    omega
theorem Gs_start (h : ∀ d, d < 10 → bt x d = J d) : Gr E J 0 x := ⟨⟨fun d hd hj => (h d hd).trans hj, fun S s1 _ d hd hx => s1 d hd ((h d hd).symm.trans hx)⟩, Or.inr (Nat.zero_le _)⟩
end GR
theorem cy_fin {β : Me} {c : Nat} {x : Int32} (hc : c < 10) (h : Gr (egB β) (egB β c) 10 x) : bt x c = cyB β c := by
  unfold cyB
  have hcl := Gr_fin h
  cases hx : bt x c with
  | true =>
    refine (h.1.2 (fun d => Wb (egB β) 10 c d) (fun d hd hj => Wb_edge _ _ _ _ hj) (fun a ha hs d hd he => Wb_trans _ _ _ _ _ ha hs (Wb_edge _ _ _ _ he)) c hc hx).symm
  | false =>
    cases hw : Wb (egB β) 10 c c with
    | false => rfl
    | true =>
      have key : ∀ d, Relation.TransGen (fun a a' => egB β a a' = true) c d → d < 10 ∧ bt x d = true := by
        intro d hd
        have lt : ∀ a b, egB β a b = true → b < 10 := fun a b q => by unfold egB at q; simp only [Bool.and_eq_true, decide_eq_true_eq] at q; exact q.1
        induction hd with
        | single q => exact ⟨lt _ _ q, h.1.1 _ (lt _ _ q) q⟩
        | tail _ q ih => exact ⟨lt _ _ q, hcl _ ih.1 ih.2 _ (lt _ _ q) q⟩
      rw [(key c (Wb_sound _ _ _ _ hw)).2] at hx; cases hx
theorem eg_t {β : Me} {c d : Nat} (hd : d < 10) (h1 : ndB β c d = true) (h2 : ¬ d = c ∨ fnB β c = false) : egB β c d = true := by
  unfold egB; rw [decide_eq_true hd, h1]
  rcases h2 with h | h
  · rw [decide_eq_false h]; rfl
  · rw [h]; simp
theorem eg_f1 {β : Me} {c d : Nat} (h1 : ndB β c d = false) : egB β c d = false := by unfold egB; rw [h1]; simp
theorem eg_f2 {β : Me} {c d : Nat} (h1 : d = c) (h2 : fnB β c = true) : egB β c d = false := by unfold egB; rw [decide_eq_true h1, h2]; simp
set_option maxHeartbeats 4000000 in
theorem m_Mo_cycles (l : Launch) (g : Gd) (hI : sI (sR g)) (M : Me) {β : Me} {c : Nat} (hc : c < 10) (hT : TxR M β) (hN : Nmb β) : CR l g y_Mo_cycles c_Mo_cycles 6 (some .boolean) 3 [.ref (ga g 0), .int (nI c)] M (fun r M' => r = some (.int (bI (cyB β c))) ∧ M = M') := by
  refine Ct.of hI (sR_N0 g) rfl (Nat.le_of_ble_eq_true rfl) (fun K h0 hC hR hkl hn => ?_)
  have hC : Cx (sR g) K gC_Mo _ := hC
  show V K (wp (sR g)) M 0 [(0, .ref (ga g 0)), (1, .int (nI c))] []
  have hIn : ∀ (n : Nat) (x0 : Int32) (a : Nat), n < 10 → a < 10 → (∀ x, Gm (egB β) (egB β c) x0 (a + 1) x → V K (wp (sR g)) M 59 [(4, .int (nI (a + 1))), (3, .int (nI n)), (2, .int x), (0, .ref (ga g 0)), (1, .int (nI c))] []) → ∀ (t d : Nat) (x : Int32), d + t = 10 → Gi (egB β) (egB β c) x0 a d x → V K (wp (sR g)) M 69 [(5, .int (nI d)), (4, .int (nI a)), (3, .int (nI n)), (2, .int x), (0, .ref (ga g 0)), (1, .int (nI c))] [] := by
    intro n x0 a hn0 ha kk t
    induction t with
    | zero =>
      intro d x hd hG
      refine v_iload h0 d_Mo_cycles_69 0 rfl ?_
      refine v_bipush h0 d_Mo_cycles_71 (v := nI 10) (by decide) ?_
      refine n_icmp_ge h0 (by omega) (by omega) d_Mo_cycles_73 rfl (fun h73 => ?_) (fun h73 => absurd h73 (by omega))
      refine v_iinc h0 d_Mo_cycles_126 (lv' := [(4, .int (nI (a + 1))), (5, .int (nI d)), (3, .int (nI n)), (2, .int x), (0, .ref (ga g 0)), (1, .int (nI c))]) 1 rfl (inc1 a) (lt_kn hn (by decide)) rfl ?_
      refine v_goto h0 d_Mo_cycles_129 rfl ?_
      refine v_sub [0, 2, 3, 4, 5] rfl ?_
      exact kk x (Gi_end ha hG (Or.inl (by omega)))
    | succ t ih =>
      intro d x hd hG
      refine v_iload h0 d_Mo_cycles_69 0 rfl ?_
      refine v_bipush h0 d_Mo_cycles_71 (v := nI 10) (by decide) ?_
      refine n_icmp_ge h0 (by omega) (by omega) d_Mo_cycles_73 rfl (fun h73 => absurd h73 (by omega)) (fun h73 => ?_)
      refine v_iload_n h0 d_Mo_cycles_76 3 rfl ?_
      refine v_iload h0 d_Mo_cycles_77 1 rfl ?_
      refine v_ishr h0 d_Mo_cycles_79 ?_
      refine v_iconst h0 d_Mo_cycles_80 (v := nI 1) (by decide) ?_
      refine v_iand h0 d_Mo_cycles_81 ?_
      refine v_int (bI (bt x a)) (b_top (by omega) rfl) ?_
      refine v_iconst h0 d_Mo_cycles_82 (v := nI 1) (by decide) ?_
      refine v_icmp_ne h0 d_Mo_cycles_83 rfl (fun h83 => ?_) (fun h83 => ?_)
      · skip
        refine v_iinc h0 d_Mo_cycles_126 (lv' := [(4, .int (nI (a + 1))), (5, .int (nI d)), (3, .int (nI n)), (2, .int x), (0, .ref (ga g 0)), (1, .int (nI c))]) 1 rfl (inc1 a) (lt_kn hn (by decide)) rfl ?_
        refine v_goto h0 d_Mo_cycles_129 rfl ?_
        refine v_sub [0, 2, 3, 4, 5] rfl ?_
        exact kk x (Gi_end ha hG (Or.inr (bI_n1 h83)))
      · skip
        refine v_aload_n h0 d_Mo_cycles_86 4 rfl ?_
        refine v_iload h0 d_Mo_cycles_87 1 rfl ?_
        refine v_iload h0 d_Mo_cycles_89 0 rfl ?_
        refine v_callV h0 hC (sR_N0 g) 0 (show 0 < 22 by omega) (show enR g 0 _ = _ from rfl) rfl (av := [.int (nI a), .int (nI d)]) (rest := []) (m_Mo_needs (kl K) g hI M (by omega) (by omega) hT hN) wd_607 wd_604 wd_606 ws_39 wd_6 hd_Mo_needs (by omega) (by decide) rfl rfl (Nat.le_of_ble_eq_true rfl) d_Mo_cycles_91 (fun r9 M9 hp9 => ?_)
        obtain ⟨rfl, rfl⟩ := hp9
        refine v_r1 ?_
        refine b_if_eq h0 d_Mo_cycles_94 rfl (fun h94 => ?_) (fun h94 => ?_)
        · skip
          refine v_iinc h0 d_Mo_cycles_120 (lv' := [(5, .int (nI (d + 1))), (4, .int (nI a)), (3, .int (nI n)), (2, .int x), (0, .ref (ga g 0)), (1, .int (nI c))]) 0 rfl (inc1 d) (lt_kn hn (by decide)) rfl ?_
          refine v_goto h0 d_Mo_cycles_123 rfl ?_
          exact ih (d + 1) x (by omega) (Gi_skip hG (eg_f1 h94))
        · skip
          refine v_iload h0 d_Mo_cycles_97 0 rfl ?_
          refine v_iload h0 d_Mo_cycles_99 1 rfl ?_
          refine n_icmp_ne h0 (by omega) (by omega) d_Mo_cycles_101 rfl (fun h101 => ?_) (fun h101 => ?_)
          · skip
            refine v_iload_n h0 d_Mo_cycles_113 3 rfl ?_
            refine v_iconst h0 d_Mo_cycles_114 (v := nI 1) (by decide) ?_
            refine v_iload h0 d_Mo_cycles_115 0 rfl ?_
            refine v_ishl h0 d_Mo_cycles_117 ?_
            refine v_ior h0 d_Mo_cycles_118 ?_
            refine v_istore_n h0 d_Mo_cycles_119 (lv' := [(2, .int (x ||| ((nI 1) <<< ((nI d) &&& 31)))), (5, .int (nI d)), (4, .int (nI a)), (3, .int (nI n)), (0, .ref (ga g 0)), (1, .int (nI c))]) (lt_kn hn (by decide)) rfl ?_
            refine v_iinc h0 d_Mo_cycles_120 (lv' := [(5, .int (nI (d + 1))), (2, .int (x ||| ((nI 1) <<< ((nI d) &&& 31)))), (4, .int (nI a)), (3, .int (nI n)), (0, .ref (ga g 0)), (1, .int (nI c))]) 1 rfl (inc1 d) (lt_kn hn (by decide)) rfl ?_
            refine v_goto h0 d_Mo_cycles_123 rfl ?_
            refine v_sub [0, 2, 3, 1, 4, 5] rfl ?_
            exact ih (d + 1) _ (by omega) (Gi_add (by omega) ha hG (bI_e1 h83) (eg_t (by omega) h94 (Or.inl h101)))
          · skip
            refine v_aload_n h0 d_Mo_cycles_104 4 rfl ?_
            refine v_iload h0 d_Mo_cycles_105 1 rfl ?_
            refine v_callV h0 hC (sR_N0 g) 0 (show 0 < 22 by omega) (show enR g 0 _ = _ from rfl) rfl (av := [.int (nI a)]) (rest := []) (m_Mo_isFunction (kl K) g hI M (by omega) hT) wd_592 wd_589 wd_591 ws_36 wd_6 hd_Mo_isFunction (by omega) (by decide) rfl rfl (Nat.le_of_ble_eq_true rfl) d_Mo_cycles_107 (fun r9 M9 hp9 => ?_)
            obtain ⟨rfl, rfl⟩ := hp9
            refine v_r1 ?_
            refine b_if_ne h0 d_Mo_cycles_110 rfl (fun h110 => ?_) (fun h110 => ?_)
            · skip
              refine v_iinc h0 d_Mo_cycles_120 (lv' := [(5, .int (nI (d + 1))), (4, .int (nI a)), (3, .int (nI n)), (2, .int x), (0, .ref (ga g 0)), (1, .int (nI c))]) 0 rfl (inc1 d) (lt_kn hn (by decide)) rfl ?_
              refine v_goto h0 d_Mo_cycles_123 rfl ?_
              exact ih (d + 1) x (by omega) (Gi_skip hG (eg_f2 h101 h110))
            · skip
              refine v_iload_n h0 d_Mo_cycles_113 3 rfl ?_
              refine v_iconst h0 d_Mo_cycles_114 (v := nI 1) (by decide) ?_
              refine v_iload h0 d_Mo_cycles_115 0 rfl ?_
              refine v_ishl h0 d_Mo_cycles_117 ?_
              refine v_ior h0 d_Mo_cycles_118 ?_
              refine v_istore_n h0 d_Mo_cycles_119 (lv' := [(2, .int (x ||| ((nI 1) <<< ((nI d) &&& 31)))), (5, .int (nI d)), (4, .int (nI a)), (3, .int (nI n)), (0, .ref (ga g 0)), (1, .int (nI c))]) (lt_kn hn (by decide)) rfl ?_
              refine v_iinc h0 d_Mo_cycles_120 (lv' := [(5, .int (nI (d + 1))), (2, .int (x ||| ((nI 1) <<< ((nI d) &&& 31)))), (4, .int (nI a)), (3, .int (nI n)), (0, .ref (ga g 0)), (1, .int (nI c))]) 1 rfl (inc1 d) (lt_kn hn (by decide)) rfl ?_
              refine v_goto h0 d_Mo_cycles_123 rfl ?_
              refine v_sub [0, 2, 3, 1, 4, 5] rfl ?_
              exact ih (d + 1) _ (by omega) (Gi_add (by omega) ha hG (bI_e1 h83) (eg_t (by omega) h94 (Or.inr h110)))
  have hMi : ∀ (n : Nat) (x0 : Int32), n < 10 → (∀ x, Gm (egB β) (egB β c) x0 10 x → V K (wp (sR g)) M 50 [(3, .int (nI (n + 1))), (2, .int x), (0, .ref (ga g 0)), (1, .int (nI c))] []) → ∀ (t a : Nat) (x : Int32), a + t = 10 → Gm (egB β) (egB β c) x0 a x → V K (wp (sR g)) M 59 [(4, .int (nI a)), (3, .int (nI n)), (2, .int x), (0, .ref (ga g 0)), (1, .int (nI c))] [] := by
    intro n x0 hn0 kk t
    induction t with
    | zero =>
      intro a x ha hG
      refine v_iload h0 d_Mo_cycles_59 0 rfl ?_
      refine v_bipush h0 d_Mo_cycles_61 (v := nI 10) (by decide) ?_
      refine n_icmp_ge h0 (by omega) (by omega) d_Mo_cycles_63 rfl (fun h63 => ?_) (fun h63 => absurd h63 (by omega))
      refine v_iinc h0 d_Mo_cycles_132 (lv' := [(3, .int (nI (n + 1))), (4, .int (nI a)), (2, .int x), (0, .ref (ga g 0)), (1, .int (nI c))]) 1 rfl (inc1 n) (lt_kn hn (by decide)) rfl ?_
      refine v_goto h0 d_Mo_cycles_135 rfl ?_
      refine v_sub [0, 2, 3, 4] rfl ?_
      exact kk x (by rw [show (10 : Nat) = a by omega]; exact hG)
    | succ t ih =>
      intro a x ha hG
      refine v_iload h0 d_Mo_cycles_59 0 rfl ?_
      refine v_bipush h0 d_Mo_cycles_61 (v := nI 10) (by decide) ?_
      refine n_icmp_ge h0 (by omega) (by omega) d_Mo_cycles_63 rfl (fun h63 => absurd h63 (by omega)) (fun h63 => ?_)
      refine v_iconst h0 d_Mo_cycles_66 (v := nI 0) (by decide) ?_
      refine v_istore h0 d_Mo_cycles_67 (lv' := [(5, .int (nI 0)), (4, .int (nI a)), (3, .int (nI n)), (2, .int x), (0, .ref (ga g 0)), (1, .int (nI c))]) (lt_kn hn (by decide)) rfl ?_
      exact hIn n x0 a hn0 (by omega) (fun y hy => ih (a + 1) y (by omega) hy) 10 0 x rfl (Gi_start hG)
  have hOu : ∀ (t n : Nat) (x : Int32), n + t = 10 → Gr (egB β) (egB β c) n x → V K (wp (sR g)) M 50 [(3, .int (nI n)), (2, .int x), (0, .ref (ga g 0)), (1, .int (nI c))] [] := by
    intro t
    induction t with
    | zero =>
      intro n x hn1 hG
      refine v_iload_n h0 d_Mo_cycles_50 0 rfl ?_
      refine v_bipush h0 d_Mo_cycles_51 (v := nI 10) (by decide) ?_
      refine n_icmp_ge h0 (by omega) (by omega) d_Mo_cycles_53 rfl (fun h53 => ?_) (fun h53 => absurd h53 (by omega))
      refine v_iload_n h0 d_Mo_cycles_138 1 rfl ?_
      refine v_iload_n h0 d_Mo_cycles_139 3 rfl ?_
      refine v_ishr h0 d_Mo_cycles_140 ?_
      refine v_iconst h0 d_Mo_cycles_141 (v := nI 1) (by decide) ?_
      refine v_iand h0 d_Mo_cycles_142 ?_
      refine v_int (bI (cyB β c)) (by rw [← cy_fin hc (by rw [show (10 : Nat) = n by omega]; exact hG)]; exact b_top (by omega) rfl) ?_
      refine v_iconst h0 d_Mo_cycles_143 (v := nI 1) (by decide) ?_
      refine v_icmp_ne h0 d_Mo_cycles_144 rfl (fun h144 => ?_) (fun h144 => ?_)
      · skip
        refine v_iconst h0 d_Mo_cycles_151 (v := nI 0) (by decide) ?_
        exact v_zret h0 hC hR (rfl) d_Mo_cycles_152 (⟨ret_f (bI_n1 h144), rfl⟩)
      · skip
        refine v_iconst h0 d_Mo_cycles_147 (v := nI 1) (by decide) ?_
        refine v_goto h0 d_Mo_cycles_148 rfl ?_
        exact v_zret h0 hC hR (rfl) d_Mo_cycles_152 (⟨ret_t (bI_e1 h144), rfl⟩)
    | succ t ih =>
      intro n x hn1 hG
      refine v_iload_n h0 d_Mo_cycles_50 0 rfl ?_
      refine v_bipush h0 d_Mo_cycles_51 (v := nI 10) (by decide) ?_
      refine n_icmp_ge h0 (by omega) (by omega) d_Mo_cycles_53 rfl (fun h53 => absurd h53 (by omega)) (fun h53 => ?_)
      refine v_iconst h0 d_Mo_cycles_56 (v := nI 0) (by decide) ?_
      refine v_istore h0 d_Mo_cycles_57 (lv' := [(4, .int (nI 0)), (3, .int (nI n)), (2, .int x), (0, .ref (ga g 0)), (1, .int (nI c))]) (lt_kn hn (by decide)) rfl ?_
      exact hMi n x (by omega) (fun y hy => ih (n + 1) y (by omega) (Gm_end hG hy)) 10 0 x rfl (Gm_start hG)
  have hFi : ∀ (t i : Nat), i + t = 10 → V K (wp (sR g)) M 4 [(3, .int (nI i)), (2, .int (mk (egB β c) i)), (0, .ref (ga g 0)), (1, .int (nI c))] [] := by
    intro t
    induction t with
    | zero =>
      intro i hi
      refine v_iload_n h0 d_Mo_cycles_4 0 rfl ?_
      refine v_bipush h0 d_Mo_cycles_5 (v := nI 10) (by decide) ?_
      refine n_icmp_ge h0 (by omega) (by omega) d_Mo_cycles_7 rfl (fun h7 => ?_) (fun h7 => absurd h7 (by omega))
      refine v_iconst h0 d_Mo_cycles_48 (v := nI 0) (by decide) ?_
      refine v_istore_n h0 d_Mo_cycles_49 (lv' := [(3, .int (nI 0)), (2, .int (mk (egB β c) i)), (0, .ref (ga g 0)), (1, .int (nI c))]) (lt_kn hn (by decide)) rfl ?_
      refine hOu 10 0 _ rfl (Gs_start (fun d hd => ?_))
      rw [show i = 10 by omega, bt_mk _ (by omega) 10 (by omega), decide_eq_true hd, Bool.true_and]
    | succ t ih =>
      intro i hi
      refine v_iload_n h0 d_Mo_cycles_4 0 rfl ?_
      refine v_bipush h0 d_Mo_cycles_5 (v := nI 10) (by decide) ?_
      refine n_icmp_ge h0 (by omega) (by omega) d_Mo_cycles_7 rfl (fun h7 => absurd h7 (by omega)) (fun h7 => ?_)
      refine v_aload_n h0 d_Mo_cycles_10 2 rfl ?_
      refine v_iload_n h0 d_Mo_cycles_11 3 rfl ?_
      refine v_iload_n h0 d_Mo_cycles_12 0 rfl ?_
      refine v_callV h0 hC (sR_N0 g) 0 (show 0 < 22 by omega) (show enR g 0 _ = _ from rfl) rfl (av := [.int (nI c), .int (nI i)]) (rest := []) (m_Mo_needs (kl K) g hI M hc (by omega) hT hN) wd_607 wd_604 wd_606 ws_39 wd_6 hd_Mo_needs (by omega) (by decide) rfl rfl (Nat.le_of_ble_eq_true rfl) d_Mo_cycles_13 (fun r9 M9 hp9 => ?_)
      obtain ⟨rfl, rfl⟩ := hp9
      refine v_r1 ?_
      refine b_if_eq h0 d_Mo_cycles_16 rfl (fun h16 => ?_) (fun h16 => ?_)
      · skip
        refine v_iload_n h0 d_Mo_cycles_40 1 rfl ?_
        refine v_istore_n h0 d_Mo_cycles_41 (lv' := [(2, .int (mk (egB β c) i)), (3, .int (nI i)), (0, .ref (ga g 0)), (1, .int (nI c))]) (lt_kn hn (by decide)) rfl ?_
        refine v_iinc h0 d_Mo_cycles_42 (lv' := [(3, .int (nI (i + 1))), (2, .int (mk (egB β c) i)), (0, .ref (ga g 0)), (1, .int (nI c))]) 1 rfl (inc1 i) (lt_kn hn (by decide)) rfl ?_
        refine v_goto h0 d_Mo_cycles_45 rfl ?_
        refine v_eq (ih (i + 1) (by omega)) rfl rfl (by rw [mk_f (eg_f1 h16)]) rfl
      · skip
        refine v_iload_n h0 d_Mo_cycles_19 0 rfl ?_
        refine v_iload_n h0 d_Mo_cycles_20 3 rfl ?_
        refine n_icmp_ne h0 (by omega) (by omega) d_Mo_cycles_21 rfl (fun h21 => ?_) (fun h21 => ?_)
        · skip
          refine v_iload_n h0 d_Mo_cycles_32 1 rfl ?_
          refine v_iconst h0 d_Mo_cycles_33 (v := nI 1) (by decide) ?_
          refine v_iload_n h0 d_Mo_cycles_34 0 rfl ?_
          refine v_ishl h0 d_Mo_cycles_35 ?_
          refine v_ior h0 d_Mo_cycles_36 ?_
          refine v_goto h0 d_Mo_cycles_37 rfl ?_
          refine v_istore_n h0 d_Mo_cycles_41 (lv' := [(2, .int ((mk (egB β c) i) ||| ((nI 1) <<< ((nI i) &&& 31)))), (3, .int (nI i)), (0, .ref (ga g 0)), (1, .int (nI c))]) (lt_kn hn (by decide)) rfl ?_
          refine v_iinc h0 d_Mo_cycles_42 (lv' := [(3, .int (nI (i + 1))), (2, .int ((mk (egB β c) i) ||| ((nI 1) <<< ((nI i) &&& 31)))), (0, .ref (ga g 0)), (1, .int (nI c))]) 1 rfl (inc1 i) (lt_kn hn (by decide)) rfl ?_
          refine v_goto h0 d_Mo_cycles_45 rfl ?_
          refine v_eq (ih (i + 1) (by omega)) rfl rfl (by rw [mk_t (eg_t (by omega) h16 (Or.inl h21))]) rfl
        · skip
          refine v_aload_n h0 d_Mo_cycles_24 2 rfl ?_
          refine v_iload_n h0 d_Mo_cycles_25 3 rfl ?_
          refine v_callV h0 hC (sR_N0 g) 0 (show 0 < 22 by omega) (show enR g 0 _ = _ from rfl) rfl (av := [.int (nI c)]) (rest := []) (m_Mo_isFunction (kl K) g hI M hc hT) wd_592 wd_589 wd_591 ws_36 wd_6 hd_Mo_isFunction (by omega) (by decide) rfl rfl (Nat.le_of_ble_eq_true rfl) d_Mo_cycles_26 (fun r9 M9 hp9 => ?_)
          obtain ⟨rfl, rfl⟩ := hp9
          refine v_r1 ?_
          refine b_if_ne h0 d_Mo_cycles_29 rfl (fun h29 => ?_) (fun h29 => ?_)
          · skip
            refine v_iload_n h0 d_Mo_cycles_40 1 rfl ?_
            refine v_istore_n h0 d_Mo_cycles_41 (lv' := [(2, .int (mk (egB β c) i)), (3, .int (nI i)), (0, .ref (ga g 0)), (1, .int (nI c))]) (lt_kn hn (by decide)) rfl ?_
            refine v_iinc h0 d_Mo_cycles_42 (lv' := [(3, .int (nI (i + 1))), (2, .int (mk (egB β c) i)), (0, .ref (ga g 0)), (1, .int (nI c))]) 1 rfl (inc1 i) (lt_kn hn (by decide)) rfl ?_
            refine v_goto h0 d_Mo_cycles_45 rfl ?_
            refine v_eq (ih (i + 1) (by omega)) rfl rfl (by rw [mk_f (eg_f2 h21 h29)]) rfl
          · skip
            refine v_iload_n h0 d_Mo_cycles_32 1 rfl ?_
            refine v_iconst h0 d_Mo_cycles_33 (v := nI 1) (by decide) ?_
            refine v_iload_n h0 d_Mo_cycles_34 0 rfl ?_
            refine v_ishl h0 d_Mo_cycles_35 ?_
            refine v_ior h0 d_Mo_cycles_36 ?_
            refine v_goto h0 d_Mo_cycles_37 rfl ?_
            refine v_istore_n h0 d_Mo_cycles_41 (lv' := [(2, .int ((mk (egB β c) i) ||| ((nI 1) <<< ((nI i) &&& 31)))), (3, .int (nI i)), (0, .ref (ga g 0)), (1, .int (nI c))]) (lt_kn hn (by decide)) rfl ?_
            refine v_iinc h0 d_Mo_cycles_42 (lv' := [(3, .int (nI (i + 1))), (2, .int ((mk (egB β c) i) ||| ((nI 1) <<< ((nI i) &&& 31)))), (0, .ref (ga g 0)), (1, .int (nI c))]) 1 rfl (inc1 i) (lt_kn hn (by decide)) rfl ?_
            refine v_goto h0 d_Mo_cycles_45 rfl ?_
            refine v_eq (ih (i + 1) (by omega)) rfl rfl (by rw [mk_t (eg_t (by omega) h16 (Or.inr h29))]) rfl
  refine v_iconst h0 d_Mo_cycles_0 (v := nI 0) (by decide) ?_
  refine v_istore_n h0 d_Mo_cycles_1 (lv' := [(2, .int (nI 0)), (0, .ref (ga g 0)), (1, .int (nI c))]) (lt_kn hn (by decide)) rfl ?_
  refine v_iconst h0 d_Mo_cycles_2 (v := nI 0) (by decide) ?_
  refine v_istore_n h0 d_Mo_cycles_3 (lv' := [(3, .int (nI 0)), (2, .int (nI 0)), (0, .ref (ga g 0)), (1, .int (nI c))]) (lt_kn hn (by decide)) rfl ?_
  exact hFi 10 0 rfl
def dpU (β : Me) (c : Nat) (i : Nat) : Bool := (List.range i).any fun d => decide (d ≠ c) && decide (β 2 d = β 2 c)
def msU (β : Me) (c : Nat) (i : Nat) : Bool := (List.range i).any fun j => bt (usI β c) j && decide (dfL β j 10 < 0)
theorem dpU_s (β : Me) (c i : Nat) : dpU β c (i + 1) = (dpU β c i || (decide (i ≠ c) && decide (β 2 i = β 2 c))) := by unfold dpU; rw [List.range_succ, List.any_append]; simp
theorem msU_s (β : Me) (c i : Nat) : msU β c (i + 1) = (msU β c i || (bt (usI β c) i && decide (dfL β i 10 < 0))) := by unfold msU; rw [List.range_succ, List.any_append]; simp
theorem any_up {p : Nat → Bool} {i n : Nat} (hi : i < n) (h : p i = true) : (List.range n).any p = true := List.any_eq_true.mpr ⟨i, List.mem_range.mpr hi, h⟩
set_option maxHeartbeats 4000000 in
theorem m_Mo_fault (l : Launch) (g : Gd) (hI : sI (sR g)) (M : Me) {β : Me} {c : Nat} (hc : c < 10) (hT : TxR M β) (hN : Nmb β) : CR l g y_Mo_fault c_Mo_fault 4 (some .int) 4 [.ref (ga g 0), .int (nI c)] M (fun r M' => r = some (.int (ftI β c)) ∧ M = M') := by
  refine Ct.of hI (sR_N0 g) rfl (Nat.le_of_ble_eq_true rfl) (fun K h0 hC hR hkl hn => ?_)
  have hC : Cx (sR g) K gC_Mo _ := hC
  show V K (wp (sR g)) M 0 [(0, .ref (ga g 0)), (1, .int (nI c))] []
  have loop : wlB β c = true → ∀ (t i : Nat), i + t = 10 → dpU β c i = false → V K (wp (sR g)) M 15 [(3, .int (nI i)), (2, .int (bI (msU β c i))), (0, .ref (ga g 0)), (1, .int (nI c))] [] := by
    intro hw t
    induction t with
    | zero =>
      intro i hi hd
      obtain rfl : i = 10 := by omega
      have hd : dpB β c = false := hd
      refine v_iload_n h0 d_Mo_fault_15 0 rfl ?_
      refine v_bipush h0 d_Mo_fault_16 (v := nI 10) (by decide) ?_
      refine n_icmp_ge h0 (by omega) (by omega) d_Mo_fault_18 rfl (fun h18 => ?_) (fun h18 => absurd h18 (by omega))
      refine v_iload_n h0 d_Mo_fault_81 1 rfl ?_
      refine b_if_eq h0 d_Mo_fault_82 rfl (fun h82 => ?_) (fun h82 => ?_)
      · skip
        refine v_aload_n h0 d_Mo_fault_89 2 rfl ?_
        refine v_iload_n h0 d_Mo_fault_90 3 rfl ?_
        refine v_callV h0 hC (sR_N0 g) 0 (show 0 < 22 by omega) (show enR g 0 _ = _ from rfl) rfl (av := [.int (nI c)]) (rest := []) (m_Mo_cycles (kl K) g hI M hc hT hN) wd_635 wd_632 wd_634 ws_44 wd_6 hd_Mo_cycles (by omega) (by decide) rfl rfl (Nat.le_of_ble_eq_true rfl) d_Mo_fault_91 (fun r9 M9 hp9 => ?_)
        obtain ⟨rfl, rfl⟩ := hp9
        refine v_r1 ?_
        refine b_if_eq h0 d_Mo_fault_94 rfl (fun h94 => ?_) (fun h94 => ?_)
        · skip
          refine v_iconst h0 d_Mo_fault_101 (v := nI 0) (by decide) ?_
          exact v_iret h0 hC hR d_Mo_fault_102 (⟨by unfold ftI; rw [if_pos hw, if_neg (by rw [hd]; decide), if_neg (show ¬ msB β c = true by rw [show msB β c = false from h82]; decide), if_neg (by rw [h94]; decide)]; rfl, rfl⟩)
        · skip
          refine v_iconst h0 d_Mo_fault_97 (v := nI 4) (by decide) ?_
          refine v_goto h0 d_Mo_fault_98 rfl ?_
          exact v_iret h0 hC hR d_Mo_fault_102 (⟨by unfold ftI; rw [if_pos hw, if_neg (by rw [hd]; decide), if_neg (show ¬ msB β c = true by rw [show msB β c = false from h82]; decide), if_pos h94]; rfl, rfl⟩)
      · skip
        refine v_iconst h0 d_Mo_fault_85 (v := nI 3) (by decide) ?_
        refine v_goto h0 d_Mo_fault_86 rfl ?_
        exact v_iret h0 hC hR d_Mo_fault_102 (⟨by unfold ftI; rw [if_pos hw, if_neg (by rw [hd]; decide), if_pos (show msB β c = true from h82)]; rfl, rfl⟩)
    | succ t ih =>
      intro i hi hd
      refine v_iload_n h0 d_Mo_fault_15 0 rfl ?_
      refine v_bipush h0 d_Mo_fault_16 (v := nI 10) (by decide) ?_
      refine n_icmp_ge h0 (by omega) (by omega) d_Mo_fault_18 rfl (fun h18 => absurd h18 (by omega)) (fun h18 => ?_)
      refine v_iload_n h0 d_Mo_fault_21 0 rfl ?_
      refine v_iload_n h0 d_Mo_fault_22 3 rfl ?_
      refine n_icmp_eq h0 (by omega) (by omega) d_Mo_fault_23 rfl (fun h23 => ?_) (fun h23 => ?_)
      · skip
        refine v_iload_n h0 d_Mo_fault_43 1 rfl ?_
        refine b_if_ne h0 d_Mo_fault_44 rfl (fun h44 => ?_) (fun h44 => ?_)
        · skip
          refine v_iconst h0 d_Mo_fault_69 (v := nI 1) (by decide) ?_
          refine v_goto h0 d_Mo_fault_70 rfl ?_
          refine v_istore_n h0 d_Mo_fault_74 (lv' := [(2, .int (nI 1)), (3, .int (nI i)), (0, .ref (ga g 0)), (1, .int (nI c))]) (lt_kn hn (by decide)) rfl ?_
          refine v_iinc h0 d_Mo_fault_75 (lv' := [(3, .int (nI (i + 1))), (2, .int (nI 1)), (0, .ref (ga g 0)), (1, .int (nI c))]) 1 rfl (inc1 i) (lt_kn hn (by decide)) rfl ?_
          refine v_goto h0 d_Mo_fault_78 rfl ?_
          refine v_eq (ih (i + 1) (by omega) (by rw [dpU_s, hd, decide_eq_false (by omega : ¬ i ≠ c)]; simp)) rfl rfl (by rw [msU_s, h44, Bool.true_or]; rfl) rfl
        · skip
          refine v_aload_n h0 d_Mo_fault_47 2 rfl ?_
          refine g_Mo_used_ h0 hC wd_456 d_Mo_fault_48 ?_
          refine v_iload_n h0 d_Mo_fault_51 3 rfl ?_
          refine a_Mo_used_ h0 hC c (rfl) (by omega) d_Mo_fault_52 ?_
          refine v_int (usI β c) ((hT c hc).2.2.2.2.2) ?_
          refine v_iload_n h0 d_Mo_fault_53 0 rfl ?_
          refine v_ishr h0 d_Mo_fault_54 ?_
          refine v_iconst h0 d_Mo_fault_55 (v := nI 1) (by decide) ?_
          refine v_iand h0 d_Mo_fault_56 ?_
          refine v_int (bI (bt (usI β c) i)) (b_top (by omega) rfl) ?_
          refine v_iconst h0 d_Mo_fault_57 (v := nI 1) (by decide) ?_
          refine v_icmp_ne h0 d_Mo_fault_58 rfl (fun h58 => ?_) (fun h58 => ?_)
          · skip
            refine v_iconst h0 d_Mo_fault_73 (v := nI 0) (by decide) ?_
            refine v_istore_n h0 d_Mo_fault_74 (lv' := [(2, .int (nI 0)), (3, .int (nI i)), (0, .ref (ga g 0)), (1, .int (nI c))]) (lt_kn hn (by decide)) rfl ?_
            refine v_iinc h0 d_Mo_fault_75 (lv' := [(3, .int (nI (i + 1))), (2, .int (nI 0)), (0, .ref (ga g 0)), (1, .int (nI c))]) 1 rfl (inc1 i) (lt_kn hn (by decide)) rfl ?_
            refine v_goto h0 d_Mo_fault_78 rfl ?_
            refine v_eq (ih (i + 1) (by omega) (by rw [dpU_s, hd, decide_eq_false (by omega : ¬ i ≠ c)]; simp)) rfl rfl (by rw [msU_s, h44, bI_n1 h58, Bool.false_and, Bool.or_self]; rfl) rfl
          · skip
            refine v_aload_n h0 d_Mo_fault_61 2 rfl ?_
            refine v_iload_n h0 d_Mo_fault_62 0 rfl ?_
            refine v_callV h0 hC (sR_N0 g) 0 (show 0 < 22 by omega) (show enR g 0 _ = _ from rfl) rfl (av := [.int (nI i)]) (rest := []) (m_Mo_definer (kl K) g hI M (fun c hc => (hT c hc).1) i) wd_631 wd_628 wd_630 ws_43 wd_6 hd_Mo_definer (by omega) (by decide) rfl rfl (Nat.le_of_ble_eq_true rfl) d_Mo_fault_63 (fun r9 M9 hp9 => ?_)
            obtain ⟨rfl, rfl⟩ := hp9
            refine v_r1 ?_
            refine v_if_ge h0 d_Mo_fault_66 rfl (fun h66 => ?_) (fun h66 => ?_)
            · skip
              refine v_iconst h0 d_Mo_fault_73 (v := nI 0) (by decide) ?_
              refine v_istore_n h0 d_Mo_fault_74 (lv' := [(2, .int (nI 0)), (3, .int (nI i)), (0, .ref (ga g 0)), (1, .int (nI c))]) (lt_kn hn (by decide)) rfl ?_
              refine v_iinc h0 d_Mo_fault_75 (lv' := [(3, .int (nI (i + 1))), (2, .int (nI 0)), (0, .ref (ga g 0)), (1, .int (nI c))]) 1 rfl (inc1 i) (lt_kn hn (by decide)) rfl ?_
              refine v_goto h0 d_Mo_fault_78 rfl ?_
              refine v_eq (ih (i + 1) (by omega) (by rw [dpU_s, hd, decide_eq_false (by omega : ¬ i ≠ c)]; simp)) rfl rfl (by rw [msU_s, h44, decide_eq_false (Int32.not_lt.mpr h66), Bool.and_false, Bool.or_self]; rfl) rfl
            · skip
              refine v_iconst h0 d_Mo_fault_69 (v := nI 1) (by decide) ?_
              refine v_goto h0 d_Mo_fault_70 rfl ?_
              refine v_istore_n h0 d_Mo_fault_74 (lv' := [(2, .int (nI 1)), (3, .int (nI i)), (0, .ref (ga g 0)), (1, .int (nI c))]) (lt_kn hn (by decide)) rfl ?_
              refine v_iinc h0 d_Mo_fault_75 (lv' := [(3, .int (nI (i + 1))), (2, .int (nI 1)), (0, .ref (ga g 0)), (1, .int (nI c))]) 1 rfl (inc1 i) (lt_kn hn (by decide)) rfl ?_
              refine v_goto h0 d_Mo_fault_78 rfl ?_
              refine v_eq (ih (i + 1) (by omega) (by rw [dpU_s, hd, decide_eq_false (by omega : ¬ i ≠ c)]; simp)) rfl rfl (by rw [msU_s, bI_e1 h58, decide_eq_true (Int32.not_le.mp h66), Bool.and_self, Bool.or_true]; rfl) rfl
      · skip
        refine v_aload_n h0 d_Mo_fault_26 2 rfl ?_
        refine g_Mo_named_ h0 hC wd_452 d_Mo_fault_27 ?_
        refine v_iload_n h0 d_Mo_fault_30 0 rfl ?_
        refine a_Mo_named_ h0 hC i (rfl) (by omega) d_Mo_fault_31 ?_
        refine v_int (β 2 i) ((hT i (by omega)).1) ?_
        refine v_aload_n h0 d_Mo_fault_32 2 rfl ?_
        refine g_Mo_named_ h0 hC wd_452 d_Mo_fault_33 ?_
        refine v_iload_n h0 d_Mo_fault_36 3 rfl ?_
        refine a_Mo_named_ h0 hC c (rfl) (by omega) d_Mo_fault_37 ?_
        refine v_int (β 2 c) ((hT c hc).1) ?_
        refine v_icmp_ne h0 d_Mo_fault_38 rfl (fun h38 => ?_) (fun h38 => ?_)
        · skip
          refine v_iload_n h0 d_Mo_fault_43 1 rfl ?_
          refine b_if_ne h0 d_Mo_fault_44 rfl (fun h44 => ?_) (fun h44 => ?_)
          · skip
            refine v_iconst h0 d_Mo_fault_69 (v := nI 1) (by decide) ?_
            refine v_goto h0 d_Mo_fault_70 rfl ?_
            refine v_istore_n h0 d_Mo_fault_74 (lv' := [(2, .int (nI 1)), (3, .int (nI i)), (0, .ref (ga g 0)), (1, .int (nI c))]) (lt_kn hn (by decide)) rfl ?_
            refine v_iinc h0 d_Mo_fault_75 (lv' := [(3, .int (nI (i + 1))), (2, .int (nI 1)), (0, .ref (ga g 0)), (1, .int (nI c))]) 1 rfl (inc1 i) (lt_kn hn (by decide)) rfl ?_
            refine v_goto h0 d_Mo_fault_78 rfl ?_
            refine v_eq (ih (i + 1) (by omega) (by rw [dpU_s, hd, decide_eq_false h38]; simp)) rfl rfl (by rw [msU_s, h44, Bool.true_or]; rfl) rfl
          · skip
            refine v_aload_n h0 d_Mo_fault_47 2 rfl ?_
            refine g_Mo_used_ h0 hC wd_456 d_Mo_fault_48 ?_
            refine v_iload_n h0 d_Mo_fault_51 3 rfl ?_
            refine a_Mo_used_ h0 hC c (rfl) (by omega) d_Mo_fault_52 ?_
            refine v_int (usI β c) ((hT c hc).2.2.2.2.2) ?_
            refine v_iload_n h0 d_Mo_fault_53 0 rfl ?_
            refine v_ishr h0 d_Mo_fault_54 ?_
            refine v_iconst h0 d_Mo_fault_55 (v := nI 1) (by decide) ?_
            refine v_iand h0 d_Mo_fault_56 ?_
            refine v_int (bI (bt (usI β c) i)) (b_top (by omega) rfl) ?_
            refine v_iconst h0 d_Mo_fault_57 (v := nI 1) (by decide) ?_
            refine v_icmp_ne h0 d_Mo_fault_58 rfl (fun h58 => ?_) (fun h58 => ?_)
            · skip
              refine v_iconst h0 d_Mo_fault_73 (v := nI 0) (by decide) ?_
              refine v_istore_n h0 d_Mo_fault_74 (lv' := [(2, .int (nI 0)), (3, .int (nI i)), (0, .ref (ga g 0)), (1, .int (nI c))]) (lt_kn hn (by decide)) rfl ?_
              refine v_iinc h0 d_Mo_fault_75 (lv' := [(3, .int (nI (i + 1))), (2, .int (nI 0)), (0, .ref (ga g 0)), (1, .int (nI c))]) 1 rfl (inc1 i) (lt_kn hn (by decide)) rfl ?_
              refine v_goto h0 d_Mo_fault_78 rfl ?_
              refine v_eq (ih (i + 1) (by omega) (by rw [dpU_s, hd, decide_eq_false h38]; simp)) rfl rfl (by rw [msU_s, h44, bI_n1 h58, Bool.false_and, Bool.or_self]; rfl) rfl
            · skip
              refine v_aload_n h0 d_Mo_fault_61 2 rfl ?_
              refine v_iload_n h0 d_Mo_fault_62 0 rfl ?_
              refine v_callV h0 hC (sR_N0 g) 0 (show 0 < 22 by omega) (show enR g 0 _ = _ from rfl) rfl (av := [.int (nI i)]) (rest := []) (m_Mo_definer (kl K) g hI M (fun c hc => (hT c hc).1) i) wd_631 wd_628 wd_630 ws_43 wd_6 hd_Mo_definer (by omega) (by decide) rfl rfl (Nat.le_of_ble_eq_true rfl) d_Mo_fault_63 (fun r9 M9 hp9 => ?_)
              obtain ⟨rfl, rfl⟩ := hp9
              refine v_r1 ?_
              refine v_if_ge h0 d_Mo_fault_66 rfl (fun h66 => ?_) (fun h66 => ?_)
              · skip
                refine v_iconst h0 d_Mo_fault_73 (v := nI 0) (by decide) ?_
                refine v_istore_n h0 d_Mo_fault_74 (lv' := [(2, .int (nI 0)), (3, .int (nI i)), (0, .ref (ga g 0)), (1, .int (nI c))]) (lt_kn hn (by decide)) rfl ?_
                refine v_iinc h0 d_Mo_fault_75 (lv' := [(3, .int (nI (i + 1))), (2, .int (nI 0)), (0, .ref (ga g 0)), (1, .int (nI c))]) 1 rfl (inc1 i) (lt_kn hn (by decide)) rfl ?_
                refine v_goto h0 d_Mo_fault_78 rfl ?_
                refine v_eq (ih (i + 1) (by omega) (by rw [dpU_s, hd, decide_eq_false h38]; simp)) rfl rfl (by rw [msU_s, h44, decide_eq_false (Int32.not_lt.mpr h66), Bool.and_false, Bool.or_self]; rfl) rfl
              · skip
                refine v_iconst h0 d_Mo_fault_69 (v := nI 1) (by decide) ?_
                refine v_goto h0 d_Mo_fault_70 rfl ?_
                refine v_istore_n h0 d_Mo_fault_74 (lv' := [(2, .int (nI 1)), (3, .int (nI i)), (0, .ref (ga g 0)), (1, .int (nI c))]) (lt_kn hn (by decide)) rfl ?_
                refine v_iinc h0 d_Mo_fault_75 (lv' := [(3, .int (nI (i + 1))), (2, .int (nI 1)), (0, .ref (ga g 0)), (1, .int (nI c))]) 1 rfl (inc1 i) (lt_kn hn (by decide)) rfl ?_
                refine v_goto h0 d_Mo_fault_78 rfl ?_
                refine v_eq (ih (i + 1) (by omega) (by rw [dpU_s, hd, decide_eq_false h38]; simp)) rfl rfl (by rw [msU_s, bI_e1 h58, decide_eq_true (Int32.not_le.mp h66), Bool.and_self, Bool.or_true]; rfl) rfl
        · skip
          refine v_iconst h0 d_Mo_fault_41 (v := nI 2) (by decide) ?_
          exact v_iret h0 hC hR d_Mo_fault_42 (⟨by unfold ftI; rw [if_pos hw, if_pos (show dpB β c = true from any_up (i := i) (by omega) (by rw [decide_eq_true h23, decide_eq_true h38]; rfl))]; rfl, rfl⟩)
  refine v_aload_n h0 d_Mo_fault_0 0 rfl ?_
  refine g_Mo_well_ h0 hC wd_455 d_Mo_fault_1 ?_
  refine v_iload_n h0 d_Mo_fault_4 1 rfl ?_
  refine a_Mo_well_ h0 hC c (rfl) (by omega) d_Mo_fault_5 ?_
  refine v_int (bI (wlB β c)) ((hT c hc).2.2.2.2.1) ?_
  refine b_if_ne h0 d_Mo_fault_6 rfl (fun h6 => ?_) (fun h6 => ?_)
  · skip
    refine v_iconst h0 d_Mo_fault_11 (v := nI 0) (by decide) ?_
    refine v_istore_n h0 d_Mo_fault_12 (lv' := [(2, .int (nI 0)), (0, .ref (ga g 0)), (1, .int (nI c))]) (lt_kn hn (by decide)) rfl ?_
    refine v_iconst h0 d_Mo_fault_13 (v := nI 0) (by decide) ?_
    refine v_istore_n h0 d_Mo_fault_14 (lv' := [(3, .int (nI 0)), (2, .int (nI 0)), (0, .ref (ga g 0)), (1, .int (nI c))]) (lt_kn hn (by decide)) rfl ?_
    exact loop h6 10 0 rfl rfl
  · skip
    refine v_iconst h0 d_Mo_fault_9 (v := nI 1) (by decide) ?_
    exact v_iret h0 hC hR d_Mo_fault_10 (⟨by unfold ftI; rw [if_neg (by rw [h6]; decide)]; rfl, rfl⟩)
