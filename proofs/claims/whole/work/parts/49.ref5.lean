/-! THE REFERENCE READS a text -/
def RdsP (M : Me) (c n : Nat) (s : Nat → Int32) (r : Option Value) (M' : Me) : Prop := r = some (.int (bI (tWl s n))) ∧ RF M M' c ∧ (tWl s n = true → M' 8 c = tNm s n ∧ LO s (lbR M' c) 6 (tSt s n))
theorem tWl_bs {s : Nat → Int32} {n : Nat} (h92 : s 0 = 92) (h : ¬ kd (chR s n 1) = 9) : tWl s n = false := by
  have hh : tHd s n = false := by
    unfold tHd
    by_cases z : 1 < n
    · unfold chR at h; rw [if_pos z] at h; rw [decide_eq_false h]; simp
    · rw [decide_eq_false z]; simp
  cases hw : tWl s n with
  | false => rfl
  | true =>
    unfold tWl at hw
    simp only [Bool.and_eq_true] at hw
    have ho := hw.1
    have hs : tSt s n = 0 := by unfold tSt; rw [hh]; rfl
    rw [hs] at ho
    have hk := OK_kd ho
    rw [h92] at hk
    revert hk; decide
set_option maxHeartbeats 4000000 in
theorem m_Mo_reads (l : Launch) (g : Gd) (hI : sI (sR g)) (M : Me) {s : Nat → Int32} {c n : Nat} (hc : c < 10) (hn0 : 0 < n) (hT : TR M c s n) : CR l g y_Mo_reads c_Mo_reads 4 (some .boolean) 3 [.ref (ga g 0), .int (nI c)] M (RdsP M c n s) := by
  refine Ct.of hI (sR_N0 g) rfl (Nat.le_of_ble_eq_true rfl) (fun K h0 hC hR hkl hn => ?_)
  have hC : Cx (sR g) K gC_Mo _ := hC
  show V K (wp (sR g)) M 0 [(0, .ref (ga g 0)), (1, .int (nI c))] []
  have hEnd : ∀ (M1 : Me) (e : Nat), e < 1000 → RF M M1 c → (OK s n 6 (tB0 s n) (tSt s n) = true ∧ EN s 6 (tSt s n) = e ∧ M1 8 c = NM s 6 (tSt s n) ∧ LO s (lbR M1 c) 6 (tSt s n)) → V K (wp (sR g)) M1 284 [(2, .int (nI e)), (0, .ref (ga g 0)), (1, .int (nI c))] [] := by
    intro M1 e he hF hE
    refine v_iload_n h0 d_Mo_reads_284 0 rfl ?_
    refine v_aload_n h0 d_Mo_reads_285 1 rfl ?_
    refine g_Mo_length_ h0 hC wd_451 d_Mo_reads_286 ?_
    refine v_iload_n h0 d_Mo_reads_289 2 rfl ?_
    refine a_Mo_length_ h0 hC c (rfl) (by omega) d_Mo_reads_290 ?_
    have hn24 := hT.2.1
    refine v_int (nI n) ((hT.rf hF).1) ?_
    refine n_icmp_ne h0 (by omega) (by omega) d_Mo_reads_291 rfl (fun h291 => ?_) (fun h291 => ?_)
    · skip
      refine v_iconst h0 d_Mo_reads_298 (v := nI 0) (by decide) ?_
      exact v_zret h0 hC hR (rfl) d_Mo_reads_299 (⟨ret_f (by unfold tWl; rw [hE.2.1, decide_eq_false h291, Bool.and_false]), hF, fun z => by unfold tWl at z; rw [hE.2.1, decide_eq_false h291, Bool.and_false] at z; cases z⟩)
    · skip
      refine v_iconst h0 d_Mo_reads_294 (v := nI 1) (by decide) ?_
      refine v_goto h0 d_Mo_reads_295 rfl ?_
      exact v_zret h0 hC hR (rfl) d_Mo_reads_299 (⟨ret_t (by unfold tWl; rw [hE.1, hE.2.1, decide_eq_true h291]; rfl), hF, fun z => ⟨by unfold tNm; rw [if_pos z]; exact hE.2.2.1, hE.2.2.2⟩⟩)
  have hBad : ∀ (M1 : Me), RF M M1 c → OK s n 6 (tB0 s n) (tSt s n) = false → V K (wp (sR g)) M1 284 [(2, .int (-1)), (0, .ref (ga g 0)), (1, .int (nI c))] [] := by
    intro M1 hF hE
    have hf : tWl s n = false := by unfold tWl; rw [hE]; rfl
    refine v_iload_n h0 d_Mo_reads_284 0 rfl ?_
    refine v_aload_n h0 d_Mo_reads_285 1 rfl ?_
    refine g_Mo_length_ h0 hC wd_451 d_Mo_reads_286 ?_
    refine v_iload_n h0 d_Mo_reads_289 2 rfl ?_
    refine a_Mo_length_ h0 hC c (rfl) (by omega) d_Mo_reads_290 ?_
    have hn24 := hT.2.1
    refine v_int (nI n) ((hT.rf hF).1) ?_
    refine v_icmp_ne h0 d_Mo_reads_291 rfl (fun h291 => ?_) (fun h291 => absurd h291 (fun z => nI_m1 (n := n) (by omega) z.symm))
    refine v_iconst h0 d_Mo_reads_298 (v := nI 0) (by decide) ?_
    exact v_zret h0 hC hR (rfl) d_Mo_reads_299 (⟨ret_f hf, hF, fun z => by rw [hf] at z; cases z⟩)
  have hLoop : ∀ (M5 : Me) (k : Nat) (bc : Nat → Nat), RF M M5 c → k ≤ 24 → M5 0 17 = nI 1 → M5 14 0 = nI 1 → M5 0 16 = nI 0 → (∀ j, j < 6 → M5 15 j = nI (bc j) ∧ bc j ≤ 1) → (∀ p, p < 24 → lbR M5 c p = 0) → M5 8 c = 0 → tSt s n = k → hB bc = tB0 s n → V K (wp (sR g)) M5 116 [(2, .int (nI k)), (0, .ref (ga g 0)), (1, .int (nI c))] [] := by
    intro M5 k bc hF hk h17 h14 h16 hb hl h8 hst hbB
    refine RdE_all hI h0 hC hn hc 6 M5 0 k bc (hT.rf hF) hk h17 h14 (by omega) h16 (fun j hj => ⟨(hb j hj).1, by have := (hb j hj).2; omega⟩) (fun p _ hp => hl p hp) (fun ok M6 h6 => ?_) (fun nok M6 h6 => hBad M6 (hF.trans h6) (by rw [← hbB, hst]; exact nok))
    have he := OK_ends _ _ _ _ _ ok
    have hn24 := hT.2.1
    have e17 : M6 0 17 = nI 0 := h6.1.2.1
    refine v_aload_n h0 d_Mo_reads_116 1 rfl ?_
    refine g_Mo_todoCount_ h0 hC wd_465 d_Mo_reads_117 ?_
    refine v_int (nI 0) (e17) ?_
    refine v_if_le h0 d_Mo_reads_120 rfl (fun h120 => ?_) (fun h120 => absurd h120 (fun z => z (by decide)))
    exact hEnd M6 _ (by omega) (hF.trans h6.1.1) ⟨by rw [← hbB, hst]; exact ok, by rw [hst], by rw [hst, h6.1.2.2.2.2.2.1, h8, or_00], by rw [hst]; exact h6.2⟩
  have h47 : ∀ (M2 : Me), RF M M2 c → (∀ p, p < 24 → lbR M2 c p = 0) → (∀ j, j < 6 → M2 15 j = nI 0) → V K (wp (sR g)) M2 47 [(0, .ref (ga g 0)), (1, .int (nI c))] [] := by
    intro M2 hF2 hl2 hb2
    refine v_aload_n h0 d_Mo_reads_47 0 rfl ?_
    refine g_Mo_used_ h0 hC wd_456 d_Mo_reads_48 ?_
    refine v_iload_n h0 d_Mo_reads_51 1 rfl ?_
    refine v_iconst h0 d_Mo_reads_52 (v := nI 0) (by decide) ?_
    refine s_Mo_used_ h0 hC c (rfl) (z := nI 0) (rfl) (by omega) d_Mo_reads_53 ?_
    refine v_aload_n h0 d_Mo_reads_54 0 rfl ?_
    refine v_iconst h0 d_Mo_reads_55 (v := nI 0) (by decide) ?_
    refine p_Mo_todoCount_ h0 hC wd_465 d_Mo_reads_56 ?_
    refine v_aload_n h0 d_Mo_reads_59 0 rfl ?_
    refine v_iconst h0 d_Mo_reads_60 (v := nI 0) (by decide) ?_
    refine p_Mo_nested_ h0 hC wd_464 d_Mo_reads_61 ?_
    refine v_iconst h0 d_Mo_reads_64 (v := nI 0) (by decide) ?_
    refine v_istore_n h0 d_Mo_reads_65 (lv' := [(2, .int (nI 0)), (0, .ref (ga g 0)), (1, .int (nI c))]) (lt_kn hn (by decide)) rfl ?_
    have hF4 : RF M (up2 (up2 (up2 M2 8 c (nI 0)) 0 17 (nI 0)) 0 16 (nI 0)) c := ((hF2.u8 _).u17 _).u16 _
    have e17 : (up2 (up2 (up2 M2 8 c (nI 0)) 0 17 (nI 0)) 0 16 (nI 0)) 0 17 = nI 0 := by rw [up2_n _ _ (by omega), up2_s]
    have e16 : (up2 (up2 (up2 M2 8 c (nI 0)) 0 17 (nI 0)) 0 16 (nI 0)) 0 16 = nI 0 := up2_s _ _ _ _
    have e8 : (up2 (up2 (up2 M2 8 c (nI 0)) 0 17 (nI 0)) 0 16 (nI 0)) 8 c = 0 := by rw [up2_n _ _ (by omega), up2_n _ _ (by omega), up2_s]; rfl
    have e6 : ∀ p, p < 24 → lbR (up2 (up2 (up2 M2 8 c (nI 0)) 0 17 (nI 0)) 0 16 (nI 0)) c p = 0 := fun p hp => by unfold lbR; rw [up2_n _ _ (by omega), up2_n _ _ (by omega), up2_n _ _ (by omega)]; exact hl2 p hp
    have e15 : ∀ j, j < 6 → (up2 (up2 (up2 M2 8 c (nI 0)) 0 17 (nI 0)) 0 16 (nI 0)) 15 j = nI 0 := fun p hp => by rw [up2_n _ _ (by omega), up2_n _ _ (by omega), up2_n _ _ (by omega)]; exact hb2 p hp
    generalize up2 (up2 (up2 M2 8 c (nI 0)) 0 17 (nI 0)) 0 16 (nI 0) = M4 at hF4 e17 e16 e8 e6 e15 ⊢
    refine v_aload_n h0 d_Mo_reads_66 1 rfl ?_
    refine v_iload_n h0 d_Mo_reads_67 2 rfl ?_
    refine v_iconst h0 d_Mo_reads_68 (v := nI 0) (by decide) ?_
    refine v_callV h0 hC (sR_N0 g) 0 (show 0 < 22 by omega) (show enR g 0 _ = _ from rfl) rfl (av := [.int (nI c), .int (nI 0)]) (rest := []) (m_Mo_charAt (kl K) g hI M4 hc (by omega) (hT.rf hF4)) wd_564 wd_561 wd_563 ws_32 wd_6 hd_Mo_charAt (by omega) (by decide) rfl rfl (Nat.le_of_ble_eq_true rfl) d_Mo_reads_69 (fun r9 M9 hp9 => ?_)
    obtain ⟨rfl, rfl⟩ := hp9
    refine v_r1 ?_
    refine v_int (s 0) (if_pos hn0) ?_
    refine v_bipush h0 d_Mo_reads_72 (v := 92) (by decide) ?_
    refine v_icmp_ne h0 d_Mo_reads_74 rfl (fun h74 => ?_) (fun h74 => ?_)
    · skip
      refine v_aload_n h0 d_Mo_reads_111 1 rfl ?_
      refine v_iconst h0 d_Mo_reads_112 (v := nI 1) (by decide) ?_
      refine v_callV h0 hC (sR_N0 g) 0 (show 0 < 22 by omega) (show enR g 0 _ = _ from rfl) rfl (av := [.int (nI 1)]) (rest := []) (m_Mo_come (kl K) g hI M4 (t := 0) _ (by first | exact e17 | (rw [up2_n _ _ (by omega)]; exact e17)) (by omega)) wd_571 wd_568 wd_570 ws_33 wd_6 hd_Mo_come (by omega) (by decide) rfl rfl (Nat.le_of_ble_eq_true rfl) d_Mo_reads_113 (fun r9 M9 hp9 => ?_)
      obtain ⟨rfl, rfl⟩ := hp9
      refine v_r0 ?_
      have hhd : tHd s n = false := by unfold tHd; rw [decide_eq_false (show ¬ s 0 = 92 from h74)]; rfl
      refine hLoop _ 0 (fun _ => 0) (hF4.psh _ _) (by omega) (by simp [psh, up2_if]) (by simp [psh, up2_if]) (by unfold psh; rw [up2_n _ _ (by omega), up2_n _ _ (by omega)]; exact e16) (fun j hj => ⟨by unfold psh; rw [up2_n _ _ (by omega), up2_n _ _ (by omega)]; exact e15 j hj, by omega⟩) (fun p hp => by unfold lbR psh; rw [up2_n _ _ (by omega), up2_n _ _ (by omega)]; exact e6 p hp) (by unfold psh; rw [up2_n _ _ (by omega), up2_n _ _ (by omega)]; exact e8) (by unfold tSt; rw [hhd]; rfl) (by funext j; unfold hB tB0; rw [hhd]; simp)
    · skip
      refine v_aload_n h0 d_Mo_reads_77 1 rfl ?_
      refine v_iload_n h0 d_Mo_reads_78 2 rfl ?_
      refine v_iconst h0 d_Mo_reads_79 (v := nI 1) (by decide) ?_
      refine v_callV h0 hC (sR_N0 g) 0 (show 0 < 22 by omega) (show enR g 0 _ = _ from rfl) rfl (av := [.int (nI c), .int (nI 1)]) (rest := []) (m_Mo_charAt (kl K) g hI M4 hc (by omega) (hT.rf hF4)) wd_564 wd_561 wd_563 ws_32 wd_6 hd_Mo_charAt (by omega) (by decide) rfl rfl (Nat.le_of_ble_eq_true rfl) d_Mo_reads_80 (fun r9 M9 hp9 => ?_)
      obtain ⟨rfl, rfl⟩ := hp9
      refine v_r1 ?_
      refine v_callS h0 hC (sR_N0 g) (av := [.int (chR s n 1)]) (rest := []) (m_Mo_isLocal (kl K) g hI M4 _) wd_567 wd_565 wd_566 wd_6 hd_Mo_isLocal (by omega) (by decide) rfl rfl (Nat.le_of_ble_eq_true rfl) d_Mo_reads_83 (fun r9 M9 hp9 => ?_)
      obtain ⟨rfl, rfl⟩ := hp9
      refine v_r1 ?_
      refine b_if_ne h0 d_Mo_reads_86 rfl (fun h86 => ?_) (fun h86 => ?_)
      · skip
        refine v_aload_n h0 d_Mo_reads_91 1 rfl ?_
        refine g_Mo_bound_ h0 hC wd_466 d_Mo_reads_92 ?_
        refine v_aload_n h0 d_Mo_reads_95 1 rfl ?_
        refine v_iload_n h0 d_Mo_reads_96 2 rfl ?_
        refine v_iconst h0 d_Mo_reads_97 (v := nI 1) (by decide) ?_
        refine v_callV h0 hC (sR_N0 g) 0 (show 0 < 22 by omega) (show enR g 0 _ = _ from rfl) rfl (av := [.int (nI c), .int (nI 1)]) (rest := [.ref (ga g 15)]) (m_Mo_charAt (kl K) g hI M4 hc (by omega) (hT.rf hF4)) wd_564 wd_561 wd_563 ws_32 wd_6 hd_Mo_charAt (by omega) (by decide) rfl rfl (Nat.le_of_ble_eq_true rfl) d_Mo_reads_98 (fun r9 M9 hp9 => ?_)
        obtain ⟨rfl, rfl⟩ := hp9
        refine v_r1 ?_
        refine v_bipush h0 d_Mo_reads_101 (v := nI 107) (by decide) ?_
        refine v_isub h0 d_Mo_reads_103 ?_
        refine v_int (nI (lcI (chR s n 1))) ((lc_of (of_decide_eq_true h86)).2) ?_
        refine v_dup2 h0 d_Mo_reads_104 rfl rfl ?_
        refine a_Mo_bound_ h0 hC (lcI (chR s n 1)) (rfl) ((lc_of (of_decide_eq_true h86)).1) d_Mo_reads_105 ?_
        refine v_iconst h0 d_Mo_reads_106 (v := nI 1) (by decide) ?_
        refine v_iadd h0 d_Mo_reads_107 ?_
        refine v_int (nI 1) (by rw [e15 _ (lc_of (of_decide_eq_true h86)).1]; rfl) ?_
        refine s_Mo_bound_ h0 hC (lcI (chR s n 1)) (rfl) (z := nI 1) (rfl) ((lc_of (of_decide_eq_true h86)).1) d_Mo_reads_108 ?_
        refine v_iconst h0 d_Mo_reads_109 (v := nI 2) (by decide) ?_
        refine v_istore_n h0 d_Mo_reads_110 (lv' := [(2, .int (nI 2)), (0, .ref (ga g 0)), (1, .int (nI c))]) (lt_kn hn (by decide)) rfl ?_
        refine v_aload_n h0 d_Mo_reads_111 1 rfl ?_
        refine v_iconst h0 d_Mo_reads_112 (v := nI 1) (by decide) ?_
        refine v_callV h0 hC (sR_N0 g) 0 (show 0 < 22 by omega) (show enR g 0 _ = _ from rfl) rfl (av := [.int (nI 1)]) (rest := []) (m_Mo_come (kl K) g hI (up2 M4 15 (lcI (chR s n 1)) (nI 1)) (t := 0) _ (by first | exact e17 | (rw [up2_n _ _ (by omega)]; exact e17)) (by omega)) wd_571 wd_568 wd_570 ws_33 wd_6 hd_Mo_come (by omega) (by decide) rfl rfl (Nat.le_of_ble_eq_true rfl) d_Mo_reads_113 (fun r9 M9 hp9 => ?_)
        obtain ⟨rfl, rfl⟩ := hp9
        refine v_r0 ?_
        have hk9 : kd (chR s n 1) = 9 := of_decide_eq_true h86
        obtain ⟨hn1, hs1⟩ := chR_k hk9 (by decide)
        have hhd : tHd s n = true := by unfold tHd; rw [decide_eq_true (show s 0 = 92 from h74), decide_eq_true hn1, ← hs1, decide_eq_true hk9]; rfl
        have hn24 := hT.2.1
        refine hLoop _ 2 (fun j => if j = lcI (chR s n 1) then 1 else 0) ((hF4.u15 _ _).psh _ _) (by omega) (by simp [psh, up2_if]) (by simp [psh, up2_if]) (by unfold psh; rw [up2_n _ _ (by omega), up2_n _ _ (by omega), up2_n _ _ (by omega)]; exact e16) (fun j hj => ?_) (fun p hp => by unfold lbR psh; rw [up2_n _ _ (by omega), up2_n _ _ (by omega), up2_n _ _ (by omega)]; exact e6 p hp) (by unfold psh; rw [up2_n _ _ (by omega), up2_n _ _ (by omega), up2_n _ _ (by omega)]; exact e8) (by unfold tSt; rw [hhd]; rfl) (by funext j; unfold hB tB0; rw [hhd, hs1]; by_cases z : j = lcI (s 1) <;> simp [z])
        unfold psh; rw [up2_n _ _ (by omega), up2_n _ _ (by omega)]
        by_cases z : j = lcI (chR s n 1)
        · rw [if_pos z, z, up2_s]; exact ⟨rfl, by omega⟩
        · rw [if_neg z, up2_n _ _ (by omega)]; exact ⟨e15 j hj, by omega⟩
      · skip
        refine v_iconst h0 d_Mo_reads_89 (v := nI 0) (by decide) ?_
        exact v_zret h0 hC hR (rfl) d_Mo_reads_90 (⟨ret_f (tWl_bs h74 (of_decide_eq_false h86)), hF4, fun z => by rw [tWl_bs h74 (of_decide_eq_false h86)] at z; cases z⟩)
  have h28 : ∀ (t i : Nat) (M2 : Me), i + t = 6 → RF M M2 c → (∀ p, p < 24 → lbR M2 c p = 0) → (∀ j, j < i → M2 15 j = nI 0) → V K (wp (sR g)) M2 28 [(2, .int (nI i)), (0, .ref (ga g 0)), (1, .int (nI c))] [] := by
    intro t
    induction t with
    | zero =>
      intro i M2 hi hF2 hl2 hb2
      refine v_iload_n h0 d_Mo_reads_28 0 rfl ?_
      refine v_bipush h0 d_Mo_reads_29 (v := nI 6) (by decide) ?_
      refine n_icmp_ge h0 (by omega) (by omega) d_Mo_reads_31 rfl (fun h31 => ?_) (fun h31 => absurd h31 (by omega))
      refine v_sub [1, 2] rfl ?_
      exact h47 M2 hF2 hl2 (fun j hj => hb2 j (by omega))
    | succ t ih =>
      intro i M2 hi hF2 hl2 hb2
      refine v_iload_n h0 d_Mo_reads_28 0 rfl ?_
      refine v_bipush h0 d_Mo_reads_29 (v := nI 6) (by decide) ?_
      refine n_icmp_ge h0 (by omega) (by omega) d_Mo_reads_31 rfl (fun h31 => absurd h31 (by omega)) (fun h31 => ?_)
      refine v_aload_n h0 d_Mo_reads_34 1 rfl ?_
      refine g_Mo_bound_ h0 hC wd_466 d_Mo_reads_35 ?_
      refine v_iload_n h0 d_Mo_reads_38 0 rfl ?_
      refine v_iconst h0 d_Mo_reads_39 (v := nI 0) (by decide) ?_
      refine s_Mo_bound_ h0 hC i (rfl) (z := nI 0) (rfl) (by omega) d_Mo_reads_40 ?_
      refine v_iinc h0 d_Mo_reads_41 (lv' := [(2, .int (nI (i + 1))), (0, .ref (ga g 0)), (1, .int (nI c))]) 0 rfl (inc1 i) (lt_kn hn (by decide)) rfl ?_
      refine v_goto h0 d_Mo_reads_44 rfl ?_
      refine ih (i + 1) _ (by omega) (hF2.u15 i _) (fun p hp => by unfold lbR; rw [up2_n _ _ (by omega)]; exact hl2 p hp) (fun j hj => ?_)
      by_cases z : j = i
      · rw [z, up2_s]
      · rw [up2_n _ _ (by omega)]; exact hb2 j (by omega)
  have h2 : ∀ (t i : Nat) (M2 : Me), i + t = 24 → RF M M2 c → (∀ p, p < i → lbR M2 c p = 0) → V K (wp (sR g)) M2 2 [(2, .int (nI i)), (0, .ref (ga g 0)), (1, .int (nI c))] [] := by
    intro t
    induction t with
    | zero =>
      intro i M2 hi hF2 hl2
      refine v_iload_n h0 d_Mo_reads_2 0 rfl ?_
      refine v_bipush h0 d_Mo_reads_3 (v := nI 24) (by decide) ?_
      refine n_icmp_ge h0 (by omega) (by omega) d_Mo_reads_5 rfl (fun h5 => ?_) (fun h5 => absurd h5 (by omega))
      refine v_iconst h0 d_Mo_reads_26 (v := nI 0) (by decide) ?_
      refine v_istore_n h0 d_Mo_reads_27 (lv' := [(2, .int (nI 0)), (0, .ref (ga g 0)), (1, .int (nI c))]) (lt_kn hn (by decide)) rfl ?_
      exact h28 6 0 M2 rfl hF2 (fun p hp => hl2 p (by omega)) (fun j hj => by omega)
    | succ t ih =>
      intro i M2 hi hF2 hl2
      refine v_iload_n h0 d_Mo_reads_2 0 rfl ?_
      refine v_bipush h0 d_Mo_reads_3 (v := nI 24) (by decide) ?_
      refine n_icmp_ge h0 (by omega) (by omega) d_Mo_reads_5 rfl (fun h5 => absurd h5 (by omega)) (fun h5 => ?_)
      refine v_aload_n h0 d_Mo_reads_8 1 rfl ?_
      refine g_Mo_label_ h0 hC wd_454 d_Mo_reads_9 ?_
      refine v_bipush h0 d_Mo_reads_12 (v := nI 24) (by decide) ?_
      refine v_iload_n h0 d_Mo_reads_14 2 rfl ?_
      refine v_imul h0 d_Mo_reads_15 ?_
      refine v_int (nI (24 * c)) (pk_mul 24 c) ?_
      refine v_iload_n h0 d_Mo_reads_16 0 rfl ?_
      refine v_iadd h0 d_Mo_reads_17 ?_
      refine v_int (nI (24 * c + i)) (nI_add (24 * c) i) ?_
      refine v_iconst h0 d_Mo_reads_18 (v := nI 0) (by decide) ?_
      refine s_Mo_label_ h0 hC (24 * c + i) (rfl) (z := 0) (by decide) (by omega) d_Mo_reads_19 ?_
      refine v_iinc h0 d_Mo_reads_20 (lv' := [(2, .int (nI (i + 1))), (0, .ref (ga g 0)), (1, .int (nI c))]) 0 rfl (inc1 i) (lt_kn hn (by decide)) rfl ?_
      refine v_goto h0 d_Mo_reads_23 rfl ?_
      refine ih (i + 1) _ (by omega) (hF2.u6 (p := i) (by omega) _) (fun j hj => ?_)
      unfold lbR
      by_cases z : j = i
      · rw [z, up2_s]
      · rw [up2_n _ _ (by omega)]; exact hl2 j (by omega)
  refine v_iconst h0 d_Mo_reads_0 (v := nI 0) (by decide) ?_
  refine v_istore_n h0 d_Mo_reads_1 (lv' := [(2, .int (nI 0)), (0, .ref (ga g 0)), (1, .int (nI c))]) (lt_kn hn (by decide)) rfl ?_
  exact h2 24 0 M rfl (RF.refl M c) (fun p hp => by omega)
