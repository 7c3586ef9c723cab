/-! THE REFERENCE: set and remove -/
theorem se_cp {M M7 β : Me} (hA : AbsR M β) {c L : Nat} (hc : c < 10) (hL : L ≤ 24) {s : Nat → Int32} (hs : va_cpy (β 1) (β (20 + c)) 0 0 L = s) (t2 : ∀ p, M7 2 p = if 24 * c ≤ p ∧ p < 24 * c + L then M 1 (p - 24 * c) else M 2 p) : ∀ k, k < 24 → M7 2 (24 * c + k) = s k := by
  intro k hk
  rw [t2, ← hs]
  unfold va_cpy
  by_cases q : k < L
  · rw [if_pos (by omega), if_pos (by omega), show 24 * c + k - 24 * c = k by omega, hA.1.2.2.2.2.2.1 k hk]
    congr 1
    omega
  · rw [if_neg (by omega), if_neg (by omega)]; exact (hA.1.1 c hc).2.1 k hk
theorem se_chF {M β : Me} (hA : AbsR M β) {c L : Nat} (hc : c < 10) (hL : L ≤ 24) {s : Nat → Int32} (hs : va_cpy (β 1) (β (20 + c)) 0 0 L = s) : chF s := by
  rw [← hs]; exact chF.cpy (fun q hq => hA.1.2.2.2.2.2.2 q (by omega)) (hA.1.1 c hc).2.2.1
theorem se_tx {M M7 β : Me} (hA : AbsR M β) {c j L : Nat} (hc : c < 10) (hj : j < 10) (hL : L ≤ 24) {s : Nat → Int32} (hs : va_cpy (β 1) (β (20 + c)) 0 0 L = s) (t2 : ∀ p, M7 2 p = if 24 * c ≤ p ∧ p < 24 * c + L then M 1 (p - 24 * c) else M 2 p) (t3 : M7 3 c = nI L) (t4 : M7 4 c = nI j) (t7 : M7 7 c = bI (tWl s L)) (t8 : M7 8 c = tNm s L) (tt : ∀ d, d ≠ c → M7 3 d = M 3 d ∧ M7 4 d = M 4 d ∧ M7 7 d = M 7 d ∧ M7 8 d = M 8 d) : TxR M7 (se0 β c j L) := by
  intro d hd
  by_cases e : d = c
  · subst e
    obtain ⟨w1, w2, w3, w4⟩ := se_wl (β := β) (c := d) (j := j) hj hL s hs
    rw [w3, w4, se0_20, se0_2, se0_3, hs]
    exact ⟨t4, se_cp hA hc hL hs t2, se_chF hA hc hL hs, t3, t7, t8⟩
  · obtain ⟨q1, q2, q3⟩ := se0_d β j L e
    obtain ⟨u3, u4, u7, u8⟩ := tt d e
    rw [q1, q2, q3, cs_wl q1 q2 q3, cs_us q1 q2 q3, u3, u4, u7, u8]
    obtain ⟨a1, a2, a3⟩ := hA.1.1 d hd
    refine ⟨a1, fun k hk => ?_, a3⟩
    rw [t2, if_neg (by omega)]; exact a2 k hk
theorem se_co {M M8 β : Me} (hA : AbsR M β) {c j L : Nat} (hc : c < 10) (h1 : M8 1 = M 1) (h01 : M8 0 1 = nI 0) (h14 : M8 0 14 = M 0 14) : CoR M8 (se0 β c j L) := by
  obtain ⟨c1, c2, c3, c4⟩ := hA.1.2.2.2
  refine ⟨by rw [h01, (se0_0 β c j L).1]; rfl, by rw [h14, (se0_0 β c j L).2]; exact c2, fun k hk => ?_, ?_⟩
  · rw [h1, se0_i β c j L (by omega) (by omega) (by omega) (by omega)]; exact c3 k hk
  · rw [se0_i β c j L (by omega) (by omega) (by omega) (by omega)]; exact c4
theorem se_te {M M8 β : Me} (hA : AbsR M β) (hIv : Iv β) {c j L : Nat} (hc : c < 10) (hw : wlB (se0 β c j L) c = true → EO (se0 β c j L (20 + c)) (edR M8 c) 6 (stN (se0 β c j L) c) ∧ LO (se0 β c j L (20 + c)) (lbR M8 c) 6 (stN (se0 β c j L) c)) (h5 : ∀ p, (p < 24 * c ∨ 24 * c + 24 ≤ p) → M8 5 p = M 5 p) (h6 : ∀ p, (p < 24 * c ∨ 24 * c + 24 ≤ p) → M8 6 p = M 6 p) : TeR M8 (se0 β c j L) := by
  intro d hd hwd
  by_cases e : d = c
  · subst e; exact hw hwd
  · obtain ⟨q1, q2, q3⟩ := se0_d β j L e
    rw [cs_wl q1 q2 q3] at hwd
    rw [q3, cs_st q2 q3]
    obtain ⟨e1, e2⟩ := hA.1.2.1 d hd hwd
    obtain ⟨o1, o2⟩ := wl_ok hwd
    obtain ⟨n, -, hn, en⟩ := hIv.1.2.2.1 d hd (wl_th hwd)
    have hl : lenN β d = n := by unfold lenN; rw [en, nI_clamp (by omega)]
    refine ⟨?_, ?_⟩
    · refine EO_same 6 _ _ o1 (fun q a b => ?_) e1
      exact h5 _ (by omega)
    · refine LO_same 6 _ _ o1 (fun q a b => ?_) e2
      exact h6 _ (by omega)
theorem se_rs {M M8 β : Me} (hA : AbsR M β) {c j L : Nat} (hr : ∀ i, 10 ≤ i → i ≤ 13 → M8 i = M i) : RsR M8 (se0 β c j L) := by
  intro d hd
  rw [hr 10 (by omega) (by omega), hr 11 (by omega) (by omega), hr 12 (by omega) (by omega), hr 13 (by omega) (by omega), se0_i β c j L (i := 5) (by omega) (by omega) (by omega) (by omega), se0_i β c j L (i := 6) (by omega) (by omega) (by omega) (by omega), se0_i β c j L (i := 7) (by omega) (by omega) (by omega) (by omega), se0_i β c j L (i := 8) (by omega) (by omega) (by omega) (by omega)]
  exact hA.1.2.2.1 d hd
def SeQ (M β : Me) (x y : Int32) (L : Nat) (r : Option Value) (M' : Me) : Prop :=
  (r = some (.int 0) ∧ M = M' ∧ ∀ c j, ¬ seC x y L c j) ∨ ∃ c j, seC x y L c j ∧ r = some (.int 1) ∧ AbsR M' (seβ β c j L)
set_option maxHeartbeats 4000000 in
theorem m_Mo_set (l : Launch) (g : Gd) (hI : sI (sR g)) (M : Me) {β : Me} (hA : AbsR M β) (hIv : Iv β) (x y : Int32) {L : Nat} (hL : M 0 1 = nI L) (hL24 : L ≤ 24) : CR l g y_Mo_set c_Mo_set 5 (some .boolean) 4 [.ref (ga g 0), .int x, .int y] M (SeQ M β x y L) := by
  refine Ct.of hI (sR_N0 g) rfl (Nat.le_of_ble_eq_true rfl) (fun K h0 hC hR hkl hn => ?_)
  have hC : Cx (sR g) K gC_Mo _ := hC
  show V K (wp (sR g)) M 0 [(0, .ref (ga g 0)), (1, .int x), (2, .int y)] []
  have fin : ∀ (c j : Nat), seC x y L c j → c < 10 → j < 10 → 0 < L → ∀ (M8 : Me), AbR0 M8 (se0 β c j L) → M8 9 = M 9 → V K (wp (sR g)) M8 142 [(3, .int (β 2 c)), (0, .ref (ga g 0)), (1, .int (nI c)), (2, .int (nI j))] [] := by
    intro c j hS hc hj hL0 M8 h8 h9
    have h40 : ∀ d, d < 10 → thB (se0 β c j L) d = false → se0 β c j L 4 d = 0 := by
      intro d hd ht
      rw [se0_i β c j L (by omega) (by omega) (by omega) (by omega)]
      by_cases e : d = c
      · subst e; rw [(se_th hj).1] at ht; cases ht
      · rw [cs_th (se0_d β j L e).1] at ht; exact hIv.1.2.2.2.2 d hd ht
    refine v_aload_n h0 d_Mo_set_142 1 rfl ?_
    refine v_iload_n h0 d_Mo_set_143 2 rfl ?_
    refine v_iload_n h0 d_Mo_set_144 0 rfl ?_
    refine v_callV h0 hC (sR_N0 g) 0 (show 0 < 22 by omega) (show enR g 0 _ = _ from rfl) rfl (av := [.int (nI c), .int (β 2 c)]) (rest := []) (m_Mo_becomes (kl K) g hI M8 (β := se0 β c j L) (x := nbI (β 2 c) ||| (1 <<< (nI j &&& 31))) hc h8.1 (fun d hd ht => by rw [h9, se0_i β c j L (by omega) (by omega) (by omega) (by omega)]; exact hA.2 d hd) (se_Nmb hIv.1.1 L hj) (fun d hd => by rw [se0_i β c j L (by omega) (by omega) (by omega) (by omega)]; exact hIv.1.2.2.2.1 d hd) h40 (hIv.1.1 c hc) (by rw [se0_2, nb_ge (Int32.not_lt.mpr (nI_pos' (by omega)))]; rfl) (fun _ => by rw [(se_th hj).2]; exact or_r (by rw [b_bit (by omega) (by omega)]; simp))) wd_599 wd_596 wd_598 ws_37 wd_6 hd_Mo_becomes (by omega) (by decide) rfl rfl (Nat.le_of_ble_eq_true rfl) d_Mo_set_145 (fun r9 M9 hp9 => ?_)
    obtain ⟨rfl, b1, b2⟩ := hp9
    refine v_r0 ?_
    refine v_iconst h0 d_Mo_set_148 (v := nI 1) (by decide) ?_
    exact v_zret h0 hC hR (rfl) d_Mo_set_149 (Or.inr ⟨c, j, hS, rfl, ab_sp h8 b1 b2⟩)
  have loop : ∀ (c j : Nat), seC x y L c j → c < 10 → j < 10 → 0 < L → ∀ (t i : Nat) (M2 : Me), i + t = L → (∀ k, k ≠ 2 → M2 k = up2 M 3 c (nI L) k) → (∀ p, M2 2 p = if 24 * c ≤ p ∧ p < 24 * c + i then M 1 (p - 24 * c) else M 2 p) → V K (wp (sR g)) M2 46 [(4, .int (nI i)), (3, .int (β 2 c)), (0, .ref (ga g 0)), (1, .int (nI c)), (2, .int (nI j))] [] := by
    intro c j hS hc hj hL0 t
    induction t with
    | zero =>
      intro i M2 hi q1 q2
      obtain rfl : i = L := by omega
      generalize hs : va_cpy (β 1) (β (20 + c)) 0 0 i = s
      have hTR : TR (up2 (up2 M2 0 1 (nI 0)) 4 c (nI j)) c s i := ⟨by rw [up2_q _ _ (by omega), up2_q _ _ (by omega), q1 3 (by omega), up2_s], hL24, fun k hk => by rw [up2_q _ _ (by omega), up2_q _ _ (by omega)]; exact se_cp hA hc hL24 hs q2 k hk, se_chF hA hc hL24 hs⟩
      obtain ⟨w1, w2, w3, w4⟩ := se_wl (β := β) (c := c) (j := j) hj hL24 s hs
      refine v_iload h0 d_Mo_set_46 0 rfl ?_
      refine v_aload_n h0 d_Mo_set_48 2 rfl ?_
      refine g_Mo_typedCount_ h0 hC wd_449 d_Mo_set_49 ?_
      refine v_int (nI i) (by rw [q1 0 (by omega), up2_q _ _ (by omega)]; exact hL) ?_
      refine n_icmp_ge h0 (by omega) (by omega) d_Mo_set_52 rfl (fun h52 => ?_) (fun h52 => absurd h52 (by omega))
      refine v_aload_n h0 d_Mo_set_80 2 rfl ?_
      refine v_iconst h0 d_Mo_set_81 (v := nI 0) (by decide) ?_
      refine p_Mo_typedCount_ h0 hC wd_449 d_Mo_set_82 ?_
      refine v_aload_n h0 d_Mo_set_85 2 rfl ?_
      refine g_Mo_named_ h0 hC wd_452 d_Mo_set_86 ?_
      refine v_iload_n h0 d_Mo_set_89 3 rfl ?_
      refine v_iload_n h0 d_Mo_set_90 4 rfl ?_
      refine s_Mo_named_ h0 hC c (rfl) (z := nI j) (rfl) (by omega) d_Mo_set_91 ?_
      refine v_aload_n h0 d_Mo_set_92 2 rfl ?_
      refine g_Mo_well_ h0 hC wd_455 d_Mo_set_93 ?_
      refine v_iload_n h0 d_Mo_set_96 3 rfl ?_
      refine v_aload_n h0 d_Mo_set_97 2 rfl ?_
      refine v_iload_n h0 d_Mo_set_98 3 rfl ?_
      refine v_callV h0 hC (sR_N0 g) 0 (show 0 < 22 by omega) (show enR g 0 _ = _ from rfl) rfl (av := [.int (nI c)]) (rest := [.int (nI c), .ref (ga g 7)]) (m_Mo_reads (kl K) g hI _ hc hL0 hTR) wd_560 wd_557 wd_559 ws_31 wd_6 hd_Mo_reads (by omega) (by decide) rfl rfl (Nat.le_of_ble_eq_true rfl) d_Mo_set_99 (fun r9 M5 hp9 => ?_)
      obtain ⟨rfl, ⟨r1, r2, r3, r4⟩, r5⟩ := hp9
      have rM : ∀ k, k ≠ 0 → k ≠ 2 → k ≠ 3 → k ≠ 4 → k ≠ 6 → k ≠ 7 → k ≠ 8 → k ≠ 14 → k ≠ 15 → up2 (up2 M5 7 c (bI (tWl s i))) 8 c (tNm s i) k = M k := fun k z0 z2 z3 z4 z6 z7 z8 z14 z15 => by rw [up2_q _ _ z8, up2_q _ _ z7, r1 k z0 z6 z8 z14 z15, up2_q _ _ z4, up2_q _ _ z0, q1 k z2, up2_q _ _ z3]
      have h6o : ∀ p, (p < 24 * c ∨ 24 * c + 24 ≤ p) → up2 (up2 M5 7 c (bI (tWl s i))) 8 c (tNm s i) 6 p = M 6 p := fun p hp => by rw [up2_q _ _ (by omega), up2_q _ _ (by omega), r4 p hp, up2_q _ _ (by omega), up2_q _ _ (by omega), q1 6 (by omega), up2_q _ _ (by omega)]
      have hTx : TxR (up2 (up2 M5 7 c (bI (tWl s i))) 8 c (tNm s i)) (se0 β c j i) := by
        refine se_tx hA hc hj hL24 hs (fun p => ?_) ?_ ?_ ?_ ?_ (fun d hd => ⟨?_, ?_, ?_, ?_⟩)
        · rw [up2_q _ _ (by omega), up2_q _ _ (by omega), r1 2 (by omega) (by omega) (by omega) (by omega) (by omega), up2_q _ _ (by omega), up2_q _ _ (by omega)]; exact q2 p
        · rw [up2_q _ _ (by omega), up2_q _ _ (by omega), r1 3 (by omega) (by omega) (by omega) (by omega) (by omega), up2_q _ _ (by omega), up2_q _ _ (by omega), q1 3 (by omega), up2_s]
        · rw [up2_q _ _ (by omega), up2_q _ _ (by omega), r1 4 (by omega) (by omega) (by omega) (by omega) (by omega), up2_s]
        · rw [up2_q _ _ (by omega), up2_s]
        · rw [up2_s]
        · rw [up2_q _ _ (by omega), up2_q _ _ (by omega), r1 3 (by omega) (by omega) (by omega) (by omega) (by omega), up2_q _ _ (by omega), up2_q _ _ (by omega), q1 3 (by omega), up2_n _ _ (by omega)]
        · rw [up2_q _ _ (by omega), up2_q _ _ (by omega), r1 4 (by omega) (by omega) (by omega) (by omega) (by omega), up2_n _ _ (by omega), up2_q _ _ (by omega), q1 4 (by omega), up2_q _ _ (by omega)]
        · rw [up2_q _ _ (by omega), up2_n _ _ (by omega), r1 7 (by omega) (by omega) (by omega) (by omega) (by omega), up2_q _ _ (by omega), up2_q _ _ (by omega), q1 7 (by omega), up2_q _ _ (by omega)]
        · rw [up2_n _ _ (by omega), up2_q _ _ (by omega), r3 d hd, up2_q _ _ (by omega), up2_q _ _ (by omega), q1 8 (by omega), up2_q _ _ (by omega)]
      have hCo : ∀ (M8 : Me), (∀ k, k ≠ 5 → M8 k = up2 (up2 M5 7 c (bI (tWl s i))) 8 c (tNm s i) k) → CoR M8 (se0 β c j i) := fun M8 q => se_co hA hc (by rw [q 1 (by omega), rM 1 (by omega) (by omega) (by omega) (by omega) (by omega) (by omega) (by omega) (by omega) (by omega)]) (by rw [q 0 (by omega), up2_q _ _ (by omega), up2_q _ _ (by omega), r2 1 (by omega) (by omega), up2_n _ _ (by omega), up2_s]) (by rw [q 0 (by omega), up2_q _ _ (by omega), up2_q _ _ (by omega), r2 14 (by omega) (by omega), up2_n _ _ (by omega), up2_n _ _ (by omega), q1 0 (by omega), up2_q _ _ (by omega)])
      have hRs : ∀ (M8 : Me), (∀ k, k ≠ 5 → M8 k = up2 (up2 M5 7 c (bI (tWl s i))) 8 c (tNm s i) k) → RsR M8 (se0 β c j i) := fun M8 q => se_rs hA (fun k a b => by rw [q k (by omega), rM k (by omega) (by omega) (by omega) (by omega) (by omega) (by omega) (by omega) (by omega) (by omega)])
      refine v_r1 ?_
      refine s_Mo_well_ h0 hC c (rfl) (z := bI (tWl s i)) (Value.int.inj (bI_z _)) (by omega) d_Mo_set_102 ?_
      refine v_aload_n h0 d_Mo_set_103 2 rfl ?_
      refine g_Mo_used_ h0 hC wd_456 d_Mo_set_104 ?_
      refine v_iload_n h0 d_Mo_set_107 3 rfl ?_
      refine v_aload_n h0 d_Mo_set_108 2 rfl ?_
      refine g_Mo_well_ h0 hC wd_455 d_Mo_set_109 ?_
      refine v_iload_n h0 d_Mo_set_112 3 rfl ?_
      refine a_Mo_well_ h0 hC c (rfl) (by omega) d_Mo_set_113 ?_
      refine v_int (bI (tWl s i)) (up2_s _ _ _ _) ?_
      refine b_if_eq h0 d_Mo_set_114 rfl (fun h114 => ?_) (fun h114 => ?_)
      · skip
        refine v_iconst h0 d_Mo_set_126 (v := nI 0) (by decide) ?_
        refine v_int (tNm s i) (by unfold tNm; rw [if_neg (by rw [h114]; decide)]; rfl) ?_
        refine s_Mo_used_ h0 hC c (rfl) (z := tNm s i) (rfl) (by omega) d_Mo_set_127 ?_
        refine v_aload_n h0 d_Mo_set_128 2 rfl ?_
        refine g_Mo_well_ h0 hC wd_455 d_Mo_set_129 ?_
        refine v_iload_n h0 d_Mo_set_132 3 rfl ?_
        refine a_Mo_well_ h0 hC c (rfl) (by omega) d_Mo_set_133 ?_
        refine v_int (bI (tWl s i)) (by rw [up2_q _ _ (by omega), up2_s]) ?_
        refine b_if_eq h0 d_Mo_set_134 rfl (fun h134 => ?_) (fun h134 => absurd h134 (by rw [h114]; decide))
        refine v_sub [1, 2, 3, 4] rfl ?_
        refine fin c j hS hc hj hL0 _ ⟨hTx, se_te hA hIv hc (fun z => by rw [w3, h114] at z; cases z) (fun p hp => by rw [rM 5 (by omega) (by omega) (by omega) (by omega) (by omega) (by omega) (by omega) (by omega) (by omega)]) h6o, hRs _ (fun _ _ => rfl), hCo _ (fun _ _ => rfl)⟩ (rM 9 (by omega) (by omega) (by omega) (by omega) (by omega) (by omega) (by omega) (by omega) (by omega))
      · skip
        refine v_aload_n h0 d_Mo_set_117 2 rfl ?_
        refine g_Mo_used_ h0 hC wd_456 d_Mo_set_118 ?_
        refine v_iload_n h0 d_Mo_set_121 3 rfl ?_
        refine a_Mo_used_ h0 hC c (rfl) (by omega) d_Mo_set_122 ?_
        refine v_goto h0 d_Mo_set_123 rfl ?_
        refine v_int (tNm s i) (by rw [up2_q _ _ (by omega)]; exact (r5 h114).1) ?_
        refine s_Mo_used_ h0 hC c (rfl) (z := tNm s i) (rfl) (by omega) d_Mo_set_127 ?_
        refine v_aload_n h0 d_Mo_set_128 2 rfl ?_
        refine g_Mo_well_ h0 hC wd_455 d_Mo_set_129 ?_
        refine v_iload_n h0 d_Mo_set_132 3 rfl ?_
        refine a_Mo_well_ h0 hC c (rfl) (by omega) d_Mo_set_133 ?_
        refine v_int (bI (tWl s i)) (by rw [up2_q _ _ (by omega), up2_s]) ?_
        refine b_if_eq h0 d_Mo_set_134 rfl (fun h134 => absurd h134 (by rw [h114]; decide)) (fun h134 => ?_)
        refine v_aload_n h0 d_Mo_set_137 2 rfl ?_
        refine v_iload_n h0 d_Mo_set_138 3 rfl ?_
        have hlo : LO (se0 β c j i (20 + c)) (lbR (up2 (up2 M5 7 c (bI (tWl s i))) 8 c (tNm s i)) c) 6 (stN (se0 β c j i) c) := by rw [se0_20, hs, w2]; unfold lbR; rw [up2_q _ _ (by omega), up2_q _ _ (by omega)]; exact (r5 h114).2
        refine v_callV h0 hC (sR_N0 g) 0 (show 0 < 22 by omega) (show enR g 0 _ = _ from rfl) rfl (av := [.int (nI c)]) (rest := []) (m_Mo_findEnds (kl K) g hI _ hc hTx (w3.trans h114) ⟨i, hL0, hL24, se0_3 β c j i⟩ hlo) wd_588 wd_585 wd_587 ws_35 wd_6 hd_Mo_findEnds (by omega) (by decide) rfl rfl (Nat.le_of_ble_eq_true rfl) d_Mo_set_139 (fun r9 M8 hp9 => ?_)
        obtain ⟨rfl, e1, e2, e3⟩ := hp9
        refine v_r0 ?_
        refine v_sub [1, 2, 3, 4] rfl ?_
        refine fin c j hS hc hj hL0 _ ⟨hTx.rows (fun k hk => e1 k (by omega)), se_te hA hIv hc (fun z => ⟨e3, ?_⟩) (fun p hp => by rw [e2 p hp, rM 5 (by omega) (by omega) (by omega) (by omega) (by omega) (by omega) (by omega) (by omega) (by omega)]) (fun p hp => by rw [e1 6 (by omega)]; exact h6o p hp), hRs _ e1, hCo _ e1⟩ (by rw [e1 9 (by omega)]; exact rM 9 (by omega) (by omega) (by omega) (by omega) (by omega) (by omega) (by omega) (by omega) (by omega))
        unfold lbR
        rw [e1 6 (by omega)]
        exact hlo
    | succ t ih =>
      intro i M2 hi q1 q2
      refine v_iload h0 d_Mo_set_46 0 rfl ?_
      refine v_aload_n h0 d_Mo_set_48 2 rfl ?_
      refine g_Mo_typedCount_ h0 hC wd_449 d_Mo_set_49 ?_
      refine v_int (nI L) (by rw [q1 0 (by omega), up2_q _ _ (by omega)]; exact hL) ?_
      refine n_icmp_ge h0 (by omega) (by omega) d_Mo_set_52 rfl (fun h52 => absurd h52 (by omega)) (fun h52 => ?_)
      refine v_aload_n h0 d_Mo_set_55 2 rfl ?_
      refine g_Mo_text_ h0 hC wd_450 d_Mo_set_56 ?_
      refine v_bipush h0 d_Mo_set_59 (v := nI 24) (by decide) ?_
      refine v_iload_n h0 d_Mo_set_61 3 rfl ?_
      refine v_imul h0 d_Mo_set_62 ?_
      refine v_int (nI (24 * c)) (pk_mul 24 c) ?_
      refine v_iload h0 d_Mo_set_63 0 rfl ?_
      refine v_iadd h0 d_Mo_set_65 ?_
      refine v_int (nI (24 * c + i)) (nI_add (24 * c) i) ?_
      refine v_aload_n h0 d_Mo_set_66 2 rfl ?_
      refine g_Mo_typed_ h0 hC wd_448 d_Mo_set_67 ?_
      refine v_iload h0 d_Mo_set_70 0 rfl ?_
      refine a_Mo_typed_ h0 hC i (rfl) (by omega) d_Mo_set_72 ?_
      refine v_int (β 1 i) (by rw [q1 1 (by omega), up2_q _ _ (by omega)]; exact hA.1.2.2.2.2.2.1 i (by omega)) ?_
      refine s_Mo_text_ h0 hC (24 * c + i) (rfl) (z := β 1 i) (Value.int.inj (hA.1.2.2.2.2.2.2.s i (by omega))) (by omega) d_Mo_set_73 ?_
      refine v_iinc h0 d_Mo_set_74 (lv' := [(4, .int (nI (i + 1))), (3, .int (β 2 c)), (0, .ref (ga g 0)), (1, .int (nI c)), (2, .int (nI j))]) 0 rfl (inc1 i) (lt_kn hn (by decide)) rfl ?_
      refine v_goto h0 d_Mo_set_77 rfl ?_
      refine ih (i + 1) _ (by omega) (fun k hk => by rw [up2_q _ _ hk]; exact q1 k hk) (fun p => ?_)
      by_cases e : p = 24 * c + i
      · rw [e, up2_s, if_pos (by omega), show 24 * c + i - 24 * c = i by omega]; exact (hA.1.2.2.2.2.2.1 i (by omega)).symm
      · rw [up2_n _ _ (by omega), q2]
        by_cases z : 24 * c ≤ p ∧ p < 24 * c + i
        · rw [if_pos z, if_pos (by omega)]
        · rw [if_neg z, if_neg (by omega)]
  refine v_iload_n h0 d_Mo_set_0 1 rfl ?_
  refine v_callS h0 hC (sR_N0 g) (av := [.int x]) (rest := []) (m_Mo_isCell (kl K) g hI M x) wd_556 wd_554 wd_555 wd_6 hd_Mo_isCell (by omega) (by decide) rfl rfl (Nat.le_of_ble_eq_true rfl) d_Mo_set_1 (fun r9 M9 hp9 => ?_)
  obtain ⟨rfl, rfl⟩ := hp9
  refine v_r1 ?_
  refine b_if_eq h0 d_Mo_set_4 rfl (fun h4 => ?_) (fun h4 => ?_)
  · skip
    have hno : ∀ c j, ¬ seC x y L c j := fun c j q => in_f h4 c q.1 q.2.2.1
    refine v_iconst h0 d_Mo_set_24 (v := nI 0) (by decide) ?_
    exact v_zret h0 hC hR (rfl) d_Mo_set_25 (Or.inl ⟨rfl, rfl, hno⟩)
  · skip
    obtain ⟨c, hc, rfl⟩ := in_c h4
    refine v_iload_n h0 d_Mo_set_7 2 rfl ?_
    refine v_if_lt h0 d_Mo_set_8 rfl (fun h8 => ?_) (fun h8 => ?_)
    · skip
      have hno : ∀ c1 j, ¬ seC (nI c) y L c1 j := fun c1 j q => absurd h8 (by rw [q.2.2.2.1]; exact nI_pos (by have := q.2.1; omega))
      refine v_iconst h0 d_Mo_set_24 (v := nI 0) (by decide) ?_
      exact v_zret h0 hC hR (rfl) d_Mo_set_25 (Or.inl ⟨rfl, rfl, hno⟩)
    · skip
      refine v_iload_n h0 d_Mo_set_11 2 rfl ?_
      refine v_bipush h0 d_Mo_set_12 (v := nI 9) (by decide) ?_
      refine v_icmp_gt h0 d_Mo_set_14 rfl (fun h14 => ?_) (fun h14 => ?_)
      · skip
        have hno : ∀ c1 j, ¬ seC (nI c) y L c1 j := fun c1 j q => absurd h14 (by rw [q.2.2.2.1]; exact nI_nlt (Nat.lt_succ_iff.mp q.2.1) (by decide))
        refine v_iconst h0 d_Mo_set_24 (v := nI 0) (by decide) ?_
        exact v_zret h0 hC hR (rfl) d_Mo_set_25 (Or.inl ⟨rfl, rfl, hno⟩)
      · skip
        obtain ⟨j, hj9, rfl⟩ := nI_of2 (M := nI 9) (n := 9) (by decide) h8 (i_nlt h14)
        have hj : j < 10 := by omega
        refine v_aload_n h0 d_Mo_set_17 0 rfl ?_
        refine g_Mo_typedCount_ h0 hC wd_449 d_Mo_set_18 ?_
        refine v_int (nI L) (hL) ?_
        refine v_if_ne h0 d_Mo_set_21 rfl (fun h21 => ?_) (fun h21 => ?_)
        · skip
          have hL0 : 0 < L := Nat.pos_of_ne_zero (fun q => h21 (by rw [q]; rfl))
          refine v_aload_n h0 d_Mo_set_26 0 rfl ?_
          refine g_Mo_named_ h0 hC wd_452 d_Mo_set_27 ?_
          refine v_iload_n h0 d_Mo_set_30 1 rfl ?_
          refine a_Mo_named_ h0 hC c (rfl) (by omega) d_Mo_set_31 ?_
          refine v_int (β 2 c) ((hA.1.1 c hc).1) ?_
          refine v_istore_n h0 d_Mo_set_32 (lv' := [(3, .int (β 2 c)), (0, .ref (ga g 0)), (1, .int (nI c)), (2, .int (nI j))]) (lt_kn hn (by decide)) rfl ?_
          refine v_aload_n h0 d_Mo_set_33 1 rfl ?_
          refine g_Mo_length_ h0 hC wd_451 d_Mo_set_34 ?_
          refine v_iload_n h0 d_Mo_set_37 2 rfl ?_
          refine v_aload_n h0 d_Mo_set_38 1 rfl ?_
          refine g_Mo_typedCount_ h0 hC wd_449 d_Mo_set_39 ?_
          refine v_int (nI L) (hL) ?_
          refine s_Mo_length_ h0 hC c (rfl) (z := nI L) (rfl) (by omega) d_Mo_set_42 ?_
          refine v_iconst h0 d_Mo_set_43 (v := nI 0) (by decide) ?_
          refine v_istore h0 d_Mo_set_44 (lv' := [(4, .int (nI 0)), (3, .int (β 2 c)), (0, .ref (ga g 0)), (1, .int (nI c)), (2, .int (nI j))]) (lt_kn hn (by decide)) rfl ?_
          exact loop c j ⟨hc, hj, rfl, rfl, hL0⟩ hc hj hL0 L 0 _ (by omega) (fun _ _ => rfl) (fun p => by rw [if_neg (by omega), up2_q _ _ (by omega)])
        · skip
          have hno : ∀ c1 j1, ¬ seC (nI c) (nI j) L c1 j1 := fun c1 j1 q => nI_ne0 q.2.2.2.2 (by omega) h21
          refine v_iconst h0 d_Mo_set_24 (v := nI 0) (by decide) ?_
          exact v_zret h0 hC hR (rfl) d_Mo_set_25 (Or.inl ⟨rfl, rfl, hno⟩)
theorem q_set (l : Launch) (g : Gd) (hI0 : sI (sR g)) {M β : Me} (hA : AbsR M β) (hIv : Iv β) (x y : Int32) : CR l g y_Mo_set c_Mo_set 5 (some .boolean) 4 [.ref (ga g 0), .int x, .int y] M (fun r M' => r = some (.int (opSe β x y).1) ∧ AbsR M' (opSe β x y).2) := by
  obtain ⟨L, hL, hB⟩ := hIv.1.2.1
  have hM : M 0 1 = nI L := hA.1.2.2.2.1.trans hB
  have hc : cI (β 0 0) = L := by rw [hB]; exact nI_clamp (by omega)
  refine (m_Mo_set l g hI0 M hA hIv x y hM hL).mono (fun r M' hp => ?_)
  unfold opSe
  rcases hp with ⟨rfl, rfl, hno⟩ | ⟨c, j, ⟨w1, w2, rfl, rfl, w5⟩, rfl, hR⟩
  · rw [if_neg (fun w => ?_)]
    · exact ⟨rfl, hA⟩
    · obtain ⟨c, hc1, rfl⟩ := in_c w.1
      obtain ⟨j, hj1, rfl⟩ := in_c w.2.1
      refine hno c j ⟨hc1, hj1, rfl, rfl, Nat.pos_of_ne_zero (fun z => w.2.2 (by rw [hB, z]; rfl))⟩
  · rw [if_pos ⟨(inB_c w1).1, (inB_c w2).1, by rw [hB]; exact nI_ne0 w5 (by omega)⟩, (inB_c w1).2, (inB_c w2).2, hc]
    exact ⟨rfl, hR⟩
theorem rz_ab {M β : Me} (hA : AbsR M β) {c : Nat} (hc : c < 10) : AbR0 (up2 (up2 (up2 M 4 c (-1)) 8 c (nI 0)) 7 c 0) (rz0 β c) := by
  have hth : thB (rz0 β c) c = false := th_m (rz_2 β c)
  have hwl : wlB (rz0 β c) c = false := by unfold wlB; rw [hth, Bool.false_and]
  have hr : ∀ k, k ≠ 4 → k ≠ 7 → k ≠ 8 → (up2 (up2 (up2 M 4 c (-1)) 8 c (nI 0)) 7 c 0) k = M k := fun k a b e => by rw [up2_q _ _ b, up2_q _ _ e, up2_q _ _ a]
  obtain ⟨hT, hE, hR, hC⟩ := hA.1
  refine ⟨fun d hd => ?_, fun d hd hw => ?_, fun d hd => ?_, ?_⟩
  · by_cases e : d = c
    · subst e
      obtain ⟨a1, a2, a3, a4, a5, a6⟩ := hT d hd
      rw [hwl, hr 2 (by omega) (by omega) (by omega), hr 3 (by omega) (by omega) (by omega), rz_2, rz_i β d (i := 3) (by omega) (by omega), rz_i β d (i := 20 + d) (by omega) (by omega)]
      refine ⟨by rw [up2_q _ _ (by omega), up2_q _ _ (by omega), up2_s], a2, a3, a4, by rw [up2_s]; rfl, ?_⟩
      unfold usI; rw [hwl, up2_q _ _ (by omega), up2_s]; rfl
    · have q1 := (rz_d β e).1
      have q2 : rz0 β c 3 d = β 3 d := by rw [rz_i β c (by omega) (by omega)]
      have q3 : rz0 β c (20 + d) = β (20 + d) := rz_i β c (by omega) (by omega)
      rw [q1, q2, q3, cs_wl q1 q2 q3, cs_us q1 q2 q3, hr 2 (by omega) (by omega) (by omega), hr 3 (by omega) (by omega) (by omega)]
      obtain ⟨a1, a2, a3, a4, a5, a6⟩ := hT d hd
      exact ⟨by rw [up2_q _ _ (by omega), up2_q _ _ (by omega), up2_n _ _ (by omega)]; exact a1, a2, a3, a4, by rw [up2_n _ _ (by omega), up2_q _ _ (by omega), up2_q _ _ (by omega)]; exact a5, by rw [up2_q _ _ (by omega), up2_n _ _ (by omega), up2_q _ _ (by omega)]; exact a6⟩
  · have e : d ≠ c := fun z => by rw [z, hwl] at hw; cases hw
    have q1 := (rz_d β e).1
    have q2 : rz0 β c 3 d = β 3 d := by rw [rz_i β c (by omega) (by omega)]
    have q3 : rz0 β c (20 + d) = β (20 + d) := rz_i β c (by omega) (by omega)
    rw [cs_wl q1 q2 q3] at hw
    rw [q3, cs_st q2 q3, hr 5 (by omega) (by omega) (by omega), hr 6 (by omega) (by omega) (by omega)]
    exact hE d hd hw
  · rw [hr 10 (by omega) (by omega) (by omega), hr 11 (by omega) (by omega) (by omega), hr 12 (by omega) (by omega) (by omega), hr 13 (by omega) (by omega) (by omega), rz_i β c (i := 5) (by omega) (by omega), rz_i β c (i := 6) (by omega) (by omega), rz_i β c (i := 7) (by omega) (by omega), rz_i β c (i := 8) (by omega) (by omega)]
    exact hR d hd
  · unfold CoR
    rw [hr 0 (by omega) (by omega) (by omega), hr 1 (by omega) (by omega) (by omega), rz_i β c (i := 0) (by omega) (by omega), rz_i β c (i := 1) (by omega) (by omega)]
    exact hC
theorem rm_n {β : Me} {x : Int32} (h : inB x = false) : opRm β x = (0, β) := by unfold opRm; rw [if_neg (fun w => by rw [h] at w; cases w.1)]
theorem rm_c {β : Me} {c : Nat} (hc : c < 10) (h : thB β c = false) : opRm β (nI c) = (0, β) := by unfold opRm; rw [(inB_c hc).2, if_neg (fun w => by rw [h] at w; cases w.2)]
theorem rm_y {β : Me} {c : Nat} (hc : c < 10) (h : thB β c = true) : opRm β (nI c) = (1, rmβ β c) := by unfold opRm; rw [(inB_c hc).2, if_pos ⟨(inB_c hc).1, h⟩]
set_option maxHeartbeats 4000000 in
theorem q_remove (l : Launch) (g : Gd) (hI : sI (sR g)) (M : Me) {β : Me} (hA : AbsR M β) (hIv : Iv β) (x : Int32) : CR l g y_Mo_remove c_Mo_remove 3 (some .boolean) 4 [.ref (ga g 0), .int x] M (fun r M' => r = some (.int (opRm β x).1) ∧ AbsR M' (opRm β x).2) := by
  refine Ct.of hI (sR_N0 g) rfl (Nat.le_of_ble_eq_true rfl) (fun K h0 hC hR hkl hn => ?_)
  have hC : Cx (sR g) K gC_Mo _ := hC
  show V K (wp (sR g)) M 0 [(0, .ref (ga g 0)), (1, .int x)] []
  refine v_iload_n h0 d_Mo_remove_0 1 rfl ?_
  refine v_callS h0 hC (sR_N0 g) (av := [.int x]) (rest := []) (m_Mo_isCell (kl K) g hI M x) wd_556 wd_554 wd_555 wd_6 hd_Mo_isCell (by omega) (by decide) rfl rfl (Nat.le_of_ble_eq_true rfl) d_Mo_remove_1 (fun r9 M9 hp9 => ?_)
  obtain ⟨rfl, rfl⟩ := hp9
  refine v_r1 ?_
  refine b_if_eq h0 d_Mo_remove_4 rfl (fun h4 => ?_) (fun h4 => ?_)
  · skip
    refine v_iconst h0 d_Mo_remove_15 (v := nI 0) (by decide) ?_
    exact v_zret h0 hC hR (rfl) d_Mo_remove_16 (by rw [rm_n h4]; exact ⟨rfl, hA⟩)
  · skip
    obtain ⟨c, hc, rfl⟩ := in_c h4
    refine v_aload_n h0 d_Mo_remove_7 0 rfl ?_
    refine v_iload_n h0 d_Mo_remove_8 1 rfl ?_
    refine v_callV h0 hC (sR_N0 g) 0 (show 0 < 22 by omega) (show enR g 0 _ = _ from rfl) rfl (av := [.int (nI c)]) (rest := []) (m_Mo_isThere (kl K) g hI M hc (hA.1.1 c hc).1) wd_603 wd_600 wd_602 ws_38 wd_6 hd_Mo_isThere (by omega) (by decide) rfl rfl (Nat.le_of_ble_eq_true rfl) d_Mo_remove_9 (fun r9 M9 hp9 => ?_)
    obtain ⟨rfl, rfl⟩ := hp9
    refine v_r1 ?_
    refine b_if_ne h0 d_Mo_remove_12 rfl (fun h12 => ?_) (fun h12 => ?_)
    · skip
      refine v_aload_n h0 d_Mo_remove_17 0 rfl ?_
      refine g_Mo_named_ h0 hC wd_452 d_Mo_remove_18 ?_
      refine v_iload_n h0 d_Mo_remove_21 1 rfl ?_
      refine a_Mo_named_ h0 hC c (rfl) (by omega) d_Mo_remove_22 ?_
      refine v_int (β 2 c) ((hA.1.1 c hc).1) ?_
      refine v_istore_n h0 d_Mo_remove_23 (lv' := [(2, .int (β 2 c)), (0, .ref (ga g 0)), (1, .int (nI c))]) (lt_kn hn (by decide)) rfl ?_
      refine v_aload_n h0 d_Mo_remove_24 1 rfl ?_
      refine g_Mo_named_ h0 hC wd_452 d_Mo_remove_25 ?_
      refine v_iload_n h0 d_Mo_remove_28 2 rfl ?_
      refine v_iconst h0 d_Mo_remove_29 (v := -1) (by decide) ?_
      refine s_Mo_named_ h0 hC c (rfl) (z := -1) (rfl) (by omega) d_Mo_remove_30 ?_
      refine v_aload_n h0 d_Mo_remove_31 1 rfl ?_
      refine g_Mo_used_ h0 hC wd_456 d_Mo_remove_32 ?_
      refine v_iload_n h0 d_Mo_remove_35 2 rfl ?_
      refine v_iconst h0 d_Mo_remove_36 (v := nI 0) (by decide) ?_
      refine s_Mo_used_ h0 hC c (rfl) (z := nI 0) (rfl) (by omega) d_Mo_remove_37 ?_
      refine v_aload_n h0 d_Mo_remove_38 1 rfl ?_
      refine g_Mo_well_ h0 hC wd_455 d_Mo_remove_39 ?_
      refine v_iload_n h0 d_Mo_remove_42 2 rfl ?_
      refine v_iconst h0 d_Mo_remove_43 (v := nI 0) (by decide) ?_
      refine s_Mo_well_ h0 hC c (rfl) (z := 0) (by decide) (by omega) d_Mo_remove_44 ?_
      refine v_aload_n h0 d_Mo_remove_45 1 rfl ?_
      refine v_iload_n h0 d_Mo_remove_46 2 rfl ?_
      refine v_iload_n h0 d_Mo_remove_47 0 rfl ?_
      have hth : thB (rz0 β c) c = false := th_m (rz_2 β c)
      have h8 := rz_ab hA hc
      have hz4 : ∀ d, d < 10 → d ≠ c → rz0 β c 4 d = β 4 d := fun d hd e => (rz_d β e).2
      have hzc : rz0 β c 4 c = 0 := by unfold rz0; rw [up2_s]
      refine v_callV h0 hC (sR_N0 g) 0 (show 0 < 22 by omega) (show enR g 0 _ = _ from rfl) rfl (av := [.int (nI c), .int (β 2 c)]) (rest := []) (m_Mo_becomes (kl K) g hI _ (β := rz0 β c) (x := nbI (β 2 c)) hc h8.1 (fun d hd ht => by rw [hz4 d hd (fun z => by rw [z, hth] at ht; cases ht), up2_q _ _ (by omega), up2_q _ _ (by omega), up2_q _ _ (by omega)]; exact hA.2 d hd) (rz_Nmb hIv.1.1 c) (fun d hd => by by_cases e : d = c; (rw [e, hzc]; exact Or.inl rfl); (rw [hz4 d hd e]; exact hIv.1.2.2.2.1 d hd)) (fun d hd ht => by by_cases e : d = c; (rw [e, hzc]); (rw [hz4 d hd e]; rw [cs_th (rz_d β e).1] at ht; exact hIv.1.2.2.2.2 d hd ht)) (hIv.1.1 c hc) (by rw [rz_2]; exact (or_0 _).symm) (fun ht => by rw [hth] at ht; cases ht)) wd_599 wd_596 wd_598 ws_37 wd_6 hd_Mo_becomes (by omega) (by decide) rfl rfl (Nat.le_of_ble_eq_true rfl) d_Mo_remove_48 (fun r9 M9 hp9 => ?_)
      obtain ⟨rfl, b1, b2⟩ := hp9
      refine v_r0 ?_
      refine v_iconst h0 d_Mo_remove_51 (v := nI 1) (by decide) ?_
      exact v_zret h0 hC hR (rfl) d_Mo_remove_52 (by rw [rm_y hc h12]; exact ⟨rfl, ab_sp h8 b1 b2⟩)
    · skip
      refine v_iconst h0 d_Mo_remove_15 (v := nI 0) (by decide) ?_
      exact v_zret h0 hC hR (rfl) d_Mo_remove_16 (by rw [rm_c hc h12]; exact ⟨rfl, hA⟩)
