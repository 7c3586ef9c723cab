/-! THE TYPE OF AN EXPRESSION, AND OF A TEXT (the book) -/
set_option maxHeartbeats 4000000 in
theorem td_succ (l : Launch) (g : Gd) (hI : sI (sB g)) {d : Nat} (hd : d + 1 ≤ 6) (hTD : TD l g d) : TD l g (d + 1) := by
  intro M c n k s e a b hc hT hDV hok heo
  have hn24 : n ≤ 24 := hT.2.2.2.2.2
  have hkn := OK_k hok
  refine Ct.of hI (sB_N0 g) rfl (Nat.le_of_ble_eq_true rfl) (fun K h0 hC hR hkl hn => ?_)
  have hC : Cx (sB g) K gC_Ty _ := hC
  subst hkl
  show V K (wp (sB g)) M 0 [(0, .ref (ga g 2)), (1, .ref (ga g (17 + c))), (2, .int (nI k)), (3, .int (nI (6 - (d + 1))))] []
  refine v_iload_n h0 d_Ty_ofExpression_0 3 rfl ?_
  refine v_iconst h0 d_Ty_ofExpression_1 (v := nI 5) (by decide) ?_
  refine n_icmp_le h0 (by omega) (by omega) d_Ty_ofExpression_2 rfl (fun h2 => ?_) (fun h2 => absurd h2 (by omega))
  refine v_aload_n h0 d_Ty_ofExpression_7 1 rfl ?_
  refine v_iload_n h0 d_Ty_ofExpression_8 2 rfl ?_
  refine v_callV h0 hC (sB_N0 g) (17 + c) (show (17 + c) < 59 by omega) (eB_Te g (by omega) _) rfl (av := [.int (nI k)]) (rest := []) (m_Te_sign (kl K) g hI M hc (by omega) hT) wd_197 wd_330 wd_195 wd_196 wd_3 hd_Te_signAt (by omega) (by decide) rfl rfl (Nat.le_of_ble_eq_true rfl) d_Ty_ofExpression_9 (fun r9 M9 hp9 => ?_)
  obtain ⟨rfl, rfl⟩ := hp9
  refine v_r1 ?_
  refine v_int (s k) (if_pos hkn) ?_
  rcases OK_kd hok with q | q | q | q | q | q | q | q | q
  · skip
    rw [OK_2 s n d b k q] at hok
    rw [EO_2 s e d k q] at heo
    simp only [Bool.and_eq_true, decide_eq_true_eq] at hok
    rcases (kd_2 _).mp q with h | h | h | h | h | h | h
    · skip
      refine v_lookup h0 d_Ty_ofExpression_12 (by decide) (off := 108) (by rw [h]; decide) rfl ?_
      refine v_iconst h0 d_Ty_ofExpression_120 (v := 1) (by decide) ?_
      refine v_aload_n h0 d_Ty_ofExpression_121 0 rfl ?_
      refine v_aload_n h0 d_Ty_ofExpression_122 1 rfl ?_
      refine v_iload_n h0 d_Ty_ofExpression_123 2 rfl ?_
      refine v_iload_n h0 d_Ty_ofExpression_124 3 rfl ?_
      refine v_callS h0 hC (sB_N0 g) (av := [.int 1, .ref (ga g 2), .ref (ga g (17 + c)), .int (nI k), .int (nI (6 - (d + 1)))]) (rest := []) (m_Ty_areBoth (kl K) g hI M hc hd hT hDV hTD _ hok.2.1 heo.2.1 hok.2.2 heo.2.2) wd_333 wd_331 wd_332 wd_9 hd_Ty_areBoth (by omega) (by decide) rfl rfl (Nat.le_of_ble_eq_true rfl) d_Ty_ofExpression_125 (fun r9 M9 hp9 => ?_)
      obtain ⟨rfl, rfl⟩ := hp9
      refine v_r1 ?_
      refine b_if_eq h0 d_Ty_ofExpression_128 rfl (fun h128 => ?_) (fun h128 => ?_)
      · skip
        refine v_iconst h0 d_Ty_ofExpression_135 (v := nI 0) (by decide) ?_
        exact v_iret h0 hC hR d_Ty_ofExpression_136 (⟨by rw [TY_2 s _ _ d k q, if_neg (by rw [h]; decide), if_neg (of_decide_eq_false h128)]; rfl, rfl⟩)
      · skip
        refine v_iconst h0 d_Ty_ofExpression_131 (v := nI 1) (by decide) ?_
        refine v_goto h0 d_Ty_ofExpression_132 rfl ?_
        exact v_iret h0 hC hR d_Ty_ofExpression_136 (⟨by rw [TY_2 s _ _ d k q, if_neg (by rw [h]; decide), if_pos (of_decide_eq_true h128), if_neg (by rw [h]; decide)]; rfl, rfl⟩)
    · skip
      refine v_lookup h0 d_Ty_ofExpression_12 (by decide) (off := 108) (by rw [h]; decide) rfl ?_
      refine v_iconst h0 d_Ty_ofExpression_120 (v := 1) (by decide) ?_
      refine v_aload_n h0 d_Ty_ofExpression_121 0 rfl ?_
      refine v_aload_n h0 d_Ty_ofExpression_122 1 rfl ?_
      refine v_iload_n h0 d_Ty_ofExpression_123 2 rfl ?_
      refine v_iload_n h0 d_Ty_ofExpression_124 3 rfl ?_
      refine v_callS h0 hC (sB_N0 g) (av := [.int 1, .ref (ga g 2), .ref (ga g (17 + c)), .int (nI k), .int (nI (6 - (d + 1)))]) (rest := []) (m_Ty_areBoth (kl K) g hI M hc hd hT hDV hTD _ hok.2.1 heo.2.1 hok.2.2 heo.2.2) wd_333 wd_331 wd_332 wd_9 hd_Ty_areBoth (by omega) (by decide) rfl rfl (Nat.le_of_ble_eq_true rfl) d_Ty_ofExpression_125 (fun r9 M9 hp9 => ?_)
      obtain ⟨rfl, rfl⟩ := hp9
      refine v_r1 ?_
      refine b_if_eq h0 d_Ty_ofExpression_128 rfl (fun h128 => ?_) (fun h128 => ?_)
      · skip
        refine v_iconst h0 d_Ty_ofExpression_135 (v := nI 0) (by decide) ?_
        exact v_iret h0 hC hR d_Ty_ofExpression_136 (⟨by rw [TY_2 s _ _ d k q, if_neg (by rw [h]; decide), if_neg (of_decide_eq_false h128)]; rfl, rfl⟩)
      · skip
        refine v_iconst h0 d_Ty_ofExpression_131 (v := nI 1) (by decide) ?_
        refine v_goto h0 d_Ty_ofExpression_132 rfl ?_
        exact v_iret h0 hC hR d_Ty_ofExpression_136 (⟨by rw [TY_2 s _ _ d k q, if_neg (by rw [h]; decide), if_pos (of_decide_eq_true h128), if_neg (by rw [h]; decide)]; rfl, rfl⟩)
    · skip
      refine v_lookup h0 d_Ty_ofExpression_12 (by decide) (off := 108) (by rw [h]; decide) rfl ?_
      refine v_iconst h0 d_Ty_ofExpression_120 (v := 1) (by decide) ?_
      refine v_aload_n h0 d_Ty_ofExpression_121 0 rfl ?_
      refine v_aload_n h0 d_Ty_ofExpression_122 1 rfl ?_
      refine v_iload_n h0 d_Ty_ofExpression_123 2 rfl ?_
      refine v_iload_n h0 d_Ty_ofExpression_124 3 rfl ?_
      refine v_callS h0 hC (sB_N0 g) (av := [.int 1, .ref (ga g 2), .ref (ga g (17 + c)), .int (nI k), .int (nI (6 - (d + 1)))]) (rest := []) (m_Ty_areBoth (kl K) g hI M hc hd hT hDV hTD _ hok.2.1 heo.2.1 hok.2.2 heo.2.2) wd_333 wd_331 wd_332 wd_9 hd_Ty_areBoth (by omega) (by decide) rfl rfl (Nat.le_of_ble_eq_true rfl) d_Ty_ofExpression_125 (fun r9 M9 hp9 => ?_)
      obtain ⟨rfl, rfl⟩ := hp9
      refine v_r1 ?_
      refine b_if_eq h0 d_Ty_ofExpression_128 rfl (fun h128 => ?_) (fun h128 => ?_)
      · skip
        refine v_iconst h0 d_Ty_ofExpression_135 (v := nI 0) (by decide) ?_
        exact v_iret h0 hC hR d_Ty_ofExpression_136 (⟨by rw [TY_2 s _ _ d k q, if_neg (by rw [h]; decide), if_neg (of_decide_eq_false h128)]; rfl, rfl⟩)
      · skip
        refine v_iconst h0 d_Ty_ofExpression_131 (v := nI 1) (by decide) ?_
        refine v_goto h0 d_Ty_ofExpression_132 rfl ?_
        exact v_iret h0 hC hR d_Ty_ofExpression_136 (⟨by rw [TY_2 s _ _ d k q, if_neg (by rw [h]; decide), if_pos (of_decide_eq_true h128), if_neg (by rw [h]; decide)]; rfl, rfl⟩)
    · skip
      refine v_lookup h0 d_Ty_ofExpression_12 (by decide) (off := 108) (by rw [h]; decide) rfl ?_
      refine v_iconst h0 d_Ty_ofExpression_120 (v := 1) (by decide) ?_
      refine v_aload_n h0 d_Ty_ofExpression_121 0 rfl ?_
      refine v_aload_n h0 d_Ty_ofExpression_122 1 rfl ?_
      refine v_iload_n h0 d_Ty_ofExpression_123 2 rfl ?_
      refine v_iload_n h0 d_Ty_ofExpression_124 3 rfl ?_
      refine v_callS h0 hC (sB_N0 g) (av := [.int 1, .ref (ga g 2), .ref (ga g (17 + c)), .int (nI k), .int (nI (6 - (d + 1)))]) (rest := []) (m_Ty_areBoth (kl K) g hI M hc hd hT hDV hTD _ hok.2.1 heo.2.1 hok.2.2 heo.2.2) wd_333 wd_331 wd_332 wd_9 hd_Ty_areBoth (by omega) (by decide) rfl rfl (Nat.le_of_ble_eq_true rfl) d_Ty_ofExpression_125 (fun r9 M9 hp9 => ?_)
      obtain ⟨rfl, rfl⟩ := hp9
      refine v_r1 ?_
      refine b_if_eq h0 d_Ty_ofExpression_128 rfl (fun h128 => ?_) (fun h128 => ?_)
      · skip
        refine v_iconst h0 d_Ty_ofExpression_135 (v := nI 0) (by decide) ?_
        exact v_iret h0 hC hR d_Ty_ofExpression_136 (⟨by rw [TY_2 s _ _ d k q, if_neg (by rw [h]; decide), if_neg (of_decide_eq_false h128)]; rfl, rfl⟩)
      · skip
        refine v_iconst h0 d_Ty_ofExpression_131 (v := nI 1) (by decide) ?_
        refine v_goto h0 d_Ty_ofExpression_132 rfl ?_
        exact v_iret h0 hC hR d_Ty_ofExpression_136 (⟨by rw [TY_2 s _ _ d k q, if_neg (by rw [h]; decide), if_pos (of_decide_eq_true h128), if_neg (by rw [h]; decide)]; rfl, rfl⟩)
    · skip
      refine v_lookup h0 d_Ty_ofExpression_12 (by decide) (off := 125) (by rw [h]; decide) rfl ?_
      refine v_iconst h0 d_Ty_ofExpression_137 (v := 1) (by decide) ?_
      refine v_aload_n h0 d_Ty_ofExpression_138 0 rfl ?_
      refine v_aload_n h0 d_Ty_ofExpression_139 1 rfl ?_
      refine v_iload_n h0 d_Ty_ofExpression_140 2 rfl ?_
      refine v_iload_n h0 d_Ty_ofExpression_141 3 rfl ?_
      refine v_callS h0 hC (sB_N0 g) (av := [.int 1, .ref (ga g 2), .ref (ga g (17 + c)), .int (nI k), .int (nI (6 - (d + 1)))]) (rest := []) (m_Ty_areBoth (kl K) g hI M hc hd hT hDV hTD _ hok.2.1 heo.2.1 hok.2.2 heo.2.2) wd_333 wd_331 wd_332 wd_9 hd_Ty_areBoth (by omega) (by decide) rfl rfl (Nat.le_of_ble_eq_true rfl) d_Ty_ofExpression_142 (fun r9 M9 hp9 => ?_)
      obtain ⟨rfl, rfl⟩ := hp9
      refine v_r1 ?_
      refine b_if_eq h0 d_Ty_ofExpression_145 rfl (fun h145 => ?_) (fun h145 => ?_)
      · skip
        refine v_iconst h0 d_Ty_ofExpression_152 (v := nI 0) (by decide) ?_
        exact v_iret h0 hC hR d_Ty_ofExpression_153 (⟨by rw [TY_2 s _ _ d k q, if_neg (by rw [h]; decide), if_neg (of_decide_eq_false h145)]; rfl, rfl⟩)
      · skip
        refine v_iconst h0 d_Ty_ofExpression_148 (v := nI 2) (by decide) ?_
        refine v_goto h0 d_Ty_ofExpression_149 rfl ?_
        exact v_iret h0 hC hR d_Ty_ofExpression_153 (⟨by rw [TY_2 s _ _ d k q, if_neg (by rw [h]; decide), if_pos (of_decide_eq_true h145), if_pos (by rw [h]; decide)]; rfl, rfl⟩)
    · skip
      refine v_lookup h0 d_Ty_ofExpression_12 (by decide) (off := 125) (by rw [h]; decide) rfl ?_
      refine v_iconst h0 d_Ty_ofExpression_137 (v := 1) (by decide) ?_
      refine v_aload_n h0 d_Ty_ofExpression_138 0 rfl ?_
      refine v_aload_n h0 d_Ty_ofExpression_139 1 rfl ?_
      refine v_iload_n h0 d_Ty_ofExpression_140 2 rfl ?_
      refine v_iload_n h0 d_Ty_ofExpression_141 3 rfl ?_
      refine v_callS h0 hC (sB_N0 g) (av := [.int 1, .ref (ga g 2), .ref (ga g (17 + c)), .int (nI k), .int (nI (6 - (d + 1)))]) (rest := []) (m_Ty_areBoth (kl K) g hI M hc hd hT hDV hTD _ hok.2.1 heo.2.1 hok.2.2 heo.2.2) wd_333 wd_331 wd_332 wd_9 hd_Ty_areBoth (by omega) (by decide) rfl rfl (Nat.le_of_ble_eq_true rfl) d_Ty_ofExpression_142 (fun r9 M9 hp9 => ?_)
      obtain ⟨rfl, rfl⟩ := hp9
      refine v_r1 ?_
      refine b_if_eq h0 d_Ty_ofExpression_145 rfl (fun h145 => ?_) (fun h145 => ?_)
      · skip
        refine v_iconst h0 d_Ty_ofExpression_152 (v := nI 0) (by decide) ?_
        exact v_iret h0 hC hR d_Ty_ofExpression_153 (⟨by rw [TY_2 s _ _ d k q, if_neg (by rw [h]; decide), if_neg (of_decide_eq_false h145)]; rfl, rfl⟩)
      · skip
        refine v_iconst h0 d_Ty_ofExpression_148 (v := nI 2) (by decide) ?_
        refine v_goto h0 d_Ty_ofExpression_149 rfl ?_
        exact v_iret h0 hC hR d_Ty_ofExpression_153 (⟨by rw [TY_2 s _ _ d k q, if_neg (by rw [h]; decide), if_pos (of_decide_eq_true h145), if_pos (by rw [h]; decide)]; rfl, rfl⟩)
    · skip
      refine v_lookup h0 d_Ty_ofExpression_12 (by decide) (off := 142) (by rw [h]; decide) rfl ?_
      refine v_iconst h0 d_Ty_ofExpression_154 (v := 2) (by decide) ?_
      refine v_aload_n h0 d_Ty_ofExpression_155 0 rfl ?_
      refine v_aload_n h0 d_Ty_ofExpression_156 1 rfl ?_
      refine v_iload_n h0 d_Ty_ofExpression_157 2 rfl ?_
      refine v_iload_n h0 d_Ty_ofExpression_158 3 rfl ?_
      refine v_callS h0 hC (sB_N0 g) (av := [.int 2, .ref (ga g 2), .ref (ga g (17 + c)), .int (nI k), .int (nI (6 - (d + 1)))]) (rest := []) (m_Ty_areBoth (kl K) g hI M hc hd hT hDV hTD _ hok.2.1 heo.2.1 hok.2.2 heo.2.2) wd_333 wd_331 wd_332 wd_9 hd_Ty_areBoth (by omega) (by decide) rfl rfl (Nat.le_of_ble_eq_true rfl) d_Ty_ofExpression_159 (fun r9 M9 hp9 => ?_)
      obtain ⟨rfl, rfl⟩ := hp9
      refine v_r1 ?_
      refine b_if_eq h0 d_Ty_ofExpression_162 rfl (fun h162 => ?_) (fun h162 => ?_)
      · skip
        refine v_iconst h0 d_Ty_ofExpression_169 (v := nI 0) (by decide) ?_
        exact v_iret h0 hC hR d_Ty_ofExpression_170 (⟨by rw [TY_2 s _ _ d k q, if_pos h, if_neg (of_decide_eq_false h162)]; rfl, rfl⟩)
      · skip
        refine v_iconst h0 d_Ty_ofExpression_165 (v := nI 2) (by decide) ?_
        refine v_goto h0 d_Ty_ofExpression_166 rfl ?_
        exact v_iret h0 hC hR d_Ty_ofExpression_170 (⟨by rw [TY_2 s _ _ d k q, if_pos h, if_pos (of_decide_eq_true h162)]; rfl, rfl⟩)
  · skip
    rw [OK_1 s n d b k q] at hok
    rw [EO_1 s e d k q] at heo
    simp only [Bool.and_eq_true, decide_eq_true_eq] at hok
    refine v_lookup h0 d_Ty_ofExpression_12 (by decide) (off := 159) (by rw [(kd_1 _).mp q]; decide) rfl ?_
    refine v_aload_n h0 d_Ty_ofExpression_171 0 rfl ?_
    refine v_aload_n h0 d_Ty_ofExpression_172 1 rfl ?_
    refine v_iload_n h0 d_Ty_ofExpression_173 2 rfl ?_
    refine v_iconst h0 d_Ty_ofExpression_174 (v := nI 1) (by decide) ?_
    refine v_iadd h0 d_Ty_ofExpression_175 ?_
    refine v_int (nI (k + 1)) (nI_add k 1) ?_
    refine v_iload_n h0 d_Ty_ofExpression_176 3 rfl ?_
    refine v_iconst h0 d_Ty_ofExpression_177 (v := nI 1) (by decide) ?_
    refine v_iadd h0 d_Ty_ofExpression_178 ?_
    refine v_int (nI (6 - (d + 1) + 1)) (nI_add (6 - (d + 1)) 1) ?_
    refine v_int (nI (6 - d)) (sub_lev hd) ?_
    refine v_callS h0 hC (sB_N0 g) (av := [.ref (ga g 2), .ref (ga g (17 + c)), .int (nI (k + 1)), .int (nI (6 - d))]) (rest := []) (hTD M c n (k + 1) s e a b hc hT hDV hok.2 heo.2) wd_329 wd_327 wd_328 wd_9 hd_Ty_ofExpression (by omega) (by decide) rfl rfl (Nat.le_of_ble_eq_true rfl) d_Ty_ofExpression_179 (fun r9 M9 hp9 => ?_)
    obtain ⟨rfl, rfl⟩ := hp9
    refine v_r1 ?_
    refine v_iconst h0 d_Ty_ofExpression_182 (v := 2) (by decide) ?_
    refine v_icmp_ne h0 d_Ty_ofExpression_183 rfl (fun h183 => ?_) (fun h183 => ?_)
    · skip
      refine v_iconst h0 d_Ty_ofExpression_190 (v := nI 0) (by decide) ?_
      exact v_iret h0 hC hR d_Ty_ofExpression_191 (⟨by rw [TY_1 s _ _ d k q, if_neg h183]; rfl, rfl⟩)
    · skip
      refine v_iconst h0 d_Ty_ofExpression_186 (v := nI 2) (by decide) ?_
      refine v_goto h0 d_Ty_ofExpression_187 rfl ?_
      exact v_iret h0 hC hR d_Ty_ofExpression_191 (⟨by rw [TY_1 s _ _ d k q, if_pos h183]; rfl, rfl⟩)
  · skip
    rw [OK_3 s n d b k q] at hok
    rw [EO_3 s e d k q] at heo
    simp only [Bool.and_eq_true, decide_eq_true_eq] at hok
    refine v_lookup h0 d_Ty_ofExpression_12 (by decide) (off := 180) (by rw [(kd_3 _).mp q]; decide) rfl ?_
    refine v_aload_n h0 d_Ty_ofExpression_192 0 rfl ?_
    refine v_aload_n h0 d_Ty_ofExpression_193 1 rfl ?_
    refine v_iload_n h0 d_Ty_ofExpression_194 2 rfl ?_
    refine v_iload_n h0 d_Ty_ofExpression_195 3 rfl ?_
    refine v_callS h0 hC (sB_N0 g) (av := [.ref (ga g 2), .ref (ga g (17 + c)), .int (nI k), .int (nI (6 - (d + 1)))]) (rest := []) (m_Ty_ofChoice (kl K) g hI M hc hd hT hDV hTD hok.2.1 heo.2.1 hok.2.2.1 heo.2.2.1 hok.2.2.2 heo.2.2.2) wd_340 wd_338 wd_339 wd_9 hd_Ty_ofChoice (by omega) (by decide) rfl rfl (Nat.le_of_ble_eq_true rfl) d_Ty_ofExpression_196 (fun r9 M9 hp9 => ?_)
    obtain ⟨rfl, rfl⟩ := hp9
    refine v_r1 ?_
    exact v_iret h0 hC hR d_Ty_ofExpression_199 (⟨by rw [TY_3 s _ _ d k q], rfl⟩)
  · skip
    rw [OK_4 s n d b k q] at hok
    rw [EO_4 s e d k q] at heo
    simp only [Bool.and_eq_true, decide_eq_true_eq] at hok
    refine v_lookup h0 d_Ty_ofExpression_12 (by decide) (off := 188) (by rw [(kd_4 _).mp q]; decide) rfl ?_
    refine v_aload_n h0 d_Ty_ofExpression_200 0 rfl ?_
    refine v_aload_n h0 d_Ty_ofExpression_201 1 rfl ?_
    refine v_iload_n h0 d_Ty_ofExpression_202 2 rfl ?_
    refine v_iload_n h0 d_Ty_ofExpression_203 3 rfl ?_
    refine v_callS h0 hC (sB_N0 g) (av := [.ref (ga g 2), .ref (ga g (17 + c)), .int (nI k), .int (nI (6 - (d + 1)))]) (rest := []) (m_Ty_ofBinding (kl K) g hI M hc hd hT hDV hTD hok.2.2.1 heo.2.1 hok.2.2.2 heo.2.2) wd_343 wd_341 wd_342 wd_9 hd_Ty_ofBinding (by omega) (by decide) rfl rfl (Nat.le_of_ble_eq_true rfl) d_Ty_ofExpression_204 (fun r9 M9 hp9 => ?_)
    obtain ⟨rfl, rfl⟩ := hp9
    refine v_r1 ?_
    exact v_iret h0 hC hR d_Ty_ofExpression_207 (⟨by rw [TY_4 s _ _ d k q], rfl⟩)
  · skip
    rw [OK_5 s n d b k q] at hok
    rw [EO_5 s e d k q] at heo
    simp only [Bool.and_eq_true, decide_eq_true_eq] at hok
    refine v_lookup h0 d_Ty_ofExpression_12 (by decide) (off := 196) (by rw [(kd_5 _).mp q]; decide) rfl ?_
    refine v_aload_n h0 d_Ty_ofExpression_208 0 rfl ?_
    refine v_aload_n h0 d_Ty_ofExpression_209 1 rfl ?_
    refine v_iload_n h0 d_Ty_ofExpression_210 2 rfl ?_
    refine v_iload_n h0 d_Ty_ofExpression_211 3 rfl ?_
    refine v_callS h0 hC (sB_N0 g) (av := [.ref (ga g 2), .ref (ga g (17 + c)), .int (nI k), .int (nI (6 - (d + 1)))]) (rest := []) (m_Ty_ofCall (kl K) g hI M hc hd hT hDV hTD hok.2.1.1 hok.2.1.2 hok.2.2 heo.2) wd_346 wd_344 wd_345 wd_9 hd_Ty_ofCall (by omega) (by decide) rfl rfl (Nat.le_of_ble_eq_true rfl) d_Ty_ofExpression_212 (fun r9 M9 hp9 => ?_)
    obtain ⟨rfl, rfl⟩ := hp9
    refine v_r1 ?_
    exact v_iret h0 hC hR d_Ty_ofExpression_215 (⟨by rw [TY_5 s _ _ d k q], rfl⟩)
  · skip
    rw [OK_6 s n d b k q] at hok
    rw [EO_6 s e d k q] at heo
    simp only [Bool.and_eq_true, decide_eq_true_eq] at hok
    refine v_lookup h0 d_Ty_ofExpression_12 (by decide) (off := 204) (by rw [(kd_6 _).mp q]; decide) rfl ?_
    refine v_aload_n h0 d_Ty_ofExpression_216 0 rfl ?_
    refine v_aload_n h0 d_Ty_ofExpression_217 1 rfl ?_
    refine v_iload_n h0 d_Ty_ofExpression_218 2 rfl ?_
    refine v_iload_n h0 d_Ty_ofExpression_219 3 rfl ?_
    refine v_callS h0 hC (sB_N0 g) (av := [.ref (ga g 2), .ref (ga g (17 + c)), .int (nI k), .int (nI (6 - (d + 1)))]) (rest := []) (m_Ty_ofMatch (kl K) g hI M hc hd hT hDV hTD hok.2.1 heo.2.1 hok.2.2.2.1 heo.2.2.1 hok.2.2.2.2.2 heo.2.2.2) wd_354 wd_352 wd_353 wd_9 hd_Ty_ofMatch (by omega) (by decide) rfl rfl (Nat.le_of_ble_eq_true rfl) d_Ty_ofExpression_220 (fun r9 M9 hp9 => ?_)
    obtain ⟨rfl, rfl⟩ := hp9
    refine v_r1 ?_
    exact v_iret h0 hC hR d_Ty_ofExpression_223 (⟨by rw [TY_6 s _ _ d k q], rfl⟩)
  · skip
    refine v_lookup h0 d_Ty_ofExpression_12 (by decide) (lk_leaf (by omega) _ (by decide)) rfl ?_
    refine v_aload_n h0 d_Ty_ofExpression_224 0 rfl ?_
    refine v_aload_n h0 d_Ty_ofExpression_225 1 rfl ?_
    refine v_iload_n h0 d_Ty_ofExpression_226 2 rfl ?_
    refine v_callV h0 hC (sB_N0 g) (17 + c) (show (17 + c) < 59 by omega) (eB_Te g (by omega) _) rfl (av := [.int (nI k)]) (rest := [.ref (ga g 2)]) (m_Te_sign (kl K) g hI M hc (by omega) hT) wd_197 wd_330 wd_195 wd_196 wd_3 hd_Te_signAt (by omega) (by decide) rfl rfl (Nat.le_of_ble_eq_true rfl) d_Ty_ofExpression_227 (fun r9 M9 hp9 => ?_)
    obtain ⟨rfl, rfl⟩ := hp9
    refine v_r1 ?_
    refine v_int (s k) (if_pos hkn) ?_
    refine v_callS h0 hC (sB_N0 g) (av := [.ref (ga g 2), .int (s k)]) (rest := []) (m_Ty_ofLeaf (kl K) g hI M hDV) wd_357 wd_355 wd_356 wd_9 hd_Ty_ofLeaf (by omega) (by decide) rfl rfl (Nat.le_of_ble_eq_true rfl) d_Ty_ofExpression_230 (fun r9 M9 hp9 => ?_)
    obtain ⟨rfl, rfl⟩ := hp9
    refine v_r1 ?_
    exact v_iret h0 hC hR d_Ty_ofExpression_233 (⟨by rw [TY_7 s _ _ d k q, if_neg (by rw [q]; decide)], rfl⟩)
  · skip
    refine v_lookup h0 d_Ty_ofExpression_12 (by decide) (lk_leaf (by omega) _ (by decide)) rfl ?_
    refine v_aload_n h0 d_Ty_ofExpression_224 0 rfl ?_
    refine v_aload_n h0 d_Ty_ofExpression_225 1 rfl ?_
    refine v_iload_n h0 d_Ty_ofExpression_226 2 rfl ?_
    refine v_callV h0 hC (sB_N0 g) (17 + c) (show (17 + c) < 59 by omega) (eB_Te g (by omega) _) rfl (av := [.int (nI k)]) (rest := [.ref (ga g 2)]) (m_Te_sign (kl K) g hI M hc (by omega) hT) wd_197 wd_330 wd_195 wd_196 wd_3 hd_Te_signAt (by omega) (by decide) rfl rfl (Nat.le_of_ble_eq_true rfl) d_Ty_ofExpression_227 (fun r9 M9 hp9 => ?_)
    obtain ⟨rfl, rfl⟩ := hp9
    refine v_r1 ?_
    refine v_int (s k) (if_pos hkn) ?_
    refine v_callS h0 hC (sB_N0 g) (av := [.ref (ga g 2), .int (s k)]) (rest := []) (m_Ty_ofLeaf (kl K) g hI M hDV) wd_357 wd_355 wd_356 wd_9 hd_Ty_ofLeaf (by omega) (by decide) rfl rfl (Nat.le_of_ble_eq_true rfl) d_Ty_ofExpression_230 (fun r9 M9 hp9 => ?_)
    obtain ⟨rfl, rfl⟩ := hp9
    refine v_r1 ?_
    exact v_iret h0 hC hR d_Ty_ofExpression_233 (⟨by rw [TY_8 s _ _ d k q, if_pos q], rfl⟩)
  · skip
    refine v_lookup h0 d_Ty_ofExpression_12 (by decide) (lk_leaf (by omega) _ (by decide)) rfl ?_
    refine v_aload_n h0 d_Ty_ofExpression_224 0 rfl ?_
    refine v_aload_n h0 d_Ty_ofExpression_225 1 rfl ?_
    refine v_iload_n h0 d_Ty_ofExpression_226 2 rfl ?_
    refine v_callV h0 hC (sB_N0 g) (17 + c) (show (17 + c) < 59 by omega) (eB_Te g (by omega) _) rfl (av := [.int (nI k)]) (rest := [.ref (ga g 2)]) (m_Te_sign (kl K) g hI M hc (by omega) hT) wd_197 wd_330 wd_195 wd_196 wd_3 hd_Te_signAt (by omega) (by decide) rfl rfl (Nat.le_of_ble_eq_true rfl) d_Ty_ofExpression_227 (fun r9 M9 hp9 => ?_)
    obtain ⟨rfl, rfl⟩ := hp9
    refine v_r1 ?_
    refine v_int (s k) (if_pos hkn) ?_
    refine v_callS h0 hC (sB_N0 g) (av := [.ref (ga g 2), .int (s k)]) (rest := []) (m_Ty_ofLeaf (kl K) g hI M hDV) wd_357 wd_355 wd_356 wd_9 hd_Ty_ofLeaf (by omega) (by decide) rfl rfl (Nat.le_of_ble_eq_true rfl) d_Ty_ofExpression_230 (fun r9 M9 hp9 => ?_)
    obtain ⟨rfl, rfl⟩ := hp9
    refine v_r1 ?_
    exact v_iret h0 hC hR d_Ty_ofExpression_233 (⟨by rw [TY_9 s _ _ d k q, if_neg (by rw [q]; decide)], rfl⟩)
theorem td_all (l : Launch) (g : Gd) (hI : sI (sB g)) : ∀ d, d ≤ 6 → TD l g d := by
  intro d
  induction d with
  | zero => intro _ M c n k s e a b _ _ _ h _; simp [OK] at h
  | succ d ih => intro hd; exact td_succ l g hI hd (ih (by omega))
set_option maxHeartbeats 4000000 in
theorem m_Ty_ofText (l : Launch) (g : Gd) (hI : sI (sB g)) (M : Me) {c n : Nat} {s e : Nat → Int32} {a : Int32} {b : Nat → Bool} {t : Nat} (hc : c < 10) (hT : TX M c s n a e) (hDV : DV M) (hst : M (17 + c) 3 = nI t) (hok : OK s n 6 b t = true) (heo : EO s e 6 t) : CB l g y_Ty_ofText c_Ty_ofText 3 (some .int) 18 [.ref (ga g 2), .ref (ga g (17 + c))] M (fun r M' => r = some (.int (if fuB M c = true ∧ ¬ TY s (tnM M) (fnM M) 6 t = 1 then 0 else TY s (tnM M) (fnM M) 6 t)) ∧ M = M') := by
  refine Ct.of hI (sB_N0 g) rfl (Nat.le_of_ble_eq_true rfl) (fun K h0 hC hR hkl hn => ?_)
  have hC : Cx (sB g) K gC_Ty _ := hC
  show V K (wp (sB g)) M 0 [(0, .ref (ga g 2)), (1, .ref (ga g (17 + c)))] []
  refine v_aload_n h0 d_Ty_ofText_0 0 rfl ?_
  refine v_aload_n h0 d_Ty_ofText_1 1 rfl ?_
  refine v_aload_n h0 d_Ty_ofText_2 1 rfl ?_
  refine gN_Te_start h0 hC (by omega) wn_0 d_Ty_ofText_3 ?_
  refine v_int (nI t) (hst) ?_
  refine v_iconst h0 d_Ty_ofText_6 (v := nI 0) (by decide) ?_
  refine v_callS h0 hC (sB_N0 g) (av := [.ref (ga g 2), .ref (ga g (17 + c)), .int (nI t), .int (nI 0)]) (rest := []) (td_all (kl K) g hI 6 (by decide) M c n t s e a b hc hT hDV hok heo) wd_329 wd_327 wd_328 wd_9 hd_Ty_ofExpression (by omega) (by decide) rfl rfl (Nat.le_of_ble_eq_true rfl) d_Ty_ofText_7 (fun r9 M9 hp9 => ?_)
  obtain ⟨rfl, rfl⟩ := hp9
  refine v_r1 ?_
  refine v_istore_n h0 d_Ty_ofText_10 (lv' := [(2, .int (TY s (tnM M) (fnM M) 6 t)), (0, .ref (ga g 2)), (1, .ref (ga g (17 + c)))]) (lt_kn hn (by decide)) rfl ?_
  refine v_aload_n h0 d_Ty_ofText_11 2 rfl ?_
  refine v_callV h0 hC (sB_N0 g) (17 + c) (show (17 + c) < 59 by omega) (eB_Te g (by omega) _) rfl (av := []) (rest := []) (m_Te_isFunction (kl K) g hI M hc) wd_258 wd_351 wd_256 wd_257 wd_3 hd_Te_isFunction (by omega) (by decide) rfl rfl (Nat.le_of_ble_eq_true rfl) d_Ty_ofText_12 (fun r9 M9 hp9 => ?_)
  obtain ⟨rfl, rfl⟩ := hp9
  refine v_r1 ?_
  refine b_if_eq h0 d_Ty_ofText_15 rfl (fun h15 => ?_) (fun h15 => ?_)
  · skip
    refine v_iload_n h0 d_Ty_ofText_27 0 rfl ?_
    exact v_iret h0 hC hR d_Ty_ofText_28 (⟨by rw [if_neg (fun q => by rw [h15] at q; cases q.1)], rfl⟩)
  · skip
    refine v_iload_n h0 d_Ty_ofText_18 0 rfl ?_
    refine v_iconst h0 d_Ty_ofText_19 (v := 1) (by decide) ?_
    refine v_icmp_eq h0 d_Ty_ofText_20 rfl (fun h20 => ?_) (fun h20 => ?_)
    · skip
      refine v_iload_n h0 d_Ty_ofText_27 0 rfl ?_
      exact v_iret h0 hC hR d_Ty_ofText_28 (⟨by rw [if_neg (fun q => q.2 h20)], rfl⟩)
    · skip
      refine v_iconst h0 d_Ty_ofText_23 (v := nI 0) (by decide) ?_
      refine v_goto h0 d_Ty_ofText_24 rfl ?_
      exact v_iret h0 hC hR d_Ty_ofText_28 (⟨by rw [if_pos ⟨h15, h20⟩]; rfl, rfl⟩)
