/-! AN EXPRESSION'S EVALUATION (the book) -/
section TYN
variable {s : Nat → Int32} {tn : Nat → Int32} {fn : Nat → Bool} {d k : Nat}
theorem tn_2 (q : kd (s k) = 2) (h : ¬ TY s tn fn (d + 1) k = 0) : ¬ TY s tn fn d (k + 1) = 0 ∧ ¬ TY s tn fn d (EN s d (k + 1)) = 0 := by
  rw [TY_2 s tn fn d k q] at h
  split at h
  · split at h
    · rename_i hh; rw [hh.1, hh.2]; decide
    · exact absurd rfl h
  · split at h
    · rename_i hh; rw [hh.1, hh.2]; decide
    · exact absurd rfl h
theorem tn_1 (q : kd (s k) = 1) (h : ¬ TY s tn fn (d + 1) k = 0) : ¬ TY s tn fn d (k + 1) = 0 := by
  rw [TY_1 s tn fn d k q] at h
  split at h
  · rename_i hh; rw [hh]; decide
  · exact absurd rfl h
theorem tn_3 (q : kd (s k) = 3) (h : ¬ TY s tn fn (d + 1) k = 0) : TY s tn fn d (k + 1) = 2 ∧ ¬ TY s tn fn d (EN s d (k + 1)) = 0 ∧ ¬ TY s tn fn d (EN s d (EN s d (k + 1))) = 0 := by
  rw [TY_3 s tn fn d k q] at h
  split at h
  · rename_i hh; exact ⟨hh.1, h, hh.2 ▸ h⟩
  · exact absurd rfl h
theorem tn_4 (q : kd (s k) = 4) (h : ¬ TY s tn fn (d + 1) k = 0) : ¬ TY s tn fn d (k + 2) = 0 ∧ ¬ TY s tn fn d (EN s d (k + 2)) = 0 := by
  rw [TY_4 s tn fn d k q] at h
  split at h
  · rename_i hh; exact ⟨by rw [hh]; decide, h⟩
  · exact absurd rfl h
theorem tn_5 (q : kd (s k) = 5) (h : ¬ TY s tn fn (d + 1) k = 0) : ¬ TY s tn fn d (k + 2) = 0 ∧ fn (nmI (s (k + 1))) = true := by
  rw [TY_5 s tn fn d k q] at h
  split at h
  · rename_i hh; exact ⟨by rw [hh.1]; decide, hh.2⟩
  · exact absurd rfl h
theorem tn_6 (q : kd (s k) = 6) (h : ¬ TY s tn fn (d + 1) k = 0) : ¬ TY s tn fn d (k + 1) = 0 ∧ ¬ TY s tn fn d (EN s d (k + 1) + 1) = 0 ∧ ¬ TY s tn fn d (EN s d (EN s d (k + 1) + 1) + 1) = 0 := by
  rw [TY_6 s tn fn d k q] at h
  split at h
  · rename_i hh; rw [hh.1, hh.2.1, hh.2.2]; decide
  · exact absurd rfl h
end TYN
theorem EV_2a (tx : Nat → Nat → Int32) (df : Nat → Nat) (am : Nat → Int32) (cl : Nat → Int32 → Nat → Rs) (c d k : Nat) (lc : Nat → Int32) (n : Nat) (hn : n < 2000) (h : kd (tx c k) = 2) (h8 : tx c k = 38) : EV tx df am cl c (d + 1) k lc n = bd (EV tx df am cl c d (k + 1) lc (n + 1)) fun v m => if v = 0 then (0, 0, m) else bd (EV tx df am cl c d (EN (tx c) d (k + 1)) lc m) fun w m' => (0, w, m') := by
  rw [EV_2 tx df am cl c d k lc n hn h]
  congr 1
  funext v m
  simp only [h8, true_and]
  rfl
theorem EV_2b (tx : Nat → Nat → Int32) (df : Nat → Nat) (am : Nat → Int32) (cl : Nat → Int32 → Nat → Rs) (c d k : Nat) (lc : Nat → Int32) (n : Nat) (hn : n < 2000) (h : kd (tx c k) = 2) (h8 : ¬ tx c k = 38) : EV tx df am cl c (d + 1) k lc n = bd (EV tx df am cl c d (k + 1) lc (n + 1)) fun v m => bd (EV tx df am cl c d (EN (tx c) d (k + 1)) lc m) fun w m' => jn (tx c k) v w m' := by
  rw [EV_2 tx df am cl c d k lc n hn h]
  congr 1
  funext v m
  rw [if_neg (fun q => h8 q.1)]
theorem EvP.not {f : Nat} {M M' : Me} {R : Rs} {v : Int32} (h : EvP f M R (some (.int v)) M') : EvP f M (bd R fun v m => (0, 1 - v, m)) (some (.int (1 - v))) M' := by
  obtain ⟨w, h1, h2, h3, h4, h5⟩ := h
  cases h1
  by_cases z : R.1 = 0
  · rw [bd_o z]
    obtain ⟨rfl, l⟩ := h5 z
    exact ⟨_, rfl, h2, h3, h4.trans z, fun _ => ⟨rfl, l⟩⟩
  · rw [bd_e z]; exact ⟨_, rfl, h2, h3, h4, fun w => absurd w z⟩
set_option maxHeartbeats 8000000 in
theorem ed_succ_0 (l : Launch) (g : Gd) (hI : sI (sB g)) {d : Nat} (hd : d + 1 ≤ 6) (hED : ED l g 0 d) : ED l g 0 (d + 1) := by
  intro M c n k f m s e a b lc tx df am tn fn hc hf hA hL hok heo hty hm hm2 he0
  have hn24 : n ≤ 24 := hA.2.1.2.2.2.2.2
  have hkn := OK_k hok
  have hf6 : f < 6 := by omega
  obtain rfl := hA.2.2.1
  refine Ct.of hI (sB_N0 g) rfl (Nat.le_of_ble_eq_true rfl) (fun K h0 hC hR hkl hn => ?_)
  have hC : Cx (sB g) K gC_Ev _ := hC
  subst hkl
  show V K (wp (sB g)) M 0 [(0, .ref (ga g 4)), (1, .ref (ga g (47 + f))), (2, .int (nI k)), (3, .int (nI (6 - (d + 1))))] []
  refine v_iload_n h0 d_Ev_ofExpression_0 3 rfl ?_
  refine v_iconst h0 d_Ev_ofExpression_1 (v := nI 5) (by decide) ?_
  refine n_icmp_le h0 (by omega) (by omega) d_Ev_ofExpression_2 rfl (fun h2 => ?_) (fun h2 => absurd h2 (by omega))
  refine v_aload_n h0 d_Ev_ofExpression_12 0 rfl ?_
  refine g_Ev_stepsMade h0 hC wd_124 d_Ev_ofExpression_13 ?_
  refine v_int (nI m) (hm) ?_
  refine v_sipush h0 d_Ev_ofExpression_16 (v := nI 2000) (by decide) ?_
  refine n_icmp_lt h0 (by omega) (by omega) d_Ev_ofExpression_19 rfl (fun h19 => ?_) (fun h19 => ?_)
  · skip
    have hm3 : m < 2000 := h19
    have km := EvK.st hf6 M (nI (m + 1))
    have hA1 := hA.kept hc km
    have lm : (up2 M 4 2 (nI (m + 1))) (53 + f) = M (53 + f) := up2_r _ _ _ (by omega)
    have hL1 : EvL (up2 M 4 2 (nI (m + 1))) f b lc := fun j a1 c1 => by rw [lm]; exact hL j a1 c1
    have hm1 : (up2 M 4 2 (nI (m + 1))) 4 2 = nI (m + 1) := up2_s _ _ _ _
    have he1 : (up2 M 4 2 (nI (m + 1))) 4 4 = 0 := by rw [up2_n _ _ (by omega)]; exact he0
    have hm4 : m + 1 ≤ 2000 := by omega
    refine v_aload_n h0 d_Ev_ofExpression_29 0 rfl ?_
    refine v_dup h0 d_Ev_ofExpression_30 rfl ?_
    refine g_Ev_stepsMade h0 hC wd_124 d_Ev_ofExpression_31 ?_
    refine v_int (nI m) (hm) ?_
    refine v_iconst h0 d_Ev_ofExpression_34 (v := nI 1) (by decide) ?_
    refine v_iadd h0 d_Ev_ofExpression_35 ?_
    refine v_int (nI (m + 1)) (nI_add m 1) ?_
    refine p_Ev_stepsMade h0 hC wd_124 d_Ev_ofExpression_36 ?_
    refine v_aload_n h0 d_Ev_ofExpression_39 1 rfl ?_
    refine gN_Fr_text h0 hC (by omega) wn_21 d_Ev_ofExpression_40 ?_
    refine v_top (.ref (ga g (17 + c))) (by rw [hA1.2.2.2, dcT_c g hc]) ?_
    refine v_iload_n h0 d_Ev_ofExpression_43 2 rfl ?_
    refine v_callV h0 hC (sB_N0 g) (17 + c) (show (17 + c) < 59 by omega) (eB_Te g (by omega) _) rfl (av := [.int (nI k)]) (rest := []) (m_Te_sign (kl K) g hI (up2 M 4 2 (nI (m + 1))) hc (by omega) hA1.2.1) wd_197 wd_371 wd_195 wd_196 wd_3 hd_Te_signAt (by omega) (by decide) rfl rfl (Nat.le_of_ble_eq_true rfl) d_Ev_ofExpression_44 (fun r9 M9 hp9 => ?_)
    obtain ⟨rfl, rfl⟩ := hp9
    refine v_r1 ?_
    refine v_int (tx c k) (if_pos hkn) ?_
    rcases OK_kd hok with q | q | q | q | q | q | q | q | q
    · skip
      rw [OK_2 _ n d b k q] at hok
      rw [EO_2 _ e d k q] at heo
      simp only [Bool.and_eq_true, decide_eq_true_eq] at hok
      have t2 := tn_2 q hty
      rcases (kd_2 _).mp q with h | h | h | h | h | h | h
      · skip
        refine v_lookup h0 d_Ev_ofExpression_47 (by decide) (off := 159) (by rw [h]; decide) rfl ?_
        refine v_aload_n h0 d_Ev_ofExpression_206 0 rfl ?_
        refine v_aload_n h0 d_Ev_ofExpression_207 1 rfl ?_
        refine v_iload_n h0 d_Ev_ofExpression_208 2 rfl ?_
        refine v_iload_n h0 d_Ev_ofExpression_209 3 rfl ?_
        refine v_callV h0 hC (sB_N0 g) 4 (show 4 < 59 by omega) (eB_Ev g _) rfl (av := [.ref (ga g (47 + f)), .int (nI k), .int (nI (6 - (d + 1)))]) (rest := []) (m_Ev_ofPair (kl K) g hI (up2 M 4 2 (nI (m + 1))) hc hf hd hA1 hL1 hm1 hm4 he1 hED hok.2.1 heo.2.1 t2.1 hok.2.2 heo.2.2 t2.2 rfl (Or.inl h)) wd_402 wd_399 wd_401 ws_28 wd_4 hd_Ev_ofPair (by omega) (by decide) rfl rfl (Nat.le_of_ble_eq_true rfl) d_Ev_ofExpression_210 (fun r9 M9 hp9 => ?_)
        have hp8 := hp9
        obtain ⟨v, rfl, hpx⟩ := hp9
        refine v_r1 ?_
        exact v_iret h0 hC hR d_Ev_ofExpression_213 (by rw [EV_2b tx df am _ c d k lc m hm3 q (by rw [h]; decide)]; exact EvP.lift km lm hp8)
      · skip
        refine v_lookup h0 d_Ev_ofExpression_47 (by decide) (off := 159) (by rw [h]; decide) rfl ?_
        refine v_aload_n h0 d_Ev_ofExpression_206 0 rfl ?_
        refine v_aload_n h0 d_Ev_ofExpression_207 1 rfl ?_
        refine v_iload_n h0 d_Ev_ofExpression_208 2 rfl ?_
        refine v_iload_n h0 d_Ev_ofExpression_209 3 rfl ?_
        refine v_callV h0 hC (sB_N0 g) 4 (show 4 < 59 by omega) (eB_Ev g _) rfl (av := [.ref (ga g (47 + f)), .int (nI k), .int (nI (6 - (d + 1)))]) (rest := []) (m_Ev_ofPair (kl K) g hI (up2 M 4 2 (nI (m + 1))) hc hf hd hA1 hL1 hm1 hm4 he1 hED hok.2.1 heo.2.1 t2.1 hok.2.2 heo.2.2 t2.2 rfl (Or.inr (Or.inl h))) wd_402 wd_399 wd_401 ws_28 wd_4 hd_Ev_ofPair (by omega) (by decide) rfl rfl (Nat.le_of_ble_eq_true rfl) d_Ev_ofExpression_210 (fun r9 M9 hp9 => ?_)
        have hp8 := hp9
        obtain ⟨v, rfl, hpx⟩ := hp9
        refine v_r1 ?_
        exact v_iret h0 hC hR d_Ev_ofExpression_213 (by rw [EV_2b tx df am _ c d k lc m hm3 q (by rw [h]; decide)]; exact EvP.lift km lm hp8)
      · skip
        refine v_lookup h0 d_Ev_ofExpression_47 (by decide) (off := 159) (by rw [h]; decide) rfl ?_
        refine v_aload_n h0 d_Ev_ofExpression_206 0 rfl ?_
        refine v_aload_n h0 d_Ev_ofExpression_207 1 rfl ?_
        refine v_iload_n h0 d_Ev_ofExpression_208 2 rfl ?_
        refine v_iload_n h0 d_Ev_ofExpression_209 3 rfl ?_
        refine v_callV h0 hC (sB_N0 g) 4 (show 4 < 59 by omega) (eB_Ev g _) rfl (av := [.ref (ga g (47 + f)), .int (nI k), .int (nI (6 - (d + 1)))]) (rest := []) (m_Ev_ofPair (kl K) g hI (up2 M 4 2 (nI (m + 1))) hc hf hd hA1 hL1 hm1 hm4 he1 hED hok.2.1 heo.2.1 t2.1 hok.2.2 heo.2.2 t2.2 rfl (Or.inr (Or.inr (Or.inl h)))) wd_402 wd_399 wd_401 ws_28 wd_4 hd_Ev_ofPair (by omega) (by decide) rfl rfl (Nat.le_of_ble_eq_true rfl) d_Ev_ofExpression_210 (fun r9 M9 hp9 => ?_)
        have hp8 := hp9
        obtain ⟨v, rfl, hpx⟩ := hp9
        refine v_r1 ?_
        exact v_iret h0 hC hR d_Ev_ofExpression_213 (by rw [EV_2b tx df am _ c d k lc m hm3 q (by rw [h]; decide)]; exact EvP.lift km lm hp8)
      · skip
        refine v_lookup h0 d_Ev_ofExpression_47 (by decide) (off := 159) (by rw [h]; decide) rfl ?_
        refine v_aload_n h0 d_Ev_ofExpression_206 0 rfl ?_
        refine v_aload_n h0 d_Ev_ofExpression_207 1 rfl ?_
        refine v_iload_n h0 d_Ev_ofExpression_208 2 rfl ?_
        refine v_iload_n h0 d_Ev_ofExpression_209 3 rfl ?_
        refine v_callV h0 hC (sB_N0 g) 4 (show 4 < 59 by omega) (eB_Ev g _) rfl (av := [.ref (ga g (47 + f)), .int (nI k), .int (nI (6 - (d + 1)))]) (rest := []) (m_Ev_ofPair (kl K) g hI (up2 M 4 2 (nI (m + 1))) hc hf hd hA1 hL1 hm1 hm4 he1 hED hok.2.1 heo.2.1 t2.1 hok.2.2 heo.2.2 t2.2 rfl (Or.inr (Or.inr (Or.inr (Or.inr (Or.inr h)))))) wd_402 wd_399 wd_401 ws_28 wd_4 hd_Ev_ofPair (by omega) (by decide) rfl rfl (Nat.le_of_ble_eq_true rfl) d_Ev_ofExpression_210 (fun r9 M9 hp9 => ?_)
        have hp8 := hp9
        obtain ⟨v, rfl, hpx⟩ := hp9
        refine v_r1 ?_
        exact v_iret h0 hC hR d_Ev_ofExpression_213 (by rw [EV_2b tx df am _ c d k lc m hm3 q (by rw [h]; decide)]; exact EvP.lift km lm hp8)
      · skip
        refine v_lookup h0 d_Ev_ofExpression_47 (by decide) (off := 159) (by rw [h]; decide) rfl ?_
        refine v_aload_n h0 d_Ev_ofExpression_206 0 rfl ?_
        refine v_aload_n h0 d_Ev_ofExpression_207 1 rfl ?_
        refine v_iload_n h0 d_Ev_ofExpression_208 2 rfl ?_
        refine v_iload_n h0 d_Ev_ofExpression_209 3 rfl ?_
        refine v_callV h0 hC (sB_N0 g) 4 (show 4 < 59 by omega) (eB_Ev g _) rfl (av := [.ref (ga g (47 + f)), .int (nI k), .int (nI (6 - (d + 1)))]) (rest := []) (m_Ev_ofPair (kl K) g hI (up2 M 4 2 (nI (m + 1))) hc hf hd hA1 hL1 hm1 hm4 he1 hED hok.2.1 heo.2.1 t2.1 hok.2.2 heo.2.2 t2.2 rfl (Or.inr (Or.inr (Or.inr (Or.inl h))))) wd_402 wd_399 wd_401 ws_28 wd_4 hd_Ev_ofPair (by omega) (by decide) rfl rfl (Nat.le_of_ble_eq_true rfl) d_Ev_ofExpression_210 (fun r9 M9 hp9 => ?_)
        have hp8 := hp9
        obtain ⟨v, rfl, hpx⟩ := hp9
        refine v_r1 ?_
        exact v_iret h0 hC hR d_Ev_ofExpression_213 (by rw [EV_2b tx df am _ c d k lc m hm3 q (by rw [h]; decide)]; exact EvP.lift km lm hp8)
      · skip
        refine v_lookup h0 d_Ev_ofExpression_47 (by decide) (off := 159) (by rw [h]; decide) rfl ?_
        refine v_aload_n h0 d_Ev_ofExpression_206 0 rfl ?_
        refine v_aload_n h0 d_Ev_ofExpression_207 1 rfl ?_
        refine v_iload_n h0 d_Ev_ofExpression_208 2 rfl ?_
        refine v_iload_n h0 d_Ev_ofExpression_209 3 rfl ?_
        refine v_callV h0 hC (sB_N0 g) 4 (show 4 < 59 by omega) (eB_Ev g _) rfl (av := [.ref (ga g (47 + f)), .int (nI k), .int (nI (6 - (d + 1)))]) (rest := []) (m_Ev_ofPair (kl K) g hI (up2 M 4 2 (nI (m + 1))) hc hf hd hA1 hL1 hm1 hm4 he1 hED hok.2.1 heo.2.1 t2.1 hok.2.2 heo.2.2 t2.2 rfl (Or.inr (Or.inr (Or.inr (Or.inr (Or.inl h)))))) wd_402 wd_399 wd_401 ws_28 wd_4 hd_Ev_ofPair (by omega) (by decide) rfl rfl (Nat.le_of_ble_eq_true rfl) d_Ev_ofExpression_210 (fun r9 M9 hp9 => ?_)
        have hp8 := hp9
        obtain ⟨v, rfl, hpx⟩ := hp9
        refine v_r1 ?_
        exact v_iret h0 hC hR d_Ev_ofExpression_213 (by rw [EV_2b tx df am _ c d k lc m hm3 q (by rw [h]; decide)]; exact EvP.lift km lm hp8)
      · skip
        refine v_lookup h0 d_Ev_ofExpression_47 (by decide) (off := 105) (by rw [h]; decide) rfl ?_
        refine v_aload_n h0 d_Ev_ofExpression_152 0 rfl ?_
        refine v_aload_n h0 d_Ev_ofExpression_153 1 rfl ?_
        refine v_iload_n h0 d_Ev_ofExpression_154 2 rfl ?_
        refine v_iload_n h0 d_Ev_ofExpression_155 3 rfl ?_
        refine v_callV h0 hC (sB_N0 g) 4 (show 4 < 59 by omega) (eB_Ev g _) rfl (av := [.ref (ga g (47 + f)), .int (nI k), .int (nI (6 - (d + 1)))]) (rest := []) (m_Ev_ofBoth (kl K) g hI (up2 M 4 2 (nI (m + 1))) hc hf hd hA1 hL1 hm1 hm4 he1 hED hok.2.1 heo.2.1 t2.1 hok.2.2 heo.2.2 t2.2 rfl) wd_375 wd_372 wd_374 ws_22 wd_4 hd_Ev_ofBoth (by omega) (by decide) rfl rfl (Nat.le_of_ble_eq_true rfl) d_Ev_ofExpression_156 (fun r9 M9 hp9 => ?_)
        have hp8 := hp9
        obtain ⟨v, rfl, hpx⟩ := hp9
        refine v_r1 ?_
        exact v_iret h0 hC hR d_Ev_ofExpression_159 (by rw [EV_2a tx df am _ c d k lc m hm3 q h]; exact EvP.lift km lm hp8)
    · skip
      rw [OK_1 _ n d b k q] at hok
      rw [EO_1 _ e d k q] at heo
      simp only [Bool.and_eq_true, decide_eq_true_eq] at hok
      refine v_lookup h0 d_Ev_ofExpression_47 (by decide) (off := 113) (by rw [(kd_1 _).mp q]; decide) rfl ?_
      refine v_iconst h0 d_Ev_ofExpression_160 (v := 1) (by decide) ?_
      refine v_aload_n h0 d_Ev_ofExpression_161 0 rfl ?_
      refine v_aload_n h0 d_Ev_ofExpression_162 1 rfl ?_
      refine v_iload_n h0 d_Ev_ofExpression_163 2 rfl ?_
      refine v_iconst h0 d_Ev_ofExpression_164 (v := nI 1) (by decide) ?_
      refine v_iadd h0 d_Ev_ofExpression_165 ?_
      refine v_int (nI (k + 1)) (nI_add k 1) ?_
      refine v_iload_n h0 d_Ev_ofExpression_166 3 rfl ?_
      refine v_iconst h0 d_Ev_ofExpression_167 (v := nI 1) (by decide) ?_
      refine v_iadd h0 d_Ev_ofExpression_168 ?_
      refine v_int (nI (6 - (d + 1) + 1)) (nI_add (6 - (d + 1)) 1) ?_
      refine v_int (nI (6 - d)) (sub_lev hd) ?_
      refine v_callV h0 hC (sB_N0 g) 4 (show 4 < 59 by omega) (eB_Ev g _) rfl (av := [.ref (ga g (47 + f)), .int (nI (k + 1)), .int (nI (6 - d))]) (rest := [.int 1]) (hED (up2 M 4 2 (nI (m + 1))) c n (k + 1) f (m + 1) (tx c) e a b lc tx df am tn fn hc hf hA1 hL1 hok.2 heo.2 (tn_1 q hty) hm1 hm4 he1) wd_366 wd_363 wd_365 ws_20 wd_4 hd_Ev_ofExpression (by omega) (by decide) rfl rfl (Nat.le_of_ble_eq_true rfl) d_Ev_ofExpression_169 (fun r9 M2 hp9 => ?_)
      obtain ⟨v2, rfl, k2, s2, e2, q2⟩ := hp9
      refine v_r1 ?_
      refine v_isub h0 d_Ev_ofExpression_172 ?_
      exact v_iret h0 hC hR d_Ev_ofExpression_173 (by rw [EV_1 tx df am _ c d k lc m hm3 q]; exact EvP.lift km lm (EvP.not ⟨v2, rfl, k2, s2, e2, q2⟩))
    · skip
      rw [OK_3 _ n d b k q] at hok
      rw [EO_3 _ e d k q] at heo
      simp only [Bool.and_eq_true, decide_eq_true_eq] at hok
      have t3 := tn_3 q hty
      refine v_lookup h0 d_Ev_ofExpression_47 (by decide) (off := 127) (by rw [(kd_3 _).mp q]; decide) rfl ?_
      refine v_aload_n h0 d_Ev_ofExpression_174 0 rfl ?_
      refine v_aload_n h0 d_Ev_ofExpression_175 1 rfl ?_
      refine v_iload_n h0 d_Ev_ofExpression_176 2 rfl ?_
      refine v_iload_n h0 d_Ev_ofExpression_177 3 rfl ?_
      refine v_callV h0 hC (sB_N0 g) 4 (show 4 < 59 by omega) (eB_Ev g _) rfl (av := [.ref (ga g (47 + f)), .int (nI k), .int (nI (6 - (d + 1)))]) (rest := []) (m_Ev_ofChoice (kl K) g hI (up2 M 4 2 (nI (m + 1))) hc hf hd hA1 hL1 hm1 hm4 he1 hED hok.2.1 heo.2.1 (by rw [t3.1]; decide) hok.2.2.1 heo.2.2.1 t3.2.1 rfl hok.2.2.2 heo.2.2.2 t3.2.2 (EV_bool hA.1.2.2.2.1 c d (k + 1) lc (m + 1) t3.1)) wd_384 wd_381 wd_383 ws_24 wd_4 hd_Ev_ofChoice (by omega) (by decide) rfl rfl (Nat.le_of_ble_eq_true rfl) d_Ev_ofExpression_178 (fun r9 M9 hp9 => ?_)
      have hp8 := hp9
      obtain ⟨v, rfl, hpx⟩ := hp9
      refine v_r1 ?_
      exact v_iret h0 hC hR d_Ev_ofExpression_181 (by rw [EV_3 tx df am _ c d k lc m hm3 q]; exact EvP.lift km lm hp8)
    · skip
      rw [OK_4 _ n d b k q] at hok
      rw [EO_4 _ e d k q] at heo
      simp only [Bool.and_eq_true, decide_eq_true_eq] at hok
      refine v_lookup h0 d_Ev_ofExpression_47 (by decide) (off := 135) (by rw [(kd_4 _).mp q]; decide) rfl ?_
      refine v_aload_n h0 d_Ev_ofExpression_182 0 rfl ?_
      refine v_aload_n h0 d_Ev_ofExpression_183 1 rfl ?_
      refine v_iload_n h0 d_Ev_ofExpression_184 2 rfl ?_
      refine v_iload_n h0 d_Ev_ofExpression_185 3 rfl ?_
      refine v_callV h0 hC (sB_N0 g) 4 (show 4 < 59 by omega) (eB_Ev g _) rfl (av := [.ref (ga g (47 + f)), .int (nI k), .int (nI (6 - (d + 1)))]) (rest := []) (m_Ev_ofBinding (kl K) g hI (up2 M 4 2 (nI (m + 1))) hc hf hd hA1 hL1 hm1 hm4 he1 hED hok.2.1.1 hok.2.1.2 hok.2.2.1 heo.2.1 (tn_4 q hty).1 hok.2.2.2 heo.2.2 (tn_4 q hty).2 rfl) wd_388 wd_385 wd_387 ws_25 wd_4 hd_Ev_ofBinding (by omega) (by decide) rfl rfl (Nat.le_of_ble_eq_true rfl) d_Ev_ofExpression_186 (fun r9 M9 hp9 => ?_)
      have hp8 := hp9
      obtain ⟨v, rfl, hpx⟩ := hp9
      refine v_r1 ?_
      exact v_iret h0 hC hR d_Ev_ofExpression_189 (by rw [EV_4 tx df am _ c d k lc m hm3 q]; exact EvP.lift km lm hp8)
    · skip
      rw [OK_5 _ n d b k q] at hok
      rw [EO_5 _ e d k q] at heo
      simp only [Bool.and_eq_true, decide_eq_true_eq] at hok
      refine v_lookup h0 d_Ev_ofExpression_47 (by decide) (off := 143) (by rw [(kd_5 _).mp q]; decide) rfl ?_
      refine v_aload_n h0 d_Ev_ofExpression_190 0 rfl ?_
      refine v_aload_n h0 d_Ev_ofExpression_191 1 rfl ?_
      refine v_iload_n h0 d_Ev_ofExpression_192 2 rfl ?_
      refine v_iload_n h0 d_Ev_ofExpression_193 3 rfl ?_
      refine v_callV h0 hC (sB_N0 g) 4 (show 4 < 59 by omega) (eB_Ev g _) rfl (av := [.ref (ga g (47 + f)), .int (nI k), .int (nI (6 - (d + 1)))]) (rest := []) (m_Ev_ofCall_0 (kl K) g hI (up2 M 4 2 (nI (m + 1))) hc hf hd hA1 hL1 hm1 hm4 he1 hED hok.2.1.1 hok.2.1.2 (tn_5 q hty).2 hok.2.2 heo.2 (tn_5 q hty).1 rfl) wd_393 wd_390 wd_392 ws_26 wd_4 hd_Ev_ofCall (by omega) (by decide) rfl rfl (Nat.le_of_ble_eq_true rfl) d_Ev_ofExpression_194 (fun r9 M9 hp9 => ?_)
      have hp8 := hp9
      obtain ⟨v, rfl, hpx⟩ := hp9
      refine v_r1 ?_
      exact v_iret h0 hC hR d_Ev_ofExpression_197 (by rw [EV_5 tx df am _ c d k lc m hm3 q]; exact EvP.lift km lm hp8)
    · skip
      rw [OK_6 _ n d b k q] at hok
      rw [EO_6 _ e d k q] at heo
      simp only [Bool.and_eq_true, decide_eq_true_eq] at hok
      refine v_lookup h0 d_Ev_ofExpression_47 (by decide) (off := 151) (by rw [(kd_6 _).mp q]; decide) rfl ?_
      refine v_aload_n h0 d_Ev_ofExpression_198 0 rfl ?_
      refine v_aload_n h0 d_Ev_ofExpression_199 1 rfl ?_
      refine v_iload_n h0 d_Ev_ofExpression_200 2 rfl ?_
      refine v_iload_n h0 d_Ev_ofExpression_201 3 rfl ?_
      refine v_callV h0 hC (sB_N0 g) 4 (show 4 < 59 by omega) (eB_Ev g _) rfl (av := [.ref (ga g (47 + f)), .int (nI k), .int (nI (6 - (d + 1)))]) (rest := []) (m_Ev_ofMatch (kl K) g hI (up2 M 4 2 (nI (m + 1))) hc hf hd hA1 hL1 hm1 hm4 he1 hED hok.2.1 heo.2.1 (tn_6 q hty).1 hok.2.2.1.1 hok.2.2.2.1 heo.2.2.1 (tn_6 q hty).2.1 hok.2.2.2.2.1.1 hok.2.2.2.2.2 heo.2.2.2 (tn_6 q hty).2.2 rfl) wd_398 wd_395 wd_397 ws_27 wd_4 hd_Ev_ofMatch (by omega) (by decide) rfl rfl (Nat.le_of_ble_eq_true rfl) d_Ev_ofExpression_202 (fun r9 M9 hp9 => ?_)
      have hp8 := hp9
      obtain ⟨v, rfl, hpx⟩ := hp9
      refine v_r1 ?_
      exact v_iret h0 hC hR d_Ev_ofExpression_205 (by rw [EV_6 tx df am _ c d k lc m hm3 q]; exact EvP.lift km lm hp8)
    · skip
      refine v_lookup h0 d_Ev_ofExpression_47 (by decide) (lk_leaf (by omega) _ (by decide)) rfl ?_
      refine v_aload_n h0 d_Ev_ofExpression_214 0 rfl ?_
      refine v_aload_n h0 d_Ev_ofExpression_215 1 rfl ?_
      refine v_iload_n h0 d_Ev_ofExpression_216 2 rfl ?_
      refine v_callV h0 hC (sB_N0 g) 4 (show 4 < 59 by omega) (eB_Ev g _) rfl (av := [.ref (ga g (47 + f)), .int (nI k)]) (rest := []) (m_Ev_ofLeaf (kl K) g hI (up2 M 4 2 (nI (m + 1))) (m := m) hc hf hA1 hL1 hok (by omega) hty) wd_410 wd_407 wd_409 ws_30 wd_4 hd_Ev_ofLeaf (by omega) (by decide) rfl rfl (Nat.le_of_ble_eq_true rfl) d_Ev_ofExpression_217 (fun r9 M9 hp9 => ?_)
      obtain ⟨rfl, rfl⟩ := hp9
      refine v_r1 ?_
      exact v_iret h0 hC hR d_Ev_ofExpression_220 (by rw [EV_7 tx df am _ c d k lc m hm3 q, if_pos q]; exact ⟨_, rfl, km, hm1, he1, fun _ => ⟨rfl, lm⟩⟩)
    · skip
      refine v_lookup h0 d_Ev_ofExpression_47 (by decide) (lk_leaf (by omega) _ (by decide)) rfl ?_
      refine v_aload_n h0 d_Ev_ofExpression_214 0 rfl ?_
      refine v_aload_n h0 d_Ev_ofExpression_215 1 rfl ?_
      refine v_iload_n h0 d_Ev_ofExpression_216 2 rfl ?_
      refine v_callV h0 hC (sB_N0 g) 4 (show 4 < 59 by omega) (eB_Ev g _) rfl (av := [.ref (ga g (47 + f)), .int (nI k)]) (rest := []) (m_Ev_ofLeaf (kl K) g hI (up2 M 4 2 (nI (m + 1))) (m := m) hc hf hA1 hL1 hok (by omega) hty) wd_410 wd_407 wd_409 ws_30 wd_4 hd_Ev_ofLeaf (by omega) (by decide) rfl rfl (Nat.le_of_ble_eq_true rfl) d_Ev_ofExpression_217 (fun r9 M9 hp9 => ?_)
      obtain ⟨rfl, rfl⟩ := hp9
      refine v_r1 ?_
      exact v_iret h0 hC hR d_Ev_ofExpression_220 (by rw [EV_8 tx df am _ c d k lc m hm3 q, if_neg (by rw [q]; decide), if_pos q]; exact ⟨_, rfl, km, hm1, he1, fun _ => ⟨rfl, lm⟩⟩)
    · skip
      refine v_lookup h0 d_Ev_ofExpression_47 (by decide) (lk_leaf (by omega) _ (by decide)) rfl ?_
      refine v_aload_n h0 d_Ev_ofExpression_214 0 rfl ?_
      refine v_aload_n h0 d_Ev_ofExpression_215 1 rfl ?_
      refine v_iload_n h0 d_Ev_ofExpression_216 2 rfl ?_
      refine v_callV h0 hC (sB_N0 g) 4 (show 4 < 59 by omega) (eB_Ev g _) rfl (av := [.ref (ga g (47 + f)), .int (nI k)]) (rest := []) (m_Ev_ofLeaf (kl K) g hI (up2 M 4 2 (nI (m + 1))) (m := m) hc hf hA1 hL1 hok (by omega) hty) wd_410 wd_407 wd_409 ws_30 wd_4 hd_Ev_ofLeaf (by omega) (by decide) rfl rfl (Nat.le_of_ble_eq_true rfl) d_Ev_ofExpression_217 (fun r9 M9 hp9 => ?_)
      obtain ⟨rfl, rfl⟩ := hp9
      refine v_r1 ?_
      exact v_iret h0 hC hR d_Ev_ofExpression_220 (by rw [EV_9 tx df am _ c d k lc m hm3 q, if_neg (by rw [q]; decide), if_neg (by rw [q]; decide)]; exact ⟨_, rfl, km, hm1, he1, fun _ => ⟨rfl, lm⟩⟩)
  · skip
    refine v_aload_n h0 d_Ev_ofExpression_22 0 rfl ?_
    refine v_bipush h0 d_Ev_ofExpression_23 (v := 10) (by decide) ?_
    refine v_callV h0 hC (sB_N0 g) 4 (show 4 < 59 by omega) (eB_Ev g _) rfl (av := [.int 10]) (rest := []) (m_Ev_fail (kl K) g hI M 10) wd_370 wd_367 wd_369 ws_21 wd_4 hd_Ev_fail (by omega) (by decide) rfl rfl (Nat.le_of_ble_eq_true rfl) d_Ev_ofExpression_25 (fun r9 M9 hp9 => ?_)
    obtain ⟨rfl, rfl⟩ := hp9
    refine v_r1 ?_
    exact v_iret h0 hC hR d_Ev_ofExpression_28 (by rw [EV_f tx df am _ c d k lc m h19]; exact ⟨_, rfl, EvK.er hf6 _ _, by rw [up2_n _ _ (by omega)]; exact hm, up2_s _ _ _ _, fun w => absurd w (by show ¬ (10 : Int32) = 0; decide)⟩)
set_option maxHeartbeats 8000000 in
theorem ed_succ_s (l : Launch) (g : Gd) (hI : sI (sB g)) {o d : Nat} (hd : d + 1 ≤ 6) (hED : ED l g (o + 1) d) (hEo : ED l g o 6) : ED l g (o + 1) (d + 1) := by
  intro M c n k f m s e a b lc tx df am tn fn hc hf hA hL hok heo hty hm hm2 he0
  have hn24 : n ≤ 24 := hA.2.1.2.2.2.2.2
  have hkn := OK_k hok
  have hf6 : f < 6 := by omega
  obtain rfl := hA.2.2.1
  refine Ct.of hI (sB_N0 g) rfl (Nat.le_of_ble_eq_true rfl) (fun K h0 hC hR hkl hn => ?_)
  have hC : Cx (sB g) K gC_Ev _ := hC
  subst hkl
  show V K (wp (sB g)) M 0 [(0, .ref (ga g 4)), (1, .ref (ga g (47 + f))), (2, .int (nI k)), (3, .int (nI (6 - (d + 1))))] []
  refine v_iload_n h0 d_Ev_ofExpression_0 3 rfl ?_
  refine v_iconst h0 d_Ev_ofExpression_1 (v := nI 5) (by decide) ?_
  refine n_icmp_le h0 (by omega) (by omega) d_Ev_ofExpression_2 rfl (fun h2 => ?_) (fun h2 => absurd h2 (by omega))
  refine v_aload_n h0 d_Ev_ofExpression_12 0 rfl ?_
  refine g_Ev_stepsMade h0 hC wd_124 d_Ev_ofExpression_13 ?_
  refine v_int (nI m) (hm) ?_
  refine v_sipush h0 d_Ev_ofExpression_16 (v := nI 2000) (by decide) ?_
  refine n_icmp_lt h0 (by omega) (by omega) d_Ev_ofExpression_19 rfl (fun h19 => ?_) (fun h19 => ?_)
  · skip
    have hm3 : m < 2000 := h19
    have km := EvK.st hf6 M (nI (m + 1))
    have hA1 := hA.kept hc km
    have lm : (up2 M 4 2 (nI (m + 1))) (53 + f) = M (53 + f) := up2_r _ _ _ (by omega)
    have hL1 : EvL (up2 M 4 2 (nI (m + 1))) f b lc := fun j a1 c1 => by rw [lm]; exact hL j a1 c1
    have hm1 : (up2 M 4 2 (nI (m + 1))) 4 2 = nI (m + 1) := up2_s _ _ _ _
    have he1 : (up2 M 4 2 (nI (m + 1))) 4 4 = 0 := by rw [up2_n _ _ (by omega)]; exact he0
    have hm4 : m + 1 ≤ 2000 := by omega
    refine v_aload_n h0 d_Ev_ofExpression_29 0 rfl ?_
    refine v_dup h0 d_Ev_ofExpression_30 rfl ?_
    refine g_Ev_stepsMade h0 hC wd_124 d_Ev_ofExpression_31 ?_
    refine v_int (nI m) (hm) ?_
    refine v_iconst h0 d_Ev_ofExpression_34 (v := nI 1) (by decide) ?_
    refine v_iadd h0 d_Ev_ofExpression_35 ?_
    refine v_int (nI (m + 1)) (nI_add m 1) ?_
    refine p_Ev_stepsMade h0 hC wd_124 d_Ev_ofExpression_36 ?_
    refine v_aload_n h0 d_Ev_ofExpression_39 1 rfl ?_
    refine gN_Fr_text h0 hC (by omega) wn_21 d_Ev_ofExpression_40 ?_
    refine v_top (.ref (ga g (17 + c))) (by rw [hA1.2.2.2, dcT_c g hc]) ?_
    refine v_iload_n h0 d_Ev_ofExpression_43 2 rfl ?_
    refine v_callV h0 hC (sB_N0 g) (17 + c) (show (17 + c) < 59 by omega) (eB_Te g (by omega) _) rfl (av := [.int (nI k)]) (rest := []) (m_Te_sign (kl K) g hI (up2 M 4 2 (nI (m + 1))) hc (by omega) hA1.2.1) wd_197 wd_371 wd_195 wd_196 wd_3 hd_Te_signAt (by omega) (by decide) rfl rfl (Nat.le_of_ble_eq_true rfl) d_Ev_ofExpression_44 (fun r9 M9 hp9 => ?_)
    obtain ⟨rfl, rfl⟩ := hp9
    refine v_r1 ?_
    refine v_int (tx c k) (if_pos hkn) ?_
    rcases OK_kd hok with q | q | q | q | q | q | q | q | q
    · skip
      rw [OK_2 _ n d b k q] at hok
      rw [EO_2 _ e d k q] at heo
      simp only [Bool.and_eq_true, decide_eq_true_eq] at hok
      have t2 := tn_2 q hty
      rcases (kd_2 _).mp q with h | h | h | h | h | h | h
      · skip
        refine v_lookup h0 d_Ev_ofExpression_47 (by decide) (off := 159) (by rw [h]; decide) rfl ?_
        refine v_aload_n h0 d_Ev_ofExpression_206 0 rfl ?_
        refine v_aload_n h0 d_Ev_ofExpression_207 1 rfl ?_
        refine v_iload_n h0 d_Ev_ofExpression_208 2 rfl ?_
        refine v_iload_n h0 d_Ev_ofExpression_209 3 rfl ?_
        refine v_callV h0 hC (sB_N0 g) 4 (show 4 < 59 by omega) (eB_Ev g _) rfl (av := [.ref (ga g (47 + f)), .int (nI k), .int (nI (6 - (d + 1)))]) (rest := []) (m_Ev_ofPair (kl K) g hI (up2 M 4 2 (nI (m + 1))) hc hf hd hA1 hL1 hm1 hm4 he1 hED hok.2.1 heo.2.1 t2.1 hok.2.2 heo.2.2 t2.2 rfl (Or.inl h)) wd_402 wd_399 wd_401 ws_28 wd_4 hd_Ev_ofPair (by omega) (by decide) rfl rfl (Nat.le_of_ble_eq_true rfl) d_Ev_ofExpression_210 (fun r9 M9 hp9 => ?_)
        have hp8 := hp9
        obtain ⟨v, rfl, hpx⟩ := hp9
        refine v_r1 ?_
        exact v_iret h0 hC hR d_Ev_ofExpression_213 (by rw [EV_2b tx df am _ c d k lc m hm3 q (by rw [h]; decide)]; exact EvP.lift km lm hp8)
      · skip
        refine v_lookup h0 d_Ev_ofExpression_47 (by decide) (off := 159) (by rw [h]; decide) rfl ?_
        refine v_aload_n h0 d_Ev_ofExpression_206 0 rfl ?_
        refine v_aload_n h0 d_Ev_ofExpression_207 1 rfl ?_
        refine v_iload_n h0 d_Ev_ofExpression_208 2 rfl ?_
        refine v_iload_n h0 d_Ev_ofExpression_209 3 rfl ?_
        refine v_callV h0 hC (sB_N0 g) 4 (show 4 < 59 by omega) (eB_Ev g _) rfl (av := [.ref (ga g (47 + f)), .int (nI k), .int (nI (6 - (d + 1)))]) (rest := []) (m_Ev_ofPair (kl K) g hI (up2 M 4 2 (nI (m + 1))) hc hf hd hA1 hL1 hm1 hm4 he1 hED hok.2.1 heo.2.1 t2.1 hok.2.2 heo.2.2 t2.2 rfl (Or.inr (Or.inl h))) wd_402 wd_399 wd_401 ws_28 wd_4 hd_Ev_ofPair (by omega) (by decide) rfl rfl (Nat.le_of_ble_eq_true rfl) d_Ev_ofExpression_210 (fun r9 M9 hp9 => ?_)
        have hp8 := hp9
        obtain ⟨v, rfl, hpx⟩ := hp9
        refine v_r1 ?_
        exact v_iret h0 hC hR d_Ev_ofExpression_213 (by rw [EV_2b tx df am _ c d k lc m hm3 q (by rw [h]; decide)]; exact EvP.lift km lm hp8)
      · skip
        refine v_lookup h0 d_Ev_ofExpression_47 (by decide) (off := 159) (by rw [h]; decide) rfl ?_
        refine v_aload_n h0 d_Ev_ofExpression_206 0 rfl ?_
        refine v_aload_n h0 d_Ev_ofExpression_207 1 rfl ?_
        refine v_iload_n h0 d_Ev_ofExpression_208 2 rfl ?_
        refine v_iload_n h0 d_Ev_ofExpression_209 3 rfl ?_
        refine v_callV h0 hC (sB_N0 g) 4 (show 4 < 59 by omega) (eB_Ev g _) rfl (av := [.ref (ga g (47 + f)), .int (nI k), .int (nI (6 - (d + 1)))]) (rest := []) (m_Ev_ofPair (kl K) g hI (up2 M 4 2 (nI (m + 1))) hc hf hd hA1 hL1 hm1 hm4 he1 hED hok.2.1 heo.2.1 t2.1 hok.2.2 heo.2.2 t2.2 rfl (Or.inr (Or.inr (Or.inl h)))) wd_402 wd_399 wd_401 ws_28 wd_4 hd_Ev_ofPair (by omega) (by decide) rfl rfl (Nat.le_of_ble_eq_true rfl) d_Ev_ofExpression_210 (fun r9 M9 hp9 => ?_)
        have hp8 := hp9
        obtain ⟨v, rfl, hpx⟩ := hp9
        refine v_r1 ?_
        exact v_iret h0 hC hR d_Ev_ofExpression_213 (by rw [EV_2b tx df am _ c d k lc m hm3 q (by rw [h]; decide)]; exact EvP.lift km lm hp8)
      · skip
        refine v_lookup h0 d_Ev_ofExpression_47 (by decide) (off := 159) (by rw [h]; decide) rfl ?_
        refine v_aload_n h0 d_Ev_ofExpression_206 0 rfl ?_
        refine v_aload_n h0 d_Ev_ofExpression_207 1 rfl ?_
        refine v_iload_n h0 d_Ev_ofExpression_208 2 rfl ?_
        refine v_iload_n h0 d_Ev_ofExpression_209 3 rfl ?_
        refine v_callV h0 hC (sB_N0 g) 4 (show 4 < 59 by omega) (eB_Ev g _) rfl (av := [.ref (ga g (47 + f)), .int (nI k), .int (nI (6 - (d + 1)))]) (rest := []) (m_Ev_ofPair (kl K) g hI (up2 M 4 2 (nI (m + 1))) hc hf hd hA1 hL1 hm1 hm4 he1 hED hok.2.1 heo.2.1 t2.1 hok.2.2 heo.2.2 t2.2 rfl (Or.inr (Or.inr (Or.inr (Or.inr (Or.inr h)))))) wd_402 wd_399 wd_401 ws_28 wd_4 hd_Ev_ofPair (by omega) (by decide) rfl rfl (Nat.le_of_ble_eq_true rfl) d_Ev_ofExpression_210 (fun r9 M9 hp9 => ?_)
        have hp8 := hp9
        obtain ⟨v, rfl, hpx⟩ := hp9
        refine v_r1 ?_
        exact v_iret h0 hC hR d_Ev_ofExpression_213 (by rw [EV_2b tx df am _ c d k lc m hm3 q (by rw [h]; decide)]; exact EvP.lift km lm hp8)
      · skip
        refine v_lookup h0 d_Ev_ofExpression_47 (by decide) (off := 159) (by rw [h]; decide) rfl ?_
        refine v_aload_n h0 d_Ev_ofExpression_206 0 rfl ?_
        refine v_aload_n h0 d_Ev_ofExpression_207 1 rfl ?_
        refine v_iload_n h0 d_Ev_ofExpression_208 2 rfl ?_
        refine v_iload_n h0 d_Ev_ofExpression_209 3 rfl ?_
        refine v_callV h0 hC (sB_N0 g) 4 (show 4 < 59 by omega) (eB_Ev g _) rfl (av := [.ref (ga g (47 + f)), .int (nI k), .int (nI (6 - (d + 1)))]) (rest := []) (m_Ev_ofPair (kl K) g hI (up2 M 4 2 (nI (m + 1))) hc hf hd hA1 hL1 hm1 hm4 he1 hED hok.2.1 heo.2.1 t2.1 hok.2.2 heo.2.2 t2.2 rfl (Or.inr (Or.inr (Or.inr (Or.inl h))))) wd_402 wd_399 wd_401 ws_28 wd_4 hd_Ev_ofPair (by omega) (by decide) rfl rfl (Nat.le_of_ble_eq_true rfl) d_Ev_ofExpression_210 (fun r9 M9 hp9 => ?_)
        have hp8 := hp9
        obtain ⟨v, rfl, hpx⟩ := hp9
        refine v_r1 ?_
        exact v_iret h0 hC hR d_Ev_ofExpression_213 (by rw [EV_2b tx df am _ c d k lc m hm3 q (by rw [h]; decide)]; exact EvP.lift km lm hp8)
      · skip
        refine v_lookup h0 d_Ev_ofExpression_47 (by decide) (off := 159) (by rw [h]; decide) rfl ?_
        refine v_aload_n h0 d_Ev_ofExpression_206 0 rfl ?_
        refine v_aload_n h0 d_Ev_ofExpression_207 1 rfl ?_
        refine v_iload_n h0 d_Ev_ofExpression_208 2 rfl ?_
        refine v_iload_n h0 d_Ev_ofExpression_209 3 rfl ?_
        refine v_callV h0 hC (sB_N0 g) 4 (show 4 < 59 by omega) (eB_Ev g _) rfl (av := [.ref (ga g (47 + f)), .int (nI k), .int (nI (6 - (d + 1)))]) (rest := []) (m_Ev_ofPair (kl K) g hI (up2 M 4 2 (nI (m + 1))) hc hf hd hA1 hL1 hm1 hm4 he1 hED hok.2.1 heo.2.1 t2.1 hok.2.2 heo.2.2 t2.2 rfl (Or.inr (Or.inr (Or.inr (Or.inr (Or.inl h)))))) wd_402 wd_399 wd_401 ws_28 wd_4 hd_Ev_ofPair (by omega) (by decide) rfl rfl (Nat.le_of_ble_eq_true rfl) d_Ev_ofExpression_210 (fun r9 M9 hp9 => ?_)
        have hp8 := hp9
        obtain ⟨v, rfl, hpx⟩ := hp9
        refine v_r1 ?_
        exact v_iret h0 hC hR d_Ev_ofExpression_213 (by rw [EV_2b tx df am _ c d k lc m hm3 q (by rw [h]; decide)]; exact EvP.lift km lm hp8)
      · skip
        refine v_lookup h0 d_Ev_ofExpression_47 (by decide) (off := 105) (by rw [h]; decide) rfl ?_
        refine v_aload_n h0 d_Ev_ofExpression_152 0 rfl ?_
        refine v_aload_n h0 d_Ev_ofExpression_153 1 rfl ?_
        refine v_iload_n h0 d_Ev_ofExpression_154 2 rfl ?_
        refine v_iload_n h0 d_Ev_ofExpression_155 3 rfl ?_
        refine v_callV h0 hC (sB_N0 g) 4 (show 4 < 59 by omega) (eB_Ev g _) rfl (av := [.ref (ga g (47 + f)), .int (nI k), .int (nI (6 - (d + 1)))]) (rest := []) (m_Ev_ofBoth (kl K) g hI (up2 M 4 2 (nI (m + 1))) hc hf hd hA1 hL1 hm1 hm4 he1 hED hok.2.1 heo.2.1 t2.1 hok.2.2 heo.2.2 t2.2 rfl) wd_375 wd_372 wd_374 ws_22 wd_4 hd_Ev_ofBoth (by omega) (by decide) rfl rfl (Nat.le_of_ble_eq_true rfl) d_Ev_ofExpression_156 (fun r9 M9 hp9 => ?_)
        have hp8 := hp9
        obtain ⟨v, rfl, hpx⟩ := hp9
        refine v_r1 ?_
        exact v_iret h0 hC hR d_Ev_ofExpression_159 (by rw [EV_2a tx df am _ c d k lc m hm3 q h]; exact EvP.lift km lm hp8)
    · skip
      rw [OK_1 _ n d b k q] at hok
      rw [EO_1 _ e d k q] at heo
      simp only [Bool.and_eq_true, decide_eq_true_eq] at hok
      refine v_lookup h0 d_Ev_ofExpression_47 (by decide) (off := 113) (by rw [(kd_1 _).mp q]; decide) rfl ?_
      refine v_iconst h0 d_Ev_ofExpression_160 (v := 1) (by decide) ?_
      refine v_aload_n h0 d_Ev_ofExpression_161 0 rfl ?_
      refine v_aload_n h0 d_Ev_ofExpression_162 1 rfl ?_
      refine v_iload_n h0 d_Ev_ofExpression_163 2 rfl ?_
      refine v_iconst h0 d_Ev_ofExpression_164 (v := nI 1) (by decide) ?_
      refine v_iadd h0 d_Ev_ofExpression_165 ?_
      refine v_int (nI (k + 1)) (nI_add k 1) ?_
      refine v_iload_n h0 d_Ev_ofExpression_166 3 rfl ?_
      refine v_iconst h0 d_Ev_ofExpression_167 (v := nI 1) (by decide) ?_
      refine v_iadd h0 d_Ev_ofExpression_168 ?_
      refine v_int (nI (6 - (d + 1) + 1)) (nI_add (6 - (d + 1)) 1) ?_
      refine v_int (nI (6 - d)) (sub_lev hd) ?_
      refine v_callV h0 hC (sB_N0 g) 4 (show 4 < 59 by omega) (eB_Ev g _) rfl (av := [.ref (ga g (47 + f)), .int (nI (k + 1)), .int (nI (6 - d))]) (rest := [.int 1]) (hED (up2 M 4 2 (nI (m + 1))) c n (k + 1) f (m + 1) (tx c) e a b lc tx df am tn fn hc hf hA1 hL1 hok.2 heo.2 (tn_1 q hty) hm1 hm4 he1) wd_366 wd_363 wd_365 ws_20 wd_4 hd_Ev_ofExpression (by omega) (by decide) rfl rfl (Nat.le_of_ble_eq_true rfl) d_Ev_ofExpression_169 (fun r9 M2 hp9 => ?_)
      obtain ⟨v2, rfl, k2, s2, e2, q2⟩ := hp9
      refine v_r1 ?_
      refine v_isub h0 d_Ev_ofExpression_172 ?_
      exact v_iret h0 hC hR d_Ev_ofExpression_173 (by rw [EV_1 tx df am _ c d k lc m hm3 q]; exact EvP.lift km lm (EvP.not ⟨v2, rfl, k2, s2, e2, q2⟩))
    · skip
      rw [OK_3 _ n d b k q] at hok
      rw [EO_3 _ e d k q] at heo
      simp only [Bool.and_eq_true, decide_eq_true_eq] at hok
      have t3 := tn_3 q hty
      refine v_lookup h0 d_Ev_ofExpression_47 (by decide) (off := 127) (by rw [(kd_3 _).mp q]; decide) rfl ?_
      refine v_aload_n h0 d_Ev_ofExpression_174 0 rfl ?_
      refine v_aload_n h0 d_Ev_ofExpression_175 1 rfl ?_
      refine v_iload_n h0 d_Ev_ofExpression_176 2 rfl ?_
      refine v_iload_n h0 d_Ev_ofExpression_177 3 rfl ?_
      refine v_callV h0 hC (sB_N0 g) 4 (show 4 < 59 by omega) (eB_Ev g _) rfl (av := [.ref (ga g (47 + f)), .int (nI k), .int (nI (6 - (d + 1)))]) (rest := []) (m_Ev_ofChoice (kl K) g hI (up2 M 4 2 (nI (m + 1))) hc hf hd hA1 hL1 hm1 hm4 he1 hED hok.2.1 heo.2.1 (by rw [t3.1]; decide) hok.2.2.1 heo.2.2.1 t3.2.1 rfl hok.2.2.2 heo.2.2.2 t3.2.2 (EV_bool hA.1.2.2.2.1 c d (k + 1) lc (m + 1) t3.1)) wd_384 wd_381 wd_383 ws_24 wd_4 hd_Ev_ofChoice (by omega) (by decide) rfl rfl (Nat.le_of_ble_eq_true rfl) d_Ev_ofExpression_178 (fun r9 M9 hp9 => ?_)
      have hp8 := hp9
      obtain ⟨v, rfl, hpx⟩ := hp9
      refine v_r1 ?_
      exact v_iret h0 hC hR d_Ev_ofExpression_181 (by rw [EV_3 tx df am _ c d k lc m hm3 q]; exact EvP.lift km lm hp8)
    · skip
      rw [OK_4 _ n d b k q] at hok
      rw [EO_4 _ e d k q] at heo
      simp only [Bool.and_eq_true, decide_eq_true_eq] at hok
      refine v_lookup h0 d_Ev_ofExpression_47 (by decide) (off := 135) (by rw [(kd_4 _).mp q]; decide) rfl ?_
      refine v_aload_n h0 d_Ev_ofExpression_182 0 rfl ?_
      refine v_aload_n h0 d_Ev_ofExpression_183 1 rfl ?_
      refine v_iload_n h0 d_Ev_ofExpression_184 2 rfl ?_
      refine v_iload_n h0 d_Ev_ofExpression_185 3 rfl ?_
      refine v_callV h0 hC (sB_N0 g) 4 (show 4 < 59 by omega) (eB_Ev g _) rfl (av := [.ref (ga g (47 + f)), .int (nI k), .int (nI (6 - (d + 1)))]) (rest := []) (m_Ev_ofBinding (kl K) g hI (up2 M 4 2 (nI (m + 1))) hc hf hd hA1 hL1 hm1 hm4 he1 hED hok.2.1.1 hok.2.1.2 hok.2.2.1 heo.2.1 (tn_4 q hty).1 hok.2.2.2 heo.2.2 (tn_4 q hty).2 rfl) wd_388 wd_385 wd_387 ws_25 wd_4 hd_Ev_ofBinding (by omega) (by decide) rfl rfl (Nat.le_of_ble_eq_true rfl) d_Ev_ofExpression_186 (fun r9 M9 hp9 => ?_)
      have hp8 := hp9
      obtain ⟨v, rfl, hpx⟩ := hp9
      refine v_r1 ?_
      exact v_iret h0 hC hR d_Ev_ofExpression_189 (by rw [EV_4 tx df am _ c d k lc m hm3 q]; exact EvP.lift km lm hp8)
    · skip
      rw [OK_5 _ n d b k q] at hok
      rw [EO_5 _ e d k q] at heo
      simp only [Bool.and_eq_true, decide_eq_true_eq] at hok
      refine v_lookup h0 d_Ev_ofExpression_47 (by decide) (off := 143) (by rw [(kd_5 _).mp q]; decide) rfl ?_
      refine v_aload_n h0 d_Ev_ofExpression_190 0 rfl ?_
      refine v_aload_n h0 d_Ev_ofExpression_191 1 rfl ?_
      refine v_iload_n h0 d_Ev_ofExpression_192 2 rfl ?_
      refine v_iload_n h0 d_Ev_ofExpression_193 3 rfl ?_
      refine v_callV h0 hC (sB_N0 g) 4 (show 4 < 59 by omega) (eB_Ev g _) rfl (av := [.ref (ga g (47 + f)), .int (nI k), .int (nI (6 - (d + 1)))]) (rest := []) (m_Ev_ofCall_s (kl K) g hI (up2 M 4 2 (nI (m + 1))) hc hf hd hA1 hL1 hm1 hm4 he1 hED hEo hok.2.1.1 hok.2.1.2 (tn_5 q hty).2 hok.2.2 heo.2 (tn_5 q hty).1 rfl) wd_393 wd_390 wd_392 ws_26 wd_4 hd_Ev_ofCall (by omega) (by decide) rfl rfl (Nat.le_of_ble_eq_true rfl) d_Ev_ofExpression_194 (fun r9 M9 hp9 => ?_)
      have hp8 := hp9
      obtain ⟨v, rfl, hpx⟩ := hp9
      refine v_r1 ?_
      exact v_iret h0 hC hR d_Ev_ofExpression_197 (by rw [EV_5 tx df am _ c d k lc m hm3 q]; exact EvP.lift km lm hp8)
    · skip
      rw [OK_6 _ n d b k q] at hok
      rw [EO_6 _ e d k q] at heo
      simp only [Bool.and_eq_true, decide_eq_true_eq] at hok
      refine v_lookup h0 d_Ev_ofExpression_47 (by decide) (off := 151) (by rw [(kd_6 _).mp q]; decide) rfl ?_
      refine v_aload_n h0 d_Ev_ofExpression_198 0 rfl ?_
      refine v_aload_n h0 d_Ev_ofExpression_199 1 rfl ?_
      refine v_iload_n h0 d_Ev_ofExpression_200 2 rfl ?_
      refine v_iload_n h0 d_Ev_ofExpression_201 3 rfl ?_
      refine v_callV h0 hC (sB_N0 g) 4 (show 4 < 59 by omega) (eB_Ev g _) rfl (av := [.ref (ga g (47 + f)), .int (nI k), .int (nI (6 - (d + 1)))]) (rest := []) (m_Ev_ofMatch (kl K) g hI (up2 M 4 2 (nI (m + 1))) hc hf hd hA1 hL1 hm1 hm4 he1 hED hok.2.1 heo.2.1 (tn_6 q hty).1 hok.2.2.1.1 hok.2.2.2.1 heo.2.2.1 (tn_6 q hty).2.1 hok.2.2.2.2.1.1 hok.2.2.2.2.2 heo.2.2.2 (tn_6 q hty).2.2 rfl) wd_398 wd_395 wd_397 ws_27 wd_4 hd_Ev_ofMatch (by omega) (by decide) rfl rfl (Nat.le_of_ble_eq_true rfl) d_Ev_ofExpression_202 (fun r9 M9 hp9 => ?_)
      have hp8 := hp9
      obtain ⟨v, rfl, hpx⟩ := hp9
      refine v_r1 ?_
      exact v_iret h0 hC hR d_Ev_ofExpression_205 (by rw [EV_6 tx df am _ c d k lc m hm3 q]; exact EvP.lift km lm hp8)
    · skip
      refine v_lookup h0 d_Ev_ofExpression_47 (by decide) (lk_leaf (by omega) _ (by decide)) rfl ?_
      refine v_aload_n h0 d_Ev_ofExpression_214 0 rfl ?_
      refine v_aload_n h0 d_Ev_ofExpression_215 1 rfl ?_
      refine v_iload_n h0 d_Ev_ofExpression_216 2 rfl ?_
      refine v_callV h0 hC (sB_N0 g) 4 (show 4 < 59 by omega) (eB_Ev g _) rfl (av := [.ref (ga g (47 + f)), .int (nI k)]) (rest := []) (m_Ev_ofLeaf (kl K) g hI (up2 M 4 2 (nI (m + 1))) (m := m) hc hf hA1 hL1 hok (by omega) hty) wd_410 wd_407 wd_409 ws_30 wd_4 hd_Ev_ofLeaf (by omega) (by decide) rfl rfl (Nat.le_of_ble_eq_true rfl) d_Ev_ofExpression_217 (fun r9 M9 hp9 => ?_)
      obtain ⟨rfl, rfl⟩ := hp9
      refine v_r1 ?_
      exact v_iret h0 hC hR d_Ev_ofExpression_220 (by rw [EV_7 tx df am _ c d k lc m hm3 q, if_pos q]; exact ⟨_, rfl, km, hm1, he1, fun _ => ⟨rfl, lm⟩⟩)
    · skip
      refine v_lookup h0 d_Ev_ofExpression_47 (by decide) (lk_leaf (by omega) _ (by decide)) rfl ?_
      refine v_aload_n h0 d_Ev_ofExpression_214 0 rfl ?_
      refine v_aload_n h0 d_Ev_ofExpression_215 1 rfl ?_
      refine v_iload_n h0 d_Ev_ofExpression_216 2 rfl ?_
      refine v_callV h0 hC (sB_N0 g) 4 (show 4 < 59 by omega) (eB_Ev g _) rfl (av := [.ref (ga g (47 + f)), .int (nI k)]) (rest := []) (m_Ev_ofLeaf (kl K) g hI (up2 M 4 2 (nI (m + 1))) (m := m) hc hf hA1 hL1 hok (by omega) hty) wd_410 wd_407 wd_409 ws_30 wd_4 hd_Ev_ofLeaf (by omega) (by decide) rfl rfl (Nat.le_of_ble_eq_true rfl) d_Ev_ofExpression_217 (fun r9 M9 hp9 => ?_)
      obtain ⟨rfl, rfl⟩ := hp9
      refine v_r1 ?_
      exact v_iret h0 hC hR d_Ev_ofExpression_220 (by rw [EV_8 tx df am _ c d k lc m hm3 q, if_neg (by rw [q]; decide), if_pos q]; exact ⟨_, rfl, km, hm1, he1, fun _ => ⟨rfl, lm⟩⟩)
    · skip
      refine v_lookup h0 d_Ev_ofExpression_47 (by decide) (lk_leaf (by omega) _ (by decide)) rfl ?_
      refine v_aload_n h0 d_Ev_ofExpression_214 0 rfl ?_
      refine v_aload_n h0 d_Ev_ofExpression_215 1 rfl ?_
      refine v_iload_n h0 d_Ev_ofExpression_216 2 rfl ?_
      refine v_callV h0 hC (sB_N0 g) 4 (show 4 < 59 by omega) (eB_Ev g _) rfl (av := [.ref (ga g (47 + f)), .int (nI k)]) (rest := []) (m_Ev_ofLeaf (kl K) g hI (up2 M 4 2 (nI (m + 1))) (m := m) hc hf hA1 hL1 hok (by omega) hty) wd_410 wd_407 wd_409 ws_30 wd_4 hd_Ev_ofLeaf (by omega) (by decide) rfl rfl (Nat.le_of_ble_eq_true rfl) d_Ev_ofExpression_217 (fun r9 M9 hp9 => ?_)
      obtain ⟨rfl, rfl⟩ := hp9
      refine v_r1 ?_
      exact v_iret h0 hC hR d_Ev_ofExpression_220 (by rw [EV_9 tx df am _ c d k lc m hm3 q, if_neg (by rw [q]; decide), if_neg (by rw [q]; decide)]; exact ⟨_, rfl, km, hm1, he1, fun _ => ⟨rfl, lm⟩⟩)
  · skip
    refine v_aload_n h0 d_Ev_ofExpression_22 0 rfl ?_
    refine v_bipush h0 d_Ev_ofExpression_23 (v := 10) (by decide) ?_
    refine v_callV h0 hC (sB_N0 g) 4 (show 4 < 59 by omega) (eB_Ev g _) rfl (av := [.int 10]) (rest := []) (m_Ev_fail (kl K) g hI M 10) wd_370 wd_367 wd_369 ws_21 wd_4 hd_Ev_fail (by omega) (by decide) rfl rfl (Nat.le_of_ble_eq_true rfl) d_Ev_ofExpression_25 (fun r9 M9 hp9 => ?_)
    obtain ⟨rfl, rfl⟩ := hp9
    refine v_r1 ?_
    exact v_iret h0 hC hR d_Ev_ofExpression_28 (by rw [EV_f tx df am _ c d k lc m h19]; exact ⟨_, rfl, EvK.er hf6 _ _, by rw [up2_n _ _ (by omega)]; exact hm, up2_s _ _ _ _, fun w => absurd w (by show ¬ (10 : Int32) = 0; decide)⟩)
theorem ed_z (l : Launch) (g : Gd) (o : Nat) : ED l g o 0 := by
  intro M c n k f m s e a b lc tx df am tn fn _ _ _ _ h
  simp [OK] at h
theorem ed_all (l : Launch) (g : Gd) (hI : sI (sB g)) : ∀ o d, d ≤ 6 → ED l g o d := by
  intro o
  induction o with
  | zero =>
    intro d
    induction d with
    | zero => intro _; exact ed_z l g 0
    | succ d ih => intro hd; exact ed_succ_0 l g hI hd (ih (by omega))
  | succ o io =>
    intro d
    induction d with
    | zero => intro _; exact ed_z l g (o + 1)
    | succ d ih => intro hd; exact ed_succ_s l g hI hd (ih (by omega)) (io 6 (Nat.le_refl _))
