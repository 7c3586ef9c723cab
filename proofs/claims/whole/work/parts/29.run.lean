/-! A RUN (the book) -/
theorem EC.same {M M' : Me} {tx : Nat → Nat → Int32} {df : Nat → Nat} {am tn : Nat → Int32} {fn : Nat → Bool} (h : EC M tx df am tn fn) (k : ∀ i, i < 47 → i ≠ 4 → M' i = M i) (k1 : M' 4 1 = M 4 1) : EC M' tx df am tn fn := by
  obtain ⟨h1, h2, h3, h4, h5⟩ := h
  refine ⟨by rw [k1]; exact h1, fun c hc => ?_, fun j hj q => ?_, h4, fun j hj q => ?_⟩
  · rw [k _ (by omega) (by omega)]; exact h2 c hc
  · obtain ⟨w1, w2, w3⟩ := h3 j hj q
    exact ⟨w1, by rw [k 2 (by omega) (by omega)]; exact w2, fun z => by rw [k _ (by omega) (by omega)]; exact w3 z⟩
  · have hd := (h3 j hj (Or.inr q)).1
    obtain ⟨n, a, e, ⟨w1, w2, w3, w4, w5⟩, w6, w7⟩ := h5 j hj q
    exact ⟨n, a, e, ⟨by rw [k _ (by omega) (by omega)]; exact w1, by rw [k _ (by omega) (by omega)]; exact w2, by rw [k _ (by omega) (by omega)]; exact w3, by rw [k _ (by omega) (by omega)]; exact w4, w5⟩, by rw [k _ (by omega) (by omega)]; exact w6, w7⟩
theorem TX.same {M M' : Me} {c n : Nat} {s e : Nat → Int32} {a : Int32} (h : TX M c s n a e) (h1 : M' (17 + c) = M (17 + c)) (h2 : M' (27 + c) = M (27 + c)) (h3 : M' (37 + c) = M (37 + c)) : TX M' c s n a e := by
  obtain ⟨w1, w2, w3, w4, w5⟩ := h
  exact ⟨by rw [h2]; exact w1, by rw [h1]; exact w2, by rw [h1]; exact w3, by rw [h3]; exact w4, w5⟩
def RunP (M : Me) (c : Nat) (x : Int32) (R : Rs) (r : Option Value) (M' : Me) : Prop :=
  r = none ∧ (∀ i, i < 47 → i ≠ 4 → i ≠ 7 + c → M' i = M i) ∧ M' 4 3 = M 4 3 + nI R.2.2 ∧ (∀ j, j < 4 → M' (7 + c) j = M (7 + c) j) ∧ M' (7 + c) 4 = (if R.1 = 0 then 14 else R.1) ∧ (R.1 = 0 → M' (7 + c) 5 = R.2.1) ∧ M' (7 + c) 6 = x ∧ M' (7 + c) 7 = M (7 + c) 7 + 1
set_option maxHeartbeats 4000000 in
theorem m_Ev_run (l : Launch) (g : Gd) (hI : sI (sB g)) (M : Me) {c n t : Nat} {x : Int32} {s e : Nat → Int32} {a : Int32} {b : Nat → Bool} {tx : Nat → Nat → Int32} {df : Nat → Nat} {am tn : Nat → Int32} {fn : Nat → Bool} (hc : c < 10) (hE : EC (up2 M 4 1 1) tx df am tn fn) (hT : TX M c s n a e) (hs : tx c = s) (hst : M (17 + c) 3 = nI t) (hb : ∀ j, j < 6 → b j = false) (hok : OK s n 6 b t = true) (heo : EO s e 6 t) (hty : ¬ TY s tn fn 6 t = 0) : CB l g y_Ev_run c_Ev_run 4 none 90 [.ref (ga g 4), .ref (ga g (7 + c)), .int x, .ref (ga g 2)] M (RunP M c x (EV tx df am (CL tx df am 5) c 6 t (fun _ => 0) 0)) := by
  refine Ct.of hI (sB_N0 g) rfl (Nat.le_of_ble_eq_true rfl) (fun K h0 hC hR hkl hn => ?_)
  have hC : Cx (sB g) K gC_Ev _ := hC
  show V K (wp (sB g)) M 0 [(0, .ref (ga g 4)), (1, .ref (ga g (7 + c))), (2, .int x), (3, .ref (ga g 2))] []
  refine v_aload_n h0 d_Ev_run_0 0 rfl ?_
  refine v_aload_n h0 d_Ev_run_1 3 rfl ?_
  refine p_Ev_definers h0 hC wd_123 d_Ev_run_2 ?_
  refine v_aload_n h0 d_Ev_run_5 0 rfl ?_
  refine v_iconst h0 d_Ev_run_6 (v := nI 0) (by decide) ?_
  refine p_Ev_stepsMade h0 hC wd_124 d_Ev_run_7 ?_
  refine v_aload_n h0 d_Ev_run_10 0 rfl ?_
  refine v_iconst h0 d_Ev_run_11 (v := nI 0) (by decide) ?_
  refine p_Ev_error h0 hC wd_127 d_Ev_run_12 ?_
  refine v_aload_n h0 d_Ev_run_15 0 rfl ?_
  refine g_Ev_frames h0 hC wd_122 d_Ev_run_16 ?_
  refine v_iconst h0 d_Ev_run_19 (v := nI 0) (by decide) ?_
  refine a_B_frames h0 hC 0 (rfl) (by omega) d_Ev_run_20 ?_
  refine v_aload_n h0 d_Ev_run_21 1 rfl ?_
  refine gN_Ce_text h0 hC (by omega) wn_4 d_Ev_run_22 ?_
  refine pN_Fr_text h0 hC (by omega) (by omega) wn_21 d_Ev_run_25 ?_
  have ka : ∀ i, i < 47 → i ≠ 4 → (up2 (up2 (up2 (up2 M 4 1 1) 4 2 (nI 0)) 4 4 (nI 0)) (47 + 0) 2 (nI (c + 1))) i = M i := fun i w1 w2 => by rw [up2_r _ _ _ (by omega), up2_r _ _ _ w2, up2_r _ _ _ w2, up2_r _ _ _ w2]
  have hEa : EC (up2 (up2 (up2 (up2 M 4 1 1) 4 2 (nI 0)) 4 4 (nI 0)) (47 + 0) 2 (nI (c + 1))) tx df am tn fn := hE.same (fun i w1 w2 => (ka i w1 w2).trans (up2_r _ _ _ w2).symm) (by rw [up2_r _ _ _ (by omega), up2_n _ _ (by omega), up2_n _ _ (by omega)])
  have hA : EvA (up2 (up2 (up2 (up2 M 4 1 1) 4 2 (nI 0)) 4 4 (nI 0)) (47 + 0) 2 (nI (c + 1))) c n 0 s e a tx df am tn fn := ⟨hEa, hT.same (ka _ (by omega) (by omega)) (ka _ (by omega) (by omega)) (ka _ (by omega) (by omega)), hs, up2_s _ _ _ _⟩
  have hm : (up2 (up2 (up2 (up2 M 4 1 1) 4 2 (nI 0)) 4 4 (nI 0)) (47 + 0) 2 (nI (c + 1))) 4 2 = nI 0 := by rw [up2_r _ _ _ (by omega), up2_n _ _ (by omega), up2_s]
  have he : (up2 (up2 (up2 (up2 M 4 1 1) 4 2 (nI 0)) 4 4 (nI 0)) (47 + 0) 2 (nI (c + 1))) 4 4 = 0 := by rw [up2_r _ _ _ (by omega), up2_s]; rfl
  refine v_aload_n h0 d_Ev_run_28 1 rfl ?_
  refine v_aload_n h0 d_Ev_run_29 0 rfl ?_
  refine v_aload_n h0 d_Ev_run_30 0 rfl ?_
  refine g_Ev_frames h0 hC wd_122 d_Ev_run_31 ?_
  refine v_iconst h0 d_Ev_run_34 (v := nI 0) (by decide) ?_
  refine a_B_frames h0 hC 0 (rfl) (by omega) d_Ev_run_35 ?_
  refine v_aload_n h0 d_Ev_run_36 1 rfl ?_
  refine gN_Ce_text h0 hC (by omega) wn_4 d_Ev_run_37 ?_
  refine v_top (.ref (ga g (17 + c))) (rfl) ?_
  refine gN_Te_start h0 hC (by omega) wn_1 d_Ev_run_40 ?_
  refine v_int (nI t) (by rw [ka _ (by omega) (by omega)]; exact hst) ?_
  refine v_iconst h0 d_Ev_run_43 (v := nI 0) (by decide) ?_
  refine v_callV h0 hC (sB_N0 g) 4 (show 4 < 59 by omega) (eB_Ev g _) rfl (av := [.ref (ga g (47 + 0)), .int (nI t), .int (nI 0)]) (rest := [.ref (ga g (7 + c))]) (ed_all (kl K) g hI 5 6 (by decide) (up2 (up2 (up2 (up2 M 4 1 1) 4 2 (nI 0)) 4 4 (nI 0)) (47 + 0) 2 (nI (c + 1))) c n t 0 0 s e a b (fun _ => 0) tx df am tn fn hc rfl hA (fun j w1 w2 => absurd w2 (by rw [hb j w1]; decide)) hok heo hty hm (by decide) he) wd_366 wd_363 wd_365 ws_20 wd_4 hd_Ev_ofExpression (by omega) (by decide) rfl rfl (Nat.le_of_ble_eq_true rfl) d_Ev_run_44 (fun r9 Mb hp9 => ?_)
  obtain ⟨v1, rfl, k1, s1, e1, q1⟩ := hp9
  refine v_r1 ?_
  refine pN_Ce_amount h0 hC (by omega) wn_12 d_Ev_run_47 ?_
  refine v_aload_n h0 d_Ev_run_50 1 rfl ?_
  refine v_iload_n h0 d_Ev_run_51 2 rfl ?_
  refine pN_Ce_sort h0 hC (by omega) wn_14 d_Ev_run_52 ?_
  refine v_aload_n h0 d_Ev_run_55 1 rfl ?_
  refine v_aload_n h0 d_Ev_run_56 0 rfl ?_
  refine v_callV h0 hC (sB_N0 g) 4 (show 4 < 59 by omega) (eB_Ev g _) rfl (av := []) (rest := [.ref (ga g (7 + c))]) (m_Ev_hasFailed (kl K) g hI _) wd_379 wd_376 wd_378 ws_23 wd_4 hd_Ev_hasFailed (by omega) (by decide) rfl rfl (Nat.le_of_ble_eq_true rfl) d_Ev_run_57 (fun r9 M9 hp9 => ?_)
  obtain ⟨rfl, rfl⟩ := hp9
  refine v_r1 ?_
  refine b_if_eq h0 d_Ev_run_60 rfl (fun h60 => ?_) (fun h60 => ?_)
  · skip
    have e44 : (up2 (up2 Mb (7 + c) 5 v1) (7 + c) 6 x) 4 4 = Mb 4 4 := by rw [up2_r _ _ _ (by omega), up2_r _ _ _ (by omega)]
    rw [e44] at h60
    refine v_bipush h0 d_Ev_run_70 (v := nI 14) (by decide) ?_
    refine pN_Ce_result h0 hC (by omega) wn_10 d_Ev_run_72 ?_
    refine v_aload_n h0 d_Ev_run_75 1 rfl ?_
    refine v_dup h0 d_Ev_run_76 rfl ?_
    refine gN_Ce_runCount h0 hC (by omega) wn_17 d_Ev_run_77 ?_
    refine v_iconst h0 d_Ev_run_80 (v := nI 1) (by decide) ?_
    refine v_iadd h0 d_Ev_run_81 ?_
    refine pN_Ce_runCount h0 hC (by omega) wn_17 d_Ev_run_82 ?_
    refine v_aload_n h0 d_Ev_run_85 0 rfl ?_
    refine v_dup h0 d_Ev_run_86 rfl ?_
    refine g_Ev_stepsInAll h0 hC wd_125 d_Ev_run_87 ?_
    refine v_aload_n h0 d_Ev_run_90 0 rfl ?_
    refine g_Ev_stepsMade h0 hC wd_124 d_Ev_run_91 ?_
    refine v_iadd h0 d_Ev_run_94 ?_
    refine p_Ev_stepsInAll h0 hC wd_125 d_Ev_run_95 ?_
    exact v_vret h0 hC hR d_Ev_run_98 (⟨rfl, fun i w1 w2 w3 => by rw [up2_r _ _ _ w2, up2_r _ _ _ w3, up2_r _ _ _ w3, up2_r _ _ _ w3, up2_r _ _ _ w3, k1.1 i w1 w2, ka i w1 w2], by rw [up2_s]; simp only [up2_r _ _ _ (show (4 : Nat) ≠ 7 + c by omega)]; rw [s1, k1.2.1 3 (by decide) (by decide), up2_r _ _ _ (by omega), up2_n _ _ (by omega), up2_n _ _ (by omega), up2_n _ _ (by omega)], fun j hj => by rw [up2_r _ _ _ (by omega), up2_n _ _ (by omega), up2_n _ _ (by omega), up2_n _ _ (by omega), up2_n _ _ (by omega), k1.1 _ (by omega) (by omega), ka _ (by omega) (by omega)], by rw [up2_r _ _ _ (by omega), up2_n _ _ (by omega), up2_s, if_pos (e1.symm.trans (hf_f h60))]; rfl, fun q => by rw [up2_r _ _ _ (by omega), up2_n _ _ (by omega), up2_n _ _ (by omega), up2_n _ _ (by omega), up2_s]; exact (q1 q).1, by rw [up2_r _ _ _ (by omega), up2_n _ _ (by omega), up2_n _ _ (by omega), up2_s], by rw [up2_r _ _ _ (by omega), up2_s, up2_n _ _ (by omega), up2_n _ _ (by omega), up2_n _ _ (by omega), k1.1 _ (by omega) (by omega), ka _ (by omega) (by omega)]; rfl⟩)
  · skip
    have e44 : (up2 (up2 Mb (7 + c) 5 v1) (7 + c) 6 x) 4 4 = Mb 4 4 := by rw [up2_r _ _ _ (by omega), up2_r _ _ _ (by omega)]
    rw [e44] at h60
    refine v_aload_n h0 d_Ev_run_63 0 rfl ?_
    refine g_Ev_error h0 hC wd_127 d_Ev_run_64 ?_
    refine v_goto h0 d_Ev_run_67 rfl ?_
    refine pN_Ce_result h0 hC (by omega) wn_10 d_Ev_run_72 ?_
    refine v_aload_n h0 d_Ev_run_75 1 rfl ?_
    refine v_dup h0 d_Ev_run_76 rfl ?_
    refine gN_Ce_runCount h0 hC (by omega) wn_17 d_Ev_run_77 ?_
    refine v_iconst h0 d_Ev_run_80 (v := nI 1) (by decide) ?_
    refine v_iadd h0 d_Ev_run_81 ?_
    refine pN_Ce_runCount h0 hC (by omega) wn_17 d_Ev_run_82 ?_
    refine v_aload_n h0 d_Ev_run_85 0 rfl ?_
    refine v_dup h0 d_Ev_run_86 rfl ?_
    refine g_Ev_stepsInAll h0 hC wd_125 d_Ev_run_87 ?_
    refine v_aload_n h0 d_Ev_run_90 0 rfl ?_
    refine g_Ev_stepsMade h0 hC wd_124 d_Ev_run_91 ?_
    refine v_iadd h0 d_Ev_run_94 ?_
    refine p_Ev_stepsInAll h0 hC wd_125 d_Ev_run_95 ?_
    exact v_vret h0 hC hR d_Ev_run_98 (⟨rfl, fun i w1 w2 w3 => by rw [up2_r _ _ _ w2, up2_r _ _ _ w3, up2_r _ _ _ w3, up2_r _ _ _ w3, up2_r _ _ _ w3, k1.1 i w1 w2, ka i w1 w2], by rw [up2_s]; simp only [up2_r _ _ _ (show (4 : Nat) ≠ 7 + c by omega)]; rw [s1, k1.2.1 3 (by decide) (by decide), up2_r _ _ _ (by omega), up2_n _ _ (by omega), up2_n _ _ (by omega), up2_n _ _ (by omega)], fun j hj => by rw [up2_r _ _ _ (by omega), up2_n _ _ (by omega), up2_n _ _ (by omega), up2_n _ _ (by omega), up2_n _ _ (by omega), k1.1 _ (by omega) (by omega), ka _ (by omega) (by omega)], by rw [up2_r _ _ _ (by omega), up2_n _ _ (by omega), up2_s, if_neg (fun q => hf_t h60 (e1.trans q)), e44, e1], fun q => by rw [up2_r _ _ _ (by omega), up2_n _ _ (by omega), up2_n _ _ (by omega), up2_n _ _ (by omega), up2_s]; exact (q1 q).1, by rw [up2_r _ _ _ (by omega), up2_n _ _ (by omega), up2_n _ _ (by omega), up2_s], by rw [up2_r _ _ _ (by omega), up2_s, up2_n _ _ (by omega), up2_n _ _ (by omega), up2_n _ _ (by omega), k1.1 _ (by omega) (by omega), ka _ (by omega) (by omega)]; rfl⟩)
