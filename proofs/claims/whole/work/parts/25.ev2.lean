/-! THE EVALUATOR (the book): small methods, and what an evaluation keeps -/
def EvK (f : Nat) (M M' : Me) : Prop := (∀ i, i < 47 → i ≠ 4 → M' i = M i) ∧ (∀ j, j ≠ 2 → j ≠ 4 → M' 4 j = M 4 j) ∧ (∀ q, q ≤ f → M' (47 + q) = M (47 + q)) ∧ (∀ q, q < f → M' (53 + q) = M (53 + q))
theorem EvK.rfl' {f : Nat} {M : Me} : EvK f M M := ⟨fun _ _ _ => rfl, fun _ _ _ => rfl, fun _ _ => rfl, fun _ _ => rfl⟩
theorem EvK.trans {f : Nat} {M M1 M2 : Me} (h : EvK f M M1) (h' : EvK f M1 M2) : EvK f M M2 :=
  ⟨fun i a b => (h'.1 i a b).trans (h.1 i a b), fun j a b => (h'.2.1 j a b).trans (h.2.1 j a b), fun q a => (h'.2.2.1 q a).trans (h.2.2.1 q a), fun q a => (h'.2.2.2 q a).trans (h.2.2.2 q a)⟩
theorem EvK.less {f : Nat} {M M' : Me} (h : EvK (f + 1) M M') : EvK f M M' := ⟨h.1, h.2.1, fun q a => h.2.2.1 q (by omega), fun q a => h.2.2.2 q (by omega)⟩
theorem EvK.st {f : Nat} (hf : f < 6) (M : Me) (v : Int32) : EvK f M (up2 M 4 2 v) :=
  ⟨fun i _ b => up2_r _ _ _ b, fun j a _ => up2_n _ _ (by omega), fun q _ => up2_r _ _ _ (by omega), fun q _ => up2_r _ _ _ (by omega)⟩
theorem EvK.er {f : Nat} (hf : f < 6) (M : Me) (v : Int32) : EvK f M (up2 M 4 4 v) :=
  ⟨fun i _ b => up2_r _ _ _ b, fun j _ b => up2_n _ _ (by omega), fun q _ => up2_r _ _ _ (by omega), fun q _ => up2_r _ _ _ (by omega)⟩
theorem EvK.lo {f : Nat} (hf : f < 6) (M : Me) (j : Nat) (v : Int32) : EvK f M (up2 M (53 + f) j v) :=
  ⟨fun i a _ => up2_r _ _ _ (by omega), fun q _ _ => by rw [up2_r _ _ _ (by omega)], fun q a => up2_r _ _ _ (by omega), fun q a => up2_r _ _ _ (by omega)⟩
/-- what an evaluation stands on: the definers, texts, values; the types of names, the functions -/
def EC (M : Me) (tx : Nat → Nat → Int32) (df : Nat → Nat) (am tn : Nat → Int32) (fn : Nat → Bool) : Prop :=
  M 4 1 = 1 ∧ (∀ c, c < 10 → M (27 + c) = tx c) ∧ (∀ j, j < 10 → (¬ tn j = 0 ∨ fn j = true) → df j < 10 ∧ M 2 j = nI (df j + 1) ∧ (¬ tn j = 0 → M (7 + df j) 5 = am (df j))) ∧ (∀ j, tn j = 2 → z1 (am (df j))) ∧
  ∀ j, j < 10 → fn j = true → ∃ (n : Nat) (a : Int32) (e : Nat → Int32), TX M (df j) (tx (df j)) n a e ∧ M (17 + df j) 3 = nI 2 ∧ 1 < n ∧ kd (tx (df j) 1) = 9 ∧ OK (tx (df j)) n 6 (fun i => decide (i = lcI (tx (df j) 1))) 2 = true ∧ EO (tx (df j)) e 6 2 ∧ TY (tx (df j)) tn fn 6 2 = 1
theorem TX.kept {M M' : Me} {c n : Nat} {s e : Nat → Int32} {a : Int32} {f : Nat} (hc : c < 10) (h : TX M c s n a e) (k : EvK f M M') : TX M' c s n a e := by
  obtain ⟨h1, h2, h3, h4, h5⟩ := h
  refine ⟨?_, ?_, ?_, ?_, h5⟩
  · rw [k.1 _ (by omega) (by omega)]; exact h1
  · rw [k.1 _ (by omega) (by omega)]; exact h2
  · rw [k.1 _ (by omega) (by omega)]; exact h3
  · rw [k.1 _ (by omega) (by omega)]; exact h4
theorem EC.kept {M M' : Me} {tx : Nat → Nat → Int32} {df : Nat → Nat} {am tn : Nat → Int32} {fn : Nat → Bool} {f : Nat} (h : EC M tx df am tn fn) (k : EvK f M M') : EC M' tx df am tn fn := by
  obtain ⟨h1, h2, h3, h4, h5⟩ := h
  refine ⟨by rw [k.2.1 1 (by decide) (by decide)]; exact h1, fun c hc => ?_, fun j hj q => ?_, h4, fun j hj q => ?_⟩
  · rw [k.1 _ (by omega) (by omega)]; exact h2 c hc
  · obtain ⟨w1, w2, w3⟩ := h3 j hj q
    exact ⟨w1, by rw [k.1 2 (by omega) (by omega)]; exact w2, fun z => by rw [k.1 _ (by omega) (by omega)]; exact w3 z⟩
  · have hd := (h3 j hj (Or.inr q)).1
    obtain ⟨n, a, e, w1, w2, w3⟩ := h5 j hj q
    exact ⟨n, a, e, w1.kept hd k, by rw [k.1 _ (by omega) (by omega)]; exact w2, w3⟩
def EvA (M : Me) (c n f : Nat) (s e : Nat → Int32) (a : Int32) (tx : Nat → Nat → Int32) (df : Nat → Nat) (am tn : Nat → Int32) (fn : Nat → Bool) : Prop := EC M tx df am tn fn ∧ TX M c s n a e ∧ tx c = s ∧ M (47 + f) 2 = nI (c + 1)
theorem EvA.kept {M M' : Me} {c n f : Nat} {s e : Nat → Int32} {a : Int32} {tx : Nat → Nat → Int32} {df : Nat → Nat} {am tn : Nat → Int32} {fn : Nat → Bool} (hc : c < 10) (h : EvA M c n f s e a tx df am tn fn) (k : EvK f M M') : EvA M' c n f s e a tx df am tn fn :=
  ⟨h.1.kept k, h.2.1.kept hc k, h.2.2.1, by rw [k.2.2.1 f (Nat.le_refl _)]; exact h.2.2.2⟩
def EvL (M : Me) (f : Nat) (b : Nat → Bool) (lc : Nat → Int32) : Prop := ∀ j, j < 6 → b j = true → M (53 + f) j = lc j
def EvP (f : Nat) (M : Me) (R : Rs) (r : Option Value) (M' : Me) : Prop := ∃ v, r = some (.int v) ∧ EvK f M M' ∧ M' 4 2 = nI R.2.2 ∧ M' 4 4 = R.1 ∧ (R.1 = 0 → v = R.2.1 ∧ M' (53 + f) = M (53 + f))
theorem EvP.lift {f : Nat} {M M1 M' : Me} {R : Rs} {r : Option Value} (k : EvK f M M1) (l1 : M1 (53 + f) = M (53 + f)) (h : EvP f M1 R r M') : EvP f M R r M' := by
  obtain ⟨v, h1, h2, h3, h4, h5⟩ := h
  exact ⟨v, h1, k.trans h2, h3, h4, fun z => ⟨(h5 z).1, (h5 z).2.trans l1⟩⟩
theorem EvP.bd' {f : Nat} {M M' : Me} {R : Rs} {r : Option Value} (h : EvP f M R r M') : EvP f M (bd R fun w m => (0, w, m)) r M' := by
  obtain ⟨v, h1, h2, h3, h4, h5⟩ := h
  by_cases z : R.1 = 0
  · rw [bd_o z]; exact ⟨v, h1, h2, h3, h4.trans z, fun _ => h5 z⟩
  · rw [bd_e z]; exact ⟨v, h1, h2, h3, h4, fun w => absurd w z⟩
/-- an error goes up -/
theorem EvP.err {f : Nat} {M M' : Me} {R : Rs} {g : Int32 → Nat → Rs} (k : EvK f M M') (h2 : M' 4 2 = nI R.2.2) (h4 : M' 4 4 = R.1) (z : ¬ R.1 = 0) (v : Int32) : EvP f M (bd R g) (some (.int v)) M' := by
  rw [bd_e z]; exact ⟨v, rfl, k, h2, h4, fun w => absurd w z⟩
def ED (l : Launch) (g : Gd) (o d : Nat) : Prop := ∀ (M : Me) (c n k f m : Nat) (s e : Nat → Int32) (a : Int32) (b : Nat → Bool) (lc : Nat → Int32) (tx : Nat → Nat → Int32) (df : Nat → Nat) (am tn : Nat → Int32) (fn : Nat → Bool),
  c < 10 → f + o = 5 → EvA M c n f s e a tx df am tn fn → EvL M f b lc → OK s n d b k = true → EO s e d k → ¬ TY s tn fn d k = 0 → M 4 2 = nI m → m ≤ 2000 → M 4 4 = 0 →
  CB l g y_Ev_ofExpression c_Ev_ofExpression 4 (some .int) (2 * (7 * o + d) + 4) [.ref (ga g 4), .ref (ga g (47 + f)), .int (nI k), .int (nI (6 - d))] M (EvP f M (EV tx df am (CL tx df am o) c d k lc m))
theorem hf_t {x : Int32} (h : decide (¬ x = 0) = true) : ¬ x = 0 := of_decide_eq_true h
theorem hf_f {x : Int32} (h : decide (¬ x = 0) = false) : x = 0 := Classical.byContradiction (fun q => of_decide_eq_false h q)
set_option maxHeartbeats 4000000 in
theorem m_Ev_fail (l : Launch) (g : Gd) (hI : sI (sB g)) (M : Me) (x : Int32) : CB l g y_Ev_fail c_Ev_fail 2 (some .int) 1 [.ref (ga g 4), .int x] M (fun r M' => r = some (.int (nI 0)) ∧ M' = up2 M 4 4 x) := by
  refine Ct.of hI (sB_N0 g) rfl (Nat.le_of_ble_eq_true rfl) (fun K h0 hC hR hkl hn => ?_)
  have hC : Cx (sB g) K gC_Ev _ := hC
  show V K (wp (sB g)) M 0 [(0, .ref (ga g 4)), (1, .int x)] []
  refine v_aload_n h0 d_Ev_fail_0 0 rfl ?_
  refine v_iload_n h0 d_Ev_fail_1 1 rfl ?_
  refine p_Ev_error h0 hC wd_127 d_Ev_fail_2 ?_
  refine v_iconst h0 d_Ev_fail_5 (v := nI 0) (by decide) ?_
  exact v_iret h0 hC hR d_Ev_fail_6 (⟨rfl, rfl⟩)
set_option maxHeartbeats 4000000 in
theorem m_Ev_hasFailed (l : Launch) (g : Gd) (hI : sI (sB g)) (M : Me)  : CB l g y_Ev_hasFailed c_Ev_hasFailed 1 (some .boolean) 1 [.ref (ga g 4)] M (fun r M' => r = some (.int (bI (decide (¬ M 4 4 = 0)))) ∧ M = M') := by
  refine Ct.of hI (sB_N0 g) rfl (Nat.le_of_ble_eq_true rfl) (fun K h0 hC hR hkl hn => ?_)
  have hC : Cx (sB g) K gC_Ev _ := hC
  show V K (wp (sB g)) M 0 [(0, .ref (ga g 4))] []
  refine v_aload_n h0 d_Ev_hasFailed_0 0 rfl ?_
  refine g_Ev_error h0 hC wd_127 d_Ev_hasFailed_1 ?_
  refine v_if_eq h0 d_Ev_hasFailed_4 rfl (fun h4 => ?_) (fun h4 => ?_)
  · skip
    refine v_iconst h0 d_Ev_hasFailed_11 (v := nI 0) (by decide) ?_
    exact v_zret h0 hC hR (rfl) d_Ev_hasFailed_12 (⟨ret_f (decide_eq_false (fun q => q h4)), rfl⟩)
  · skip
    refine v_iconst h0 d_Ev_hasFailed_7 (v := nI 1) (by decide) ?_
    refine v_goto h0 d_Ev_hasFailed_8 rfl ?_
    exact v_zret h0 hC hR (rfl) d_Ev_hasFailed_12 (⟨ret_t (decide_eq_true h4), rfl⟩)
set_option maxHeartbeats 4000000 in
theorem m_Ev_combine_43 (l : Launch) (g : Gd) (hI : sI (sB g)) (M : Me) (q x y : Int32) (h : q = 43) : CB l g y_Ev_combine c_Ev_combine 4 (some .int) 2 [.ref (ga g 4), .int q, .int x, .int y] M (fun r M' => r = some (.int (x + y)) ∧ M = M') := by
  refine Ct.of hI (sB_N0 g) rfl (Nat.le_of_ble_eq_true rfl) (fun K h0 hC hR hkl hn => ?_)
  have hC : Cx (sB g) K gC_Ev _ := hC
  show V K (wp (sB g)) M 0 [(0, .ref (ga g 4)), (1, .int q), (2, .int x), (3, .int y)] []
  refine v_iload_n h0 d_Ev_combine_0 1 rfl ?_
  refine v_lookup h0 d_Ev_combine_1 (by decide) (off := 51) (by rw [h]; decide) rfl ?_
  refine v_iload_n h0 d_Ev_combine_52 2 rfl ?_
  refine v_iload_n h0 d_Ev_combine_53 3 rfl ?_
  refine v_iadd h0 d_Ev_combine_54 ?_
  exact v_iret h0 hC hR d_Ev_combine_55 (⟨rfl, rfl⟩)
set_option maxHeartbeats 4000000 in
theorem m_Ev_combine_45 (l : Launch) (g : Gd) (hI : sI (sB g)) (M : Me) (q x y : Int32) (h : q = 45) : CB l g y_Ev_combine c_Ev_combine 4 (some .int) 2 [.ref (ga g 4), .int q, .int x, .int y] M (fun r M' => r = some (.int (x - y)) ∧ M = M') := by
  refine Ct.of hI (sB_N0 g) rfl (Nat.le_of_ble_eq_true rfl) (fun K h0 hC hR hkl hn => ?_)
  have hC : Cx (sB g) K gC_Ev _ := hC
  show V K (wp (sB g)) M 0 [(0, .ref (ga g 4)), (1, .int q), (2, .int x), (3, .int y)] []
  refine v_iload_n h0 d_Ev_combine_0 1 rfl ?_
  refine v_lookup h0 d_Ev_combine_1 (by decide) (off := 55) (by rw [h]; decide) rfl ?_
  refine v_iload_n h0 d_Ev_combine_56 2 rfl ?_
  refine v_iload_n h0 d_Ev_combine_57 3 rfl ?_
  refine v_isub h0 d_Ev_combine_58 ?_
  exact v_iret h0 hC hR d_Ev_combine_59 (⟨rfl, rfl⟩)
set_option maxHeartbeats 4000000 in
theorem m_Ev_combine_42 (l : Launch) (g : Gd) (hI : sI (sB g)) (M : Me) (q x y : Int32) (h : q = 42) : CB l g y_Ev_combine c_Ev_combine 4 (some .int) 2 [.ref (ga g 4), .int q, .int x, .int y] M (fun r M' => r = some (.int (x * y)) ∧ M = M') := by
  refine Ct.of hI (sB_N0 g) rfl (Nat.le_of_ble_eq_true rfl) (fun K h0 hC hR hkl hn => ?_)
  have hC : Cx (sB g) K gC_Ev _ := hC
  show V K (wp (sB g)) M 0 [(0, .ref (ga g 4)), (1, .int q), (2, .int x), (3, .int y)] []
  refine v_iload_n h0 d_Ev_combine_0 1 rfl ?_
  refine v_lookup h0 d_Ev_combine_1 (by decide) (off := 59) (by rw [h]; decide) rfl ?_
  refine v_iload_n h0 d_Ev_combine_60 2 rfl ?_
  refine v_iload_n h0 d_Ev_combine_61 3 rfl ?_
  refine v_imul h0 d_Ev_combine_62 ?_
  exact v_iret h0 hC hR d_Ev_combine_63 (⟨rfl, rfl⟩)
set_option maxHeartbeats 4000000 in
theorem m_Ev_combine_47 (l : Launch) (g : Gd) (hI : sI (sB g)) (M : Me) (q x y : Int32) (h : q = 47) (hy : ¬ y = 0) : CB l g y_Ev_combine c_Ev_combine 4 (some .int) 2 [.ref (ga g 4), .int q, .int x, .int y] M (fun r M' => r = some (.int (x / y)) ∧ M = M') := by
  refine Ct.of hI (sB_N0 g) rfl (Nat.le_of_ble_eq_true rfl) (fun K h0 hC hR hkl hn => ?_)
  have hC : Cx (sB g) K gC_Ev _ := hC
  show V K (wp (sB g)) M 0 [(0, .ref (ga g 4)), (1, .int q), (2, .int x), (3, .int y)] []
  refine v_iload_n h0 d_Ev_combine_0 1 rfl ?_
  refine v_lookup h0 d_Ev_combine_1 (by decide) (off := 63) (by rw [h]; decide) rfl ?_
  refine v_iload_n h0 d_Ev_combine_64 3 rfl ?_
  refine v_if_ne h0 d_Ev_combine_65 rfl (fun h65 => ?_) (fun h65 => absurd h65 (fun z => hy z))
  refine v_iload_n h0 d_Ev_combine_77 2 rfl ?_
  refine v_iload_n h0 d_Ev_combine_78 3 rfl ?_
  refine v_idiv h0 d_Ev_combine_79 (hy) ?_
  exact v_iret h0 hC hR d_Ev_combine_80 (⟨rfl, rfl⟩)
set_option maxHeartbeats 4000000 in
theorem m_Ev_combine_z (l : Launch) (g : Gd) (hI : sI (sB g)) (M : Me) (q x y : Int32) (h : q = 47) (hy : y = 0) : CB l g y_Ev_combine c_Ev_combine 4 (some .int) 2 [.ref (ga g 4), .int q, .int x, .int y] M (fun r M' => r = some (.int (nI 0)) ∧ M' = up2 M 4 4 7) := by
  refine Ct.of hI (sB_N0 g) rfl (Nat.le_of_ble_eq_true rfl) (fun K h0 hC hR hkl hn => ?_)
  have hC : Cx (sB g) K gC_Ev _ := hC
  show V K (wp (sB g)) M 0 [(0, .ref (ga g 4)), (1, .int q), (2, .int x), (3, .int y)] []
  refine v_iload_n h0 d_Ev_combine_0 1 rfl ?_
  refine v_lookup h0 d_Ev_combine_1 (by decide) (off := 63) (by rw [h]; decide) rfl ?_
  refine v_iload_n h0 d_Ev_combine_64 3 rfl ?_
  refine v_if_ne h0 d_Ev_combine_65 rfl (fun h65 => absurd h65 (fun z => z hy)) (fun h65 => ?_)
  refine v_aload_n h0 d_Ev_combine_68 0 rfl ?_
  refine v_bipush h0 d_Ev_combine_69 (v := 7) (by decide) ?_
  refine v_callV h0 hC (sB_N0 g) 4 (show 4 < 59 by omega) (eB_Ev g _) rfl (av := [.int 7]) (rest := []) (m_Ev_fail (kl K) g hI M 7) wd_370 wd_367 wd_369 ws_21 wd_4 hd_Ev_fail (by omega) (by decide) rfl rfl (Nat.le_of_ble_eq_true rfl) d_Ev_combine_71 (fun r9 M9 hp9 => ?_)
  obtain ⟨rfl, rfl⟩ := hp9
  refine v_r1 ?_
  refine v_goto h0 d_Ev_combine_74 rfl ?_
  exact v_iret h0 hC hR d_Ev_combine_80 (⟨rfl, rfl⟩)
set_option maxHeartbeats 4000000 in
theorem m_Ev_combine_60 (l : Launch) (g : Gd) (hI : sI (sB g)) (M : Me) (q x y : Int32) (h : q = 60) : CB l g y_Ev_combine c_Ev_combine 4 (some .int) 2 [.ref (ga g 4), .int q, .int x, .int y] M (fun r M' => r = some (.int (if x < y then 1 else 0)) ∧ M = M') := by
  refine Ct.of hI (sB_N0 g) rfl (Nat.le_of_ble_eq_true rfl) (fun K h0 hC hR hkl hn => ?_)
  have hC : Cx (sB g) K gC_Ev _ := hC
  show V K (wp (sB g)) M 0 [(0, .ref (ga g 4)), (1, .int q), (2, .int x), (3, .int y)] []
  refine v_iload_n h0 d_Ev_combine_0 1 rfl ?_
  refine v_lookup h0 d_Ev_combine_1 (by decide) (off := 80) (by rw [h]; decide) rfl ?_
  refine v_iload_n h0 d_Ev_combine_81 2 rfl ?_
  refine v_iload_n h0 d_Ev_combine_82 3 rfl ?_
  refine v_icmp_ge h0 d_Ev_combine_83 rfl (fun h83 => ?_) (fun h83 => ?_)
  · skip
    refine v_iconst h0 d_Ev_combine_90 (v := nI 0) (by decide) ?_
    exact v_iret h0 hC hR d_Ev_combine_91 (⟨by rw [if_neg (fun z => absurd h83 (Int32.not_le.mpr z))]; rfl, rfl⟩)
  · skip
    refine v_iconst h0 d_Ev_combine_86 (v := nI 1) (by decide) ?_
    refine v_goto h0 d_Ev_combine_87 rfl ?_
    exact v_iret h0 hC hR d_Ev_combine_91 (⟨by rw [if_pos (i_nle h83)]; rfl, rfl⟩)
set_option maxHeartbeats 4000000 in
theorem m_Ev_combine_61 (l : Launch) (g : Gd) (hI : sI (sB g)) (M : Me) (q x y : Int32) (h : q = 61) : CB l g y_Ev_combine c_Ev_combine 4 (some .int) 2 [.ref (ga g 4), .int q, .int x, .int y] M (fun r M' => r = some (.int (if x = y then 1 else 0)) ∧ M = M') := by
  refine Ct.of hI (sB_N0 g) rfl (Nat.le_of_ble_eq_true rfl) (fun K h0 hC hR hkl hn => ?_)
  have hC : Cx (sB g) K gC_Ev _ := hC
  show V K (wp (sB g)) M 0 [(0, .ref (ga g 4)), (1, .int q), (2, .int x), (3, .int y)] []
  refine v_iload_n h0 d_Ev_combine_0 1 rfl ?_
  refine v_lookup h0 d_Ev_combine_1 (by decide) (by rw [h]) rfl ?_
  refine v_iload_n h0 d_Ev_combine_92 2 rfl ?_
  refine v_iload_n h0 d_Ev_combine_93 3 rfl ?_
  refine v_icmp_ne h0 d_Ev_combine_94 rfl (fun h94 => ?_) (fun h94 => ?_)
  · skip
    refine v_iconst h0 d_Ev_combine_101 (v := nI 0) (by decide) ?_
    exact v_iret h0 hC hR d_Ev_combine_102 (⟨by rw [if_neg h94]; rfl, rfl⟩)
  · skip
    refine v_iconst h0 d_Ev_combine_97 (v := nI 1) (by decide) ?_
    refine v_goto h0 d_Ev_combine_98 rfl ?_
    exact v_iret h0 hC hR d_Ev_combine_102 (⟨by rw [if_pos h94]; rfl, rfl⟩)
set_option maxHeartbeats 4000000 in
theorem m_Ev_ofLeaf (l : Launch) (g : Gd) (hI : sI (sB g)) (M : Me) {c n k f d o m : Nat} {s e : Nat → Int32} {a : Int32} {b : Nat → Bool} {lc : Nat → Int32} {tx : Nat → Nat → Int32} {df : Nat → Nat} {am tn : Nat → Int32} {fn : Nat → Bool} (hc : c < 10) (hf : f + o = 5) (hA : EvA M c n f s e a tx df am tn fn) (hL : EvL M f b lc) (hok : OK s n (d + 1) b k = true) (hj : kd (s k) = 7 ∨ kd (s k) = 8 ∨ kd (s k) = 9) (ht : ¬ TY s tn fn (d + 1) k = 0) : CB l g y_Ev_ofLeaf c_Ev_ofLeaf 5 (some .int) 3 [.ref (ga g 4), .ref (ga g (47 + f)), .int (nI k)] M (fun r M' => r = some (.int (if kd (s k) = 7 then s k - 48 else if kd (s k) = 8 then am (df (nmI (s k))) else lc (lcI (s k)))) ∧ M = M') := by
  have hn24 : n ≤ 24 := hA.2.1.2.2.2.2.2
  have hkn := OK_k hok
  refine Ct.of hI (sB_N0 g) rfl (Nat.le_of_ble_eq_true rfl) (fun K h0 hC hR hkl hn => ?_)
  have hC : Cx (sB g) K gC_Ev _ := hC
  show V K (wp (sB g)) M 0 [(0, .ref (ga g 4)), (1, .ref (ga g (47 + f))), (2, .int (nI k))] []
  refine v_aload_n h0 d_Ev_ofLeaf_0 1 rfl ?_
  refine gN_Fr_text h0 hC (by omega) wn_21 d_Ev_ofLeaf_1 ?_
  refine v_top (.ref (ga g (17 + c))) (by rw [hA.2.2.2, dcT_c g hc]) ?_
  refine v_iload_n h0 d_Ev_ofLeaf_4 2 rfl ?_
  refine v_callV h0 hC (sB_N0 g) (17 + c) (show (17 + c) < 59 by omega) (eB_Te g (by omega) _) rfl (av := [.int (nI k)]) (rest := []) (m_Te_sign (kl K) g hI M hc (by omega) hA.2.1) wd_197 wd_371 wd_195 wd_196 wd_3 hd_Te_signAt (by omega) (by decide) rfl rfl (Nat.le_of_ble_eq_true rfl) d_Ev_ofLeaf_5 (fun r9 M9 hp9 => ?_)
  obtain ⟨rfl, rfl⟩ := hp9
  refine v_r1 ?_
  refine v_int (s k) (if_pos hkn) ?_
  refine v_istore_n h0 d_Ev_ofLeaf_8 (lv' := [(3, .int (s k)), (0, .ref (ga g 4)), (1, .ref (ga g (47 + f))), (2, .int (nI k))]) (lt_kn hn (by decide)) rfl ?_
  refine v_iload_n h0 d_Ev_ofLeaf_9 0 rfl ?_
  refine v_callSN h0 hC (sB_N0 g) (av := [.int (s k)]) (rest := []) (m_B_isLocal (kl K) g hI M _) wd_200 wn_30 wd_199 wd_1 hd_B_isLocal (by omega) (by decide) rfl rfl (Nat.le_of_ble_eq_true rfl) d_Ev_ofLeaf_10 (fun r9 M9 hp9 => ?_)
  obtain ⟨rfl, rfl⟩ := hp9
  refine v_r1 ?_
  refine b_if_eq h0 d_Ev_ofLeaf_13 rfl (fun h13 => ?_) (fun h13 => ?_)
  · skip
    refine v_iload_n h0 d_Ev_ofLeaf_26 0 rfl ?_
    refine v_callSN h0 hC (sB_N0 g) (av := [.int (s k)]) (rest := []) (m_B_isDigit (kl K) g hI M _) wd_234 wn_31 wd_233 wd_1 hd_B_isDigit (by omega) (by decide) rfl rfl (Nat.le_of_ble_eq_true rfl) d_Ev_ofLeaf_27 (fun r9 M9 hp9 => ?_)
    obtain ⟨rfl, rfl⟩ := hp9
    refine v_r1 ?_
    refine b_if_eq h0 d_Ev_ofLeaf_30 rfl (fun h30 => ?_) (fun h30 => ?_)
    · skip
      refine v_aload_n h0 d_Ev_ofLeaf_38 1 rfl ?_
      refine g_Ev_definers h0 hC wd_123 d_Ev_ofLeaf_39 ?_
      have h8 : kd (s k) = 8 := by have := kdB_f h13; have := kdB_f h30; omega
      rw [TY_8 s _ _ d k h8] at ht
      obtain ⟨hd1, hd2, hd3⟩ := hA.1.2.2.1 _ (nm_of h8).1 (Or.inl ht)
      refine v_top (.ref (ga g 2)) (by rw [hA.1.1]; rfl) ?_
      refine v_iload_n h0 d_Ev_ofLeaf_42 0 rfl ?_
      refine v_callSN h0 hC (sB_N0 g) (av := [.ref (ga g 2), .int (s k)]) (rest := []) (m_B_definerOf (kl K) g hI M h8) wd_349 wn_29 wd_348 wd_1 hd_B_definerOf (by omega) (by decide) rfl rfl (Nat.le_of_ble_eq_true rfl) d_Ev_ofLeaf_43 (fun r9 M9 hp9 => ?_)
      obtain ⟨rfl, rfl⟩ := hp9
      refine v_r1 ?_
      refine v_top (.ref (ga g (7 + (df (nmI (s k)))))) (by rw [hd2, dcC_c g hd1]; rfl) ?_
      refine v_astore h0 d_Ev_ofLeaf_46 (lv' := [(4, .ref (ga g (7 + (df (nmI (s k)))))), (3, .int (s k)), (0, .ref (ga g 4)), (1, .ref (ga g (47 + f))), (2, .int (nI k))]) (lt_kn hn (by decide)) rfl ?_
      refine v_aload h0 d_Ev_ofLeaf_48 0 rfl ?_
      refine v_ifnonnull h0 d_Ev_ofLeaf_50 rfl ?_
      refine v_aload h0 d_Ev_ofLeaf_57 0 rfl ?_
      refine gN_Ce_amount h0 hC (by omega) wn_12 d_Ev_ofLeaf_59 ?_
      exact v_iret h0 hC hR d_Ev_ofLeaf_62 (⟨by rw [if_neg (by rw [h8]; decide), if_pos h8, hd3 ht], rfl⟩)
    · skip
      refine v_iload_n h0 d_Ev_ofLeaf_33 0 rfl ?_
      refine v_bipush h0 d_Ev_ofLeaf_34 (v := nI 48) (by decide) ?_
      refine v_isub h0 d_Ev_ofLeaf_36 ?_
      exact v_iret h0 hC hR d_Ev_ofLeaf_37 (⟨by rw [if_pos (kdB_t h30)]; rfl, rfl⟩)
  · skip
    refine v_aload_n h0 d_Ev_ofLeaf_16 2 rfl ?_
    refine gN_Fr_locals h0 hC (by omega) wn_20 d_Ev_ofLeaf_17 ?_
    refine v_iload_n h0 d_Ev_ofLeaf_20 0 rfl ?_
    refine v_bipush h0 d_Ev_ofLeaf_21 (v := nI 107) (by decide) ?_
    refine v_isub h0 d_Ev_ofLeaf_23 ?_
    refine a_B_bound h0 hC (by omega) (lcI (s k)) ((lc_of (kdB_t h13)).2) ((lc_of (kdB_t h13)).1) d_Ev_ofLeaf_24 ?_
    exact v_iret h0 hC hR d_Ev_ofLeaf_25 (⟨by rw [if_neg (by rw [kdB_t h13]; decide), if_neg (by rw [kdB_t h13]; decide), hL _ (lc_of (kdB_t h13)).1 (by rw [OK_9 s n d b k (kdB_t h13)] at hok; simp only [Bool.and_eq_true] at hok; exact hok.2)], rfl⟩)
