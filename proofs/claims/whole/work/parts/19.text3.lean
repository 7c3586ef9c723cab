/-! READING A SIGN AND WHAT BELONGS TO IT (the book) -/
theorem nI_m1 {n : Nat} (h : n < 2 ^ 31) : ¬ nI n = -1 := fun q => by
  have e := nI_toInt h
  rw [q] at e
  have : (-1 : Int32).toInt = -1 := by decide
  omega
theorem lk_no {x : Int32} {d : Int} : ∀ (l : List (Int × Int)), (∀ p ∈ l, x ≠ Int32.ofInt p.1 ∧ (Int32.ofInt p.1).toInt = p.1) → Op.lookupswitch.offset l d x.toInt = d := by
  intro l
  induction l with
  | nil => intro _; rfl
  | cons p l ih =>
    intro h
    obtain ⟨a, q⟩ := p
    rw [Op.lookupswitch.offset_cons, if_neg, ih (fun p hp => h p (List.mem_cons_of_mem _ hp))]
    intro e
    have h1 := h (a, q) List.mem_cons_self
    exact h1.1 (Int32.toInt_inj.mp (e.symm.trans h1.2.symm))
theorem lk_leaf {x : Int32} {d : Int} (hj : kd x = 7 ∨ kd x = 8 ∨ kd x = 9 ∨ kd x = 0) (l : List (Int × Int)) (hl : l.all (fun p => decide (¬ (kd (Int32.ofInt p.1) = 7 ∨ kd (Int32.ofInt p.1) = 8 ∨ kd (Int32.ofInt p.1) = 9 ∨ kd (Int32.ofInt p.1) = 0) ∧ (Int32.ofInt p.1).toInt = p.1)) = true) : Op.lookupswitch.offset l d x.toInt = d := by
  refine lk_no l (fun p hp => ?_)
  have h := of_decide_eq_true (List.all_eq_true.mp hl p hp)
  exact ⟨fun e => h.1 (e ▸ hj), h.2⟩
theorem dec_noc {s : Nat → Int32} {n k j : Nat} (h : ¬ (k < n ∧ kd (s k) = j)) : (decide (k < n) && decide (kd (s k) = j)) = false := by
  by_cases w : k < n
  · have h2 : ¬ kd (s k) = j := fun z => h ⟨w, z⟩
    rw [decide_eq_false h2, Bool.and_false]
  · rw [decide_eq_false w, Bool.false_and]
theorem dec_no {s : Nat → Int32} {n k j : Nat} (h : kdB j (sgA s n k) = false) : (decide (k < n) && decide (kd (s k) = j)) = false := dec_noc (fun w => kdB_f h (by unfold sgA; rw [if_pos w.1]; exact w.2))
theorem EO_upd {s e : Nat → Int32} {n d k k1 : Nat} {b : Nat → Bool} (hok : OK s n d b k1 = true) (h : k < k1) (ho : EO s e d k1) (v : Int32) : EO s (upd e k v) d k1 := EO_same d b k1 hok (fun j hj _ => pk_un (by omega)) ho
theorem sg_2 {s e : Nat → Int32} {n d k c : Nat} {b : Nat → Bool} {M M' : Me} {a : Int32} {r : Option Value} (hk : k < n) (q : kd (s k) = 2) (h : RsP s n d b 2 (k + 1) c M a e r M') : SgP s n d b k c M a e r M' := by
  obtain ⟨a2, e2, rfl, h | h⟩ := h
  · obtain ⟨h1, h2, h3, h4, h5⟩ := h
    simp only [OKs, ENs, NMs, EOs, Bool.and_true, and_true, or0] at h1 h2 h3 h4 h5
    have h1' := h1
    rw [Bool.and_eq_true] at h1
    have hE := OK_ends s n d b _ h1.1
    refine ⟨a2, e2, rfl, Or.inl ?_⟩
    rw [OK_2 s n d b k q, EO_2 _ _ d k q, EN_2 s d k q, NM_2 s d k q]
    exact ⟨by simp [hk, h1.1, h1.2], h2, h3, ⟨pk_us, EO_upd h1.1 (by omega) h4.1 _, EO_upd h1.2 (by omega) h4.2 _⟩, fun j hj => h5 j (by omega)⟩
  · refine ⟨a2, e2, rfl, Or.inr ⟨?_, h.2⟩⟩
    have h1 := h.1
    simp only [OKs, Bool.and_true] at h1
    rw [OK_2 s n d b k q, h1, Bool.and_false]
theorem sg_1 {s e : Nat → Int32} {n d k c : Nat} {b : Nat → Bool} {M M' : Me} {a : Int32} {r : Option Value} (hk : k < n) (q : kd (s k) = 1) (h : RsP s n d b 1 (k + 1) c M a e r M') : SgP s n d b k c M a e r M' := by
  obtain ⟨a2, e2, rfl, h | h⟩ := h
  · obtain ⟨h1, h2, h3, h4, h5⟩ := h
    simp only [OKs, ENs, NMs, EOs, Bool.and_true, and_true, or0] at h1 h2 h3 h4 h5
    refine ⟨a2, e2, rfl, Or.inl ?_⟩
    rw [OK_1 s n d b k q, EO_1 _ _ d k q, EN_1 s d k q, NM_1 s d k q]
    exact ⟨by simp [hk, h1], h2, h3, ⟨pk_us, EO_upd h1 (by omega) h4 _⟩, fun j hj => h5 j (by omega)⟩
  · refine ⟨a2, e2, rfl, Or.inr ⟨?_, h.2⟩⟩
    have h1 := h.1
    simp only [OKs, Bool.and_true] at h1
    rw [OK_1 s n d b k q, h1, Bool.and_false]
theorem sg_3 {s e : Nat → Int32} {n d k c : Nat} {b : Nat → Bool} {M M' : Me} {a : Int32} {r : Option Value} (hk : k < n) (q : kd (s k) = 3) (h : RsP s n d b 3 (k + 1) c M a e r M') : SgP s n d b k c M a e r M' := by
  obtain ⟨a2, e2, rfl, h | h⟩ := h
  · obtain ⟨h1, h2, h3, h4, h5⟩ := h
    simp only [OKs, ENs, NMs, EOs, Bool.and_true, and_true, or0] at h1 h2 h3 h4 h5
    simp only [Bool.and_eq_true] at h1
    have hE := OK_ends s n d b _ h1.1
    have hE2 := OK_ends s n d b _ h1.2.1
    refine ⟨a2, e2, rfl, Or.inl ?_⟩
    rw [OK_3 s n d b k q, EO_3 _ _ d k q, EN_3 s d k q, NM_3 s d k q]
    exact ⟨by simp [hk, h1.1, h1.2.1, h1.2.2], h2, h3, ⟨pk_us, EO_upd h1.1 (by omega) h4.1 _, EO_upd h1.2.1 (by omega) h4.2.1 _, EO_upd h1.2.2 (by omega) h4.2.2 _⟩, fun j hj => h5 j (by omega)⟩
  · refine ⟨a2, e2, rfl, Or.inr ⟨?_, h.2⟩⟩
    have h1 := h.1
    simp only [OKs, Bool.and_true] at h1
    rw [OK_3 s n d b k q, h1, Bool.and_false]
theorem sg_4 {s e e1 e2 : Nat → Int32} {n d k c : Nat} {b : Nat → Bool} {M : Me} {a : Int32} (hk : k < n) (q : kd (s k) = 4) (h1 : k + 1 < n) (h9 : kd (s (k + 1)) = 9) (ok1 : OK s n d b (k + 2) = true) (eo1 : EO s e1 d (k + 2)) (f1 : ∀ j, j < k + 2 ∨ EN s d (k + 2) ≤ j → e1 j = e j)
    (ok2 : OK s n d (bSet b (lcI (s (k + 1)))) (EN s d (k + 2)) = true) (eo2 : EO s e2 d (EN s d (k + 2))) (f2 : ∀ j, j < EN s d (k + 2) ∨ EN s d (EN s d (k + 2)) ≤ j → e2 j = e1 j) : SgP s n d b k c M a e (some (.int (nI (EN s d (EN s d (k + 2)))))) (rdM M c ((a ||| NM s d (k + 2)) ||| NM s d (EN s d (k + 2))) e2) := by
  have hE := OK_ends s n d _ _ ok1
  have hE2 := OK_ends s n d _ _ ok2
  refine ⟨_, e2, rfl, Or.inl ?_⟩
  rw [OK_4 s n d b k q, EO_4 _ _ d k q, EN_4 s d k q, NM_4 s d k q, ora]
  refine ⟨by simp [hk, h1, h9, ok1, ok2], rfl, rfl, ⟨pk_us, EO_upd ok1 (by omega) (EO_same d b _ ok1 (fun j _ w => f2 j (Or.inl w)) eo1) _, EO_upd ok2 (by omega) eo2 _⟩, fun j hj => ?_⟩
  rcases hj with hj | hj
  · rw [f2 j (Or.inl (by omega)), f1 j (Or.inl (by omega))]
  · rw [f2 j (Or.inr hj), f1 j (Or.inr (by omega))]
theorem sg_5 {s e : Nat → Int32} {n d k c : Nat} {b : Nat → Bool} {M M' : Me} {a : Int32} {r : Option Value} (hk : k < n) (q : kd (s k) = 5) (h1 : k + 1 < n) (h8 : kd (s (k + 1)) = 8) (h : RdP s n d b (k + 2) c M (a ||| (1 <<< (nI (nmI (s (k + 1))) &&& 31))) e r M') : SgP s n d b k c M a e r M' := by
  obtain ⟨a2, e2, rfl, h | h⟩ := h
  · obtain ⟨h2, h3, h4, h5, h6⟩ := h
    have hE := OK_ends s n d _ _ h2
    refine ⟨a2, e2, rfl, Or.inl ?_⟩
    rw [OK_5 s n d b k q, EO_5 _ _ d k q, EN_5 s d k q, NM_5 s d k q]
    exact ⟨by simp [hk, h1, h8, h2], h3, by rw [h4, ora], ⟨pk_us, EO_upd h2 (by omega) h5 _⟩, fun j hj => h6 j (by omega)⟩
  · refine ⟨a2, e2, rfl, Or.inr ⟨?_, h.2⟩⟩
    rw [OK_5 s n d b k q, h.1, Bool.and_false, Bool.and_false]
theorem sg_6 {s e e1 e2 e3 : Nat → Int32} {n d k c : Nat} {b : Nat → Bool} {M : Me} {a : Int32} (hk : k < n) (q : kd (s k) = 6) (ok1 : OK s n d b (k + 1) = true) (eo1 : EO s e1 d (k + 1)) (f1 : ∀ j, j < k + 1 ∨ EN s d (k + 1) ≤ j → e1 j = e j) (d1 : EN s d (k + 1) < n) (g1 : kd (s (EN s d (k + 1))) = 7)
    (ok2 : OK s n d b (EN s d (k + 1) + 1) = true) (eo2 : EO s e2 d (EN s d (k + 1) + 1)) (f2 : ∀ j, j < EN s d (k + 1) + 1 ∨ EN s d (EN s d (k + 1) + 1) ≤ j → e2 j = e1 j) (d2 : EN s d (EN s d (k + 1) + 1) < n) (g2 : kd (s (EN s d (EN s d (k + 1) + 1))) = 7)
    (ok3 : OK s n d b (EN s d (EN s d (k + 1) + 1) + 1) = true) (eo3 : EO s e3 d (EN s d (EN s d (k + 1) + 1) + 1)) (f3 : ∀ j, j < EN s d (EN s d (k + 1) + 1) + 1 ∨ EN s d (EN s d (EN s d (k + 1) + 1) + 1) ≤ j → e3 j = e2 j) :
    SgP s n d b k c M a e (some (.int (nI (EN s d (EN s d (EN s d (k + 1) + 1) + 1))))) (rdM M c (((a ||| NM s d (k + 1)) ||| NM s d (EN s d (k + 1) + 1)) ||| NM s d (EN s d (EN s d (k + 1) + 1) + 1)) e3) := by
  have hE := OK_ends s n d _ _ ok1
  have hE2 := OK_ends s n d _ _ ok2
  have hE3 := OK_ends s n d _ _ ok3
  refine ⟨_, e3, rfl, Or.inl ?_⟩
  rw [OK_6 s n d b k q, EO_6 _ _ d k q, EN_6 s d k q, NM_6 s d k q, ora, ora]
  have eo2' : EO s e3 d (EN s d (k + 1) + 1) := EO_same d b _ ok2 (fun j _ w => f3 j (Or.inl (by omega))) eo2
  have eo1' : EO s e3 d (k + 1) := EO_same d b _ ok1 (fun j _ w => by rw [f3 j (Or.inl (by omega)), f2 j (Or.inl (by omega))]) eo1
  refine ⟨by simp [hk, ok1, d1, g1, ok2, d2, g2, ok3], rfl, rfl, ⟨pk_us, EO_upd ok1 (by omega) eo1' _, EO_upd ok2 (by omega) eo2' _, EO_upd ok3 (by omega) eo3 _⟩, fun j hj => ?_⟩
  rcases hj with hj | hj
  · rw [f3 j (Or.inl (by omega)), f2 j (Or.inl (by omega)), f1 j (Or.inl (by omega))]
  · rw [f3 j (Or.inr hj), f2 j (Or.inr (by omega)), f1 j (Or.inr (by omega))]
theorem sg_no {s e : Nat → Int32} {n d k c : Nat} {b : Nat → Bool} {M : Me} {a : Int32} (h : OK s n (d + 1) b k = false) (a1 : Int32) (e1 : Nat → Int32) : SgP s n d b k c M a e (some (.int (-1))) (rdM M c a1 e1) := ⟨a1, e1, rfl, Or.inr ⟨h, rfl⟩⟩
theorem m_Te_sign (l : Launch) (g : Gd) (hI : sI (sB g)) (M : Me) {c n k : Nat} {s e : Nat → Int32} {a : Int32} (hc : c < 10) (hk : k < 1000) (hT : TX M c s n a e) : CB l g y_Te_signAt c_Te_signAt 2 (some .char) 1 [.ref (ga g (17 + c)), .int (nI k)] M (fun r M' => r = some (.int (sgA s n k)) ∧ M = M') := by
  obtain ⟨rfl, hl, rfl, rfl, hch, hn24⟩ := hT
  exact m_Te_signAt l g hI M hc hn24 hk hl hch
set_option maxHeartbeats 4000000 in
theorem m_Te_readBinding (l : Launch) (g : Gd) (hI : sI (sB g)) (M : Me) {c n k d : Nat} {s e : Nat → Int32} {a bm : Int32} {b : Nat → Bool} (hc : c < 10) (hk : k < n) (hd : d ≤ 6) (hT : TX M c s n a e) (hbm : BM bm b) (hRD : RD l g d) (hq : kd (s k) = 4) : CB l g y_Te_readBinding c_Te_readBinding 6 (some .int) (3 * d + 6) [.ref (ga g (17 + c)), .int (nI k), .int (nI (6 - d)), .int bm] M (SgP s n d b k c M a e) := by
  have hn24 : n ≤ 24 := hT.2.2.2.2.2
  refine Ct.of hI (sB_N0 g) rfl (Nat.le_of_ble_eq_true rfl) (fun K h0 hC hR hkl hn => ?_)
  have hC : Cx (sB g) K gC_Te _ := hC
  show V K (wp (sB g)) M 0 [(0, .ref (ga g (17 + c))), (1, .int (nI k)), (2, .int (nI (6 - d))), (3, .int bm)] []
  subst hkl
  refine v_aload_n h0 d_Te_readBinding_0 0 rfl ?_
  refine v_iload_n h0 d_Te_readBinding_1 1 rfl ?_
  refine v_iconst h0 d_Te_readBinding_2 (v := nI 1) (by decide) ?_
  refine v_iadd h0 d_Te_readBinding_3 ?_
  refine v_int (nI (k + 1)) (nI_add k 1) ?_
  refine v_callV h0 hC (sB_N0 g) (17 + c) (show (17 + c) < 59 by omega) (eB_Te g (by omega) _) rfl (av := [.int (nI (k + 1))]) (rest := []) (m_Te_sign (kl K) g hI M hc (by have := hT.2.2.2.2.2; omega) hT) wd_197 wd_194 wd_195 wd_196 wd_3 hd_Te_signAt (by omega) (by decide) rfl rfl (Nat.le_of_ble_eq_true rfl) d_Te_readBinding_4 (fun r9 M9 hp9 => ?_)
  obtain ⟨rfl, rfl⟩ := hp9
  refine v_r1 ?_
  refine v_istore h0 d_Te_readBinding_7 (lv' := [(4, .int (sgA s n (k + 1))), (0, .ref (ga g (17 + c))), (1, .int (nI k)), (2, .int (nI (6 - d))), (3, .int bm)]) (lt_kn hn (by decide)) rfl ?_
  refine v_iload h0 d_Te_readBinding_9 0 rfl ?_
  refine v_callSN h0 hC (sB_N0 g) (av := [.int (sgA s n (k + 1))]) (rest := []) (m_B_isLocal (kl K) g hI M _) wd_200 wn_23 wd_199 wd_1 hd_B_isLocal (by omega) (by decide) rfl rfl (Nat.le_of_ble_eq_true rfl) d_Te_readBinding_11 (fun r9 M9 hp9 => ?_)
  obtain ⟨rfl, rfl⟩ := hp9
  refine v_r1 ?_
  refine b_if_ne h0 d_Te_readBinding_14 rfl (fun h14 => ?_) (fun h14 => ?_)
  · skip
    obtain ⟨h1n, hse⟩ := kd_sg (by decide) (kdB_t h14)
    have h9 := kdB_t h14
    rw [hse] at h9
    have hl6 := lc_of h9
    refine v_aload_n h0 d_Te_readBinding_19 1 rfl ?_
    refine v_iload_n h0 d_Te_readBinding_20 2 rfl ?_
    refine v_iconst h0 d_Te_readBinding_21 (v := nI 2) (by decide) ?_
    refine v_iadd h0 d_Te_readBinding_22 ?_
    refine v_int (nI (k + 2)) (nI_add k 2) ?_
    refine v_iload_n h0 d_Te_readBinding_23 3 rfl ?_
    refine v_iload_n h0 d_Te_readBinding_24 4 rfl ?_
    refine v_callV h0 hC (sB_N0 g) (17 + c) (show (17 + c) < 59 by omega) (eB_Te g (by omega) _) rfl (av := [.int (nI (k + 2)), .int (nI (6 - d)), .int bm]) (rest := []) (hRD M c n (k + 2) s e a bm b hc (by have := hT.2.2.2.2.2; omega) hT hbm) wd_208 wd_205 wd_207 ws_0 wd_3 hd_Te_readExpression (by omega) (by decide) rfl rfl (Nat.le_of_ble_eq_true rfl) d_Te_readBinding_25 (fun r9 M9 hp9 => ?_)
    obtain ⟨a1, e1, rfl, hq9⟩ := hp9
    rcases hq9 with ⟨q1, rfl, rfl, q4, q5⟩ | ⟨q1, rfl⟩
    · skip
      refine v_r1 ?_
      refine v_istore h0 d_Te_readBinding_28 (lv' := [(5, .int (nI (EN s d (k + 2)))), (4, .int (sgA s n (k + 1))), (0, .ref (ga g (17 + c))), (1, .int (nI k)), (2, .int (nI (6 - d))), (3, .int bm)]) (lt_kn hn (by decide)) rfl ?_
      refine v_aload_n h0 d_Te_readBinding_30 2 rfl ?_
      refine v_iload h0 d_Te_readBinding_31 0 rfl ?_
      refine v_iload_n h0 d_Te_readBinding_33 4 rfl ?_
      refine v_iload_n h0 d_Te_readBinding_34 5 rfl ?_
      refine v_iconst h0 d_Te_readBinding_35 (v := nI 1) (by decide) ?_
      refine v_iload h0 d_Te_readBinding_36 1 rfl ?_
      refine v_bipush h0 d_Te_readBinding_38 (v := nI 107) (by decide) ?_
      refine v_isub h0 d_Te_readBinding_40 ?_
      refine v_int (sgA s n (k + 1) - nI 107) (rfl) ?_
      refine v_int (s (k + 1) - nI 107) (by rw [hse]) ?_
      refine v_int (nI (lcI (s (k + 1)))) (hl6.2) ?_
      refine v_ishl h0 d_Te_readBinding_41 ?_
      refine v_ior h0 d_Te_readBinding_42 ?_
      refine v_callV h0 hC (sB_N0 g) (17 + c) (show (17 + c) < 59 by omega) (eB_Te g (by omega) _) rfl (av := [.int (nI (EN s d (k + 2))), .int (nI (6 - d)), .int (bm ||| ((nI 1) <<< ((nI (lcI (s (k + 1)))) &&& 31)))]) (rest := []) (hRD (rdM M c (a ||| NM s d (k + 2)) e1) c n (EN s d (k + 2)) s e1 _ _ _ hc (by have := OK_ends s n d b _ q1; have := hT.2.2.2.2.2; omega) (hT.rd _ _) (hbm.set hl6.1)) wd_208 wd_205 wd_207 ws_0 wd_3 hd_Te_readExpression (by omega) (by decide) rfl rfl (Nat.le_of_ble_eq_true rfl) d_Te_readBinding_43 (fun r9 M9 hp9 => ?_)
      obtain ⟨a2, e2, rfl, hq9⟩ := hp9
      rw [rdM_rdM]
      rcases hq9 with ⟨w1, rfl, rfl, w4, w5⟩ | ⟨w1, rfl⟩
      · skip
        refine v_r1 ?_
        exact v_iret h0 hC hR d_Te_readBinding_46 (sg_4 hk hq h1n h9 q1 q4 q5 w1 w4 w5)
      · skip
        refine v_r1 ?_
        exact v_iret h0 hC hR d_Te_readBinding_46 (sg_no (by rw [OK_4 s n d b k hq, w1]; simp) _ _)
    · skip
      refine v_r1 ?_
      refine v_istore h0 d_Te_readBinding_28 (lv' := [(5, .int (-1)), (4, .int (sgA s n (k + 1))), (0, .ref (ga g (17 + c))), (1, .int (nI k)), (2, .int (nI (6 - d))), (3, .int bm)]) (lt_kn hn (by decide)) rfl ?_
      refine v_aload_n h0 d_Te_readBinding_30 2 rfl ?_
      refine v_iload h0 d_Te_readBinding_31 0 rfl ?_
      refine v_iload_n h0 d_Te_readBinding_33 4 rfl ?_
      refine v_iload_n h0 d_Te_readBinding_34 5 rfl ?_
      refine v_iconst h0 d_Te_readBinding_35 (v := nI 1) (by decide) ?_
      refine v_iload h0 d_Te_readBinding_36 1 rfl ?_
      refine v_bipush h0 d_Te_readBinding_38 (v := nI 107) (by decide) ?_
      refine v_isub h0 d_Te_readBinding_40 ?_
      refine v_int (sgA s n (k + 1) - nI 107) (rfl) ?_
      refine v_int (s (k + 1) - nI 107) (by rw [hse]) ?_
      refine v_int (nI (lcI (s (k + 1)))) (hl6.2) ?_
      refine v_ishl h0 d_Te_readBinding_41 ?_
      refine v_ior h0 d_Te_readBinding_42 ?_
      refine v_callV h0 hC (sB_N0 g) (17 + c) (show (17 + c) < 59 by omega) (eB_Te g (by omega) _) rfl (av := [.int (-1), .int (nI (6 - d)), .int (bm ||| ((nI 1) <<< ((nI (lcI (s (k + 1)))) &&& 31)))]) (rest := []) (m_Te_readExpression_m (kl K) g hI (rdM M c a1 e1) hc _ _) wd_208 wd_205 wd_207 ws_0 wd_3 hd_Te_readExpression (by omega) (by decide) rfl rfl (Nat.le_of_ble_eq_true rfl) d_Te_readBinding_43 (fun r9 M9 hp9 => ?_)
      obtain ⟨rfl, rfl⟩ := hp9
      refine v_r1 ?_
      exact v_iret h0 hC hR d_Te_readBinding_46 (sg_no (by rw [OK_4 s n d b k hq, q1]; simp) _ _)
  · skip
    refine v_iconst h0 d_Te_readBinding_17 (v := -1) (by decide) ?_
    exact v_iret h0 hC hR d_Te_readBinding_18 (leaf_no hT (by rw [OK_4 s n d b k hq, dec_no h14]; simp))
set_option maxHeartbeats 4000000 in
theorem m_Te_readMatch (l : Launch) (g : Gd) (hI : sI (sB g)) (M : Me) {c n k d : Nat} {s e : Nat → Int32} {a bm : Int32} {b : Nat → Bool} (hc : c < 10) (hk : k < n) (hd : d ≤ 6) (hT : TX M c s n a e) (hbm : BM bm b) (hRD : RD l g d) (hq : kd (s k) = 6) : CB l g y_Te_readMatch c_Te_readMatch 6 (some .int) (3 * d + 6) [.ref (ga g (17 + c)), .int (nI k), .int (nI (6 - d)), .int bm] M (SgP s n d b k c M a e) := by
  have hn24 : n ≤ 24 := hT.2.2.2.2.2
  refine Ct.of hI (sB_N0 g) rfl (Nat.le_of_ble_eq_true rfl) (fun K h0 hC hR hkl hn => ?_)
  have hC : Cx (sB g) K gC_Te _ := hC
  show V K (wp (sB g)) M 0 [(0, .ref (ga g (17 + c))), (1, .int (nI k)), (2, .int (nI (6 - d))), (3, .int bm)] []
  subst hkl
  refine v_aload_n h0 d_Te_readMatch_0 0 rfl ?_
  refine v_iload_n h0 d_Te_readMatch_1 1 rfl ?_
  refine v_iconst h0 d_Te_readMatch_2 (v := nI 1) (by decide) ?_
  refine v_iadd h0 d_Te_readMatch_3 ?_
  refine v_int (nI (k + 1)) (nI_add k 1) ?_
  refine v_iload_n h0 d_Te_readMatch_4 2 rfl ?_
  refine v_iload_n h0 d_Te_readMatch_5 3 rfl ?_
  refine v_callV h0 hC (sB_N0 g) (17 + c) (show (17 + c) < 59 by omega) (eB_Te g (by omega) _) rfl (av := [.int (nI (k + 1)), .int (nI (6 - d)), .int bm]) (rest := []) (hRD M c n (k + 1) s e a bm b hc (by omega) hT hbm) wd_208 wd_205 wd_207 ws_0 wd_3 hd_Te_readExpression (by omega) (by decide) rfl rfl (Nat.le_of_ble_eq_true rfl) d_Te_readMatch_6 (fun r9 M9 hp9 => ?_)
  obtain ⟨a1, e1, rfl, hq9⟩ := hp9
  rcases hq9 with ⟨q1, rfl, rfl, q4, q5⟩ | ⟨q1, rfl⟩
  · skip
    refine v_r1 ?_
    refine v_istore h0 d_Te_readMatch_9 (lv' := [(4, .int (nI (EN s d (k + 1)))), (0, .ref (ga g (17 + c))), (1, .int (nI k)), (2, .int (nI (6 - d))), (3, .int bm)]) (lt_kn hn (by decide)) rfl ?_
    refine v_iconst h0 d_Te_readMatch_11 (v := nI 0) (by decide) ?_
    refine v_istore h0 d_Te_readMatch_12 (lv' := [(5, .int (nI 0)), (4, .int (nI (EN s d (k + 1)))), (0, .ref (ga g (17 + c))), (1, .int (nI k)), (2, .int (nI (6 - d))), (3, .int bm)]) (lt_kn hn (by decide)) rfl ?_
    refine v_iload h0 d_Te_readMatch_14 0 rfl ?_
    refine v_iconst h0 d_Te_readMatch_16 (v := nI 2) (by decide) ?_
    refine n_icmp_ge h0 (by omega) (by omega) d_Te_readMatch_17 rfl (fun h17 => absurd h17 (by omega)) (fun h17 => ?_)
    refine v_aload_n h0 d_Te_readMatch_20 2 rfl ?_
    refine v_iload h0 d_Te_readMatch_21 1 rfl ?_
    refine v_callV h0 hC (sB_N0 g) (17 + c) (show (17 + c) < 59 by omega) (eB_Te g (by omega) _) rfl (av := [.int (nI (EN s d (k + 1)))]) (rest := []) (m_Te_sign (kl K) g hI (rdM M c (a ||| NM s d (k + 1)) e1) hc (by have := OK_ends s n d b _ q1; omega) (hT.rd _ _)) wd_197 wd_194 wd_195 wd_196 wd_3 hd_Te_signAt (by omega) (by decide) rfl rfl (Nat.le_of_ble_eq_true rfl) d_Te_readMatch_23 (fun r9 M9 hp9 => ?_)
    obtain ⟨rfl, rfl⟩ := hp9
    refine v_r1 ?_
    refine v_callSN h0 hC (sB_N0 g) (av := [.int (sgA s n (EN s d (k + 1)))]) (rest := []) (m_B_isDigit (kl K) g hI _ _) wd_234 wn_25 wd_233 wd_1 hd_B_isDigit (by omega) (by decide) rfl rfl (Nat.le_of_ble_eq_true rfl) d_Te_readMatch_26 (fun r9 M9 hp9 => ?_)
    obtain ⟨rfl, rfl⟩ := hp9
    refine v_r1 ?_
    refine b_if_ne h0 d_Te_readMatch_29 rfl (fun h29 => ?_) (fun h29 => ?_)
    · skip
      obtain ⟨z1n, z1e⟩ := kd_sg (by decide) (kdB_t h29)
      have z17 : kd (s (EN s d (k + 1))) = 7 := by rw [← z1e]; exact kdB_t h29
      refine v_aload_n h0 d_Te_readMatch_34 2 rfl ?_
      refine v_iload h0 d_Te_readMatch_35 1 rfl ?_
      refine v_iconst h0 d_Te_readMatch_37 (v := nI 1) (by decide) ?_
      refine v_iadd h0 d_Te_readMatch_38 ?_
      refine v_int (nI (EN s d (k + 1) + 1)) (nI_add (EN s d (k + 1)) 1) ?_
      refine v_iload_n h0 d_Te_readMatch_39 4 rfl ?_
      refine v_iload_n h0 d_Te_readMatch_40 5 rfl ?_
      refine v_callV h0 hC (sB_N0 g) (17 + c) (show (17 + c) < 59 by omega) (eB_Te g (by omega) _) rfl (av := [.int (nI (EN s d (k + 1) + 1)), .int (nI (6 - d)), .int bm]) (rest := []) (hRD (rdM M c (a ||| NM s d (k + 1)) e1) c n (EN s d (k + 1) + 1) s e1 _ bm b hc (by omega) (hT.rd _ _) hbm) wd_208 wd_205 wd_207 ws_0 wd_3 hd_Te_readExpression (by omega) (by decide) rfl rfl (Nat.le_of_ble_eq_true rfl) d_Te_readMatch_41 (fun r9 M9 hp9 => ?_)
      obtain ⟨a2, e2, rfl, hq9⟩ := hp9
      rw [rdM_rdM]
      rcases hq9 with ⟨w1, rfl, rfl, w4, w5⟩ | ⟨w1, rfl⟩
      · skip
        refine v_r1 ?_
        refine v_istore h0 d_Te_readMatch_44 (lv' := [(4, .int (nI (EN s d (EN s d (k + 1) + 1)))), (5, .int (nI 0)), (0, .ref (ga g (17 + c))), (1, .int (nI k)), (2, .int (nI (6 - d))), (3, .int bm)]) (lt_kn hn (by decide)) rfl ?_
        refine v_iinc h0 d_Te_readMatch_46 (lv' := [(5, .int (nI (0 + 1))), (4, .int (nI (EN s d (EN s d (k + 1) + 1)))), (0, .ref (ga g (17 + c))), (1, .int (nI k)), (2, .int (nI (6 - d))), (3, .int bm)]) 1 rfl (inc1 0) (lt_kn hn (by decide)) rfl ?_
        refine v_goto h0 d_Te_readMatch_49 rfl ?_
        refine v_iload h0 d_Te_readMatch_14 0 rfl ?_
        refine v_iconst h0 d_Te_readMatch_16 (v := nI 2) (by decide) ?_
        refine n_icmp_ge h0 (by omega) (by omega) d_Te_readMatch_17 rfl (fun h17 => absurd h17 (by omega)) (fun h17 => ?_)
        refine v_aload_n h0 d_Te_readMatch_20 2 rfl ?_
        refine v_iload h0 d_Te_readMatch_21 1 rfl ?_
        refine v_callV h0 hC (sB_N0 g) (17 + c) (show (17 + c) < 59 by omega) (eB_Te g (by omega) _) rfl (av := [.int (nI (EN s d (EN s d (k + 1) + 1)))]) (rest := []) (m_Te_sign (kl K) g hI (rdM M c ((a ||| NM s d (k + 1)) ||| NM s d (EN s d (k + 1) + 1)) e2) hc (by have := OK_ends s n d b _ w1; omega) (hT.rd _ _)) wd_197 wd_194 wd_195 wd_196 wd_3 hd_Te_signAt (by omega) (by decide) rfl rfl (Nat.le_of_ble_eq_true rfl) d_Te_readMatch_23 (fun r9 M9 hp9 => ?_)
        obtain ⟨rfl, rfl⟩ := hp9
        refine v_r1 ?_
        refine v_callSN h0 hC (sB_N0 g) (av := [.int (sgA s n (EN s d (EN s d (k + 1) + 1)))]) (rest := []) (m_B_isDigit (kl K) g hI _ _) wd_234 wn_25 wd_233 wd_1 hd_B_isDigit (by omega) (by decide) rfl rfl (Nat.le_of_ble_eq_true rfl) d_Te_readMatch_26 (fun r9 M9 hp9 => ?_)
        obtain ⟨rfl, rfl⟩ := hp9
        refine v_r1 ?_
        refine b_if_ne h0 d_Te_readMatch_29 rfl (fun h29 => ?_) (fun h29 => ?_)
        · skip
          obtain ⟨z2n, z2e⟩ := kd_sg (by decide) (kdB_t h29)
          have z27 : kd (s (EN s d (EN s d (k + 1) + 1))) = 7 := by rw [← z2e]; exact kdB_t h29
          refine v_aload_n h0 d_Te_readMatch_34 2 rfl ?_
          refine v_iload h0 d_Te_readMatch_35 1 rfl ?_
          refine v_iconst h0 d_Te_readMatch_37 (v := nI 1) (by decide) ?_
          refine v_iadd h0 d_Te_readMatch_38 ?_
          refine v_int (nI (EN s d (EN s d (k + 1) + 1) + 1)) (nI_add (EN s d (EN s d (k + 1) + 1)) 1) ?_
          refine v_iload_n h0 d_Te_readMatch_39 4 rfl ?_
          refine v_iload_n h0 d_Te_readMatch_40 5 rfl ?_
          refine v_callV h0 hC (sB_N0 g) (17 + c) (show (17 + c) < 59 by omega) (eB_Te g (by omega) _) rfl (av := [.int (nI (EN s d (EN s d (k + 1) + 1) + 1)), .int (nI (6 - d)), .int bm]) (rest := []) (hRD (rdM M c ((a ||| NM s d (k + 1)) ||| NM s d (EN s d (k + 1) + 1)) e2) c n (EN s d (EN s d (k + 1) + 1) + 1) s e2 _ bm b hc (by omega) (hT.rd _ _) hbm) wd_208 wd_205 wd_207 ws_0 wd_3 hd_Te_readExpression (by omega) (by decide) rfl rfl (Nat.le_of_ble_eq_true rfl) d_Te_readMatch_41 (fun r9 M9 hp9 => ?_)
          obtain ⟨a3, e3, rfl, hq9⟩ := hp9
          rw [rdM_rdM]
          rcases hq9 with ⟨x1, rfl, rfl, x4, x5⟩ | ⟨x1, rfl⟩
          · skip
            refine v_r1 ?_
            refine v_istore h0 d_Te_readMatch_44 (lv' := [(4, .int (nI (EN s d (EN s d (EN s d (k + 1) + 1) + 1)))), (5, .int (nI (0 + 1))), (0, .ref (ga g (17 + c))), (1, .int (nI k)), (2, .int (nI (6 - d))), (3, .int bm)]) (lt_kn hn (by decide)) rfl ?_
            refine v_iinc h0 d_Te_readMatch_46 (lv' := [(5, .int (nI (0 + 1 + 1))), (4, .int (nI (EN s d (EN s d (EN s d (k + 1) + 1) + 1)))), (0, .ref (ga g (17 + c))), (1, .int (nI k)), (2, .int (nI (6 - d))), (3, .int bm)]) 1 rfl (inc1 (0 + 1)) (lt_kn hn (by decide)) rfl ?_
            refine v_goto h0 d_Te_readMatch_49 rfl ?_
            refine v_iload h0 d_Te_readMatch_14 0 rfl ?_
            refine v_iconst h0 d_Te_readMatch_16 (v := nI 2) (by decide) ?_
            refine n_icmp_ge h0 (by omega) (by omega) d_Te_readMatch_17 rfl (fun h17 => ?_) (fun h17 => absurd h17 (by omega))
            refine v_iload h0 d_Te_readMatch_52 1 rfl ?_
            exact v_iret h0 hC hR d_Te_readMatch_54 (sg_6 hk hq q1 q4 q5 z1n z17 w1 w4 w5 z2n z27 x1 x4 x5)
          · skip
            refine v_r1 ?_
            refine v_istore h0 d_Te_readMatch_44 (lv' := [(4, .int (-1)), (5, .int (nI (0 + 1))), (0, .ref (ga g (17 + c))), (1, .int (nI k)), (2, .int (nI (6 - d))), (3, .int bm)]) (lt_kn hn (by decide)) rfl ?_
            refine v_iinc h0 d_Te_readMatch_46 (lv' := [(5, .int (nI (0 + 1 + 1))), (4, .int (-1)), (0, .ref (ga g (17 + c))), (1, .int (nI k)), (2, .int (nI (6 - d))), (3, .int bm)]) 1 rfl (inc1 (0 + 1)) (lt_kn hn (by decide)) rfl ?_
            refine v_goto h0 d_Te_readMatch_49 rfl ?_
            refine v_iload h0 d_Te_readMatch_14 0 rfl ?_
            refine v_iconst h0 d_Te_readMatch_16 (v := nI 2) (by decide) ?_
            refine n_icmp_ge h0 (by omega) (by omega) d_Te_readMatch_17 rfl (fun h17 => ?_) (fun h17 => absurd h17 (by omega))
            refine v_iload h0 d_Te_readMatch_52 1 rfl ?_
            exact v_iret h0 hC hR d_Te_readMatch_54 (sg_no (by rw [OK_6 s n d b k hq, x1]; simp) _ _)
        · skip
          have z2x : (decide (EN s d (EN s d (k + 1) + 1) < n) && decide (kd (s (EN s d (EN s d (k + 1) + 1))) = 7)) = false := dec_no h29
          refine v_iconst h0 d_Te_readMatch_32 (v := -1) (by decide) ?_
          exact v_iret h0 hC hR d_Te_readMatch_33 (sg_no (by rw [OK_6 s n d b k hq, z2x]; simp) _ _)
      · skip
        refine v_r1 ?_
        refine v_istore h0 d_Te_readMatch_44 (lv' := [(4, .int (-1)), (5, .int (nI 0)), (0, .ref (ga g (17 + c))), (1, .int (nI k)), (2, .int (nI (6 - d))), (3, .int bm)]) (lt_kn hn (by decide)) rfl ?_
        refine v_iinc h0 d_Te_readMatch_46 (lv' := [(5, .int (nI (0 + 1))), (4, .int (-1)), (0, .ref (ga g (17 + c))), (1, .int (nI k)), (2, .int (nI (6 - d))), (3, .int bm)]) 1 rfl (inc1 0) (lt_kn hn (by decide)) rfl ?_
        refine v_goto h0 d_Te_readMatch_49 rfl ?_
        refine v_iload h0 d_Te_readMatch_14 0 rfl ?_
        refine v_iconst h0 d_Te_readMatch_16 (v := nI 2) (by decide) ?_
        refine n_icmp_ge h0 (by omega) (by omega) d_Te_readMatch_17 rfl (fun h17 => absurd h17 (by omega)) (fun h17 => ?_)
        refine v_aload_n h0 d_Te_readMatch_20 2 rfl ?_
        refine v_iload h0 d_Te_readMatch_21 1 rfl ?_
        refine v_callV h0 hC (sB_N0 g) (17 + c) (show (17 + c) < 59 by omega) (eB_Te g (by omega) _) rfl (av := [.int (-1)]) (rest := []) (m_Te_signAt_m (kl K) g hI _ hc) wd_197 wd_194 wd_195 wd_196 wd_3 hd_Te_signAt (by omega) (by decide) rfl rfl (Nat.le_of_ble_eq_true rfl) d_Te_readMatch_23 (fun r9 M9 hp9 => ?_)
        obtain ⟨rfl, rfl⟩ := hp9
        refine v_r1 ?_
        refine v_callSN h0 hC (sB_N0 g) (av := [.int 0]) (rest := []) (m_B_isDigit (kl K) g hI _ _) wd_234 wn_25 wd_233 wd_1 hd_B_isDigit (by omega) (by decide) rfl rfl (Nat.le_of_ble_eq_true rfl) d_Te_readMatch_26 (fun r9 M9 hp9 => ?_)
        obtain ⟨rfl, rfl⟩ := hp9
        refine v_r1 ?_
        refine b_if_ne h0 d_Te_readMatch_29 rfl (fun h29 => absurd h29 (by decide)) (fun h29 => ?_)
        refine v_iconst h0 d_Te_readMatch_32 (v := -1) (by decide) ?_
        exact v_iret h0 hC hR d_Te_readMatch_33 (sg_no (by rw [OK_6 s n d b k hq, w1]; simp) _ _)
    · skip
      have z1x : (decide (EN s d (k + 1) < n) && decide (kd (s (EN s d (k + 1))) = 7)) = false := dec_no h29
      refine v_iconst h0 d_Te_readMatch_32 (v := -1) (by decide) ?_
      exact v_iret h0 hC hR d_Te_readMatch_33 (sg_no (by rw [OK_6 s n d b k hq, z1x]; simp) _ _)
  · skip
    refine v_r1 ?_
    refine v_istore h0 d_Te_readMatch_9 (lv' := [(4, .int (-1)), (0, .ref (ga g (17 + c))), (1, .int (nI k)), (2, .int (nI (6 - d))), (3, .int bm)]) (lt_kn hn (by decide)) rfl ?_
    refine v_iconst h0 d_Te_readMatch_11 (v := nI 0) (by decide) ?_
    refine v_istore h0 d_Te_readMatch_12 (lv' := [(5, .int (nI 0)), (4, .int (-1)), (0, .ref (ga g (17 + c))), (1, .int (nI k)), (2, .int (nI (6 - d))), (3, .int bm)]) (lt_kn hn (by decide)) rfl ?_
    refine v_iload h0 d_Te_readMatch_14 0 rfl ?_
    refine v_iconst h0 d_Te_readMatch_16 (v := nI 2) (by decide) ?_
    refine n_icmp_ge h0 (by omega) (by omega) d_Te_readMatch_17 rfl (fun h17 => absurd h17 (by omega)) (fun h17 => ?_)
    refine v_aload_n h0 d_Te_readMatch_20 2 rfl ?_
    refine v_iload h0 d_Te_readMatch_21 1 rfl ?_
    refine v_callV h0 hC (sB_N0 g) (17 + c) (show (17 + c) < 59 by omega) (eB_Te g (by omega) _) rfl (av := [.int (-1)]) (rest := []) (m_Te_signAt_m (kl K) g hI _ hc) wd_197 wd_194 wd_195 wd_196 wd_3 hd_Te_signAt (by omega) (by decide) rfl rfl (Nat.le_of_ble_eq_true rfl) d_Te_readMatch_23 (fun r9 M9 hp9 => ?_)
    obtain ⟨rfl, rfl⟩ := hp9
    refine v_r1 ?_
    refine v_callSN h0 hC (sB_N0 g) (av := [.int 0]) (rest := []) (m_B_isDigit (kl K) g hI _ _) wd_234 wn_25 wd_233 wd_1 hd_B_isDigit (by omega) (by decide) rfl rfl (Nat.le_of_ble_eq_true rfl) d_Te_readMatch_26 (fun r9 M9 hp9 => ?_)
    obtain ⟨rfl, rfl⟩ := hp9
    refine v_r1 ?_
    refine b_if_ne h0 d_Te_readMatch_29 rfl (fun h29 => absurd h29 (by decide)) (fun h29 => ?_)
    refine v_iconst h0 d_Te_readMatch_32 (v := -1) (by decide) ?_
    exact v_iret h0 hC hR d_Te_readMatch_33 (sg_no (by rw [OK_6 s n d b k hq, q1]; simp) _ _)
theorem RdP_re {s e : Nat → Int32} {n d k c : Nat} {b : Nat → Bool} {M M' : Me} {a a0 : Int32} {e0 : Nat → Int32} {r : Option Value} (h : RdP s n d b k c (rdM M c a0 e0) a e r M') : RdP s n d b k c M a e r M' := by
  obtain ⟨a2, e2, rfl, h⟩ := h
  exact ⟨a2, e2, rdM_rdM _ _ _ _ _ _, h⟩
set_option maxHeartbeats 4000000 in
theorem m_Te_readSign (l : Launch) (g : Gd) (hI : sI (sB g)) (M : Me) {c n k d : Nat} {s e : Nat → Int32} {a bm : Int32} {b : Nat → Bool} (hc : c < 10) (hk : k < n) (hd : d ≤ 6) (hT : TX M c s n a e) (hbm : BM bm b) (hRD : RD l g d) : CB l g y_Te_readSign c_Te_readSign 4 (some .int) (3 * d + 7) [.ref (ga g (17 + c)), .int (nI k), .int (nI (6 - d)), .int bm] M (SgP s n d b k c M a e) := by
  have hn24 : n ≤ 24 := hT.2.2.2.2.2
  refine Ct.of hI (sB_N0 g) rfl (Nat.le_of_ble_eq_true rfl) (fun K h0 hC hR hkl hn => ?_)
  have hC : Cx (sB g) K gC_Te _ := hC
  show V K (wp (sB g)) M 0 [(0, .ref (ga g (17 + c))), (1, .int (nI k)), (2, .int (nI (6 - d))), (3, .int bm)] []
  subst hkl
  obtain ⟨hs, hl, ha, he, hch, hn24⟩ := id hT
  refine v_aload_n h0 d_Te_readSign_0 0 rfl ?_
  refine g_Te_signs h0 hC (by omega) wd_31 d_Te_readSign_1 ?_
  refine v_iload_n h0 d_Te_readSign_4 1 rfl ?_
  refine a_B_signs h0 hC (by omega) k (rfl) (by omega) d_Te_readSign_5 ?_
  refine v_int (s k) (by rw [hs]) ?_
  rcases kd_cases (s k) with q | q | q | q | q | q | q | q | q | q
  · skip
    rcases (kd_2 _).mp q with h | h | h | h | h | h | h
    · skip
      refine v_lookup h0 d_Te_readSign_6 (by decide) (off := 106) (by rw [h]; decide) rfl ?_
      refine v_aload_n h0 d_Te_readSign_112 0 rfl ?_
      refine v_iload_n h0 d_Te_readSign_113 1 rfl ?_
      refine v_iconst h0 d_Te_readSign_114 (v := nI 1) (by decide) ?_
      refine v_iadd h0 d_Te_readSign_115 ?_
      refine v_int (nI (k + 1)) (nI_add k 1) ?_
      refine v_iconst h0 d_Te_readSign_116 (v := nI 2) (by decide) ?_
      refine v_iload_n h0 d_Te_readSign_117 2 rfl ?_
      refine v_iload_n h0 d_Te_readSign_118 3 rfl ?_
      refine v_callV h0 hC (sB_N0 g) (17 + c) (show (17 + c) < 59 by omega) (eB_Te g (by omega) _) rfl (av := [.int (nI (k + 1)), .int (nI 2), .int (nI (6 - d)), .int bm]) (rest := []) (m_Te_readExpressions (kl K) g hI M hc (by omega) hd (by decide) hT hbm hRD) wd_216 wd_213 wd_215 ws_2 wd_3 hd_Te_readExpressions (by omega) (by decide) rfl rfl (Nat.le_of_ble_eq_true rfl) d_Te_readSign_119 (fun r9 M9 hp9 => ?_)
      obtain ⟨v, rfl⟩ : ∃ v, r9 = some (.int v) := by obtain ⟨_, _, _, h | h⟩ := hp9; exact ⟨_, h.2.1⟩; exact ⟨_, h.2⟩
      refine v_r1 ?_
      exact v_iret h0 hC hR d_Te_readSign_122 (sg_2 hk q hp9)
    · skip
      refine v_lookup h0 d_Te_readSign_6 (by decide) (off := 106) (by rw [h]; decide) rfl ?_
      refine v_aload_n h0 d_Te_readSign_112 0 rfl ?_
      refine v_iload_n h0 d_Te_readSign_113 1 rfl ?_
      refine v_iconst h0 d_Te_readSign_114 (v := nI 1) (by decide) ?_
      refine v_iadd h0 d_Te_readSign_115 ?_
      refine v_int (nI (k + 1)) (nI_add k 1) ?_
      refine v_iconst h0 d_Te_readSign_116 (v := nI 2) (by decide) ?_
      refine v_iload_n h0 d_Te_readSign_117 2 rfl ?_
      refine v_iload_n h0 d_Te_readSign_118 3 rfl ?_
      refine v_callV h0 hC (sB_N0 g) (17 + c) (show (17 + c) < 59 by omega) (eB_Te g (by omega) _) rfl (av := [.int (nI (k + 1)), .int (nI 2), .int (nI (6 - d)), .int bm]) (rest := []) (m_Te_readExpressions (kl K) g hI M hc (by omega) hd (by decide) hT hbm hRD) wd_216 wd_213 wd_215 ws_2 wd_3 hd_Te_readExpressions (by omega) (by decide) rfl rfl (Nat.le_of_ble_eq_true rfl) d_Te_readSign_119 (fun r9 M9 hp9 => ?_)
      obtain ⟨v, rfl⟩ : ∃ v, r9 = some (.int v) := by obtain ⟨_, _, _, h | h⟩ := hp9; exact ⟨_, h.2.1⟩; exact ⟨_, h.2⟩
      refine v_r1 ?_
      exact v_iret h0 hC hR d_Te_readSign_122 (sg_2 hk q hp9)
    · skip
      refine v_lookup h0 d_Te_readSign_6 (by decide) (off := 106) (by rw [h]; decide) rfl ?_
      refine v_aload_n h0 d_Te_readSign_112 0 rfl ?_
      refine v_iload_n h0 d_Te_readSign_113 1 rfl ?_
      refine v_iconst h0 d_Te_readSign_114 (v := nI 1) (by decide) ?_
      refine v_iadd h0 d_Te_readSign_115 ?_
      refine v_int (nI (k + 1)) (nI_add k 1) ?_
      refine v_iconst h0 d_Te_readSign_116 (v := nI 2) (by decide) ?_
      refine v_iload_n h0 d_Te_readSign_117 2 rfl ?_
      refine v_iload_n h0 d_Te_readSign_118 3 rfl ?_
      refine v_callV h0 hC (sB_N0 g) (17 + c) (show (17 + c) < 59 by omega) (eB_Te g (by omega) _) rfl (av := [.int (nI (k + 1)), .int (nI 2), .int (nI (6 - d)), .int bm]) (rest := []) (m_Te_readExpressions (kl K) g hI M hc (by omega) hd (by decide) hT hbm hRD) wd_216 wd_213 wd_215 ws_2 wd_3 hd_Te_readExpressions (by omega) (by decide) rfl rfl (Nat.le_of_ble_eq_true rfl) d_Te_readSign_119 (fun r9 M9 hp9 => ?_)
      obtain ⟨v, rfl⟩ : ∃ v, r9 = some (.int v) := by obtain ⟨_, _, _, h | h⟩ := hp9; exact ⟨_, h.2.1⟩; exact ⟨_, h.2⟩
      refine v_r1 ?_
      exact v_iret h0 hC hR d_Te_readSign_122 (sg_2 hk q hp9)
    · skip
      refine v_lookup h0 d_Te_readSign_6 (by decide) (off := 106) (by rw [h]; decide) rfl ?_
      refine v_aload_n h0 d_Te_readSign_112 0 rfl ?_
      refine v_iload_n h0 d_Te_readSign_113 1 rfl ?_
      refine v_iconst h0 d_Te_readSign_114 (v := nI 1) (by decide) ?_
      refine v_iadd h0 d_Te_readSign_115 ?_
      refine v_int (nI (k + 1)) (nI_add k 1) ?_
      refine v_iconst h0 d_Te_readSign_116 (v := nI 2) (by decide) ?_
      refine v_iload_n h0 d_Te_readSign_117 2 rfl ?_
      refine v_iload_n h0 d_Te_readSign_118 3 rfl ?_
      refine v_callV h0 hC (sB_N0 g) (17 + c) (show (17 + c) < 59 by omega) (eB_Te g (by omega) _) rfl (av := [.int (nI (k + 1)), .int (nI 2), .int (nI (6 - d)), .int bm]) (rest := []) (m_Te_readExpressions (kl K) g hI M hc (by omega) hd (by decide) hT hbm hRD) wd_216 wd_213 wd_215 ws_2 wd_3 hd_Te_readExpressions (by omega) (by decide) rfl rfl (Nat.le_of_ble_eq_true rfl) d_Te_readSign_119 (fun r9 M9 hp9 => ?_)
      obtain ⟨v, rfl⟩ : ∃ v, r9 = some (.int v) := by obtain ⟨_, _, _, h | h⟩ := hp9; exact ⟨_, h.2.1⟩; exact ⟨_, h.2⟩
      refine v_r1 ?_
      exact v_iret h0 hC hR d_Te_readSign_122 (sg_2 hk q hp9)
    · skip
      refine v_lookup h0 d_Te_readSign_6 (by decide) (off := 106) (by rw [h]; decide) rfl ?_
      refine v_aload_n h0 d_Te_readSign_112 0 rfl ?_
      refine v_iload_n h0 d_Te_readSign_113 1 rfl ?_
      refine v_iconst h0 d_Te_readSign_114 (v := nI 1) (by decide) ?_
      refine v_iadd h0 d_Te_readSign_115 ?_
      refine v_int (nI (k + 1)) (nI_add k 1) ?_
      refine v_iconst h0 d_Te_readSign_116 (v := nI 2) (by decide) ?_
      refine v_iload_n h0 d_Te_readSign_117 2 rfl ?_
      refine v_iload_n h0 d_Te_readSign_118 3 rfl ?_
      refine v_callV h0 hC (sB_N0 g) (17 + c) (show (17 + c) < 59 by omega) (eB_Te g (by omega) _) rfl (av := [.int (nI (k + 1)), .int (nI 2), .int (nI (6 - d)), .int bm]) (rest := []) (m_Te_readExpressions (kl K) g hI M hc (by omega) hd (by decide) hT hbm hRD) wd_216 wd_213 wd_215 ws_2 wd_3 hd_Te_readExpressions (by omega) (by decide) rfl rfl (Nat.le_of_ble_eq_true rfl) d_Te_readSign_119 (fun r9 M9 hp9 => ?_)
      obtain ⟨v, rfl⟩ : ∃ v, r9 = some (.int v) := by obtain ⟨_, _, _, h | h⟩ := hp9; exact ⟨_, h.2.1⟩; exact ⟨_, h.2⟩
      refine v_r1 ?_
      exact v_iret h0 hC hR d_Te_readSign_122 (sg_2 hk q hp9)
    · skip
      refine v_lookup h0 d_Te_readSign_6 (by decide) (off := 106) (by rw [h]; decide) rfl ?_
      refine v_aload_n h0 d_Te_readSign_112 0 rfl ?_
      refine v_iload_n h0 d_Te_readSign_113 1 rfl ?_
      refine v_iconst h0 d_Te_readSign_114 (v := nI 1) (by decide) ?_
      refine v_iadd h0 d_Te_readSign_115 ?_
      refine v_int (nI (k + 1)) (nI_add k 1) ?_
      refine v_iconst h0 d_Te_readSign_116 (v := nI 2) (by decide) ?_
      refine v_iload_n h0 d_Te_readSign_117 2 rfl ?_
      refine v_iload_n h0 d_Te_readSign_118 3 rfl ?_
      refine v_callV h0 hC (sB_N0 g) (17 + c) (show (17 + c) < 59 by omega) (eB_Te g (by omega) _) rfl (av := [.int (nI (k + 1)), .int (nI 2), .int (nI (6 - d)), .int bm]) (rest := []) (m_Te_readExpressions (kl K) g hI M hc (by omega) hd (by decide) hT hbm hRD) wd_216 wd_213 wd_215 ws_2 wd_3 hd_Te_readExpressions (by omega) (by decide) rfl rfl (Nat.le_of_ble_eq_true rfl) d_Te_readSign_119 (fun r9 M9 hp9 => ?_)
      obtain ⟨v, rfl⟩ : ∃ v, r9 = some (.int v) := by obtain ⟨_, _, _, h | h⟩ := hp9; exact ⟨_, h.2.1⟩; exact ⟨_, h.2⟩
      refine v_r1 ?_
      exact v_iret h0 hC hR d_Te_readSign_122 (sg_2 hk q hp9)
    · skip
      refine v_lookup h0 d_Te_readSign_6 (by decide) (off := 106) (by rw [h]; decide) rfl ?_
      refine v_aload_n h0 d_Te_readSign_112 0 rfl ?_
      refine v_iload_n h0 d_Te_readSign_113 1 rfl ?_
      refine v_iconst h0 d_Te_readSign_114 (v := nI 1) (by decide) ?_
      refine v_iadd h0 d_Te_readSign_115 ?_
      refine v_int (nI (k + 1)) (nI_add k 1) ?_
      refine v_iconst h0 d_Te_readSign_116 (v := nI 2) (by decide) ?_
      refine v_iload_n h0 d_Te_readSign_117 2 rfl ?_
      refine v_iload_n h0 d_Te_readSign_118 3 rfl ?_
      refine v_callV h0 hC (sB_N0 g) (17 + c) (show (17 + c) < 59 by omega) (eB_Te g (by omega) _) rfl (av := [.int (nI (k + 1)), .int (nI 2), .int (nI (6 - d)), .int bm]) (rest := []) (m_Te_readExpressions (kl K) g hI M hc (by omega) hd (by decide) hT hbm hRD) wd_216 wd_213 wd_215 ws_2 wd_3 hd_Te_readExpressions (by omega) (by decide) rfl rfl (Nat.le_of_ble_eq_true rfl) d_Te_readSign_119 (fun r9 M9 hp9 => ?_)
      obtain ⟨v, rfl⟩ : ∃ v, r9 = some (.int v) := by obtain ⟨_, _, _, h | h⟩ := hp9; exact ⟨_, h.2.1⟩; exact ⟨_, h.2⟩
      refine v_r1 ?_
      exact v_iret h0 hC hR d_Te_readSign_122 (sg_2 hk q hp9)
  · skip
    refine v_lookup h0 d_Te_readSign_6 (by decide) (off := 117) (by rw [(kd_1 _).mp q]; decide) rfl ?_
    refine v_aload_n h0 d_Te_readSign_123 0 rfl ?_
    refine v_iload_n h0 d_Te_readSign_124 1 rfl ?_
    refine v_iconst h0 d_Te_readSign_125 (v := nI 1) (by decide) ?_
    refine v_iadd h0 d_Te_readSign_126 ?_
    refine v_int (nI (k + 1)) (nI_add k 1) ?_
    refine v_iconst h0 d_Te_readSign_127 (v := nI 1) (by decide) ?_
    refine v_iload_n h0 d_Te_readSign_128 2 rfl ?_
    refine v_iload_n h0 d_Te_readSign_129 3 rfl ?_
    refine v_callV h0 hC (sB_N0 g) (17 + c) (show (17 + c) < 59 by omega) (eB_Te g (by omega) _) rfl (av := [.int (nI (k + 1)), .int (nI 1), .int (nI (6 - d)), .int bm]) (rest := []) (m_Te_readExpressions (kl K) g hI M hc (by omega) hd (by decide) hT hbm hRD) wd_216 wd_213 wd_215 ws_2 wd_3 hd_Te_readExpressions (by omega) (by decide) rfl rfl (Nat.le_of_ble_eq_true rfl) d_Te_readSign_130 (fun r9 M9 hp9 => ?_)
    obtain ⟨v, rfl⟩ : ∃ v, r9 = some (.int v) := by obtain ⟨_, _, _, h | h⟩ := hp9; exact ⟨_, h.2.1⟩; exact ⟨_, h.2⟩
    refine v_r1 ?_
    exact v_iret h0 hC hR d_Te_readSign_133 (sg_1 hk q hp9)
  · skip
    refine v_lookup h0 d_Te_readSign_6 (by decide) (off := 128) (by rw [(kd_3 _).mp q]; decide) rfl ?_
    refine v_aload_n h0 d_Te_readSign_134 0 rfl ?_
    refine v_iload_n h0 d_Te_readSign_135 1 rfl ?_
    refine v_iconst h0 d_Te_readSign_136 (v := nI 1) (by decide) ?_
    refine v_iadd h0 d_Te_readSign_137 ?_
    refine v_int (nI (k + 1)) (nI_add k 1) ?_
    refine v_iconst h0 d_Te_readSign_138 (v := nI 3) (by decide) ?_
    refine v_iload_n h0 d_Te_readSign_139 2 rfl ?_
    refine v_iload_n h0 d_Te_readSign_140 3 rfl ?_
    refine v_callV h0 hC (sB_N0 g) (17 + c) (show (17 + c) < 59 by omega) (eB_Te g (by omega) _) rfl (av := [.int (nI (k + 1)), .int (nI 3), .int (nI (6 - d)), .int bm]) (rest := []) (m_Te_readExpressions (kl K) g hI M hc (by omega) hd (by decide) hT hbm hRD) wd_216 wd_213 wd_215 ws_2 wd_3 hd_Te_readExpressions (by omega) (by decide) rfl rfl (Nat.le_of_ble_eq_true rfl) d_Te_readSign_141 (fun r9 M9 hp9 => ?_)
    obtain ⟨v, rfl⟩ : ∃ v, r9 = some (.int v) := by obtain ⟨_, _, _, h | h⟩ := hp9; exact ⟨_, h.2.1⟩; exact ⟨_, h.2⟩
    refine v_r1 ?_
    exact v_iret h0 hC hR d_Te_readSign_144 (sg_3 hk q hp9)
  · skip
    refine v_lookup h0 d_Te_readSign_6 (by decide) (off := 139) (by rw [(kd_4 _).mp q]; decide) rfl ?_
    refine v_aload_n h0 d_Te_readSign_145 0 rfl ?_
    refine v_iload_n h0 d_Te_readSign_146 1 rfl ?_
    refine v_iload_n h0 d_Te_readSign_147 2 rfl ?_
    refine v_iload_n h0 d_Te_readSign_148 3 rfl ?_
    refine v_callV h0 hC (sB_N0 g) (17 + c) (show (17 + c) < 59 by omega) (eB_Te g (by omega) _) rfl (av := [.int (nI k), .int (nI (6 - d)), .int bm]) (rest := []) (m_Te_readBinding (kl K) g hI M hc hk hd hT hbm hRD q) wd_220 wd_217 wd_219 ws_3 wd_3 hd_Te_readBinding (by omega) (by decide) rfl rfl (Nat.le_of_ble_eq_true rfl) d_Te_readSign_149 (fun r9 M9 hp9 => ?_)
    obtain ⟨v, rfl⟩ : ∃ v, r9 = some (.int v) := by obtain ⟨_, _, _, h | h⟩ := hp9; exact ⟨_, h.2.1⟩; exact ⟨_, h.2⟩
    refine v_r1 ?_
    exact v_iret h0 hC hR d_Te_readSign_152 (hp9)
  · skip
    refine v_lookup h0 d_Te_readSign_6 (by decide) (off := 147) (by rw [(kd_5 _).mp q]; decide) rfl ?_
    refine v_aload_n h0 d_Te_readSign_153 0 rfl ?_
    refine v_iload_n h0 d_Te_readSign_154 1 rfl ?_
    refine v_iconst h0 d_Te_readSign_155 (v := nI 1) (by decide) ?_
    refine v_iadd h0 d_Te_readSign_156 ?_
    refine v_int (nI (k + 1)) (nI_add k 1) ?_
    refine v_callV h0 hC (sB_N0 g) (17 + c) (show (17 + c) < 59 by omega) (eB_Te g (by omega) _) rfl (av := [.int (nI (k + 1))]) (rest := []) (m_Te_readName (kl K) g hI M hc (by omega) hT) wd_224 wd_221 wd_223 ws_4 wd_3 hd_Te_readName (by omega) (by decide) rfl rfl (Nat.le_of_ble_eq_true rfl) d_Te_readSign_157 (fun r9 M9 hp9 => ?_)
    rcases hp9 with ⟨q1, q2, rfl, rfl⟩ | ⟨q1, rfl, rfl⟩
    · skip
      refine v_r1 ?_
      refine v_iconst h0 d_Te_readSign_160 (v := -1) (by decide) ?_
      refine v_icmp_ne h0 d_Te_readSign_161 rfl (fun h161 => ?_) (fun h161 => absurd h161 (nI_m1 (by omega)))
      refine v_aload_n h0 d_Te_readSign_168 0 rfl ?_
      refine v_iload_n h0 d_Te_readSign_169 1 rfl ?_
      refine v_iconst h0 d_Te_readSign_170 (v := nI 2) (by decide) ?_
      refine v_iadd h0 d_Te_readSign_171 ?_
      refine v_int (nI (k + 2)) (nI_add k 2) ?_
      refine v_iload_n h0 d_Te_readSign_172 2 rfl ?_
      refine v_iload_n h0 d_Te_readSign_173 3 rfl ?_
      refine v_callV h0 hC (sB_N0 g) (17 + c) (show (17 + c) < 59 by omega) (eB_Te g (by omega) _) rfl (av := [.int (nI (k + 2)), .int (nI (6 - d)), .int bm]) (rest := []) (hRD (rdM M c (a ||| (1 <<< (nI (nmI (s (k + 1))) &&& 31))) e) c n (k + 2) s e _ bm b hc (by omega) (hT.rd _ _) hbm) wd_208 wd_205 wd_207 ws_0 wd_3 hd_Te_readExpression (by omega) (by decide) rfl rfl (Nat.le_of_ble_eq_true rfl) d_Te_readSign_174 (fun r9 M9 hp9 => ?_)
      obtain ⟨v, rfl⟩ : ∃ v, r9 = some (.int v) := by obtain ⟨_, _, _, h | h⟩ := hp9; exact ⟨_, h.2.1⟩; exact ⟨_, h.2⟩
      refine v_r1 ?_
      exact v_iret h0 hC hR d_Te_readSign_177 (sg_5 hk q q1 q2 (RdP_re hp9))
    · skip
      refine v_r1 ?_
      refine v_iconst h0 d_Te_readSign_160 (v := -1) (by decide) ?_
      refine v_icmp_ne h0 d_Te_readSign_161 rfl (fun h161 => absurd h161 (fun z => z rfl)) (fun h161 => ?_)
      refine v_iconst h0 d_Te_readSign_164 (v := -1) (by decide) ?_
      refine v_goto h0 d_Te_readSign_165 rfl ?_
      exact v_iret h0 hC hR d_Te_readSign_177 (leaf_no hT (by rw [OK_5 s n d b k q, dec_noc q1]; simp))
  · skip
    refine v_lookup h0 d_Te_readSign_6 (by decide) (off := 172) (by rw [(kd_6 _).mp q]; decide) rfl ?_
    refine v_aload_n h0 d_Te_readSign_178 0 rfl ?_
    refine v_iload_n h0 d_Te_readSign_179 1 rfl ?_
    refine v_iload_n h0 d_Te_readSign_180 2 rfl ?_
    refine v_iload_n h0 d_Te_readSign_181 3 rfl ?_
    refine v_callV h0 hC (sB_N0 g) (17 + c) (show (17 + c) < 59 by omega) (eB_Te g (by omega) _) rfl (av := [.int (nI k), .int (nI (6 - d)), .int bm]) (rest := []) (m_Te_readMatch (kl K) g hI M hc hk hd hT hbm hRD q) wd_231 wd_228 wd_230 ws_5 wd_3 hd_Te_readMatch (by omega) (by decide) rfl rfl (Nat.le_of_ble_eq_true rfl) d_Te_readSign_182 (fun r9 M9 hp9 => ?_)
    obtain ⟨v, rfl⟩ : ∃ v, r9 = some (.int v) := by obtain ⟨_, _, _, h | h⟩ := hp9; exact ⟨_, h.2.1⟩; exact ⟨_, h.2⟩
    refine v_r1 ?_
    exact v_iret h0 hC hR d_Te_readSign_185 (hp9)
  · skip
    refine v_lookup h0 d_Te_readSign_6 (by decide) (lk_leaf (by omega) _ (by decide)) rfl ?_
    refine v_aload_n h0 d_Te_readSign_186 0 rfl ?_
    refine v_iload_n h0 d_Te_readSign_187 1 rfl ?_
    refine v_iload_n h0 d_Te_readSign_188 3 rfl ?_
    refine v_callV h0 hC (sB_N0 g) (17 + c) (show (17 + c) < 59 by omega) (eB_Te g (by omega) _) rfl (av := [.int (nI k), .int bm]) (rest := []) (m_Te_readLeaf (kl K) g hI M hc hk hT hbm (by omega) (d := d)) wd_238 wd_235 wd_237 ws_6 wd_3 hd_Te_readLeaf (by omega) (by decide) rfl rfl (Nat.le_of_ble_eq_true rfl) d_Te_readSign_189 (fun r9 M9 hp9 => ?_)
    obtain ⟨v, rfl⟩ : ∃ v, r9 = some (.int v) := by obtain ⟨_, _, _, h | h⟩ := hp9; exact ⟨_, h.2.1⟩; exact ⟨_, h.2⟩
    refine v_r1 ?_
    exact v_iret h0 hC hR d_Te_readSign_192 (hp9)
  · skip
    refine v_lookup h0 d_Te_readSign_6 (by decide) (lk_leaf (by omega) _ (by decide)) rfl ?_
    refine v_aload_n h0 d_Te_readSign_186 0 rfl ?_
    refine v_iload_n h0 d_Te_readSign_187 1 rfl ?_
    refine v_iload_n h0 d_Te_readSign_188 3 rfl ?_
    refine v_callV h0 hC (sB_N0 g) (17 + c) (show (17 + c) < 59 by omega) (eB_Te g (by omega) _) rfl (av := [.int (nI k), .int bm]) (rest := []) (m_Te_readLeaf (kl K) g hI M hc hk hT hbm (by omega) (d := d)) wd_238 wd_235 wd_237 ws_6 wd_3 hd_Te_readLeaf (by omega) (by decide) rfl rfl (Nat.le_of_ble_eq_true rfl) d_Te_readSign_189 (fun r9 M9 hp9 => ?_)
    obtain ⟨v, rfl⟩ : ∃ v, r9 = some (.int v) := by obtain ⟨_, _, _, h | h⟩ := hp9; exact ⟨_, h.2.1⟩; exact ⟨_, h.2⟩
    refine v_r1 ?_
    exact v_iret h0 hC hR d_Te_readSign_192 (hp9)
  · skip
    refine v_lookup h0 d_Te_readSign_6 (by decide) (lk_leaf (by omega) _ (by decide)) rfl ?_
    refine v_aload_n h0 d_Te_readSign_186 0 rfl ?_
    refine v_iload_n h0 d_Te_readSign_187 1 rfl ?_
    refine v_iload_n h0 d_Te_readSign_188 3 rfl ?_
    refine v_callV h0 hC (sB_N0 g) (17 + c) (show (17 + c) < 59 by omega) (eB_Te g (by omega) _) rfl (av := [.int (nI k), .int bm]) (rest := []) (m_Te_readLeaf (kl K) g hI M hc hk hT hbm (by omega) (d := d)) wd_238 wd_235 wd_237 ws_6 wd_3 hd_Te_readLeaf (by omega) (by decide) rfl rfl (Nat.le_of_ble_eq_true rfl) d_Te_readSign_189 (fun r9 M9 hp9 => ?_)
    obtain ⟨v, rfl⟩ : ∃ v, r9 = some (.int v) := by obtain ⟨_, _, _, h | h⟩ := hp9; exact ⟨_, h.2.1⟩; exact ⟨_, h.2⟩
    refine v_r1 ?_
    exact v_iret h0 hC hR d_Te_readSign_192 (hp9)
  · skip
    refine v_lookup h0 d_Te_readSign_6 (by decide) (lk_leaf (by omega) _ (by decide)) rfl ?_
    refine v_aload_n h0 d_Te_readSign_186 0 rfl ?_
    refine v_iload_n h0 d_Te_readSign_187 1 rfl ?_
    refine v_iload_n h0 d_Te_readSign_188 3 rfl ?_
    refine v_callV h0 hC (sB_N0 g) (17 + c) (show (17 + c) < 59 by omega) (eB_Te g (by omega) _) rfl (av := [.int (nI k), .int bm]) (rest := []) (m_Te_readLeaf (kl K) g hI M hc hk hT hbm (by omega) (d := d)) wd_238 wd_235 wd_237 ws_6 wd_3 hd_Te_readLeaf (by omega) (by decide) rfl rfl (Nat.le_of_ble_eq_true rfl) d_Te_readSign_189 (fun r9 M9 hp9 => ?_)
    obtain ⟨v, rfl⟩ : ∃ v, r9 = some (.int v) := by obtain ⟨_, _, _, h | h⟩ := hp9; exact ⟨_, h.2.1⟩; exact ⟨_, h.2⟩
    refine v_r1 ?_
    exact v_iret h0 hC hR d_Te_readSign_192 (hp9)
