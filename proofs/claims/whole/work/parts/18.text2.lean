/-! READING EXPRESSIONS (the book), by the levels that are left -/
def RD (l : Launch) (g : Gd) (d : Nat) : Prop := ∀ (M : Me) (c n k : Nat) (s e : Nat → Int32) (a bm : Int32) (b : Nat → Bool), c < 10 → k < 40 → TX M c s n a e → BM bm b →
  CB l g y_Te_readExpression c_Te_readExpression 5 (some .int) (3 * d + 5) [.ref (ga g (17 + c)), .int (nI k), .int (nI (6 - d)), .int bm] M (RdP s n d b k c M a e)
theorem RsP_cons {s e e1 : Nat → Int32} {n d t k c : Nat} {b : Nat → Bool} {M M' : Me} {a : Int32} {r : Option Value} (hok : OK s n d b k = true) (ho : EO s e1 d k) (hf : ∀ j, j < k ∨ EN s d k ≤ j → e1 j = e j) (h : RsP s n d b t (EN s d k) c M (a ||| NM s d k) e1 r M') : RsP s n d b (t + 1) k c M a e r M' := by
  obtain ⟨a2, e2, rfl, h | h⟩ := h
  · obtain ⟨h1, h2, h3, h4, h5⟩ := h
    have hE := OK_ends s n d b k hok
    have hG := (ENs_ge t _ h1).1
    refine ⟨a2, e2, rfl, Or.inl ⟨by simp only [OKs, hok, h1, Bool.and_true], h2, by rw [h3, NMs, ora], ⟨EO_same d b k hok (fun j _ q => h5 j (Or.inl q)) ho, h4⟩, fun j hj => ?_⟩⟩
    simp only [ENs] at hj
    rcases hj with hj | hj
    · rw [h5 j (Or.inl (by omega)), hf j (Or.inl hj)]
    · rw [h5 j (Or.inr hj), hf j (Or.inr (by omega))]
  · exact ⟨a2, e2, rfl, Or.inr ⟨by simp only [OKs, h.1, Bool.and_false], h.2⟩⟩
theorem RsP_bad {s e : Nat → Int32} {n d t k c : Nat} {b : Nat → Bool} {M : Me} {a : Int32} (hok : OK s n d b k = false) (a1 : Int32) (e1 : Nat → Int32) : RsP s n d b (t + 1) k c M a e (some (.int (-1))) (rdM M c a1 e1) := ⟨a1, e1, rfl, Or.inr ⟨by simp only [OKs, hok, Bool.false_and], rfl⟩⟩
theorem sub_lev {d : Nat} (h : d + 1 ≤ 6) : nI (6 - (d + 1) + 1) = nI (6 - d) := congrArg nI (by omega)
set_option maxHeartbeats 4000000 in
theorem m_Te_readExpression_m (l : Launch) (g : Gd) (hI : sI (sB g)) (M : Me) {c : Nat} (hc : c < 10) (x y : Int32) : CB l g y_Te_readExpression c_Te_readExpression 5 (some .int) 1 [.ref (ga g (17 + c)), .int (-1), .int x, .int y] M (fun r M' => r = some (.int (-1)) ∧ M = M') := by
  refine Ct.of hI (sB_N0 g) rfl (Nat.le_of_ble_eq_true rfl) (fun K h0 hC hR hkl hn => ?_)
  have hC : Cx (sB g) K gC_Te _ := hC
  show V K (wp (sB g)) M 0 [(0, .ref (ga g (17 + c))), (1, .int (-1)), (2, .int x), (3, .int y)] []
  refine v_iload_n h0 d_Te_readExpression_0 1 rfl ?_
  refine v_if_lt h0 d_Te_readExpression_1 rfl (fun h1 => ?_) (fun h1 => absurd h1 (by decide))
  refine v_iconst h0 d_Te_readExpression_17 (v := -1) (by decide) ?_
  exact v_iret h0 hC hR d_Te_readExpression_18 (⟨rfl, rfl⟩)
set_option maxHeartbeats 4000000 in
theorem m_Te_readExpressions (l : Launch) (g : Gd) (hI : sI (sB g)) (M : Me) {c n k d m : Nat} {s e : Nat → Int32} {a bm : Int32} {b : Nat → Bool} (hc : c < 10) (hk : k < 40) (hd : d ≤ 6) (hm : m ≤ 3) (hT : TX M c s n a e) (hbm : BM bm b) (hRD : RD l g d) : CB l g y_Te_readExpressions c_Te_readExpressions 7 (some .int) (3 * d + 6) [.ref (ga g (17 + c)), .int (nI k), .int (nI m), .int (nI (6 - d)), .int bm] M (RsP s n d b m k c M a e) := by
  refine Ct.of hI (sB_N0 g) rfl (Nat.le_of_ble_eq_true rfl) (fun K h0 hC hR hkl hn => ?_)
  have hC : Cx (sB g) K gC_Te _ := hC
  show V K (wp (sB g)) M 0 [(0, .ref (ga g (17 + c))), (1, .int (nI k)), (2, .int (nI m)), (3, .int (nI (6 - d))), (4, .int bm)] []
  subst hkl
  have bad : (∀ a1 e1, RsP s n d b m k c M a e (some (.int (-1))) (rdM M c a1 e1)) → ∀ (t i : Nat) (a1 : Int32) (e1 : Nat → Int32), i + t = m → V K (wp (sB g)) (rdM M c a1 e1) 6 [(6, .int (nI i)), (5, .int (-1)), (0, .ref (ga g (17 + c))), (1, .int (nI k)), (2, .int (nI m)), (3, .int (nI (6 - d))), (4, .int bm)] [] := by
    intro hb t
    induction t with
    | zero =>
      intro i a1 e1 hi
      refine v_iload h0 d_Te_readExpressions_6 0 rfl ?_
      refine v_iload_n h0 d_Te_readExpressions_8 4 rfl ?_
      refine n_icmp_ge h0 (by omega) (by omega) d_Te_readExpressions_9 rfl (fun h9 => ?_) (fun h9 => absurd h9 (by omega))
      refine v_iload h0 d_Te_readExpressions_29 1 rfl ?_
      exact v_iret h0 hC hR d_Te_readExpressions_31 (hb a1 e1)
    | succ t ih =>
      intro i a1 e1 hi
      refine v_iload h0 d_Te_readExpressions_6 0 rfl ?_
      refine v_iload_n h0 d_Te_readExpressions_8 4 rfl ?_
      refine n_icmp_ge h0 (by omega) (by omega) d_Te_readExpressions_9 rfl (fun h9 => absurd h9 (by omega)) (fun h9 => ?_)
      refine v_aload_n h0 d_Te_readExpressions_12 2 rfl ?_
      refine v_iload h0 d_Te_readExpressions_13 1 rfl ?_
      refine v_iload_n h0 d_Te_readExpressions_15 5 rfl ?_
      refine v_iload h0 d_Te_readExpressions_16 6 rfl ?_
      refine v_callV h0 hC (sB_N0 g) (17 + c) (show (17 + c) < 59 by omega) (eB_Te g (by omega) _) rfl (av := [.int (-1), .int (nI (6 - d)), .int bm]) (rest := []) (m_Te_readExpression_m (kl K) g hI (rdM M c a1 e1) hc _ _) wd_208 wd_205 wd_207 ws_0 wd_3 hd_Te_readExpression (by omega) (by decide) rfl rfl (Nat.le_of_ble_eq_true rfl) d_Te_readExpressions_18 (fun r9 M9 hp9 => ?_)
      obtain ⟨rfl, rfl⟩ := hp9
      refine v_r1 ?_
      refine v_istore h0 d_Te_readExpressions_21 (lv' := [(5, .int (-1)), (6, .int (nI i)), (0, .ref (ga g (17 + c))), (1, .int (nI k)), (2, .int (nI m)), (3, .int (nI (6 - d))), (4, .int bm)]) (lt_kn hn (by decide)) rfl ?_
      refine v_iinc h0 d_Te_readExpressions_23 (lv' := [(6, .int (nI (i + 1))), (5, .int (-1)), (0, .ref (ga g (17 + c))), (1, .int (nI k)), (2, .int (nI m)), (3, .int (nI (6 - d))), (4, .int bm)]) 1 rfl (inc1 i) (lt_kn hn (by decide)) rfl ?_
      refine v_goto h0 d_Te_readExpressions_26 rfl ?_
      exact ih (i + 1) a1 e1 (by omega)
  have good : ∀ (t i k1 : Nat) (a1 : Int32) (e1 : Nat → Int32), i + t = m → k1 < 40 → (∀ r M', RsP s n d b t k1 c M a1 e1 r M' → RsP s n d b m k c M a e r M') → V K (wp (sB g)) (rdM M c a1 e1) 6 [(6, .int (nI i)), (5, .int (nI k1)), (0, .ref (ga g (17 + c))), (1, .int (nI k)), (2, .int (nI m)), (3, .int (nI (6 - d))), (4, .int bm)] [] := by
    intro t
    induction t with
    | zero =>
      intro i k1 a1 e1 hi hk1 hf
      refine v_iload h0 d_Te_readExpressions_6 0 rfl ?_
      refine v_iload_n h0 d_Te_readExpressions_8 4 rfl ?_
      refine n_icmp_ge h0 (by omega) (by omega) d_Te_readExpressions_9 rfl (fun h9 => ?_) (fun h9 => absurd h9 (by omega))
      refine v_iload h0 d_Te_readExpressions_29 1 rfl ?_
      exact v_iret h0 hC hR d_Te_readExpressions_31 (hf _ _ ⟨a1, e1, rfl, Or.inl ⟨rfl, rfl, by rw [NMs, or0], trivial, fun _ _ => rfl⟩⟩)
    | succ t ih =>
      intro i k1 a1 e1 hi hk1 hf
      refine v_iload h0 d_Te_readExpressions_6 0 rfl ?_
      refine v_iload_n h0 d_Te_readExpressions_8 4 rfl ?_
      refine n_icmp_ge h0 (by omega) (by omega) d_Te_readExpressions_9 rfl (fun h9 => absurd h9 (by omega)) (fun h9 => ?_)
      refine v_aload_n h0 d_Te_readExpressions_12 2 rfl ?_
      refine v_iload h0 d_Te_readExpressions_13 1 rfl ?_
      refine v_iload_n h0 d_Te_readExpressions_15 5 rfl ?_
      refine v_iload h0 d_Te_readExpressions_16 6 rfl ?_
      refine v_callV h0 hC (sB_N0 g) (17 + c) (show (17 + c) < 59 by omega) (eB_Te g (by omega) _) rfl (av := [.int (nI k1), .int (nI (6 - d)), .int bm]) (rest := []) (hRD (rdM M c a1 e1) c n k1 s e1 a1 bm b hc hk1 (hT.rd a1 e1) hbm) wd_208 wd_205 wd_207 ws_0 wd_3 hd_Te_readExpression (by omega) (by decide) rfl rfl (Nat.le_of_ble_eq_true rfl) d_Te_readExpressions_18 (fun r9 M9 hp9 => ?_)
      obtain ⟨a2, e2, rfl, hq9⟩ := hp9
      rw [rdM_rdM]
      rcases hq9 with ⟨q1, rfl, rfl, q4, q5⟩ | ⟨q1, rfl⟩
      · skip
        refine v_r1 ?_
        refine v_istore h0 d_Te_readExpressions_21 (lv' := [(5, .int (nI (EN s d k1))), (6, .int (nI i)), (0, .ref (ga g (17 + c))), (1, .int (nI k)), (2, .int (nI m)), (3, .int (nI (6 - d))), (4, .int bm)]) (lt_kn hn (by decide)) rfl ?_
        refine v_iinc h0 d_Te_readExpressions_23 (lv' := [(6, .int (nI (i + 1))), (5, .int (nI (EN s d k1))), (0, .ref (ga g (17 + c))), (1, .int (nI k)), (2, .int (nI m)), (3, .int (nI (6 - d))), (4, .int bm)]) 1 rfl (inc1 i) (lt_kn hn (by decide)) rfl ?_
        refine v_goto h0 d_Te_readExpressions_26 rfl ?_
        exact ih (i + 1) (EN s d k1) _ e2 (by omega) (by have := OK_ends s n d b k1 q1; have := hT.2.2.2.2.2; omega) (fun r M' h => hf r M' (RsP_cons q1 q4 q5 h))
      · skip
        refine v_r1 ?_
        refine v_istore h0 d_Te_readExpressions_21 (lv' := [(5, .int (-1)), (6, .int (nI i)), (0, .ref (ga g (17 + c))), (1, .int (nI k)), (2, .int (nI m)), (3, .int (nI (6 - d))), (4, .int bm)]) (lt_kn hn (by decide)) rfl ?_
        refine v_iinc h0 d_Te_readExpressions_23 (lv' := [(6, .int (nI (i + 1))), (5, .int (-1)), (0, .ref (ga g (17 + c))), (1, .int (nI k)), (2, .int (nI m)), (3, .int (nI (6 - d))), (4, .int bm)]) 1 rfl (inc1 i) (lt_kn hn (by decide)) rfl ?_
        refine v_goto h0 d_Te_readExpressions_26 rfl ?_
        exact bad (fun a3 e3 => hf _ _ (RsP_bad q1 a3 e3)) t (i + 1) a2 e2 (by omega)
  refine v_iload_n h0 d_Te_readExpressions_0 1 rfl ?_
  refine v_istore h0 d_Te_readExpressions_1 (lv' := [(5, .int (nI k)), (0, .ref (ga g (17 + c))), (1, .int (nI k)), (2, .int (nI m)), (3, .int (nI (6 - d))), (4, .int bm)]) (lt_kn hn (by decide)) rfl ?_
  refine v_iconst h0 d_Te_readExpressions_3 (v := nI 0) (by decide) ?_
  refine v_istore h0 d_Te_readExpressions_4 (lv' := [(6, .int (nI 0)), (5, .int (nI k)), (0, .ref (ga g (17 + c))), (1, .int (nI k)), (2, .int (nI m)), (3, .int (nI (6 - d))), (4, .int bm)]) (lt_kn hn (by decide)) rfl ?_
  refine v_eq (good m 0 k a e (by omega) hk (fun _ _ h => h)) hT.id
