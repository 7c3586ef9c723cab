/-! TYPES (the book) -/
def dvN (x : Int32) : Nat := x.toNatClampNeg - 1
theorem dvN_c {c : Nat} (hc : c < 10) : dvN (nI (c + 1)) = c := by unfold dvN; rw [nI_clamp (by omega)]; omega
def tnM (M : Me) (j : Nat) : Int32 := if M 2 j = 0 then 0 else if fuB M (dvN (M 2 j)) = true then 0 else M (7 + dvN (M 2 j)) 6
def fnM (M : Me) (j : Nat) : Bool := if M 2 j = 0 then false else fuB M (dvN (M 2 j))
/-- the definers are null or cells -/
def DV (M : Me) : Prop := ∀ j, j < 10 → M 2 j = 0 ∨ ∃ c, c < 10 ∧ M 2 j = nI (c + 1)
theorem OK_lt {s : Nat → Int32} {n d : Nat} {b : Nat → Bool} {k : Nat} (h : OK s n d b k = true) : k < n := by
  cases d with
  | zero => simp [OK] at h
  | succ d => exact OK_k h
theorem EO_k {s e : Nat → Int32} {n d : Nat} {b : Nat → Bool} {k : Nat} (h : OK s n d b k = true) (ho : EO s e d k) : e k = nI (EN s d k) := by
  cases d with
  | zero => simp [OK] at h
  | succ d => exact ho.1
theorem m_Te_end (l : Launch) (g : Gd) (hI : sI (sB g)) (M : Me) {c n k d : Nat} {s e : Nat → Int32} {a : Int32} {b : Nat → Bool} (hc : c < 10) (hT : TX M c s n a e) (ok : OK s n d b k = true) (eo : EO s e d k) : CB l g y_Te_endOf c_Te_endOf 2 (some .int) 1 [.ref (ga g (17 + c)), .int (nI k)] M (fun r M' => r = some (.int (nI (EN s d k))) ∧ M = M') := by
  have e1 := EO_k ok eo
  obtain ⟨rfl, hl, rfl, rfl, hch, hn24⟩ := hT
  rw [← e1]
  exact m_Te_endOf l g hI M hc hn24 (OK_lt ok) hl
def TD (l : Launch) (g : Gd) (d : Nat) : Prop := ∀ (M : Me) (c n k : Nat) (s e : Nat → Int32) (a : Int32) (b : Nat → Bool), c < 10 → TX M c s n a e → DV M → OK s n d b k = true → EO s e d k →
  CB l g y_Ty_ofExpression c_Ty_ofExpression 4 (some .int) (2 * d + 4) [.ref (ga g 2), .ref (ga g (17 + c)), .int (nI k), .int (nI (6 - d))] M (fun r M' => r = some (.int (TY s (tnM M) (fnM M) d k)) ∧ M = M')
set_option maxHeartbeats 4000000 in
theorem m_Ty_areBoth (l : Launch) (g : Gd) (hI : sI (sB g)) (M : Me) {c n k d : Nat} {s e : Nat → Int32} {a : Int32} {b : Nat → Bool} (hc : c < 10) (hd : d + 1 ≤ 6) (hT : TX M c s n a e) (hDV : DV M) (hTD : TD l g d) (x : Int32) (ok1 : OK s n d b (k + 1) = true) (eo1 : EO s e d (k + 1)) (ok2 : OK s n d b (EN s d (k + 1)) = true) (eo2 : EO s e d (EN s d (k + 1))) : CB l g y_Ty_areBoth c_Ty_areBoth 6 (some .boolean) (2 * d + 5) [.int x, .ref (ga g 2), .ref (ga g (17 + c)), .int (nI k), .int (nI (6 - (d + 1)))] M (fun r M' => r = some (.int (bI (decide (TY s (tnM M) (fnM M) d (k + 1) = x ∧ TY s (tnM M) (fnM M) d (EN s d (k + 1)) = x)))) ∧ M = M') := by
  have hn24 : n ≤ 24 := hT.2.2.2.2.2
  have hk24 := OK_lt ok1
  refine Ct.of hI (sB_N0 g) rfl (Nat.le_of_ble_eq_true rfl) (fun K h0 hC hR hkl hn => ?_)
  have hC : Cx (sB g) K gC_Ty _ := hC
  show V K (wp (sB g)) M 0 [(0, .int x), (1, .ref (ga g 2)), (2, .ref (ga g (17 + c))), (3, .int (nI k)), (4, .int (nI (6 - (d + 1))))] []
  subst hkl
  refine v_aload_n h0 d_Ty_areBoth_0 2 rfl ?_
  refine v_iload_n h0 d_Ty_areBoth_1 3 rfl ?_
  refine v_iconst h0 d_Ty_areBoth_2 (v := nI 1) (by decide) ?_
  refine v_iadd h0 d_Ty_areBoth_3 ?_
  refine v_int (nI (k + 1)) (nI_add k 1) ?_
  refine v_callV h0 hC (sB_N0 g) (17 + c) (show (17 + c) < 59 by omega) (eB_Te g (by omega) _) rfl (av := [.int (nI (k + 1))]) (rest := []) (m_Te_end (kl K) g hI M hc hT ok1 eo1) wd_337 wd_334 wd_335 wd_336 wd_3 hd_Te_endOf (by omega) (by decide) rfl rfl (Nat.le_of_ble_eq_true rfl) d_Ty_areBoth_4 (fun r9 M9 hp9 => ?_)
  obtain ⟨rfl, rfl⟩ := hp9
  refine v_r1 ?_
  refine v_istore h0 d_Ty_areBoth_7 (lv' := [(5, .int (nI (EN s d (k + 1)))), (0, .int x), (1, .ref (ga g 2)), (2, .ref (ga g (17 + c))), (3, .int (nI k)), (4, .int (nI (6 - (d + 1))))]) (lt_kn hn (by decide)) rfl ?_
  refine v_aload_n h0 d_Ty_areBoth_9 2 rfl ?_
  refine v_aload_n h0 d_Ty_areBoth_10 3 rfl ?_
  refine v_iload_n h0 d_Ty_areBoth_11 4 rfl ?_
  refine v_iconst h0 d_Ty_areBoth_12 (v := nI 1) (by decide) ?_
  refine v_iadd h0 d_Ty_areBoth_13 ?_
  refine v_int (nI (k + 1)) (nI_add k 1) ?_
  refine v_iload h0 d_Ty_areBoth_14 5 rfl ?_
  refine v_iconst h0 d_Ty_areBoth_16 (v := nI 1) (by decide) ?_
  refine v_iadd h0 d_Ty_areBoth_17 ?_
  refine v_int (nI (6 - (d + 1) + 1)) (nI_add (6 - (d + 1)) 1) ?_
  refine v_int (nI (6 - d)) (sub_lev hd) ?_
  refine v_callS h0 hC (sB_N0 g) (av := [.ref (ga g 2), .ref (ga g (17 + c)), .int (nI (k + 1)), .int (nI (6 - d))]) (rest := []) (hTD M c n (k + 1) s e a _ hc hT hDV ok1 eo1) wd_329 wd_327 wd_328 wd_9 hd_Ty_ofExpression (by omega) (by decide) rfl rfl (Nat.le_of_ble_eq_true rfl) d_Ty_areBoth_18 (fun r9 M9 hp9 => ?_)
  obtain ⟨rfl, rfl⟩ := hp9
  refine v_r1 ?_
  refine v_iload_n h0 d_Ty_areBoth_21 1 rfl ?_
  refine v_icmp_ne h0 d_Ty_areBoth_22 rfl (fun h22 => ?_) (fun h22 => ?_)
  · skip
    refine v_iconst h0 d_Ty_areBoth_44 (v := nI 0) (by decide) ?_
    exact v_zret h0 hC hR (rfl) d_Ty_areBoth_45 (⟨ret_f (decide_eq_false (fun q => h22 q.1)), rfl⟩)
  · skip
    refine v_aload_n h0 d_Ty_areBoth_25 2 rfl ?_
    refine v_aload_n h0 d_Ty_areBoth_26 3 rfl ?_
    refine v_iload h0 d_Ty_areBoth_27 0 rfl ?_
    refine v_iload h0 d_Ty_areBoth_29 5 rfl ?_
    refine v_iconst h0 d_Ty_areBoth_31 (v := nI 1) (by decide) ?_
    refine v_iadd h0 d_Ty_areBoth_32 ?_
    refine v_int (nI (6 - (d + 1) + 1)) (nI_add (6 - (d + 1)) 1) ?_
    refine v_int (nI (6 - d)) (sub_lev hd) ?_
    refine v_callS h0 hC (sB_N0 g) (av := [.ref (ga g 2), .ref (ga g (17 + c)), .int (nI (EN s d (k + 1))), .int (nI (6 - d))]) (rest := []) (hTD M c n (EN s d (k + 1)) s e a _ hc hT hDV ok2 eo2) wd_329 wd_327 wd_328 wd_9 hd_Ty_ofExpression (by omega) (by decide) rfl rfl (Nat.le_of_ble_eq_true rfl) d_Ty_areBoth_33 (fun r9 M9 hp9 => ?_)
    obtain ⟨rfl, rfl⟩ := hp9
    refine v_r1 ?_
    refine v_iload_n h0 d_Ty_areBoth_36 1 rfl ?_
    refine v_icmp_ne h0 d_Ty_areBoth_37 rfl (fun h37 => ?_) (fun h37 => ?_)
    · skip
      refine v_iconst h0 d_Ty_areBoth_44 (v := nI 0) (by decide) ?_
      exact v_zret h0 hC hR (rfl) d_Ty_areBoth_45 (⟨ret_f (decide_eq_false (fun q => h37 q.2)), rfl⟩)
    · skip
      refine v_iconst h0 d_Ty_areBoth_40 (v := nI 1) (by decide) ?_
      refine v_goto h0 d_Ty_areBoth_41 rfl ?_
      exact v_zret h0 hC hR (rfl) d_Ty_areBoth_45 (⟨ret_t (decide_eq_true ⟨h22, h37⟩), rfl⟩)
set_option maxHeartbeats 4000000 in
theorem m_Ty_ofChoice (l : Launch) (g : Gd) (hI : sI (sB g)) (M : Me) {c n k d : Nat} {s e : Nat → Int32} {a : Int32} {b : Nat → Bool} (hc : c < 10) (hd : d + 1 ≤ 6) (hT : TX M c s n a e) (hDV : DV M) (hTD : TD l g d) (ok1 : OK s n d b (k + 1) = true) (eo1 : EO s e d (k + 1)) (ok2 : OK s n d b (EN s d (k + 1)) = true) (eo2 : EO s e d (EN s d (k + 1))) (ok3 : OK s n d b (EN s d (EN s d (k + 1))) = true) (eo3 : EO s e d (EN s d (EN s d (k + 1)))) : CB l g y_Ty_ofChoice c_Ty_ofChoice 7 (some .int) (2 * d + 5) [.ref (ga g 2), .ref (ga g (17 + c)), .int (nI k), .int (nI (6 - (d + 1)))] M (fun r M' => r = some (.int (if TY s (tnM M) (fnM M) d (k + 1) = 2 ∧ TY s (tnM M) (fnM M) d (EN s d (k + 1)) = TY s (tnM M) (fnM M) d (EN s d (EN s d (k + 1))) then TY s (tnM M) (fnM M) d (EN s d (k + 1)) else 0)) ∧ M = M') := by
  have hn24 : n ≤ 24 := hT.2.2.2.2.2
  have hk24 := OK_lt ok1
  refine Ct.of hI (sB_N0 g) rfl (Nat.le_of_ble_eq_true rfl) (fun K h0 hC hR hkl hn => ?_)
  have hC : Cx (sB g) K gC_Ty _ := hC
  show V K (wp (sB g)) M 0 [(0, .ref (ga g 2)), (1, .ref (ga g (17 + c))), (2, .int (nI k)), (3, .int (nI (6 - (d + 1))))] []
  subst hkl
  refine v_aload_n h0 d_Ty_ofChoice_0 1 rfl ?_
  refine v_iload_n h0 d_Ty_ofChoice_1 2 rfl ?_
  refine v_iconst h0 d_Ty_ofChoice_2 (v := nI 1) (by decide) ?_
  refine v_iadd h0 d_Ty_ofChoice_3 ?_
  refine v_int (nI (k + 1)) (nI_add k 1) ?_
  refine v_callV h0 hC (sB_N0 g) (17 + c) (show (17 + c) < 59 by omega) (eB_Te g (by omega) _) rfl (av := [.int (nI (k + 1))]) (rest := []) (m_Te_end (kl K) g hI M hc hT ok1 eo1) wd_337 wd_334 wd_335 wd_336 wd_3 hd_Te_endOf (by omega) (by decide) rfl rfl (Nat.le_of_ble_eq_true rfl) d_Ty_ofChoice_4 (fun r9 M9 hp9 => ?_)
  obtain ⟨rfl, rfl⟩ := hp9
  refine v_r1 ?_
  refine v_istore h0 d_Ty_ofChoice_7 (lv' := [(4, .int (nI (EN s d (k + 1)))), (0, .ref (ga g 2)), (1, .ref (ga g (17 + c))), (2, .int (nI k)), (3, .int (nI (6 - (d + 1))))]) (lt_kn hn (by decide)) rfl ?_
  refine v_aload_n h0 d_Ty_ofChoice_9 2 rfl ?_
  refine v_iload h0 d_Ty_ofChoice_10 0 rfl ?_
  refine v_callV h0 hC (sB_N0 g) (17 + c) (show (17 + c) < 59 by omega) (eB_Te g (by omega) _) rfl (av := [.int (nI (EN s d (k + 1)))]) (rest := []) (m_Te_end (kl K) g hI M hc hT ok2 eo2) wd_337 wd_334 wd_335 wd_336 wd_3 hd_Te_endOf (by omega) (by decide) rfl rfl (Nat.le_of_ble_eq_true rfl) d_Ty_ofChoice_12 (fun r9 M9 hp9 => ?_)
  obtain ⟨rfl, rfl⟩ := hp9
  refine v_r1 ?_
  refine v_istore h0 d_Ty_ofChoice_15 (lv' := [(5, .int (nI (EN s d (EN s d (k + 1))))), (4, .int (nI (EN s d (k + 1)))), (0, .ref (ga g 2)), (1, .ref (ga g (17 + c))), (2, .int (nI k)), (3, .int (nI (6 - (d + 1))))]) (lt_kn hn (by decide)) rfl ?_
  refine v_aload_n h0 d_Ty_ofChoice_17 2 rfl ?_
  refine v_aload_n h0 d_Ty_ofChoice_18 3 rfl ?_
  refine v_iload_n h0 d_Ty_ofChoice_19 4 rfl ?_
  refine v_iconst h0 d_Ty_ofChoice_20 (v := nI 1) (by decide) ?_
  refine v_iadd h0 d_Ty_ofChoice_21 ?_
  refine v_int (nI (k + 1)) (nI_add k 1) ?_
  refine v_iload_n h0 d_Ty_ofChoice_22 5 rfl ?_
  refine v_iconst h0 d_Ty_ofChoice_23 (v := nI 1) (by decide) ?_
  refine v_iadd h0 d_Ty_ofChoice_24 ?_
  refine v_int (nI (6 - (d + 1) + 1)) (nI_add (6 - (d + 1)) 1) ?_
  refine v_int (nI (6 - d)) (sub_lev hd) ?_
  refine v_callS h0 hC (sB_N0 g) (av := [.ref (ga g 2), .ref (ga g (17 + c)), .int (nI (k + 1)), .int (nI (6 - d))]) (rest := []) (hTD M c n (k + 1) s e a _ hc hT hDV ok1 eo1) wd_329 wd_327 wd_328 wd_9 hd_Ty_ofExpression (by omega) (by decide) rfl rfl (Nat.le_of_ble_eq_true rfl) d_Ty_ofChoice_25 (fun r9 M9 hp9 => ?_)
  obtain ⟨rfl, rfl⟩ := hp9
  refine v_r1 ?_
  refine v_iconst h0 d_Ty_ofChoice_28 (v := nI 2) (by decide) ?_
  refine v_icmp_eq h0 d_Ty_ofChoice_29 rfl (fun h29 => ?_) (fun h29 => ?_)
  · skip
    refine v_aload_n h0 d_Ty_ofChoice_34 2 rfl ?_
    refine v_aload_n h0 d_Ty_ofChoice_35 3 rfl ?_
    refine v_iload h0 d_Ty_ofChoice_36 1 rfl ?_
    refine v_iload_n h0 d_Ty_ofChoice_38 5 rfl ?_
    refine v_iconst h0 d_Ty_ofChoice_39 (v := nI 1) (by decide) ?_
    refine v_iadd h0 d_Ty_ofChoice_40 ?_
    refine v_int (nI (6 - (d + 1) + 1)) (nI_add (6 - (d + 1)) 1) ?_
    refine v_int (nI (6 - d)) (sub_lev hd) ?_
    refine v_callS h0 hC (sB_N0 g) (av := [.ref (ga g 2), .ref (ga g (17 + c)), .int (nI (EN s d (k + 1))), .int (nI (6 - d))]) (rest := []) (hTD M c n (EN s d (k + 1)) s e a _ hc hT hDV ok2 eo2) wd_329 wd_327 wd_328 wd_9 hd_Ty_ofExpression (by omega) (by decide) rfl rfl (Nat.le_of_ble_eq_true rfl) d_Ty_ofChoice_41 (fun r9 M9 hp9 => ?_)
    obtain ⟨rfl, rfl⟩ := hp9
    refine v_r1 ?_
    refine v_istore h0 d_Ty_ofChoice_44 (lv' := [(6, .int (TY s (tnM M) (fnM M) d (EN s d (k + 1)))), (5, .int (nI (EN s d (EN s d (k + 1))))), (4, .int (nI (EN s d (k + 1)))), (0, .ref (ga g 2)), (1, .ref (ga g (17 + c))), (2, .int (nI k)), (3, .int (nI (6 - (d + 1))))]) (lt_kn hn (by decide)) rfl ?_
    refine v_aload_n h0 d_Ty_ofChoice_46 3 rfl ?_
    refine v_aload_n h0 d_Ty_ofChoice_47 4 rfl ?_
    refine v_iload h0 d_Ty_ofChoice_48 1 rfl ?_
    refine v_iload_n h0 d_Ty_ofChoice_50 6 rfl ?_
    refine v_iconst h0 d_Ty_ofChoice_51 (v := nI 1) (by decide) ?_
    refine v_iadd h0 d_Ty_ofChoice_52 ?_
    refine v_int (nI (6 - (d + 1) + 1)) (nI_add (6 - (d + 1)) 1) ?_
    refine v_int (nI (6 - d)) (sub_lev hd) ?_
    refine v_callS h0 hC (sB_N0 g) (av := [.ref (ga g 2), .ref (ga g (17 + c)), .int (nI (EN s d (EN s d (k + 1)))), .int (nI (6 - d))]) (rest := []) (hTD M c n (EN s d (EN s d (k + 1))) s e a _ hc hT hDV ok3 eo3) wd_329 wd_327 wd_328 wd_9 hd_Ty_ofExpression (by omega) (by decide) rfl rfl (Nat.le_of_ble_eq_true rfl) d_Ty_ofChoice_53 (fun r9 M9 hp9 => ?_)
    obtain ⟨rfl, rfl⟩ := hp9
    refine v_r1 ?_
    refine v_iload h0 d_Ty_ofChoice_56 0 rfl ?_
    refine v_icmp_ne h0 d_Ty_ofChoice_58 rfl (fun h58 => ?_) (fun h58 => ?_)
    · skip
      refine v_iconst h0 d_Ty_ofChoice_66 (v := nI 0) (by decide) ?_
      exact v_iret h0 hC hR d_Ty_ofChoice_67 (⟨by rw [if_neg (fun q => h58 q.2.symm)]; rfl, rfl⟩)
    · skip
      refine v_iload h0 d_Ty_ofChoice_61 0 rfl ?_
      refine v_goto h0 d_Ty_ofChoice_63 rfl ?_
      exact v_iret h0 hC hR d_Ty_ofChoice_67 (⟨by rw [if_pos ⟨h29, h58.symm⟩], rfl⟩)
  · skip
    refine v_iconst h0 d_Ty_ofChoice_32 (v := nI 0) (by decide) ?_
    exact v_iret h0 hC hR d_Ty_ofChoice_33 (⟨by rw [if_neg (fun q => h29 q.1)]; rfl, rfl⟩)
set_option maxHeartbeats 4000000 in
theorem m_Ty_ofBinding (l : Launch) (g : Gd) (hI : sI (sB g)) (M : Me) {c n k d : Nat} {s e : Nat → Int32} {a : Int32} {b : Nat → Bool} (hc : c < 10) (hd : d + 1 ≤ 6) (hT : TX M c s n a e) (hDV : DV M) (hTD : TD l g d) {b2 : Nat → Bool} (ok1 : OK s n d b (k + 2) = true) (eo1 : EO s e d (k + 2)) (ok2 : OK s n d b2 (EN s d (k + 2)) = true) (eo2 : EO s e d (EN s d (k + 2))) : CB l g y_Ty_ofBinding c_Ty_ofBinding 5 (some .int) (2 * d + 5) [.ref (ga g 2), .ref (ga g (17 + c)), .int (nI k), .int (nI (6 - (d + 1)))] M (fun r M' => r = some (.int (if TY s (tnM M) (fnM M) d (k + 2) = 1 then TY s (tnM M) (fnM M) d (EN s d (k + 2)) else 0)) ∧ M = M') := by
  have hn24 : n ≤ 24 := hT.2.2.2.2.2
  have hk24 := OK_lt ok1
  refine Ct.of hI (sB_N0 g) rfl (Nat.le_of_ble_eq_true rfl) (fun K h0 hC hR hkl hn => ?_)
  have hC : Cx (sB g) K gC_Ty _ := hC
  show V K (wp (sB g)) M 0 [(0, .ref (ga g 2)), (1, .ref (ga g (17 + c))), (2, .int (nI k)), (3, .int (nI (6 - (d + 1))))] []
  subst hkl
  refine v_aload_n h0 d_Ty_ofBinding_0 1 rfl ?_
  refine v_iload_n h0 d_Ty_ofBinding_1 2 rfl ?_
  refine v_iconst h0 d_Ty_ofBinding_2 (v := nI 2) (by decide) ?_
  refine v_iadd h0 d_Ty_ofBinding_3 ?_
  refine v_int (nI (k + 2)) (nI_add k 2) ?_
  refine v_callV h0 hC (sB_N0 g) (17 + c) (show (17 + c) < 59 by omega) (eB_Te g (by omega) _) rfl (av := [.int (nI (k + 2))]) (rest := []) (m_Te_end (kl K) g hI M hc hT ok1 eo1) wd_337 wd_334 wd_335 wd_336 wd_3 hd_Te_endOf (by omega) (by decide) rfl rfl (Nat.le_of_ble_eq_true rfl) d_Ty_ofBinding_4 (fun r9 M9 hp9 => ?_)
  obtain ⟨rfl, rfl⟩ := hp9
  refine v_r1 ?_
  refine v_istore h0 d_Ty_ofBinding_7 (lv' := [(4, .int (nI (EN s d (k + 2)))), (0, .ref (ga g 2)), (1, .ref (ga g (17 + c))), (2, .int (nI k)), (3, .int (nI (6 - (d + 1))))]) (lt_kn hn (by decide)) rfl ?_
  refine v_aload_n h0 d_Ty_ofBinding_9 1 rfl ?_
  refine v_aload_n h0 d_Ty_ofBinding_10 2 rfl ?_
  refine v_iload_n h0 d_Ty_ofBinding_11 3 rfl ?_
  refine v_iconst h0 d_Ty_ofBinding_12 (v := nI 2) (by decide) ?_
  refine v_iadd h0 d_Ty_ofBinding_13 ?_
  refine v_int (nI (k + 2)) (nI_add k 2) ?_
  refine v_iload_n h0 d_Ty_ofBinding_14 4 rfl ?_
  refine v_iconst h0 d_Ty_ofBinding_15 (v := nI 1) (by decide) ?_
  refine v_iadd h0 d_Ty_ofBinding_16 ?_
  refine v_int (nI (6 - (d + 1) + 1)) (nI_add (6 - (d + 1)) 1) ?_
  refine v_int (nI (6 - d)) (sub_lev hd) ?_
  refine v_callS h0 hC (sB_N0 g) (av := [.ref (ga g 2), .ref (ga g (17 + c)), .int (nI (k + 2)), .int (nI (6 - d))]) (rest := []) (hTD M c n (k + 2) s e a _ hc hT hDV ok1 eo1) wd_329 wd_327 wd_328 wd_9 hd_Ty_ofExpression (by omega) (by decide) rfl rfl (Nat.le_of_ble_eq_true rfl) d_Ty_ofBinding_17 (fun r9 M9 hp9 => ?_)
  obtain ⟨rfl, rfl⟩ := hp9
  refine v_r1 ?_
  refine v_iconst h0 d_Ty_ofBinding_20 (v := 1) (by decide) ?_
  refine v_icmp_eq h0 d_Ty_ofBinding_21 rfl (fun h21 => ?_) (fun h21 => ?_)
  · skip
    refine v_aload_n h0 d_Ty_ofBinding_26 1 rfl ?_
    refine v_aload_n h0 d_Ty_ofBinding_27 2 rfl ?_
    refine v_iload h0 d_Ty_ofBinding_28 0 rfl ?_
    refine v_iload_n h0 d_Ty_ofBinding_30 4 rfl ?_
    refine v_iconst h0 d_Ty_ofBinding_31 (v := nI 1) (by decide) ?_
    refine v_iadd h0 d_Ty_ofBinding_32 ?_
    refine v_int (nI (6 - (d + 1) + 1)) (nI_add (6 - (d + 1)) 1) ?_
    refine v_int (nI (6 - d)) (sub_lev hd) ?_
    refine v_callS h0 hC (sB_N0 g) (av := [.ref (ga g 2), .ref (ga g (17 + c)), .int (nI (EN s d (k + 2))), .int (nI (6 - d))]) (rest := []) (hTD M c n (EN s d (k + 2)) s e a _ hc hT hDV ok2 eo2) wd_329 wd_327 wd_328 wd_9 hd_Ty_ofExpression (by omega) (by decide) rfl rfl (Nat.le_of_ble_eq_true rfl) d_Ty_ofBinding_33 (fun r9 M9 hp9 => ?_)
    obtain ⟨rfl, rfl⟩ := hp9
    refine v_r1 ?_
    exact v_iret h0 hC hR d_Ty_ofBinding_36 (⟨by rw [if_pos h21], rfl⟩)
  · skip
    refine v_iconst h0 d_Ty_ofBinding_24 (v := nI 0) (by decide) ?_
    exact v_iret h0 hC hR d_Ty_ofBinding_25 (⟨by rw [if_neg h21]; rfl, rfl⟩)
set_option maxHeartbeats 4000000 in
theorem m_Ty_ofCall (l : Launch) (g : Gd) (hI : sI (sB g)) (M : Me) {c n k d : Nat} {s e : Nat → Int32} {a : Int32} {b : Nat → Bool} (hc : c < 10) (hd : d + 1 ≤ 6) (hT : TX M c s n a e) (hDV : DV M) (hTD : TD l g d) (h1 : k + 1 < n) (h8 : kd (s (k + 1)) = 8) (ok1 : OK s n d b (k + 2) = true) (eo1 : EO s e d (k + 2)) : CB l g y_Ty_ofCall c_Ty_ofCall 5 (some .int) (2 * d + 5) [.ref (ga g 2), .ref (ga g (17 + c)), .int (nI k), .int (nI (6 - (d + 1)))] M (fun r M' => r = some (.int (if TY s (tnM M) (fnM M) d (k + 2) = 1 ∧ fnM M (nmI (s (k + 1))) = true then 1 else 0)) ∧ M = M') := by
  have hn24 : n ≤ 24 := hT.2.2.2.2.2
  have hk24 := OK_lt ok1
  refine Ct.of hI (sB_N0 g) rfl (Nat.le_of_ble_eq_true rfl) (fun K h0 hC hR hkl hn => ?_)
  have hC : Cx (sB g) K gC_Ty _ := hC
  show V K (wp (sB g)) M 0 [(0, .ref (ga g 2)), (1, .ref (ga g (17 + c))), (2, .int (nI k)), (3, .int (nI (6 - (d + 1))))] []
  subst hkl
  refine v_aload_n h0 d_Ty_ofCall_0 0 rfl ?_
  refine v_aload_n h0 d_Ty_ofCall_1 1 rfl ?_
  refine v_iload_n h0 d_Ty_ofCall_2 2 rfl ?_
  refine v_iconst h0 d_Ty_ofCall_3 (v := nI 1) (by decide) ?_
  refine v_iadd h0 d_Ty_ofCall_4 ?_
  refine v_int (nI (k + 1)) (nI_add k 1) ?_
  refine v_callV h0 hC (sB_N0 g) (17 + c) (show (17 + c) < 59 by omega) (eB_Te g (by omega) _) rfl (av := [.int (nI (k + 1))]) (rest := [.ref (ga g 2)]) (m_Te_sign (kl K) g hI M hc (by omega) hT) wd_197 wd_330 wd_195 wd_196 wd_3 hd_Te_signAt (by omega) (by decide) rfl rfl (Nat.le_of_ble_eq_true rfl) d_Ty_ofCall_5 (fun r9 M9 hp9 => ?_)
  obtain ⟨rfl, rfl⟩ := hp9
  refine v_r1 ?_
  refine v_int (s (k + 1)) (if_pos h1) ?_
  refine v_callSN h0 hC (sB_N0 g) (av := [.ref (ga g 2), .int (s (k + 1))]) (rest := []) (m_B_definerOf (kl K) g hI M h8) wd_349 wn_27 wd_348 wd_1 hd_B_definerOf (by omega) (by decide) rfl rfl (Nat.le_of_ble_eq_true rfl) d_Ty_ofCall_8 (fun r9 M9 hp9 => ?_)
  obtain ⟨rfl, rfl⟩ := hp9
  rcases hDV _ (nm_of h8).1 with hz | ⟨c1, hc1, hz⟩
  · skip
    refine v_r1 ?_
    refine v_top (.null) (by rw [hz, dcC_0]; rfl) ?_
    refine v_astoreN h0 d_Ty_ofCall_11 (lv' := [(4, .null), (0, .ref (ga g 2)), (1, .ref (ga g (17 + c))), (2, .int (nI k)), (3, .int (nI (6 - (d + 1))))]) (lt_kn hn (by decide)) rfl ?_
    refine v_aloadN h0 d_Ty_ofCall_13 0 rfl ?_
    refine v_ifnullN h0 d_Ty_ofCall_15 rfl ?_
    refine v_iconst h0 d_Ty_ofCall_29 (v := nI 0) (by decide) ?_
    exact v_iret h0 hC hR d_Ty_ofCall_30 (⟨by rw [if_neg (fun q => by have := q.2; unfold fnM at this; rw [if_pos hz] at this; cases this)]; rfl, rfl⟩)
  · skip
    refine v_r1 ?_
    refine v_top (.ref (ga g (7 + c1))) (by rw [hz, dcC_c g hc1]; rfl) ?_
    refine v_astore h0 d_Ty_ofCall_11 (lv' := [(4, .ref (ga g (7 + c1))), (0, .ref (ga g 2)), (1, .ref (ga g (17 + c))), (2, .int (nI k)), (3, .int (nI (6 - (d + 1))))]) (lt_kn hn (by decide)) rfl ?_
    refine v_aload h0 d_Ty_ofCall_13 0 rfl ?_
    refine v_ifnull h0 d_Ty_ofCall_15 ?_
    refine v_aload h0 d_Ty_ofCall_18 0 rfl ?_
    refine gN_Ce_text h0 hC (by omega) wn_6 d_Ty_ofCall_20 ?_
    refine v_callV h0 hC (sB_N0 g) (17 + c1) (show (17 + c1) < 59 by omega) (eB_Te g (by omega) _) rfl (av := []) (rest := []) (m_Te_isFunction (kl K) g hI M hc1) wd_258 wd_351 wd_256 wd_257 wd_3 hd_Te_isFunction (by omega) (by decide) rfl rfl (Nat.le_of_ble_eq_true rfl) d_Ty_ofCall_23 (fun r9 M9 hp9 => ?_)
    obtain ⟨rfl, rfl⟩ := hp9
    refine v_r1 ?_
    refine b_if_ne h0 d_Ty_ofCall_26 rfl (fun h26 => ?_) (fun h26 => ?_)
    · skip
      refine v_aload_n h0 d_Ty_ofCall_31 1 rfl ?_
      refine v_aload_n h0 d_Ty_ofCall_32 2 rfl ?_
      refine v_iload_n h0 d_Ty_ofCall_33 3 rfl ?_
      refine v_iconst h0 d_Ty_ofCall_34 (v := nI 2) (by decide) ?_
      refine v_iadd h0 d_Ty_ofCall_35 ?_
      refine v_int (nI (k + 2)) (nI_add k 2) ?_
      refine v_iload_n h0 d_Ty_ofCall_36 4 rfl ?_
      refine v_iconst h0 d_Ty_ofCall_37 (v := nI 1) (by decide) ?_
      refine v_iadd h0 d_Ty_ofCall_38 ?_
      refine v_int (nI (6 - (d + 1) + 1)) (nI_add (6 - (d + 1)) 1) ?_
      refine v_int (nI (6 - d)) (sub_lev hd) ?_
      refine v_callS h0 hC (sB_N0 g) (av := [.ref (ga g 2), .ref (ga g (17 + c)), .int (nI (k + 2)), .int (nI (6 - d))]) (rest := []) (hTD M c n (k + 2) s e a _ hc hT hDV ok1 eo1) wd_329 wd_327 wd_328 wd_9 hd_Ty_ofExpression (by omega) (by decide) rfl rfl (Nat.le_of_ble_eq_true rfl) d_Ty_ofCall_39 (fun r9 M9 hp9 => ?_)
      obtain ⟨rfl, rfl⟩ := hp9
      refine v_r1 ?_
      refine v_iconst h0 d_Ty_ofCall_42 (v := nI 1) (by decide) ?_
      refine v_icmp_ne h0 d_Ty_ofCall_43 rfl (fun h43 => ?_) (fun h43 => ?_)
      · skip
        refine v_iconst h0 d_Ty_ofCall_50 (v := nI 0) (by decide) ?_
        exact v_iret h0 hC hR d_Ty_ofCall_51 (⟨by rw [if_neg (fun q => h43 q.1)]; rfl, rfl⟩)
      · skip
        refine v_iconst h0 d_Ty_ofCall_46 (v := nI 1) (by decide) ?_
        refine v_goto h0 d_Ty_ofCall_47 rfl ?_
        exact v_iret h0 hC hR d_Ty_ofCall_51 (⟨by rw [if_pos ⟨h43, by unfold fnM; rw [if_neg (by rw [hz]; exact nI_ne0 (by omega) (by omega)), hz, dvN_c hc1]; exact h26⟩]; rfl, rfl⟩)
    · skip
      refine v_iconst h0 d_Ty_ofCall_29 (v := nI 0) (by decide) ?_
      exact v_iret h0 hC hR d_Ty_ofCall_30 (⟨by rw [if_neg (fun q => by have := q.2; unfold fnM at this; rw [if_neg (by rw [hz]; exact nI_ne0 (by omega) (by omega)), hz, dvN_c hc1, h26] at this; cases this)]; rfl, rfl⟩)
set_option maxHeartbeats 4000000 in
theorem m_Ty_ofMatch (l : Launch) (g : Gd) (hI : sI (sB g)) (M : Me) {c n k d : Nat} {s e : Nat → Int32} {a : Int32} {b : Nat → Bool} (hc : c < 10) (hd : d + 1 ≤ 6) (hT : TX M c s n a e) (hDV : DV M) (hTD : TD l g d) (ok1 : OK s n d b (k + 1) = true) (eo1 : EO s e d (k + 1)) (ok2 : OK s n d b (EN s d (k + 1) + 1) = true) (eo2 : EO s e d (EN s d (k + 1) + 1)) (ok3 : OK s n d b (EN s d (EN s d (k + 1) + 1) + 1) = true) (eo3 : EO s e d (EN s d (EN s d (k + 1) + 1) + 1)) : CB l g y_Ty_ofMatch c_Ty_ofMatch 6 (some .int) (2 * d + 5) [.ref (ga g 2), .ref (ga g (17 + c)), .int (nI k), .int (nI (6 - (d + 1)))] M (fun r M' => r = some (.int (if TY s (tnM M) (fnM M) d (k + 1) = 1 ∧ TY s (tnM M) (fnM M) d (EN s d (k + 1) + 1) = 1 ∧ TY s (tnM M) (fnM M) d (EN s d (EN s d (k + 1) + 1) + 1) = 1 then 1 else 0)) ∧ M = M') := by
  have hn24 : n ≤ 24 := hT.2.2.2.2.2
  have hk24 := OK_lt ok1
  refine Ct.of hI (sB_N0 g) rfl (Nat.le_of_ble_eq_true rfl) (fun K h0 hC hR hkl hn => ?_)
  have hC : Cx (sB g) K gC_Ty _ := hC
  show V K (wp (sB g)) M 0 [(0, .ref (ga g 2)), (1, .ref (ga g (17 + c))), (2, .int (nI k)), (3, .int (nI (6 - (d + 1))))] []
  subst hkl
  refine v_aload_n h0 d_Ty_ofMatch_0 1 rfl ?_
  refine v_iload_n h0 d_Ty_ofMatch_1 2 rfl ?_
  refine v_iconst h0 d_Ty_ofMatch_2 (v := nI 1) (by decide) ?_
  refine v_iadd h0 d_Ty_ofMatch_3 ?_
  refine v_int (nI (k + 1)) (nI_add k 1) ?_
  refine v_callV h0 hC (sB_N0 g) (17 + c) (show (17 + c) < 59 by omega) (eB_Te g (by omega) _) rfl (av := [.int (nI (k + 1))]) (rest := []) (m_Te_end (kl K) g hI M hc hT ok1 eo1) wd_337 wd_334 wd_335 wd_336 wd_3 hd_Te_endOf (by omega) (by decide) rfl rfl (Nat.le_of_ble_eq_true rfl) d_Ty_ofMatch_4 (fun r9 M9 hp9 => ?_)
  obtain ⟨rfl, rfl⟩ := hp9
  refine v_r1 ?_
  refine v_iconst h0 d_Ty_ofMatch_7 (v := nI 1) (by decide) ?_
  refine v_iadd h0 d_Ty_ofMatch_8 ?_
  refine v_int (nI (EN s d (k + 1) + 1)) (nI_add (EN s d (k + 1)) 1) ?_
  refine v_istore h0 d_Ty_ofMatch_9 (lv' := [(4, .int (nI (EN s d (k + 1) + 1))), (0, .ref (ga g 2)), (1, .ref (ga g (17 + c))), (2, .int (nI k)), (3, .int (nI (6 - (d + 1))))]) (lt_kn hn (by decide)) rfl ?_
  refine v_aload_n h0 d_Ty_ofMatch_11 2 rfl ?_
  refine v_iload h0 d_Ty_ofMatch_12 0 rfl ?_
  refine v_callV h0 hC (sB_N0 g) (17 + c) (show (17 + c) < 59 by omega) (eB_Te g (by omega) _) rfl (av := [.int (nI (EN s d (k + 1) + 1))]) (rest := []) (m_Te_end (kl K) g hI M hc hT ok2 eo2) wd_337 wd_334 wd_335 wd_336 wd_3 hd_Te_endOf (by omega) (by decide) rfl rfl (Nat.le_of_ble_eq_true rfl) d_Ty_ofMatch_14 (fun r9 M9 hp9 => ?_)
  obtain ⟨rfl, rfl⟩ := hp9
  refine v_r1 ?_
  refine v_iconst h0 d_Ty_ofMatch_17 (v := nI 1) (by decide) ?_
  refine v_iadd h0 d_Ty_ofMatch_18 ?_
  refine v_int (nI (EN s d (EN s d (k + 1) + 1) + 1)) (nI_add (EN s d (EN s d (k + 1) + 1)) 1) ?_
  refine v_istore h0 d_Ty_ofMatch_19 (lv' := [(5, .int (nI (EN s d (EN s d (k + 1) + 1) + 1))), (4, .int (nI (EN s d (k + 1) + 1))), (0, .ref (ga g 2)), (1, .ref (ga g (17 + c))), (2, .int (nI k)), (3, .int (nI (6 - (d + 1))))]) (lt_kn hn (by decide)) rfl ?_
  refine v_aload_n h0 d_Ty_ofMatch_21 2 rfl ?_
  refine v_aload_n h0 d_Ty_ofMatch_22 3 rfl ?_
  refine v_iload_n h0 d_Ty_ofMatch_23 4 rfl ?_
  refine v_iconst h0 d_Ty_ofMatch_24 (v := nI 1) (by decide) ?_
  refine v_iadd h0 d_Ty_ofMatch_25 ?_
  refine v_int (nI (k + 1)) (nI_add k 1) ?_
  refine v_iload_n h0 d_Ty_ofMatch_26 5 rfl ?_
  refine v_iconst h0 d_Ty_ofMatch_27 (v := nI 1) (by decide) ?_
  refine v_iadd h0 d_Ty_ofMatch_28 ?_
  refine v_int (nI (6 - (d + 1) + 1)) (nI_add (6 - (d + 1)) 1) ?_
  refine v_int (nI (6 - d)) (sub_lev hd) ?_
  refine v_callS h0 hC (sB_N0 g) (av := [.ref (ga g 2), .ref (ga g (17 + c)), .int (nI (k + 1)), .int (nI (6 - d))]) (rest := []) (hTD M c n (k + 1) s e a _ hc hT hDV ok1 eo1) wd_329 wd_327 wd_328 wd_9 hd_Ty_ofExpression (by omega) (by decide) rfl rfl (Nat.le_of_ble_eq_true rfl) d_Ty_ofMatch_29 (fun r9 M9 hp9 => ?_)
  obtain ⟨rfl, rfl⟩ := hp9
  refine v_r1 ?_
  refine v_iconst h0 d_Ty_ofMatch_32 (v := nI 1) (by decide) ?_
  refine v_icmp_ne h0 d_Ty_ofMatch_33 rfl (fun h33 => ?_) (fun h33 => ?_)
  · skip
    refine v_iconst h0 d_Ty_ofMatch_68 (v := nI 0) (by decide) ?_
    exact v_iret h0 hC hR d_Ty_ofMatch_69 (⟨by rw [if_neg (fun q => h33 q.1)]; rfl, rfl⟩)
  · skip
    refine v_aload_n h0 d_Ty_ofMatch_36 2 rfl ?_
    refine v_aload_n h0 d_Ty_ofMatch_37 3 rfl ?_
    refine v_iload h0 d_Ty_ofMatch_38 1 rfl ?_
    refine v_iload_n h0 d_Ty_ofMatch_40 5 rfl ?_
    refine v_iconst h0 d_Ty_ofMatch_41 (v := nI 1) (by decide) ?_
    refine v_iadd h0 d_Ty_ofMatch_42 ?_
    refine v_int (nI (6 - (d + 1) + 1)) (nI_add (6 - (d + 1)) 1) ?_
    refine v_int (nI (6 - d)) (sub_lev hd) ?_
    refine v_callS h0 hC (sB_N0 g) (av := [.ref (ga g 2), .ref (ga g (17 + c)), .int (nI (EN s d (k + 1) + 1)), .int (nI (6 - d))]) (rest := []) (hTD M c n (EN s d (k + 1) + 1) s e a _ hc hT hDV ok2 eo2) wd_329 wd_327 wd_328 wd_9 hd_Ty_ofExpression (by omega) (by decide) rfl rfl (Nat.le_of_ble_eq_true rfl) d_Ty_ofMatch_43 (fun r9 M9 hp9 => ?_)
    obtain ⟨rfl, rfl⟩ := hp9
    refine v_r1 ?_
    refine v_iconst h0 d_Ty_ofMatch_46 (v := nI 1) (by decide) ?_
    refine v_icmp_ne h0 d_Ty_ofMatch_47 rfl (fun h47 => ?_) (fun h47 => ?_)
    · skip
      refine v_iconst h0 d_Ty_ofMatch_68 (v := nI 0) (by decide) ?_
      exact v_iret h0 hC hR d_Ty_ofMatch_69 (⟨by rw [if_neg (fun q => h47 q.2.1)]; rfl, rfl⟩)
    · skip
      refine v_aload_n h0 d_Ty_ofMatch_50 2 rfl ?_
      refine v_aload_n h0 d_Ty_ofMatch_51 3 rfl ?_
      refine v_iload h0 d_Ty_ofMatch_52 0 rfl ?_
      refine v_iload_n h0 d_Ty_ofMatch_54 5 rfl ?_
      refine v_iconst h0 d_Ty_ofMatch_55 (v := nI 1) (by decide) ?_
      refine v_iadd h0 d_Ty_ofMatch_56 ?_
      refine v_int (nI (6 - (d + 1) + 1)) (nI_add (6 - (d + 1)) 1) ?_
      refine v_int (nI (6 - d)) (sub_lev hd) ?_
      refine v_callS h0 hC (sB_N0 g) (av := [.ref (ga g 2), .ref (ga g (17 + c)), .int (nI (EN s d (EN s d (k + 1) + 1) + 1)), .int (nI (6 - d))]) (rest := []) (hTD M c n (EN s d (EN s d (k + 1) + 1) + 1) s e a _ hc hT hDV ok3 eo3) wd_329 wd_327 wd_328 wd_9 hd_Ty_ofExpression (by omega) (by decide) rfl rfl (Nat.le_of_ble_eq_true rfl) d_Ty_ofMatch_57 (fun r9 M9 hp9 => ?_)
      obtain ⟨rfl, rfl⟩ := hp9
      refine v_r1 ?_
      refine v_iconst h0 d_Ty_ofMatch_60 (v := nI 1) (by decide) ?_
      refine v_icmp_ne h0 d_Ty_ofMatch_61 rfl (fun h61 => ?_) (fun h61 => ?_)
      · skip
        refine v_iconst h0 d_Ty_ofMatch_68 (v := nI 0) (by decide) ?_
        exact v_iret h0 hC hR d_Ty_ofMatch_69 (⟨by rw [if_neg (fun q => h61 q.2.2)]; rfl, rfl⟩)
      · skip
        refine v_iconst h0 d_Ty_ofMatch_64 (v := nI 1) (by decide) ?_
        refine v_goto h0 d_Ty_ofMatch_65 rfl ?_
        exact v_iret h0 hC hR d_Ty_ofMatch_69 (⟨by rw [if_pos ⟨h33, h47, h61⟩]; rfl, rfl⟩)
set_option maxHeartbeats 4000000 in
theorem m_Ty_ofLeaf (l : Launch) (g : Gd) (hI : sI (sB g)) (M : Me) {x : Int32} (hDV : DV M) : CB l g y_Ty_ofLeaf c_Ty_ofLeaf 3 (some .int) 3 [.ref (ga g 2), .int x] M (fun r M' => r = some (.int (if kd x = 8 then tnM M (nmI x) else 1)) ∧ M = M') := by
  refine Ct.of hI (sB_N0 g) rfl (Nat.le_of_ble_eq_true rfl) (fun K h0 hC hR hkl hn => ?_)
  have hC : Cx (sB g) K gC_Ty _ := hC
  show V K (wp (sB g)) M 0 [(0, .ref (ga g 2)), (1, .int x)] []
  refine v_iload_n h0 d_Ty_ofLeaf_0 1 rfl ?_
  refine v_callSN h0 hC (sB_N0 g) (av := [.int x]) (rest := []) (m_B_isName (kl K) g hI M _) wd_227 wn_28 wd_226 wd_1 hd_B_isName (by omega) (by decide) rfl rfl (Nat.le_of_ble_eq_true rfl) d_Ty_ofLeaf_1 (fun r9 M9 hp9 => ?_)
  obtain ⟨rfl, rfl⟩ := hp9
  refine v_r1 ?_
  refine b_if_ne h0 d_Ty_ofLeaf_4 rfl (fun h4 => ?_) (fun h4 => ?_)
  · skip
    refine v_aload_n h0 d_Ty_ofLeaf_9 0 rfl ?_
    refine v_iload_n h0 d_Ty_ofLeaf_10 1 rfl ?_
    refine v_callSN h0 hC (sB_N0 g) (av := [.ref (ga g 2), .int x]) (rest := []) (m_B_definerOf (kl K) g hI M (kdB_t h4)) wd_349 wn_27 wd_348 wd_1 hd_B_definerOf (by omega) (by decide) rfl rfl (Nat.le_of_ble_eq_true rfl) d_Ty_ofLeaf_11 (fun r9 M9 hp9 => ?_)
    obtain ⟨rfl, rfl⟩ := hp9
    rcases hDV _ (nm_of (kdB_t h4)).1 with hz | ⟨c1, hc1, hz⟩
    · skip
      refine v_r1 ?_
      refine v_top (.null) (by rw [hz, dcC_0]; rfl) ?_
      refine v_astore_nN h0 d_Ty_ofLeaf_14 (lv' := [(2, .null), (0, .ref (ga g 2)), (1, .int x)]) (lt_kn hn (by decide)) rfl ?_
      refine v_aload_nN h0 d_Ty_ofLeaf_15 0 rfl ?_
      refine v_ifnullN h0 d_Ty_ofLeaf_16 rfl ?_
      refine v_iconst h0 d_Ty_ofLeaf_29 (v := nI 0) (by decide) ?_
      refine v_goto h0 d_Ty_ofLeaf_30 rfl ?_
      exact v_iret h0 hC hR d_Ty_ofLeaf_37 (⟨by rw [if_pos (kdB_t h4)]; unfold tnM; rw [if_pos hz]; rfl, rfl⟩)
    · skip
      refine v_r1 ?_
      refine v_top (.ref (ga g (7 + c1))) (by rw [hz, dcC_c g hc1]; rfl) ?_
      refine v_astore_n h0 d_Ty_ofLeaf_14 (lv' := [(2, .ref (ga g (7 + c1))), (0, .ref (ga g 2)), (1, .int x)]) (lt_kn hn (by decide)) rfl ?_
      refine v_aload_n h0 d_Ty_ofLeaf_15 0 rfl ?_
      refine v_ifnull h0 d_Ty_ofLeaf_16 ?_
      refine v_aload_n h0 d_Ty_ofLeaf_19 0 rfl ?_
      refine gN_Ce_text h0 hC (by omega) wn_6 d_Ty_ofLeaf_20 ?_
      refine v_callV h0 hC (sB_N0 g) (17 + c1) (show (17 + c1) < 59 by omega) (eB_Te g (by omega) _) rfl (av := []) (rest := []) (m_Te_isFunction (kl K) g hI M hc1) wd_258 wd_351 wd_256 wd_257 wd_3 hd_Te_isFunction (by omega) (by decide) rfl rfl (Nat.le_of_ble_eq_true rfl) d_Ty_ofLeaf_23 (fun r9 M9 hp9 => ?_)
      obtain ⟨rfl, rfl⟩ := hp9
      refine v_r1 ?_
      refine b_if_eq h0 d_Ty_ofLeaf_26 rfl (fun h26 => ?_) (fun h26 => ?_)
      · skip
        refine v_aload_n h0 d_Ty_ofLeaf_33 0 rfl ?_
        refine gN_Ce_sort h0 hC (by omega) wn_16 d_Ty_ofLeaf_34 ?_
        exact v_iret h0 hC hR d_Ty_ofLeaf_37 (⟨by rw [if_pos (kdB_t h4)]; unfold tnM; rw [if_neg (by rw [hz]; exact nI_ne0 (by omega) (by omega)), hz, dvN_c hc1, h26]; rfl, rfl⟩)
      · skip
        refine v_iconst h0 d_Ty_ofLeaf_29 (v := nI 0) (by decide) ?_
        refine v_goto h0 d_Ty_ofLeaf_30 rfl ?_
        exact v_iret h0 hC hR d_Ty_ofLeaf_37 (⟨by rw [if_pos (kdB_t h4)]; unfold tnM; rw [if_neg (by rw [hz]; exact nI_ne0 (by omega) (by omega)), hz, dvN_c hc1, h26]; rfl, rfl⟩)
  · skip
    refine v_iconst h0 d_Ty_ofLeaf_7 (v := nI 1) (by decide) ?_
    exact v_iret h0 hC hR d_Ty_ofLeaf_8 (⟨by rw [if_neg (kdB_f h4)]; rfl, rfl⟩)
