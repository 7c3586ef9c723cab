/-! THE BOOK'S PUBLIC METHODS, but for work -/
theorem v_ldc2 {S : Sd} {K : Cf} {own : String} {h : Nat} {M : Me} {cc : ByteArray} {pc ix : Nat} {lv : List (Nat × Value)} {rest : List Value} {v : Int64} (h0 : C0 K cc) (hC : Cx S K own h) (hw9 : Cond.constantLong own ix v ∈ wG) (hdg : decode cc pc = .ok (.ldc2_w ix, 3)) (k : V K (wp S) M (pc + 3) lv (.long v :: rest)) : V K (wp S) M pc lv rest := fun H locs ls hw hS hl => lv_ldc2 h0.1 h0.2 hC.own (hC.ts _ hw9) hdg (k H locs ls hw hS hl)
theorem v_long {σ : Type} {K : Cf} {wp : σ → Heap → Prop} {M : σ} {pc : Nat} {lv : List (Nat × Value)} {rest : List Value} {x : Int64} (y : Int64) (h : x = y) (k : V K wp M pc lv (.long y :: rest)) : V K wp M pc lv (.long x :: rest) := by subst h; exact k
def tpB (x : Int64) : Nat → Bool
  | 0 => true
  | n + 1 => tpB x n && decide (33 ≤ byN x n ∧ byN x n ≤ 126)
theorem tpB_le {x : Int64} {n : Nat} (h : tpB x n = true) : ∀ i, i < n → 33 ≤ byN x i ∧ byN x i ≤ 126 := by
  induction n with
  | zero => intro i hi; omega
  | succ n ih =>
    intro i hi
    simp only [tpB, Bool.and_eq_true, decide_eq_true_eq] at h
    by_cases e : i = n
    · subst e; exact h.2
    · exact ih h.1 i (by omega)
theorem tpB_no {x : Int64} : ∀ {n i : Nat}, i < n → ¬ (33 ≤ byN x i ∧ byN x i ≤ 126) → tpB x n = false := by
  intro n i hi h
  cases hb : tpB x n with
  | false => rfl
  | true => exact absurd (tpB_le hb i hi) h
def tyR (t : Nat → Int32) (x : Int64) (L i : Nat) : Nat → Int32 := fun j => if L ≤ j ∧ j < L + i then nI (byN x (j - L)) else t j
theorem tyR_s (t : Nat → Int32) (x : Int64) (L i : Nat) : upd (tyR t x L i) (L + i) (nI (byN x i)) = tyR t x L (i + 1) := by
  funext j
  unfold upd tyR
  by_cases h : j = L + i
  · rw [if_pos h, if_pos (by omega), show j - L = i by omega]
  · rw [if_neg h]
    by_cases h2 : L ≤ j ∧ j < L + i
    · rw [if_pos h2, if_pos (by omega)]
    · rw [if_neg h2, if_neg (by omega)]
theorem tyR_0 (t : Nat → Int32) (x : Int64) (L : Nat) : tyR t x L 0 = t := by
  funext j; unfold tyR; rw [if_neg (by omega)]
def tyC (x : Int64) (y : Int32) (L m : Nat) : Prop := 1 ≤ m ∧ m ≤ 8 ∧ y = nI m ∧ L + m ≤ 24 ∧ tpB x m = true
def TyP (M : Me) (x : Int64) (y : Int32) (L : Nat) (r : Option Value) (M' : Me) : Prop :=
  (∃ m, tyC x y L m ∧ r = some (.int (nI (L + m))) ∧ M' = up2 (upR M 5 (tyR (M 5) x L m)) 0 5 (nI (L + m))) ∨ ((∀ m, ¬ tyC x y L m) ∧ r = some (.int (-1)) ∧ M = M')
theorem nI_inj {a b : Nat} (ha : a < 2 ^ 31) (hb : b < 2 ^ 31) (h : nI a = nI b) : a = b := (nI_eq ha hb).mp h
theorem in_c {x : Int32} (h : inB x = true) : ∃ c, c < 10 ∧ x = nI c := by
  have h := of_decide_eq_true h
  obtain ⟨j, hj, rfl⟩ := nI_of (Int32.not_lt.mpr h.1)
  exact ⟨j, (nI_ltI hj (by decide)).mp h.2, rfl⟩
theorem in_f {x : Int32} (h : inB x = false) (c : Nat) (hc : c < 10) : ¬ x = nI c := fun e => by
  have h := of_decide_eq_false h
  subst e
  exact h ⟨nI_pos' (by omega), (nI_ltI (by omega) (by decide)).mpr hc⟩
set_option maxHeartbeats 4000000 in
theorem m_B_characterAt (l : Launch) (g : Gd) (hI : sI (sB g)) (M : Me) (x : Int64) {i : Nat} (hi : i < 8) : CB l g y_B_characterAt c_B_characterAt 3 (some .char) 1 [.long x, .int (nI i)] M (fun r M' => r = some (.int (nI (byN x i))) ∧ M = M') := by
  refine Ct.of hI (sB_N0 g) rfl (Nat.le_of_ble_eq_true rfl) (fun K h0 hC hR hkl hn => ?_)
  have hC : Cx (sB g) K gC_B _ := hC
  show V K (wp (sB g)) M 0 [(0, .long x), (2, .int (nI i))] []
  refine v_lload_n h0 d_B_characterAt_0 0 rfl ?_
  refine v_bipush h0 d_B_characterAt_1 (v := nI 8) (by decide) ?_
  refine v_iload_n h0 d_B_characterAt_3 1 rfl ?_
  refine v_imul h0 d_B_characterAt_4 ?_
  refine v_int (nI (8 * i)) (pk_mul 8 i) ?_
  refine v_lushr h0 d_B_characterAt_5 ?_
  refine v_ldc2 h0 hC (v := 255) wd_168 d_B_characterAt_6 ?_
  refine v_land h0 d_B_characterAt_9 ?_
  refine v_long (lN (byN x i)) (by_u x hi) ?_
  refine v_l2i h0 d_B_characterAt_10 ?_
  refine v_i2c h0 d_B_characterAt_11 ?_
  refine v_int (nI (byN x i)) (by_c x i) ?_
  exact v_zret h0 hC hR ((pk_charN (by have := byN_lt x i; omega)).1) d_B_characterAt_12 (⟨rfl, rfl⟩)
set_option maxHeartbeats 4000000 in
theorem m_B_areTypeable (l : Launch) (g : Gd) (hI : sI (sB g)) (M : Me) (x : Int64) {n : Nat} (hn8 : n ≤ 8) : CB l g y_B_areTypeable c_B_areTypeable 5 (some .boolean) 2 [.long x, .int (nI n)] M (fun r M' => r = some (.int (bI (tpB x n))) ∧ M = M') := by
  refine Ct.of hI (sB_N0 g) rfl (Nat.le_of_ble_eq_true rfl) (fun K h0 hC hR hkl hn => ?_)
  have hC : Cx (sB g) K gC_B _ := hC
  show V K (wp (sB g)) M 0 [(0, .long x), (2, .int (nI n))] []
  have loop : ∀ (t i : Nat), i + t = n → tpB x i = true → V K (wp (sB g)) M 2 [(3, .int (nI i)), (0, .long x), (2, .int (nI n))] [] := by
    intro t
    induction t with
    | zero =>
      intro i hi ht
      refine v_iload_n h0 d_B_areTypeable_2 0 rfl ?_
      refine v_iload_n h0 d_B_areTypeable_3 2 rfl ?_
      refine n_icmp_ge h0 (by omega) (by omega) d_B_areTypeable_4 rfl (fun h4 => ?_) (fun h4 => absurd h4 (by omega))
      refine v_iconst h0 d_B_areTypeable_36 (v := nI 1) (by decide) ?_
      exact v_zret h0 hC hR (rfl) d_B_areTypeable_37 (⟨ret_t (by rw [← show i = n by omega]; exact ht), rfl⟩)
    | succ t ih =>
      intro i hi ht
      have hbl := byN_lt x i
      refine v_iload_n h0 d_B_areTypeable_2 0 rfl ?_
      refine v_iload_n h0 d_B_areTypeable_3 2 rfl ?_
      refine n_icmp_ge h0 (by omega) (by omega) d_B_areTypeable_4 rfl (fun h4 => absurd h4 (by omega)) (fun h4 => ?_)
      refine v_lload_n h0 d_B_areTypeable_7 1 rfl ?_
      refine v_iload_n h0 d_B_areTypeable_8 0 rfl ?_
      refine v_callS h0 hC (sB_N0 g) (av := [.long x, .int (nI i)]) (rest := []) (m_B_characterAt (kl K) g hI M x (by omega)) wd_167 wd_165 wd_166 wd_1 hd_B_characterAt (by omega) (by decide) rfl rfl (Nat.le_of_ble_eq_true rfl) d_B_areTypeable_9 (fun r9 M9 hp9 => ?_)
      obtain ⟨rfl, rfl⟩ := hp9
      refine v_r1 ?_
      refine v_istore h0 d_B_areTypeable_12 (lv' := [(4, .int (nI (byN x i))), (3, .int (nI i)), (0, .long x), (2, .int (nI n))]) (lt_kn hn (by decide)) rfl ?_
      refine v_iload h0 d_B_areTypeable_14 0 rfl ?_
      refine v_bipush h0 d_B_areTypeable_16 (v := nI 33) (by decide) ?_
      refine n_icmp_lt h0 (by omega) (by omega) d_B_areTypeable_18 rfl (fun h18 => ?_) (fun h18 => ?_)
      · skip
        refine v_iconst h0 d_B_areTypeable_28 (v := nI 0) (by decide) ?_
        exact v_zret h0 hC hR (rfl) d_B_areTypeable_29 (⟨ret_f (tpB_no (i := i) (by omega) (by omega)), rfl⟩)
      · skip
        refine v_iload h0 d_B_areTypeable_21 0 rfl ?_
        refine v_bipush h0 d_B_areTypeable_23 (v := nI 126) (by decide) ?_
        refine n_icmp_le h0 (by omega) (by omega) d_B_areTypeable_25 rfl (fun h25 => ?_) (fun h25 => ?_)
        · skip
          refine v_iinc h0 d_B_areTypeable_30 (lv' := [(3, .int (nI (i + 1))), (4, .int (nI (byN x i))), (0, .long x), (2, .int (nI n))]) 1 rfl (inc1 i) (lt_kn hn (by decide)) rfl ?_
          refine v_goto h0 d_B_areTypeable_33 rfl ?_
          refine v_sub [0, 2, 3] rfl ?_
          exact ih (i + 1) (by omega) (by simp only [tpB, ht, Bool.true_and]; exact decide_eq_true (by omega))
        · skip
          refine v_iconst h0 d_B_areTypeable_28 (v := nI 0) (by decide) ?_
          exact v_zret h0 hC hR (rfl) d_B_areTypeable_29 (⟨ret_f (tpB_no (i := i) (by omega) (by omega)), rfl⟩)
  refine v_iconst h0 d_B_areTypeable_0 (v := nI 0) (by decide) ?_
  refine v_istore_n h0 d_B_areTypeable_1 (lv' := [(3, .int (nI 0)), (0, .long x), (2, .int (nI n))]) (lt_kn hn (by decide)) rfl ?_
  exact loop n 0 (by omega) rfl
set_option maxHeartbeats 4000000 in
theorem m_B_type (l : Launch) (g : Gd) (hI : sI (sB g)) (M : Me) (x : Int64) (y : Int32) {L : Nat} (hL : M 0 5 = nI L) (hL24 : L ≤ 24) : CB l g y_B_type c_B_type 5 (some .int) 3 [.ref (ga g 0), .long x, .int y] M (TyP M x y L) := by
  refine Ct.of hI (sB_N0 g) rfl (Nat.le_of_ble_eq_true rfl) (fun K h0 hC hR hkl hn => ?_)
  have hC : Cx (sB g) K gC_B _ := hC
  show V K (wp (sB g)) M 0 [(0, .ref (ga g 0)), (1, .long x), (3, .int y)] []
  have loop : ∀ (m : Nat), tyC x y L m → ∀ (t i : Nat), i + t = m → V K (wp (sB g)) (upR M 5 (tyR (M 5) x L i)) 35 [(4, .int (nI i)), (0, .ref (ga g 0)), (1, .long x), (3, .int (nI m))] [] := by
    intro m hm t
    obtain ⟨hm1, hm8, hym, hLm, htp⟩ := id hm
    induction t with
    | zero =>
      intro i hi
      obtain rfl : i = m := by omega
      refine v_iload h0 d_B_type_35 0 rfl ?_
      refine v_iload_n h0 d_B_type_37 3 rfl ?_
      refine n_icmp_ge h0 (by omega) (by omega) d_B_type_38 rfl (fun h38 => ?_) (fun h38 => absurd h38 (by omega))
      refine v_aload_n h0 d_B_type_65 1 rfl ?_
      refine v_dup h0 d_B_type_66 rfl ?_
      refine g_B_typedLength h0 hC wd_144 d_B_type_67 ?_
      refine v_int (nI L) (by rw [upR_n _ _ (by omega)]; exact hL) ?_
      refine v_iload_n h0 d_B_type_70 3 rfl ?_
      refine v_iadd h0 d_B_type_71 ?_
      refine v_int (nI (L + i)) (nI_add L i) ?_
      refine p_B_typedLength h0 hC wd_144 d_B_type_72 ?_
      refine v_aload_n h0 d_B_type_75 1 rfl ?_
      refine g_B_typedLength h0 hC wd_144 d_B_type_76 ?_
      exact v_iret h0 hC hR d_B_type_79 (Or.inl ⟨i, hm, by rw [up2_s], rfl⟩)
    | succ t ih =>
      intro i hi
      have hbl := byN_lt x i
      refine v_iload h0 d_B_type_35 0 rfl ?_
      refine v_iload_n h0 d_B_type_37 3 rfl ?_
      refine n_icmp_ge h0 (by omega) (by omega) d_B_type_38 rfl (fun h38 => absurd h38 (by omega)) (fun h38 => ?_)
      refine v_aload_n h0 d_B_type_41 1 rfl ?_
      refine g_B_typed h0 hC wd_143 d_B_type_42 ?_
      refine v_aload_n h0 d_B_type_45 1 rfl ?_
      refine g_B_typedLength h0 hC wd_144 d_B_type_46 ?_
      refine v_int (nI L) (by rw [upR_n _ _ (by omega)]; exact hL) ?_
      refine v_iload h0 d_B_type_49 0 rfl ?_
      refine v_iadd h0 d_B_type_51 ?_
      refine v_int (nI (L + i)) (nI_add L i) ?_
      refine v_lload_n h0 d_B_type_52 2 rfl ?_
      refine v_iload h0 d_B_type_53 0 rfl ?_
      refine v_callS h0 hC (sB_N0 g) (av := [.long x, .int (nI i)]) (rest := [.int (nI (L + i)), .ref (ga g 5)]) (m_B_characterAt (kl K) g hI (upR M 5 (tyR (M 5) x L i)) x (by omega)) wd_167 wd_165 wd_166 wd_1 hd_B_characterAt (by omega) (by decide) rfl rfl (Nat.le_of_ble_eq_true rfl) d_B_type_55 (fun r9 M9 hp9 => ?_)
      obtain ⟨rfl, rfl⟩ := hp9
      refine v_r1 ?_
      refine s_B_typed h0 hC (L + i) (rfl) (z := nI (byN x i)) (Value.int.inj (pk_charN (by omega)).1) (by omega) d_B_type_58 ?_
      refine v_iinc h0 d_B_type_59 (lv' := [(4, .int (nI (i + 1))), (0, .ref (ga g 0)), (1, .long x), (3, .int (nI m))]) 0 rfl (inc1 i) (lt_kn hn (by decide)) rfl ?_
      refine v_goto h0 d_B_type_62 rfl ?_
      refine v_eq (ih (i + 1) (by omega)) (by rw [up2_upR, tyR_s]) rfl rfl rfl
  refine v_iload_n h0 d_B_type_0 2 rfl ?_
  refine v_iconst h0 d_B_type_1 (v := nI 1) (by decide) ?_
  refine v_icmp_lt h0 d_B_type_2 rfl (fun h2 => ?_) (fun h2 => ?_)
  · skip
    have hno : ∀ m, ¬ tyC x y L m := fun m q => absurd h2 (by rw [q.2.2.1]; exact nI_nlt q.1 (by have := q.2.1; omega))
    refine v_iconst h0 d_B_type_30 (v := -1) (by decide) ?_
    exact v_iret h0 hC hR d_B_type_31 (Or.inr ⟨hno, rfl, rfl⟩)
  · skip
    refine v_iload_n h0 d_B_type_5 2 rfl ?_
    refine v_bipush h0 d_B_type_6 (v := nI 8) (by decide) ?_
    refine v_icmp_gt h0 d_B_type_8 rfl (fun h8 => ?_) (fun h8 => ?_)
    · skip
      have hno : ∀ m, ¬ tyC x y L m := fun m q => absurd h8 (by rw [q.2.2.1]; exact nI_nlt q.2.1 (by decide))
      refine v_iconst h0 d_B_type_30 (v := -1) (by decide) ?_
      exact v_iret h0 hC hR d_B_type_31 (Or.inr ⟨hno, rfl, rfl⟩)
    · skip
      obtain ⟨m, hm8, rfl⟩ := nI_of2 (M := nI 8) (n := 8) (by decide) (fun q => h2 (Int32.lt_trans q (by decide))) (i_nlt h8)
      have hm1 : 1 ≤ m := (nI_leI (by decide) (by omega)).mp (i_nlt h2)
      refine v_aload_n h0 d_B_type_11 0 rfl ?_
      refine g_B_typedLength h0 hC wd_144 d_B_type_12 ?_
      refine v_int (nI L) (hL) ?_
      refine v_iload_n h0 d_B_type_15 2 rfl ?_
      refine v_iadd h0 d_B_type_16 ?_
      refine v_int (nI (L + m)) (nI_add L m) ?_
      refine v_bipush h0 d_B_type_17 (v := nI 24) (by decide) ?_
      refine n_icmp_gt h0 (by omega) (by omega) d_B_type_19 rfl (fun h19 => ?_) (fun h19 => ?_)
      · skip
        have hno : ∀ q, ¬ tyC x (nI m) L q := fun q w => by have e := nI_inj (by omega) (by have := w.2.1; omega) w.2.2.1; subst e; have := w.2.2.2.1; omega
        refine v_iconst h0 d_B_type_30 (v := -1) (by decide) ?_
        exact v_iret h0 hC hR d_B_type_31 (Or.inr ⟨hno, rfl, rfl⟩)
      · skip
        refine v_lload_n h0 d_B_type_22 1 rfl ?_
        refine v_iload_n h0 d_B_type_23 2 rfl ?_
        refine v_callS h0 hC (sB_N0 g) (av := [.long x, .int (nI m)]) (rest := []) (m_B_areTypeable (kl K) g hI M x hm8) wd_164 wd_162 wd_163 wd_1 hd_B_areTypeable (by omega) (by decide) rfl rfl (Nat.le_of_ble_eq_true rfl) d_B_type_24 (fun r9 M9 hp9 => ?_)
        obtain ⟨rfl, rfl⟩ := hp9
        refine v_r1 ?_
        refine b_if_ne h0 d_B_type_27 rfl (fun h27 => ?_) (fun h27 => ?_)
        · skip
          refine v_iconst h0 d_B_type_32 (v := nI 0) (by decide) ?_
          refine v_istore h0 d_B_type_33 (lv' := [(4, .int (nI 0)), (0, .ref (ga g 0)), (1, .long x), (3, .int (nI m))]) (lt_kn hn (by decide)) rfl ?_
          refine v_eq (loop m ⟨hm1, hm8, rfl, h19, h27⟩ m 0 (by omega)) (by rw [tyR_0, upR_id M 5 _ rfl]) rfl rfl rfl
        · skip
          have hno : ∀ q, ¬ tyC x (nI m) L q := fun q w => by have e := nI_inj (by omega) (by have := w.2.1; omega) w.2.2.1; subst e; have := w.2.2.2.2; rw [h27] at this; cases this
          refine v_iconst h0 d_B_type_30 (v := -1) (by decide) ?_
          exact v_iret h0 hC hR d_B_type_31 (Or.inr ⟨hno, rfl, rfl⟩)
set_option maxHeartbeats 4000000 in
theorem m_B_status (l : Launch) (g : Gd) (hI : sI (sB g)) (M : Me) (x : Int32) : CB l g y_B_status c_B_status 2 (some .int) 3 [.ref (ga g 0), .int x] M (fun r M' => M = M' ∧ ((inB x = false ∧ r = some (.int 0)) ∨ ∃ c, c < 10 ∧ x = nI c ∧ r = some (.int (shI M c)))) := by
  refine Ct.of hI (sB_N0 g) rfl (Nat.le_of_ble_eq_true rfl) (fun K h0 hC hR hkl hn => ?_)
  have hC : Cx (sB g) K gC_B _ := hC
  show V K (wp (sB g)) M 0 [(0, .ref (ga g 0)), (1, .int x)] []
  refine v_iload_n h0 d_B_status_0 1 rfl ?_
  refine v_callS h0 hC (sB_N0 g) (av := [.int x]) (rest := []) (m_B_isCell (kl K) g hI M x) wd_175 wd_173 wd_174 wd_1 hd_B_isCell (by omega) (by decide) rfl rfl (Nat.le_of_ble_eq_true rfl) d_B_status_1 (fun r9 M9 hp9 => ?_)
  obtain ⟨rfl, rfl⟩ := hp9
  refine v_r1 ?_
  refine b_if_eq h0 d_B_status_4 rfl (fun h4 => ?_) (fun h4 => ?_)
  · skip
    refine v_iconst h0 d_B_status_19 (v := nI 0) (by decide) ?_
    exact v_iret h0 hC hR d_B_status_20 (⟨rfl, Or.inl ⟨h4, rfl⟩⟩)
  · skip
    obtain ⟨c, hc, rfl⟩ := in_c h4
    refine v_aload_n h0 d_B_status_7 0 rfl ?_
    refine g_B_cells h0 hC wd_139 d_B_status_8 ?_
    refine v_iload_n h0 d_B_status_11 1 rfl ?_
    refine a_B_cells h0 hC c (rfl) (by omega) d_B_status_12 ?_
    refine v_callV h0 hC (sB_N0 g) (7 + c) (show (7 + c) < 59 by omega) (eB_Ce g (by omega) _) rfl (av := []) (rest := []) (m_Ce_shown (kl K) g hI M (by omega)) wd_323 wd_417 wd_321 wd_322 wd_2 hd_Ce_shown (by omega) (by decide) rfl rfl (Nat.le_of_ble_eq_true rfl) d_B_status_13 (fun r9 M9 hp9 => ?_)
    obtain ⟨rfl, rfl⟩ := hp9
    refine v_r1 ?_
    refine v_goto h0 d_B_status_16 rfl ?_
    exact v_iret h0 hC hR d_B_status_20 (⟨rfl, Or.inr ⟨c, hc, rfl, rfl⟩⟩)
set_option maxHeartbeats 4000000 in
theorem m_B_value (l : Launch) (g : Gd) (hI : sI (sB g)) (M : Me) (x : Int32) : CB l g y_B_value c_B_value 2 (some .int) 3 [.ref (ga g 0), .int x] M (fun r M' => M = M' ∧ ((inB x = false ∧ r = some (.int 0)) ∨ ∃ c, c < 10 ∧ x = nI c ∧ r = some (.int (if shI M c = 14 then M (7 + c) 5 else 0)))) := by
  refine Ct.of hI (sB_N0 g) rfl (Nat.le_of_ble_eq_true rfl) (fun K h0 hC hR hkl hn => ?_)
  have hC : Cx (sB g) K gC_B _ := hC
  show V K (wp (sB g)) M 0 [(0, .ref (ga g 0)), (1, .int x)] []
  refine v_iload_n h0 d_B_value_0 1 rfl ?_
  refine v_callS h0 hC (sB_N0 g) (av := [.int x]) (rest := []) (m_B_isCell (kl K) g hI M x) wd_175 wd_173 wd_174 wd_1 hd_B_isCell (by omega) (by decide) rfl rfl (Nat.le_of_ble_eq_true rfl) d_B_value_1 (fun r9 M9 hp9 => ?_)
  obtain ⟨rfl, rfl⟩ := hp9
  refine v_r1 ?_
  refine b_if_eq h0 d_B_value_4 rfl (fun h4 => ?_) (fun h4 => ?_)
  · skip
    refine v_iconst h0 d_B_value_33 (v := nI 0) (by decide) ?_
    exact v_iret h0 hC hR d_B_value_34 (⟨rfl, Or.inl ⟨h4, rfl⟩⟩)
  · skip
    obtain ⟨c, hc, rfl⟩ := in_c h4
    refine v_aload_n h0 d_B_value_7 0 rfl ?_
    refine g_B_cells h0 hC wd_139 d_B_value_8 ?_
    refine v_iload_n h0 d_B_value_11 1 rfl ?_
    refine a_B_cells h0 hC c (rfl) (by omega) d_B_value_12 ?_
    refine v_callV h0 hC (sB_N0 g) (7 + c) (show (7 + c) < 59 by omega) (eB_Ce g (by omega) _) rfl (av := []) (rest := []) (m_Ce_shown (kl K) g hI M (by omega)) wd_323 wd_417 wd_321 wd_322 wd_2 hd_Ce_shown (by omega) (by decide) rfl rfl (Nat.le_of_ble_eq_true rfl) d_B_value_13 (fun r9 M9 hp9 => ?_)
    obtain ⟨rfl, rfl⟩ := hp9
    refine v_r1 ?_
    refine v_bipush h0 d_B_value_16 (v := 14) (by decide) ?_
    refine v_icmp_ne h0 d_B_value_18 rfl (fun h18 => ?_) (fun h18 => ?_)
    · skip
      refine v_iconst h0 d_B_value_33 (v := nI 0) (by decide) ?_
      exact v_iret h0 hC hR d_B_value_34 (⟨rfl, Or.inr ⟨c, hc, rfl, by rw [if_neg h18]; rfl⟩⟩)
    · skip
      refine v_aload_n h0 d_B_value_21 0 rfl ?_
      refine g_B_cells h0 hC wd_139 d_B_value_22 ?_
      refine v_iload_n h0 d_B_value_25 1 rfl ?_
      refine a_B_cells h0 hC c (rfl) (by omega) d_B_value_26 ?_
      refine gN_Ce_amount h0 hC (by omega) wn_13 d_B_value_27 ?_
      refine v_goto h0 d_B_value_30 rfl ?_
      exact v_iret h0 hC hR d_B_value_34 (⟨rfl, Or.inr ⟨c, hc, rfl, by rw [if_pos h18]⟩⟩)
set_option maxHeartbeats 4000000 in
theorem m_B_kind (l : Launch) (g : Gd) (hI : sI (sB g)) (M : Me) (x : Int32) : CB l g y_B_kind c_B_kind 2 (some .int) 3 [.ref (ga g 0), .int x] M (fun r M' => M = M' ∧ ((inB x = false ∧ r = some (.int 0)) ∨ ∃ c, c < 10 ∧ x = nI c ∧ r = some (.int (if shI M c = 14 then M (7 + c) 6 else 0)))) := by
  refine Ct.of hI (sB_N0 g) rfl (Nat.le_of_ble_eq_true rfl) (fun K h0 hC hR hkl hn => ?_)
  have hC : Cx (sB g) K gC_B _ := hC
  show V K (wp (sB g)) M 0 [(0, .ref (ga g 0)), (1, .int x)] []
  refine v_iload_n h0 d_B_kind_0 1 rfl ?_
  refine v_callS h0 hC (sB_N0 g) (av := [.int x]) (rest := []) (m_B_isCell (kl K) g hI M x) wd_175 wd_173 wd_174 wd_1 hd_B_isCell (by omega) (by decide) rfl rfl (Nat.le_of_ble_eq_true rfl) d_B_kind_1 (fun r9 M9 hp9 => ?_)
  obtain ⟨rfl, rfl⟩ := hp9
  refine v_r1 ?_
  refine b_if_eq h0 d_B_kind_4 rfl (fun h4 => ?_) (fun h4 => ?_)
  · skip
    refine v_iconst h0 d_B_kind_33 (v := nI 0) (by decide) ?_
    exact v_iret h0 hC hR d_B_kind_34 (⟨rfl, Or.inl ⟨h4, rfl⟩⟩)
  · skip
    obtain ⟨c, hc, rfl⟩ := in_c h4
    refine v_aload_n h0 d_B_kind_7 0 rfl ?_
    refine g_B_cells h0 hC wd_139 d_B_kind_8 ?_
    refine v_iload_n h0 d_B_kind_11 1 rfl ?_
    refine a_B_cells h0 hC c (rfl) (by omega) d_B_kind_12 ?_
    refine v_callV h0 hC (sB_N0 g) (7 + c) (show (7 + c) < 59 by omega) (eB_Ce g (by omega) _) rfl (av := []) (rest := []) (m_Ce_shown (kl K) g hI M (by omega)) wd_323 wd_417 wd_321 wd_322 wd_2 hd_Ce_shown (by omega) (by decide) rfl rfl (Nat.le_of_ble_eq_true rfl) d_B_kind_13 (fun r9 M9 hp9 => ?_)
    obtain ⟨rfl, rfl⟩ := hp9
    refine v_r1 ?_
    refine v_bipush h0 d_B_kind_16 (v := 14) (by decide) ?_
    refine v_icmp_ne h0 d_B_kind_18 rfl (fun h18 => ?_) (fun h18 => ?_)
    · skip
      refine v_iconst h0 d_B_kind_33 (v := nI 0) (by decide) ?_
      exact v_iret h0 hC hR d_B_kind_34 (⟨rfl, Or.inr ⟨c, hc, rfl, by rw [if_neg h18]; rfl⟩⟩)
    · skip
      refine v_aload_n h0 d_B_kind_21 0 rfl ?_
      refine g_B_cells h0 hC wd_139 d_B_kind_22 ?_
      refine v_iload_n h0 d_B_kind_25 1 rfl ?_
      refine a_B_cells h0 hC c (rfl) (by omega) d_B_kind_26 ?_
      refine gN_Ce_sort h0 hC (by omega) wn_15 d_B_kind_27 ?_
      refine v_goto h0 d_B_kind_30 rfl ?_
      exact v_iret h0 hC hR d_B_kind_34 (⟨rfl, Or.inr ⟨c, hc, rfl, by rw [if_pos h18]⟩⟩)
set_option maxHeartbeats 4000000 in
theorem m_B_uses (l : Launch) (g : Gd) (hI : sI (sB g)) (M : Me) (x : Int32) : CB l g y_B_uses c_B_uses 2 (some .int) 2 [.ref (ga g 0), .int x] M (fun r M' => M = M' ∧ ((inB x = false ∧ r = some (.int 0)) ∨ ∃ c, c < 10 ∧ x = nI c ∧ r = some (.int (M (17 + c) 5)))) := by
  refine Ct.of hI (sB_N0 g) rfl (Nat.le_of_ble_eq_true rfl) (fun K h0 hC hR hkl hn => ?_)
  have hC : Cx (sB g) K gC_B _ := hC
  show V K (wp (sB g)) M 0 [(0, .ref (ga g 0)), (1, .int x)] []
  refine v_iload_n h0 d_B_uses_0 1 rfl ?_
  refine v_callS h0 hC (sB_N0 g) (av := [.int x]) (rest := []) (m_B_isCell (kl K) g hI M x) wd_175 wd_173 wd_174 wd_1 hd_B_isCell (by omega) (by decide) rfl rfl (Nat.le_of_ble_eq_true rfl) d_B_uses_1 (fun r9 M9 hp9 => ?_)
  obtain ⟨rfl, rfl⟩ := hp9
  refine v_r1 ?_
  refine b_if_eq h0 d_B_uses_4 rfl (fun h4 => ?_) (fun h4 => ?_)
  · skip
    refine v_iconst h0 d_B_uses_22 (v := nI 0) (by decide) ?_
    exact v_iret h0 hC hR d_B_uses_23 (⟨rfl, Or.inl ⟨h4, rfl⟩⟩)
  · skip
    obtain ⟨c, hc, rfl⟩ := in_c h4
    refine v_aload_n h0 d_B_uses_7 0 rfl ?_
    refine g_B_cells h0 hC wd_139 d_B_uses_8 ?_
    refine v_iload_n h0 d_B_uses_11 1 rfl ?_
    refine a_B_cells h0 hC c (rfl) (by omega) d_B_uses_12 ?_
    refine gN_Ce_text h0 hC (by omega) wn_5 d_B_uses_13 ?_
    refine gN_Te_names h0 hC (by omega) wn_3 d_B_uses_16 ?_
    refine v_goto h0 d_B_uses_19 rfl ?_
    exact v_iret h0 hC hR d_B_uses_23 (⟨rfl, Or.inr ⟨c, hc, rfl, rfl⟩⟩)
set_option maxHeartbeats 4000000 in
theorem m_B_runs (l : Launch) (g : Gd) (hI : sI (sB g)) (M : Me) (x : Int32) : CB l g y_B_runs c_B_runs 2 (some .int) 2 [.ref (ga g 0), .int x] M (fun r M' => M = M' ∧ ((inB x = false ∧ r = some (.int 0)) ∨ ∃ c, c < 10 ∧ x = nI c ∧ r = some (.int (M (7 + c) 7)))) := by
  refine Ct.of hI (sB_N0 g) rfl (Nat.le_of_ble_eq_true rfl) (fun K h0 hC hR hkl hn => ?_)
  have hC : Cx (sB g) K gC_B _ := hC
  show V K (wp (sB g)) M 0 [(0, .ref (ga g 0)), (1, .int x)] []
  refine v_iload_n h0 d_B_runs_0 1 rfl ?_
  refine v_callS h0 hC (sB_N0 g) (av := [.int x]) (rest := []) (m_B_isCell (kl K) g hI M x) wd_175 wd_173 wd_174 wd_1 hd_B_isCell (by omega) (by decide) rfl rfl (Nat.le_of_ble_eq_true rfl) d_B_runs_1 (fun r9 M9 hp9 => ?_)
  obtain ⟨rfl, rfl⟩ := hp9
  refine v_r1 ?_
  refine b_if_eq h0 d_B_runs_4 rfl (fun h4 => ?_) (fun h4 => ?_)
  · skip
    refine v_iconst h0 d_B_runs_19 (v := nI 0) (by decide) ?_
    exact v_iret h0 hC hR d_B_runs_20 (⟨rfl, Or.inl ⟨h4, rfl⟩⟩)
  · skip
    obtain ⟨c, hc, rfl⟩ := in_c h4
    refine v_aload_n h0 d_B_runs_7 0 rfl ?_
    refine g_B_cells h0 hC wd_139 d_B_runs_8 ?_
    refine v_iload_n h0 d_B_runs_11 1 rfl ?_
    refine a_B_cells h0 hC c (rfl) (by omega) d_B_runs_12 ?_
    refine gN_Ce_runCount h0 hC (by omega) wn_18 d_B_runs_13 ?_
    refine v_goto h0 d_B_runs_16 rfl ?_
    exact v_iret h0 hC hR d_B_runs_20 (⟨rfl, Or.inr ⟨c, hc, rfl, rfl⟩⟩)
set_option maxHeartbeats 4000000 in
theorem m_B_steps (l : Launch) (g : Gd) (hI : sI (sB g)) (M : Me)  : CB l g y_B_steps c_B_steps 1 (some .int) 1 [.ref (ga g 0)] M (fun r M' => r = some (.int (M 4 3)) ∧ M = M') := by
  refine Ct.of hI (sB_N0 g) rfl (Nat.le_of_ble_eq_true rfl) (fun K h0 hC hR hkl hn => ?_)
  have hC : Cx (sB g) K gC_B _ := hC
  show V K (wp (sB g)) M 0 [(0, .ref (ga g 0))] []
  refine v_aload_n h0 d_B_steps_0 0 rfl ?_
  refine g_B_evaluator h0 hC wd_142 d_B_steps_1 ?_
  refine gN_Ev_stepsInAll h0 hC wn_22 d_B_steps_4 ?_
  exact v_iret h0 hC hR d_B_steps_7 (⟨rfl, rfl⟩)
set_option maxHeartbeats 4000000 in
theorem m_B_cancel (l : Launch) (g : Gd) (hI : sI (sB g)) (M : Me) (x : Int32) : CB l g y_B_cancel c_B_cancel 2 (some .boolean) 3 [.ref (ga g 0), .int x] M (fun r M' => (r = some (.int 0) ∧ M = M' ∧ (inB x = false ∨ ∃ c, c < 10 ∧ x = nI c ∧ ¬ shI M c = 12)) ∨ ∃ c, c < 10 ∧ x = nI c ∧ shI M c = 12 ∧ r = some (.int 1) ∧ M' = up2 (up2 M (7 + c) 3 0) (7 + c) 4 11) := by
  refine Ct.of hI (sB_N0 g) rfl (Nat.le_of_ble_eq_true rfl) (fun K h0 hC hR hkl hn => ?_)
  have hC : Cx (sB g) K gC_B _ := hC
  show V K (wp (sB g)) M 0 [(0, .ref (ga g 0)), (1, .int x)] []
  refine v_iload_n h0 d_B_cancel_0 1 rfl ?_
  refine v_callS h0 hC (sB_N0 g) (av := [.int x]) (rest := []) (m_B_isCell (kl K) g hI M x) wd_175 wd_173 wd_174 wd_1 hd_B_isCell (by omega) (by decide) rfl rfl (Nat.le_of_ble_eq_true rfl) d_B_cancel_1 (fun r9 M9 hp9 => ?_)
  obtain ⟨rfl, rfl⟩ := hp9
  refine v_r1 ?_
  refine b_if_eq h0 d_B_cancel_4 rfl (fun h4 => ?_) (fun h4 => ?_)
  · skip
    refine v_iconst h0 d_B_cancel_21 (v := nI 0) (by decide) ?_
    exact v_zret h0 hC hR (rfl) d_B_cancel_22 (Or.inl ⟨rfl, rfl, Or.inl h4⟩)
  · skip
    obtain ⟨c, hc, rfl⟩ := in_c h4
    refine v_aload_n h0 d_B_cancel_7 0 rfl ?_
    refine g_B_cells h0 hC wd_139 d_B_cancel_8 ?_
    refine v_iload_n h0 d_B_cancel_11 1 rfl ?_
    refine a_B_cells h0 hC c (rfl) (by omega) d_B_cancel_12 ?_
    refine v_callV h0 hC (sB_N0 g) (7 + c) (show (7 + c) < 59 by omega) (eB_Ce g (by omega) _) rfl (av := []) (rest := []) (m_Ce_shown (kl K) g hI M (by omega)) wd_323 wd_417 wd_321 wd_322 wd_2 hd_Ce_shown (by omega) (by decide) rfl rfl (Nat.le_of_ble_eq_true rfl) d_B_cancel_13 (fun r9 M9 hp9 => ?_)
    obtain ⟨rfl, rfl⟩ := hp9
    refine v_r1 ?_
    refine v_bipush h0 d_B_cancel_16 (v := 12) (by decide) ?_
    refine v_icmp_eq h0 d_B_cancel_18 rfl (fun h18 => ?_) (fun h18 => ?_)
    · skip
      refine v_aload_n h0 d_B_cancel_23 0 rfl ?_
      refine g_B_cells h0 hC wd_139 d_B_cancel_24 ?_
      refine v_iload_n h0 d_B_cancel_27 1 rfl ?_
      refine a_B_cells h0 hC c (rfl) (by omega) d_B_cancel_28 ?_
      refine v_iconst h0 d_B_cancel_29 (v := 0) (by decide) ?_
      refine pN_Ce_stale h0 hC (by omega) (Or.inl rfl) wn_9 d_B_cancel_30 ?_
      refine v_aload_n h0 d_B_cancel_33 0 rfl ?_
      refine g_B_cells h0 hC wd_139 d_B_cancel_34 ?_
      refine v_iload_n h0 d_B_cancel_37 1 rfl ?_
      refine a_B_cells h0 hC c (rfl) (by omega) d_B_cancel_38 ?_
      refine v_bipush h0 d_B_cancel_39 (v := 11) (by decide) ?_
      refine pN_Ce_result h0 hC (by omega) wn_11 d_B_cancel_41 ?_
      refine v_iconst h0 d_B_cancel_44 (v := nI 1) (by decide) ?_
      exact v_zret h0 hC hR (rfl) d_B_cancel_45 (Or.inr ⟨c, hc, rfl, h18, rfl, rfl⟩)
    · skip
      refine v_iconst h0 d_B_cancel_21 (v := nI 0) (by decide) ?_
      exact v_zret h0 hC hR (rfl) d_B_cancel_22 (Or.inl ⟨rfl, rfl, Or.inr ⟨c, hc, rfl, h18⟩⟩)
set_option maxHeartbeats 4000000 in
theorem m_Te_clear (l : Launch) (g : Gd) (hI : sI (sB g)) (M : Me) {c : Nat} (hc : c < 10) : CB l g y_Te_clear c_Te_clear 1 none 1 [.ref (ga g (17 + c))] M (fun r M' => r = none ∧ M' = up2 (up2 (up2 M (17 + c) 2 0) (17 + c) 4 0) (17 + c) 5 0) := by
  refine Ct.of hI (sB_N0 g) rfl (Nat.le_of_ble_eq_true rfl) (fun K h0 hC hR hkl hn => ?_)
  have hC : Cx (sB g) K gC_Te _ := hC
  show V K (wp (sB g)) M 0 [(0, .ref (ga g (17 + c)))] []
  refine v_aload_n h0 d_Te_clear_0 0 rfl ?_
  refine v_iconst h0 d_Te_clear_1 (v := 0) (by decide) ?_
  refine p_Te_length h0 hC (by omega) wd_33 d_Te_clear_2 ?_
  refine v_aload_n h0 d_Te_clear_5 0 rfl ?_
  refine v_iconst h0 d_Te_clear_6 (v := 0) (by decide) ?_
  refine p_Te_wellFormed h0 hC (by omega) (Or.inl rfl) wd_37 d_Te_clear_7 ?_
  refine v_aload_n h0 d_Te_clear_10 0 rfl ?_
  refine v_iconst h0 d_Te_clear_11 (v := 0) (by decide) ?_
  refine p_Te_names h0 hC (by omega) wd_39 d_Te_clear_12 ?_
  exact v_vret h0 hC hR d_Te_clear_15 (⟨rfl, rfl⟩)
set_option maxHeartbeats 4000000 in
theorem m_Ce_clear (l : Launch) (g : Gd) (hI : sI (sB g)) (M : Me) {c : Nat} (hc : c < 10) : CB l g y_Ce_clear c_Ce_clear 1 none 2 [.ref (ga g (7 + c))] M (fun r M' => r = none ∧ M' = up2 (up2 (up2 (up2 (up2 M (7 + c) 1 (-1)) (7 + c) 3 0) (17 + c) 2 0) (17 + c) 4 0) (17 + c) 5 0) := by
  refine Ct.of hI (sB_N0 g) rfl (Nat.le_of_ble_eq_true rfl) (fun K h0 hC hR hkl hn => ?_)
  have hC : Cx (sB g) K gC_Ce _ := hC
  show V K (wp (sB g)) M 0 [(0, .ref (ga g (7 + c)))] []
  refine v_aload_n h0 d_Ce_clear_0 0 rfl ?_
  refine v_iconst h0 d_Ce_clear_1 (v := -1) (by decide) ?_
  refine p_Ce_name h0 hC (by omega) wd_60 d_Ce_clear_2 ?_
  refine v_aload_n h0 d_Ce_clear_5 0 rfl ?_
  refine v_iconst h0 d_Ce_clear_6 (v := 0) (by decide) ?_
  refine p_Ce_stale h0 hC (by omega) (Or.inl rfl) wd_64 d_Ce_clear_7 ?_
  refine v_aload_n h0 d_Ce_clear_10 0 rfl ?_
  refine g_Ce_text h0 hC (by omega) wd_56 d_Ce_clear_11 ?_
  refine v_callV h0 hC (sB_N0 g) (17 + c) (show (17 + c) < 59 by omega) (eB_Te g (by omega) _) rfl (av := []) (rest := []) (m_Te_clear (kl K) g hI _ hc) wd_295 wd_292 wd_293 wd_294 wd_3 hd_Te_clear (by omega) (by decide) rfl rfl (Nat.le_of_ble_eq_true rfl) d_Ce_clear_14 (fun r9 M9 hp9 => ?_)
  obtain ⟨rfl, rfl⟩ := hp9
  refine v_r0 ?_
  exact v_vret h0 hC hR d_Ce_clear_17 (⟨rfl, rfl⟩)
def clM (M : Me) (c : Nat) : Me := up2 (up2 (up2 (up2 (up2 M (7 + c) 1 (-1)) (7 + c) 3 0) (17 + c) 2 0) (17 + c) 4 0) (17 + c) 5 0
theorem clM_nm {M : Me} (hN : NMo M) {c : Nat} (hc : c < 10) : NMo (clM M c) := by
  intro d hd
  by_cases e : d = c
  · subst e
    left
    unfold clM
    rw [up2_r _ _ _ (by omega), up2_r _ _ _ (by omega), up2_r _ _ _ (by omega), up2_n _ _ (by omega), up2_s]
  · have : clM M c (7 + d) 1 = M (7 + d) 1 := by
      unfold clM
      rw [up2_r _ _ _ (by omega), up2_r _ _ _ (by omega), up2_r _ _ _ (by omega), up2_r _ _ _ (by omega), up2_r _ _ _ (by omega)]
    rw [this]; exact hN d hd
set_option maxHeartbeats 4000000 in
theorem m_B_remove (l : Launch) (g : Gd) (hI : sI (sB g)) (M : Me) (x : Int32) (hN : NMo M) : CB l g y_B_remove c_B_remove 3 (some .boolean) 7 [.ref (ga g 0), .int x] M (fun r M' => (r = some (.int 0) ∧ M = M' ∧ (inB x = false ∨ ∃ c, c < 10 ∧ x = nI c ∧ M (7 + c) 1 = -1)) ∨ ∃ c, c < 10 ∧ x = nI c ∧ ¬ M (7 + c) 1 = -1 ∧ r = some (.int 1) ∧ FoP (clM M c) (nbI (M (7 + c) 1)) none M') := by
  refine Ct.of hI (sB_N0 g) rfl (Nat.le_of_ble_eq_true rfl) (fun K h0 hC hR hkl hn => ?_)
  have hC : Cx (sB g) K gC_B _ := hC
  show V K (wp (sB g)) M 0 [(0, .ref (ga g 0)), (1, .int x)] []
  refine v_iload_n h0 d_B_remove_0 1 rfl ?_
  refine v_callS h0 hC (sB_N0 g) (av := [.int x]) (rest := []) (m_B_isCell (kl K) g hI M x) wd_175 wd_173 wd_174 wd_1 hd_B_isCell (by omega) (by decide) rfl rfl (Nat.le_of_ble_eq_true rfl) d_B_remove_1 (fun r9 M9 hp9 => ?_)
  obtain ⟨rfl, rfl⟩ := hp9
  refine v_r1 ?_
  refine b_if_eq h0 d_B_remove_4 rfl (fun h4 => ?_) (fun h4 => ?_)
  · skip
    refine v_iconst h0 d_B_remove_19 (v := nI 0) (by decide) ?_
    exact v_zret h0 hC hR (rfl) d_B_remove_20 (Or.inl ⟨rfl, rfl, Or.inl h4⟩)
  · skip
    obtain ⟨c, hc, rfl⟩ := in_c h4
    refine v_aload_n h0 d_B_remove_7 0 rfl ?_
    refine g_B_cells h0 hC wd_139 d_B_remove_8 ?_
    refine v_iload_n h0 d_B_remove_11 1 rfl ?_
    refine a_B_cells h0 hC c (rfl) (by omega) d_B_remove_12 ?_
    refine v_callV h0 hC (sB_N0 g) (7 + c) (show (7 + c) < 59 by omega) (eB_Ce g (by omega) _) rfl (av := []) (rest := []) (m_Ce_isEmpty (kl K) g hI M (by omega)) wd_183 wd_250 wd_181 wd_182 wd_2 hd_Ce_isEmpty (by omega) (by decide) rfl rfl (Nat.le_of_ble_eq_true rfl) d_B_remove_13 (fun r9 M9 hp9 => ?_)
    obtain ⟨rfl, rfl⟩ := hp9
    refine v_r1 ?_
    refine b_if_eq h0 d_B_remove_16 rfl (fun h16 => ?_) (fun h16 => ?_)
    · skip
      refine v_aload_n h0 d_B_remove_21 0 rfl ?_
      refine g_B_cells h0 hC wd_139 d_B_remove_22 ?_
      refine v_iload_n h0 d_B_remove_25 1 rfl ?_
      refine a_B_cells h0 hC c (rfl) (by omega) d_B_remove_26 ?_
      refine v_callV h0 hC (sB_N0 g) (7 + c) (show (7 + c) < 59 by omega) (eB_Ce g (by omega) _) rfl (av := []) (rest := []) (m_Ce_nameBit (kl K) g hI M (by omega)) wd_179 wd_176 wd_177 wd_178 wd_2 hd_Ce_nameBit (by omega) (by decide) rfl rfl (Nat.le_of_ble_eq_true rfl) d_B_remove_27 (fun r9 M9 hp9 => ?_)
      obtain ⟨rfl, rfl⟩ := hp9
      refine v_r1 ?_
      refine v_istore_n h0 d_B_remove_30 (lv' := [(2, .int (nbI (M (7 + c) 1))), (0, .ref (ga g 0)), (1, .int (nI c))]) (lt_kn hn (by decide)) rfl ?_
      refine v_aload_n h0 d_B_remove_31 1 rfl ?_
      refine g_B_cells h0 hC wd_139 d_B_remove_32 ?_
      refine v_iload_n h0 d_B_remove_35 2 rfl ?_
      refine a_B_cells h0 hC c (rfl) (by omega) d_B_remove_36 ?_
      refine v_callV h0 hC (sB_N0 g) (7 + c) (show (7 + c) < 59 by omega) (eB_Ce g (by omega) _) rfl (av := []) (rest := []) (m_Ce_clear (kl K) g hI M hc) wd_291 wd_288 wd_289 wd_290 wd_2 hd_Ce_clear (by omega) (by decide) rfl rfl (Nat.le_of_ble_eq_true rfl) d_B_remove_37 (fun r9 M9 hp9 => ?_)
      obtain ⟨rfl, rfl⟩ := hp9
      rw [show up2 (up2 (up2 (up2 (up2 M (7 + c) 1 (-1)) (7 + c) 3 0) (17 + c) 2 0) (17 + c) 4 0) (17 + c) 5 0 = clM M c from rfl]
      refine v_r0 ?_
      refine v_aload_n h0 d_B_remove_40 1 rfl ?_
      refine v_iload_n h0 d_B_remove_41 0 rfl ?_
      refine v_callV h0 hC (sB_N0 g) 0 (show 0 < 59 by omega) (eB_B g _) rfl (av := [.int (nbI (M (7 + c) 1))]) (rest := []) (m_B_follow (kl K) g hI (clM M c) _ (clM_nm hN hc)) wd_245 wd_242 wd_244 ws_7 wd_1 hd_B_follow (by omega) (by decide) rfl rfl (Nat.le_of_ble_eq_true rfl) d_B_remove_42 (fun r9 M9 hp9 => ?_)
      obtain rfl : r9 = none := by obtain ⟨_, _, _, _, h9⟩ := hp9; exact h9.1
      refine v_r0 ?_
      refine v_iconst h0 d_B_remove_45 (v := nI 1) (by decide) ?_
      exact v_zret h0 hC hR (rfl) d_B_remove_46 (Or.inr ⟨c, hc, rfl, of_decide_eq_false h16, rfl, hp9⟩)
    · skip
      refine v_iconst h0 d_B_remove_19 (v := nI 0) (by decide) ?_
      exact v_zret h0 hC hR (rfl) d_B_remove_20 (Or.inl ⟨rfl, rfl, Or.inr ⟨c, hc, rfl, of_decide_eq_true h16⟩⟩)
def seC (x y : Int32) (L c j : Nat) : Prop := c < 10 ∧ j < 10 ∧ x = nI c ∧ y = nI j ∧ 0 < L
def SeP (M : Me) (x y : Int32) (L : Nat) (r : Option Value) (M' : Me) : Prop :=
  (r = some (.int 0) ∧ M = M' ∧ ∀ c j, ¬ seC x y L c j) ∨ ∃ c j M2, seC x y L c j ∧ r = some (.int 1) ∧ ReP (up2 M (7 + c) 1 (nI j)) c L (va_cpy (M 5) (M (27 + c)) 0 0 L) none M2 ∧ FoP (up2 M2 0 5 0) (nbI (M (7 + c) 1) ||| (1 <<< (nI j &&& 31))) none M' 
theorem se_nm {M M2 : Me} {c j L : Nat} {s : Nat → Int32} (hN : NMo M) (hc : c < 10) (hj : j < 10) (h : ReP (up2 M (7 + c) 1 (nI j)) c L s none M2) : NMo (up2 M2 0 5 0) := by
  intro d hd
  rw [up2_r _ _ _ (by omega), h.2.1 _ (by omega) (by omega) (by omega)]
  by_cases e : d = c
  · subst e; exact Or.inr ⟨j, hj, up2_s _ _ _ _⟩
  · rw [up2_r _ _ _ (by omega)]; exact hN d hd
set_option maxHeartbeats 4000000 in
theorem m_B_set (l : Launch) (g : Gd) (hI : sI (sB g)) (M : Me) (x y : Int32) {L : Nat} (hL : M 0 5 = nI L) (hL24 : L ≤ 24) (hN : NMo M) (hcf : chF (M 5)) (hcs : ∀ c, c < 10 → chF (M (27 + c))) : CB l g y_B_set c_B_set 5 (some .boolean) 27 [.ref (ga g 0), .int x, .int y] M (SeP M x y L) := by
  refine Ct.of hI (sB_N0 g) rfl (Nat.le_of_ble_eq_true rfl) (fun K h0 hC hR hkl hn => ?_)
  have hC : Cx (sB g) K gC_B _ := hC
  show V K (wp (sB g)) M 0 [(0, .ref (ga g 0)), (1, .int x), (2, .int y)] []
  refine v_iload_n h0 d_B_set_0 1 rfl ?_
  refine v_callS h0 hC (sB_N0 g) (av := [.int x]) (rest := []) (m_B_isCell (kl K) g hI M x) wd_175 wd_173 wd_174 wd_1 hd_B_isCell (by omega) (by decide) rfl rfl (Nat.le_of_ble_eq_true rfl) d_B_set_1 (fun r9 M9 hp9 => ?_)
  obtain ⟨rfl, rfl⟩ := hp9
  refine v_r1 ?_
  refine b_if_eq h0 d_B_set_4 rfl (fun h4 => ?_) (fun h4 => ?_)
  · skip
    have hno : ∀ c j, ¬ seC x y L c j := fun c j q => in_f h4 c q.1 q.2.2.1
    refine v_iconst h0 d_B_set_24 (v := nI 0) (by decide) ?_
    exact v_zret h0 hC hR (rfl) d_B_set_25 (Or.inl ⟨rfl, rfl, hno⟩)
  · skip
    obtain ⟨c, hc, rfl⟩ := in_c h4
    refine v_iload_n h0 d_B_set_7 2 rfl ?_
    refine v_if_lt h0 d_B_set_8 rfl (fun h8 => ?_) (fun h8 => ?_)
    · skip
      have hno : ∀ c1 j, ¬ seC (nI c) y L c1 j := fun c1 j q => absurd h8 (by rw [q.2.2.2.1]; exact nI_pos (by have := q.2.1; omega))
      refine v_iconst h0 d_B_set_24 (v := nI 0) (by decide) ?_
      exact v_zret h0 hC hR (rfl) d_B_set_25 (Or.inl ⟨rfl, rfl, hno⟩)
    · skip
      refine v_iload_n h0 d_B_set_11 2 rfl ?_
      refine v_bipush h0 d_B_set_12 (v := nI 10) (by decide) ?_
      refine v_icmp_ge h0 d_B_set_14 rfl (fun h14 => ?_) (fun h14 => ?_)
      · skip
        have hno : ∀ c1 j, ¬ seC (nI c) y L c1 j := fun c1 j q => absurd h14 (by rw [q.2.2.2.1]; exact nI_ge q.2.1 (by decide))
        refine v_iconst h0 d_B_set_24 (v := nI 0) (by decide) ?_
        exact v_zret h0 hC hR (rfl) d_B_set_25 (Or.inl ⟨rfl, rfl, hno⟩)
      · skip
        obtain ⟨j, hj9, rfl⟩ := nI_of h8
        have hj : j < 10 := (nI_ltI hj9 (by decide)).mp (i_nle h14)
        refine v_aload_n h0 d_B_set_17 0 rfl ?_
        refine g_B_typedLength h0 hC wd_144 d_B_set_18 ?_
        refine v_int (nI L) (hL) ?_
        refine v_if_ne h0 d_B_set_21 rfl (fun h21 => ?_) (fun h21 => ?_)
        · skip
          have hL0 : 0 < L := Nat.pos_of_ne_zero (fun q => h21 (by rw [q]; rfl))
          refine v_aload_n h0 d_B_set_26 0 rfl ?_
          refine g_B_cells h0 hC wd_139 d_B_set_27 ?_
          refine v_iload_n h0 d_B_set_30 1 rfl ?_
          refine a_B_cells h0 hC c (rfl) (by omega) d_B_set_31 ?_
          refine v_astore_n h0 d_B_set_32 (lv' := [(3, .ref (ga g (7 + c))), (0, .ref (ga g 0)), (1, .int (nI c)), (2, .int (nI j))]) (lt_kn hn (by decide)) rfl ?_
          refine v_aload_n h0 d_B_set_33 0 rfl ?_
          refine v_callV h0 hC (sB_N0 g) (7 + c) (show (7 + c) < 59 by omega) (eB_Ce g (by omega) _) rfl (av := []) (rest := []) (m_Ce_nameBit (kl K) g hI M (by omega)) wd_179 wd_176 wd_177 wd_178 wd_2 hd_Ce_nameBit (by omega) (by decide) rfl rfl (Nat.le_of_ble_eq_true rfl) d_B_set_34 (fun r9 M9 hp9 => ?_)
          obtain ⟨rfl, rfl⟩ := hp9
          refine v_r1 ?_
          refine v_iconst h0 d_B_set_37 (v := 1) (by decide) ?_
          refine v_iload_n h0 d_B_set_38 3 rfl ?_
          refine v_ishl h0 d_B_set_39 ?_
          refine v_ior h0 d_B_set_40 ?_
          refine v_istore h0 d_B_set_41 (lv' := [(4, .int ((nbI (M (7 + c) 1)) ||| (1 <<< ((nI j) &&& 31)))), (3, .ref (ga g (7 + c))), (0, .ref (ga g 0)), (1, .int (nI c)), (2, .int (nI j))]) (lt_kn hn (by decide)) rfl ?_
          refine v_aload_n h0 d_B_set_43 1 rfl ?_
          refine v_iload_n h0 d_B_set_44 4 rfl ?_
          refine pN_Ce_name h0 hC (by omega) wn_7 d_B_set_45 ?_
          refine v_aload_n h0 d_B_set_48 1 rfl ?_
          refine gN_Ce_text h0 hC (by omega) wn_5 d_B_set_49 ?_
          refine v_aload_n h0 d_B_set_52 2 rfl ?_
          refine g_B_typed h0 hC wd_143 d_B_set_53 ?_
          refine v_aload_n h0 d_B_set_56 2 rfl ?_
          refine g_B_typedLength h0 hC wd_144 d_B_set_57 ?_
          refine v_int (nI L) (by rw [up2_r _ _ _ (by omega)]; exact hL) ?_
          refine v_callV h0 hC (sB_N0 g) (17 + c) (show (17 + c) < 59 by omega) (eB_Te g (by omega) _) rfl (av := [.ref (ga g 5), .int (nI L)]) (rest := []) (m_Te_read (kl K) g hI (up2 M (7 + c) 1 (nI j)) hc hL24 hL0 (fun q hq => by rw [up2_r _ _ _ (by omega)]; exact hcf q (by omega)) (by rw [up2_r _ _ _ (by omega)]; exact hcs c hc)) wd_187 wd_184 wd_185 wd_186 wd_3 hd_Te_read (by omega) (by decide) rfl rfl (Nat.le_of_ble_eq_true rfl) d_B_set_60 (fun r9 M2 hp9 => ?_)
          rw [up2_r M _ _ (show (5 : Nat) ≠ 7 + c by omega), up2_r M _ _ (show 27 + c ≠ 7 + c by omega)] at hp9
          have hp8 := hp9
          obtain rfl : r9 = none := hp9.1
          refine v_r0 ?_
          refine v_aload_n h0 d_B_set_63 2 rfl ?_
          refine v_iconst h0 d_B_set_64 (v := 0) (by decide) ?_
          refine p_B_typedLength h0 hC wd_144 d_B_set_65 ?_
          refine v_aload_n h0 d_B_set_68 2 rfl ?_
          refine v_iload h0 d_B_set_69 0 rfl ?_
          refine v_callV h0 hC (sB_N0 g) 0 (show 0 < 59 by omega) (eB_B g _) rfl (av := [.int ((nbI (M (7 + c) 1)) ||| (1 <<< ((nI j) &&& 31)))]) (rest := []) (m_B_follow (kl K) g hI (up2 M2 0 5 0) _ (se_nm hN hc hj hp8)) wd_245 wd_242 wd_244 ws_7 wd_1 hd_B_follow (by omega) (by decide) rfl rfl (Nat.le_of_ble_eq_true rfl) d_B_set_71 (fun r9 M9 hp9 => ?_)
          obtain rfl : r9 = none := by obtain ⟨_, _, _, _, h9⟩ := hp9; exact h9.1
          refine v_r0 ?_
          refine v_iconst h0 d_B_set_74 (v := nI 1) (by decide) ?_
          exact v_zret h0 hC hR (rfl) d_B_set_75 (Or.inr ⟨c, j, M2, ⟨hc, hj, rfl, rfl, hL0⟩, rfl, hp8, hp9⟩)
        · skip
          have hno : ∀ c1 j1, ¬ seC (nI c) (nI j) L c1 j1 := fun c1 j1 q => nI_ne0 q.2.2.2.2 (by omega) h21
          refine v_iconst h0 d_B_set_24 (v := nI 0) (by decide) ?_
          exact v_zret h0 hC hR (rfl) d_B_set_25 (Or.inl ⟨rfl, rfl, hno⟩)
