/-! DEFINERS AND WAYS (the book) -/
theorem up2_upR (M : Me) (i k : Nat) (r : Nat → Int32) (v : Int32) : up2 (upR M i r) i k v = upR M i (upd r k v) := by
  unfold up2
  rw [upR_s]
  funext a
  by_cases h : a = i
  · subst h; rw [upR_s, upR_s]
  · rw [upR_n _ _ h, upR_n _ _ h, upR_n _ _ h]
theorem upR_id (M : Me) (i : Nat) (r : Nat → Int32) (h : M i = r) : upR M i r = M := by
  funext a
  by_cases q : a = i
  · subst q; rw [upR_s, h]
  · rw [upR_n _ _ q]
def nuR (M : Me) (i : Nat) : Nat → Int32 := fun j => if j < i then 0 else M 2 j
theorem nuR_s (M : Me) (i : Nat) : upd (nuR M i) i 0 = nuR M (i + 1) := by
  funext j
  unfold upd nuR
  by_cases h : j = i
  · rw [if_pos h, if_pos (by omega)]
  · rw [if_neg h]
    by_cases h2 : j < i
    · rw [if_pos h2, if_pos (by omega)]
    · rw [if_neg h2, if_neg (by omega)]
theorem nuR_0 (M : Me) : upR M 2 (nuR M 0) = M := upR_id M 2 _ (by funext j; unfold nuR; rw [if_neg (by omega)])
def dfR (M : Me) : Nat → Nat → Int32
  | 0 => nuR M 10
  | i + 1 => if M (7 + i) 1 = -1 then dfR M i else upd (dfR M i) (M (7 + i) 1).toNatClampNeg (nI (i + 1))
/-- names are -1 or 0 to 9 -/
def NMo (M : Me) : Prop := ∀ c, c < 10 → M (7 + c) 1 = -1 ∨ ∃ j, j < 10 ∧ M (7 + c) 1 = nI j
def wyI (M : Me) (c : Nat) : Int32 := if fuB M c = true then otM M c else mk (cdP M (M (17 + c) 5)) 10
def wrR (M : Me) (i : Nat) : Nat → Int32 := fun j => if j < i then wyI M j else M 3 j
theorem wrR_s (M : Me) (i : Nat) : upd (wrR M i) i (wyI M i) = wrR M (i + 1) := by
  funext j
  unfold upd wrR
  by_cases h : j = i
  · rw [if_pos h, if_pos (by omega), h]
  · rw [if_neg h]
    by_cases h2 : j < i
    · rw [if_pos h2, if_pos (by omega)]
    · rw [if_neg h2, if_neg (by omega)]
theorem wrR_0 (M : Me) : upR M 3 (wrR M 0) = M := upR_id M 3 _ (by funext j; unfold wrR; rw [if_neg (by omega)])
theorem cdP_3 (M : Me) (r : Nat → Int32) (x : Int32) : cdP (upR M 3 r) x = cdP M x := by
  funext c; unfold cdP; rw [upR_n _ _ (by omega)]
theorem otM_3 (M : Me) (r : Nat → Int32) (c : Nat) : otM (upR M 3 r) c = otM M c := by
  unfold otM; rw [cdP_3, upR_n _ _ (by omega)]
theorem fuB_3 (M : Me) (r : Nat → Int32) (c : Nat) : fuB (upR M 3 r) c = fuB M c := by
  unfold fuB; rw [upR_n _ _ (by omega)]
def wyE (M : Me) (c d : Nat) : Bool := bt (wyI M c) d
theorem wyI_big {M : Me} {c d : Nat} (hd : d < 32) : bt (wyI M c) d = (decide (d < 10) && wyE M c d) := by
  unfold wyE
  by_cases h : d < 10
  · rw [decide_eq_true h, Bool.true_and]
  · rw [decide_eq_false h, Bool.false_and]
    unfold wyI otM
    split
    · rw [b_and, bt_mk _ hd 10 (by omega), decide_eq_false h, Bool.false_and, Bool.false_and]
    · rw [bt_mk _ hd 10 (by omega), decide_eq_false h, Bool.false_and]
def WyI (E : Nat → Nat → Bool) (b c : Nat) (r : Nat → Int32) : Prop := ∀ q, q < 10 → ∀ d, d < 32 → bt (r q) d = (decide (d < 10) && (if q < c then Wb E (b + 1) q d else Wb E b q d))
theorem Wb_self (E : Nat → Nat → Bool) (b d : Nat) : Wb E (b + 1) b d = Wb E b b d := by
  simp only [Wb]
  cases Wb E b b d
  · simp
  · simp
theorem WyI.yes {E : Nat → Nat → Bool} {b c : Nat} {r : Nat → Int32} (hb : b < 10) (hc : c < 10) (h : WyI E b c r) (hy : bt (r c) b = true) : WyI E b (c + 1) (upd r c (r c ||| r b)) := by
  intro q hq d hd
  unfold upd
  by_cases e : q = c
  · subst e
    rw [if_pos rfl, if_pos (by omega), b_or, h q hq d hd, h b hb d hd, if_neg (by omega)]
    rw [h q hq b (by omega), if_neg (by omega), decide_eq_true hb, Bool.true_and] at hy
    have e2 : (if b < q then Wb E (b + 1) b d else Wb E b b d) = Wb E b b d := by
      split
      · exact Wb_self E b d
      · rfl
    rw [e2]
    simp only [Wb, hy, Bool.true_and]
    cases decide (d < 10) <;> simp
  · rw [if_neg e, h q hq d hd]
    by_cases l : q < c
    · rw [if_pos l, if_pos (by omega)]
    · rw [if_neg l, if_neg (by omega)]
theorem WyI.no {E : Nat → Nat → Bool} {b c : Nat} {r : Nat → Int32} (hb : b < 10) (hc : c < 10) (h : WyI E b c r) (hy : bt (r c) b = false) : WyI E b (c + 1) r := by
  intro q hq d hd
  rw [h q hq d hd]
  by_cases e : q = c
  · subst e
    rw [h q hq b (by omega), if_neg (by omega), decide_eq_true hb, Bool.true_and] at hy
    rw [if_neg (by omega), if_pos (by omega)]
    simp only [Wb, hy, Bool.false_and, Bool.or_false]
  · by_cases l : q < c
    · rw [if_pos l, if_pos (by omega)]
    · rw [if_neg l, if_neg (by omega)]
theorem WyI.next {E : Nat → Nat → Bool} {b : Nat} {r : Nat → Int32} (h : WyI E b 10 r) : WyI E (b + 1) 0 r := by
  intro q hq d hd
  rw [h q hq d hd, if_pos hq, if_neg (by omega)]
set_option maxHeartbeats 4000000 in
theorem m_B_findDefiners (l : Launch) (g : Gd) (hI : sI (sB g)) (M : Me) (hN : NMo M) : CB l g y_B_findDefiners c_B_findDefiners 2 none 2 [.ref (ga g 0)] M (fun r M' => r = none ∧ M' = upR M 2 (dfR M 10)) := by
  refine Ct.of hI (sB_N0 g) rfl (Nat.le_of_ble_eq_true rfl) (fun K h0 hC hR hkl hn => ?_)
  have hC : Cx (sB g) K gC_B _ := hC
  show V K (wp (sB g)) M 0 [(0, .ref (ga g 0))] []
  have two : ∀ (t i : Nat), i + t = 10 → V K (wp (sB g)) (upR M 2 (dfR M i)) 23 [(1, .int (nI i)), (0, .ref (ga g 0))] [] := by
    intro t
    induction t with
    | zero =>
      intro i hi
      refine v_iload_n h0 d_B_findDefiners_23 0 rfl ?_
      refine v_bipush h0 d_B_findDefiners_24 (v := nI 10) (by decide) ?_
      refine n_icmp_ge h0 (by omega) (by omega) d_B_findDefiners_26 rfl (fun h26 => ?_) (fun h26 => absurd h26 (by omega))
      exact v_vret h0 hC hR d_B_findDefiners_67 (⟨rfl, by rw [show i = 10 by omega]⟩)
    | succ t ih =>
      intro i hi
      refine v_iload_n h0 d_B_findDefiners_23 0 rfl ?_
      refine v_bipush h0 d_B_findDefiners_24 (v := nI 10) (by decide) ?_
      refine n_icmp_ge h0 (by omega) (by omega) d_B_findDefiners_26 rfl (fun h26 => absurd h26 (by omega)) (fun h26 => ?_)
      refine v_aload_n h0 d_B_findDefiners_29 1 rfl ?_
      refine g_B_cells h0 hC wd_139 d_B_findDefiners_30 ?_
      refine v_iload_n h0 d_B_findDefiners_33 0 rfl ?_
      refine a_B_cells h0 hC i (rfl) (by omega) d_B_findDefiners_34 ?_
      refine v_callV h0 hC (sB_N0 g) (7 + i) (show (7 + i) < 59 by omega) (eB_Ce g (by omega) _) rfl (av := []) (rest := []) (m_Ce_isEmpty (kl K) g hI _ (by omega)) wd_183 wd_250 wd_181 wd_182 wd_2 hd_Ce_isEmpty (by omega) (by decide) rfl rfl (Nat.le_of_ble_eq_true rfl) d_B_findDefiners_35 (fun r9 M9 hp9 => ?_)
      obtain ⟨rfl, rfl⟩ := hp9
      refine v_r1 ?_
      refine b_if_ne h0 d_B_findDefiners_38 rfl (fun h38 => ?_) (fun h38 => ?_)
      · skip
        rw [upR_n _ _ (by omega)] at h38
        refine v_iinc h0 d_B_findDefiners_61 (lv' := [(1, .int (nI (i + 1))), (0, .ref (ga g 0))]) 0 rfl (inc1 i) (lt_kn hn (by decide)) rfl ?_
        refine v_goto h0 d_B_findDefiners_64 rfl ?_
        refine v_eq (ih (i + 1) (by omega)) (by rw [dfR, if_pos (of_decide_eq_true h38)]) rfl rfl rfl
      · skip
        obtain ⟨j, hj, hz⟩ := (hN i (by omega)).resolve_left (of_decide_eq_false (by rw [upR_n _ _ (by omega)] at h38; exact h38))
        refine v_aload_n h0 d_B_findDefiners_41 1 rfl ?_
        refine g_B_definers h0 hC wd_140 d_B_findDefiners_42 ?_
        refine v_aload_n h0 d_B_findDefiners_45 1 rfl ?_
        refine g_B_cells h0 hC wd_139 d_B_findDefiners_46 ?_
        refine v_iload_n h0 d_B_findDefiners_49 0 rfl ?_
        refine a_B_cells h0 hC i (rfl) (by omega) d_B_findDefiners_50 ?_
        refine gN_Ce_name h0 hC (by omega) wn_7 d_B_findDefiners_51 ?_
        refine v_int (nI j) (by rw [upR_n _ _ (by omega)]; exact hz) ?_
        refine v_aload_n h0 d_B_findDefiners_54 1 rfl ?_
        refine g_B_cells h0 hC wd_139 d_B_findDefiners_55 ?_
        refine v_iload_n h0 d_B_findDefiners_58 0 rfl ?_
        refine a_B_cells h0 hC i (rfl) (by omega) d_B_findDefiners_59 ?_
        refine s_B_defs h0 hC (by omega) j (rfl) (by omega) d_B_findDefiners_60 ?_
        refine v_iinc h0 d_B_findDefiners_61 (lv' := [(1, .int (nI (i + 1))), (0, .ref (ga g 0))]) 0 rfl (inc1 i) (lt_kn hn (by decide)) rfl ?_
        refine v_goto h0 d_B_findDefiners_64 rfl ?_
        refine v_eq (ih (i + 1) (by omega)) (by rw [up2_upR, dfR, if_neg (by rw [hz]; exact nI_m1 (by omega)), hz, nI_clamp (by omega)]) rfl rfl rfl
  have one : ∀ (t i : Nat), i + t = 10 → V K (wp (sB g)) (upR M 2 (nuR M i)) 2 [(1, .int (nI i)), (0, .ref (ga g 0))] [] := by
    intro t
    induction t with
    | zero =>
      intro i hi
      refine v_iload_n h0 d_B_findDefiners_2 0 rfl ?_
      refine v_bipush h0 d_B_findDefiners_3 (v := nI 10) (by decide) ?_
      refine n_icmp_ge h0 (by omega) (by omega) d_B_findDefiners_5 rfl (fun h5 => ?_) (fun h5 => absurd h5 (by omega))
      refine v_iconst h0 d_B_findDefiners_21 (v := nI 0) (by decide) ?_
      refine v_istore_n h0 d_B_findDefiners_22 (lv' := [(1, .int (nI 0)), (0, .ref (ga g 0))]) (lt_kn hn (by decide)) rfl ?_
      refine v_eq (two 10 0 rfl) (by rw [show i = 10 by omega]; rfl) rfl rfl rfl
    | succ t ih =>
      intro i hi
      refine v_iload_n h0 d_B_findDefiners_2 0 rfl ?_
      refine v_bipush h0 d_B_findDefiners_3 (v := nI 10) (by decide) ?_
      refine n_icmp_ge h0 (by omega) (by omega) d_B_findDefiners_5 rfl (fun h5 => absurd h5 (by omega)) (fun h5 => ?_)
      refine v_aload_n h0 d_B_findDefiners_8 1 rfl ?_
      refine g_B_definers h0 hC wd_140 d_B_findDefiners_9 ?_
      refine v_iload_n h0 d_B_findDefiners_12 0 rfl ?_
      refine v_null h0 d_B_findDefiners_13 ?_
      refine s_B_defsN h0 hC i (rfl) (by omega) d_B_findDefiners_14 ?_
      refine v_iinc h0 d_B_findDefiners_15 (lv' := [(1, .int (nI (i + 1))), (0, .ref (ga g 0))]) 0 rfl (inc1 i) (lt_kn hn (by decide)) rfl ?_
      refine v_goto h0 d_B_findDefiners_18 rfl ?_
      refine v_eq (ih (i + 1) (by omega)) (by rw [up2_upR, nuR_s]) rfl rfl rfl
  refine v_iconst h0 d_B_findDefiners_0 (v := nI 0) (by decide) ?_
  refine v_istore_n h0 d_B_findDefiners_1 (lv' := [(1, .int (nI 0)), (0, .ref (ga g 0))]) (lt_kn hn (by decide)) rfl ?_
  refine v_eq (one 10 0 rfl) (nuR_0 M).symm rfl rfl rfl
set_option maxHeartbeats 4000000 in
theorem m_B_findWays (l : Launch) (g : Gd) (hI : sI (sB g)) (M : Me)  : CB l g y_B_findWays c_B_findWays 3 none 5 [.ref (ga g 0)] M (fun r M' => r = none ∧ ∃ q, M' = upR M 3 q ∧ ∀ c, c < 10 → ∀ d, d < 32 → bt (q c) d = (decide (d < 10) && Wb (wyE M) 10 c d)) := by
  refine Ct.of hI (sB_N0 g) rfl (Nat.le_of_ble_eq_true rfl) (fun K h0 hC hR hkl hn => ?_)
  have hC : Cx (sB g) K gC_B _ := hC
  show V K (wp (sB g)) M 0 [(0, .ref (ga g 0))] []
  have inner : ∀ (b : Nat), b < 10 → (∀ r, WyI (wyE M) b 10 r → V K (wp (sB g)) (upR M 3 r) 111 [(2, .int (nI 10)), (1, .int (nI b)), (0, .ref (ga g 0))] []) → ∀ (t c : Nat) (r : Nat → Int32), c + t = 10 → WyI (wyE M) b c r → V K (wp (sB g)) (upR M 3 r) 71 [(2, .int (nI c)), (1, .int (nI b)), (0, .ref (ga g 0))] [] := by
    intro b hb hx t
    induction t with
    | zero =>
      intro c r hc hr
      obtain rfl : c = 10 := by omega
      refine v_iload_n h0 d_B_findWays_71 0 rfl ?_
      refine v_bipush h0 d_B_findWays_72 (v := nI 10) (by decide) ?_
      refine n_icmp_ge h0 (by omega) (by omega) d_B_findWays_74 rfl (fun h74 => ?_) (fun h74 => absurd h74 (by omega))
      exact hx r hr
    | succ t ih =>
      intro c r hc hr
      refine v_iload_n h0 d_B_findWays_71 0 rfl ?_
      refine v_bipush h0 d_B_findWays_72 (v := nI 10) (by decide) ?_
      refine n_icmp_ge h0 (by omega) (by omega) d_B_findWays_74 rfl (fun h74 => absurd h74 (by omega)) (fun h74 => ?_)
      refine v_aload_n h0 d_B_findWays_77 2 rfl ?_
      refine g_B_reached h0 hC wd_141 d_B_findWays_78 ?_
      refine v_iload_n h0 d_B_findWays_81 0 rfl ?_
      refine a_B_reached h0 hC c (rfl) (by omega) d_B_findWays_82 ?_
      refine v_int (r c) (congrFun (upR_s M 3 r) c) ?_
      refine v_iload_n h0 d_B_findWays_83 1 rfl ?_
      refine v_callS h0 hC (sB_N0 g) (av := [.int (r c), .int (nI b)]) (rest := []) (m_B_hasBit (kl K) g hI (upR M 3 r) (r c) b (by omega)) wd_241 wd_267 wd_240 wd_1 hd_B_hasBit (by omega) (by decide) rfl rfl (Nat.le_of_ble_eq_true rfl) d_B_findWays_84 (fun r9 M9 hp9 => ?_)
      obtain ⟨rfl, rfl⟩ := hp9
      refine v_r1 ?_
      refine b_if_eq h0 d_B_findWays_87 rfl (fun h87 => ?_) (fun h87 => ?_)
      · skip
        refine v_iinc h0 d_B_findWays_105 (lv' := [(2, .int (nI (c + 1))), (1, .int (nI b)), (0, .ref (ga g 0))]) 0 rfl (inc1 c) (lt_kn hn (by decide)) rfl ?_
        refine v_goto h0 d_B_findWays_108 rfl ?_
        exact ih (c + 1) r (by omega) (hr.no hb (by omega) h87)
      · skip
        refine v_aload_n h0 d_B_findWays_90 2 rfl ?_
        refine g_B_reached h0 hC wd_141 d_B_findWays_91 ?_
        refine v_iload_n h0 d_B_findWays_94 0 rfl ?_
        refine v_dup2 h0 d_B_findWays_95 rfl rfl ?_
        refine a_B_reached h0 hC c (rfl) (by omega) d_B_findWays_96 ?_
        refine v_int (r c) (congrFun (upR_s M 3 r) c) ?_
        refine v_aload_n h0 d_B_findWays_97 2 rfl ?_
        refine g_B_reached h0 hC wd_141 d_B_findWays_98 ?_
        refine v_iload_n h0 d_B_findWays_101 1 rfl ?_
        refine a_B_reached h0 hC b (rfl) (by omega) d_B_findWays_102 ?_
        refine v_int (r b) (congrFun (upR_s M 3 r) b) ?_
        refine v_ior h0 d_B_findWays_103 ?_
        refine s_B_reached h0 hC c (rfl) (z := (r c) ||| (r b)) (rfl) (by omega) d_B_findWays_104 ?_
        refine v_iinc h0 d_B_findWays_105 (lv' := [(2, .int (nI (c + 1))), (1, .int (nI b)), (0, .ref (ga g 0))]) 0 rfl (inc1 c) (lt_kn hn (by decide)) rfl ?_
        refine v_goto h0 d_B_findWays_108 rfl ?_
        refine v_eq (ih (c + 1) _ (by omega) (hr.yes hb (by omega) h87)) (up2_upR _ _ _ _ _) rfl rfl rfl
  have outer : ∀ (t b : Nat) (r : Nat → Int32), b + t = 10 → WyI (wyE M) b 0 r → V K (wp (sB g)) (upR M 3 r) 63 [(1, .int (nI b)), (0, .ref (ga g 0))] [] := by
    intro t
    induction t with
    | zero =>
      intro b r hb hr
      refine v_iload_n h0 d_B_findWays_63 0 rfl ?_
      refine v_bipush h0 d_B_findWays_64 (v := nI 10) (by decide) ?_
      refine n_icmp_ge h0 (by omega) (by omega) d_B_findWays_66 rfl (fun h66 => ?_) (fun h66 => absurd h66 (by omega))
      exact v_vret h0 hC hR d_B_findWays_117 (⟨rfl, r, rfl, by rw [show b = 10 by omega] at hr; intro q hq d hd; rw [hr q hq d hd, if_neg (by omega)]⟩)
    | succ t ih =>
      intro b r hb hr
      refine v_iload_n h0 d_B_findWays_63 0 rfl ?_
      refine v_bipush h0 d_B_findWays_64 (v := nI 10) (by decide) ?_
      refine n_icmp_ge h0 (by omega) (by omega) d_B_findWays_66 rfl (fun h66 => absurd h66 (by omega)) (fun h66 => ?_)
      refine v_iconst h0 d_B_findWays_69 (v := nI 0) (by decide) ?_
      refine v_istore_n h0 d_B_findWays_70 (lv' := [(2, .int (nI 0)), (1, .int (nI b)), (0, .ref (ga g 0))]) (lt_kn hn (by decide)) rfl ?_
      refine inner b (by omega) (fun r hr => ?_) 10 0 r rfl hr
      refine v_iinc h0 d_B_findWays_111 (lv' := [(1, .int (nI (b + 1))), (2, .int (nI 10)), (0, .ref (ga g 0))]) 1 rfl (inc1 b) (lt_kn hn (by decide)) rfl ?_
      refine v_goto h0 d_B_findWays_114 rfl ?_
      refine v_sub [0, 2] rfl ?_
      exact ih (b + 1) r (by omega) hr.next
  have one : ∀ (t i : Nat), i + t = 10 → V K (wp (sB g)) (upR M 3 (wrR M i)) 2 [(1, .int (nI i)), (0, .ref (ga g 0))] [] := by
    intro t
    induction t with
    | zero =>
      intro i hi
      refine v_iload_n h0 d_B_findWays_2 0 rfl ?_
      refine v_bipush h0 d_B_findWays_3 (v := nI 10) (by decide) ?_
      refine n_icmp_ge h0 (by omega) (by omega) d_B_findWays_5 rfl (fun h5 => ?_) (fun h5 => absurd h5 (by omega))
      refine v_iconst h0 d_B_findWays_61 (v := nI 0) (by decide) ?_
      refine v_istore_n h0 d_B_findWays_62 (lv' := [(1, .int (nI 0)), (0, .ref (ga g 0))]) (lt_kn hn (by decide)) rfl ?_
      refine outer 10 0 _ rfl (fun q hq d hd => ?_)
      rw [if_neg (by omega), show wrR M i q = wyI M q from if_pos (by omega)]
      exact wyI_big hd
    | succ t ih =>
      intro i hi
      refine v_iload_n h0 d_B_findWays_2 0 rfl ?_
      refine v_bipush h0 d_B_findWays_3 (v := nI 10) (by decide) ?_
      refine n_icmp_ge h0 (by omega) (by omega) d_B_findWays_5 rfl (fun h5 => absurd h5 (by omega)) (fun h5 => ?_)
      refine v_aload_n h0 d_B_findWays_8 1 rfl ?_
      refine g_B_cells h0 hC wd_139 d_B_findWays_9 ?_
      refine v_iload_n h0 d_B_findWays_12 0 rfl ?_
      refine a_B_cells h0 hC i (rfl) (by omega) d_B_findWays_13 ?_
      refine gN_Ce_text h0 hC (by omega) wn_5 d_B_findWays_14 ?_
      refine v_callV h0 hC (sB_N0 g) (17 + i) (show (17 + i) < 59 by omega) (eB_Te g (by omega) _) rfl (av := []) (rest := []) (m_Te_isFunction (kl K) g hI _ (by omega)) wd_258 wd_255 wd_256 wd_257 wd_3 hd_Te_isFunction (by omega) (by decide) rfl rfl (Nat.le_of_ble_eq_true rfl) d_B_findWays_17 (fun r9 M9 hp9 => ?_)
      obtain ⟨rfl, rfl⟩ := hp9
      refine v_r1 ?_
      refine v_int (bI (fuB M i)) (by rw [fuB_3]) ?_
      refine v_istore_n h0 d_B_findWays_20 (lv' := [(2, .int (bI (fuB M i))), (1, .int (nI i)), (0, .ref (ga g 0))]) (lt_kn hn (by decide)) rfl ?_
      refine v_aload_n h0 d_B_findWays_21 2 rfl ?_
      refine g_B_reached h0 hC wd_141 d_B_findWays_22 ?_
      refine v_iload_n h0 d_B_findWays_25 1 rfl ?_
      refine v_iload_n h0 d_B_findWays_26 0 rfl ?_
      refine b_if_eq h0 d_B_findWays_27 rfl (fun h27 => ?_) (fun h27 => ?_)
      · skip
        refine v_aload_n h0 d_B_findWays_38 2 rfl ?_
        refine v_aload_n h0 d_B_findWays_39 2 rfl ?_
        refine g_B_cells h0 hC wd_139 d_B_findWays_40 ?_
        refine v_iload_n h0 d_B_findWays_43 1 rfl ?_
        refine a_B_cells h0 hC i (rfl) (by omega) d_B_findWays_44 ?_
        refine gN_Ce_text h0 hC (by omega) wn_5 d_B_findWays_45 ?_
        refine gN_Te_names h0 hC (by omega) wn_3 d_B_findWays_48 ?_
        refine v_callV h0 hC (sB_N0 g) 0 (show 0 < 59 by omega) (eB_B g _) rfl (av := [.int ((upR M 3 (wrR M i)) (17 + i) 5)]) (rest := [.int (nI i), .ref (ga g 3)]) (m_B_cellsDefining (kl K) g hI _ _) wd_266 wd_263 wd_265 ws_11 wd_1 hd_B_cellsDefining (by omega) (by decide) rfl rfl (Nat.le_of_ble_eq_true rfl) d_B_findWays_51 (fun r9 M9 hp9 => ?_)
        obtain ⟨rfl, rfl⟩ := hp9
        refine v_r1 ?_
        refine v_int (wyI M i) (by rw [cdP_3, upR_n _ _ (by omega)]; unfold wyI; rw [if_neg (by rw [h27]; decide)]) ?_
        refine s_B_reached h0 hC i (rfl) (z := wyI M i) (rfl) (by omega) d_B_findWays_54 ?_
        refine v_iinc h0 d_B_findWays_55 (lv' := [(1, .int (nI (i + 1))), (2, .int (bI (fuB M i))), (0, .ref (ga g 0))]) 1 rfl (inc1 i) (lt_kn hn (by decide)) rfl ?_
        refine v_goto h0 d_B_findWays_58 rfl ?_
        refine v_sub [0, 2] rfl ?_
        refine v_eq (ih (i + 1) (by omega)) (by rw [up2_upR, wrR_s]) rfl rfl rfl
      · skip
        refine v_aload_n h0 d_B_findWays_30 2 rfl ?_
        refine v_iload_n h0 d_B_findWays_31 1 rfl ?_
        refine v_callV h0 hC (sB_N0 g) 0 (show 0 < 59 by omega) (eB_B g _) rfl (av := [.int (nI i)]) (rest := [.int (nI i), .ref (ga g 3)]) (m_B_othersUsedBy (kl K) g hI _ (by omega)) wd_262 wd_259 wd_261 ws_10 wd_1 hd_B_othersUsedBy (by omega) (by decide) rfl rfl (Nat.le_of_ble_eq_true rfl) d_B_findWays_32 (fun r9 M9 hp9 => ?_)
        obtain ⟨rfl, rfl⟩ := hp9
        refine v_r1 ?_
        refine v_goto h0 d_B_findWays_35 rfl ?_
        refine v_int (wyI M i) (by rw [otM_3]; unfold wyI; rw [if_pos h27]) ?_
        refine s_B_reached h0 hC i (rfl) (z := wyI M i) (rfl) (by omega) d_B_findWays_54 ?_
        refine v_iinc h0 d_B_findWays_55 (lv' := [(1, .int (nI (i + 1))), (2, .int (bI (fuB M i))), (0, .ref (ga g 0))]) 1 rfl (inc1 i) (lt_kn hn (by decide)) rfl ?_
        refine v_goto h0 d_B_findWays_58 rfl ?_
        refine v_sub [0, 2] rfl ?_
        refine v_eq (ih (i + 1) (by omega)) (by rw [up2_upR, wrR_s]) rfl rfl rfl
  refine v_iconst h0 d_B_findWays_0 (v := nI 0) (by decide) ?_
  refine v_istore_n h0 d_B_findWays_1 (lv' := [(1, .int (nI 0)), (0, .ref (ga g 0))]) (lt_kn hn (by decide)) rfl ?_
  refine v_eq (one 10 0 rfl) (wrR_0 M).symm rfl rfl rfl
