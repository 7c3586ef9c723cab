/-! MASKS AND FAULTS (the book) -/
def mk (p : Nat → Bool) : Nat → Int32
  | 0 => nI 0
  | n + 1 => if p n = true then mk p n ||| (nI 1 <<< (nI n &&& 31)) else mk p n
theorem mk_t {p : Nat → Bool} {n : Nat} (h : p n = true) : mk p (n + 1) = mk p n ||| (nI 1 <<< (nI n &&& 31)) := if_pos h
theorem mk_f {p : Nat → Bool} {n : Nat} (h : p n = false) : mk p (n + 1) = mk p n := if_neg (by rw [h]; decide)
theorem bt_mk (p : Nat → Bool) {i : Nat} (hi : i < 32) : ∀ n, n ≤ 32 → bt (mk p n) i = (decide (i < n) && p i) := by
  intro n
  induction n with
  | zero => intro _; rw [decide_eq_false (by omega), Bool.false_and]; exact b_0 i
  | succ n ih =>
    intro hn
    have hb : bt (nI 1 <<< (nI n &&& 31)) i = decide (i = n) := b_bit (by omega) hi
    cases hp : p n with
    | true =>
      rw [mk_t hp, b_or, ih (by omega), hb]
      by_cases h1 : i = n
      · subst h1; simp [hp]
      · by_cases h2 : i < n
        · simp [h1, h2, show i < n + 1 by omega]
        · simp [h1, h2, show ¬ i < n + 1 by omega]
    | false =>
      rw [mk_f hp, ih (by omega)]
      by_cases h1 : i = n
      · subst h1; simp [hp]
      · by_cases h2 : i < n
        · simp [h2, show i < n + 1 by omega]
        · simp [h2, show ¬ i < n + 1 by omega]
def cdP (M : Me) (x : Int32) (c : Nat) : Bool := decide (¬ nbI (M (7 + c) 1) &&& x = 0)
def slP (M : Me) (c : Nat) : Bool := decide (¬ M (7 + c) 3 = 0)
def ubP (M : Me) (c : Nat) : Bool := decide (shI M c = 14 ∨ shI M c = 13)
def otM (M : Me) (c : Nat) : Int32 := mk (cdP M (M (17 + c) 5)) 10 &&& ((nI 1 <<< (nI c &&& 31)) ^^^ (-1))
def umB (M : Me) (c : Nat) : Nat → Bool
  | 0 => false
  | n + 1 => umB M c n || (bt (M (17 + c) 5) n && decide (M 2 n = 0))
def flM (M : Me) (c : Nat) : Int32 := if M (7 + c) 1 = -1 then 0 else if M (17 + c) 4 = 0 then 1 else if mk (cdP M (nbI (M (7 + c) 1))) 10 = nI 1 <<< (nI c &&& 31) then (if umB M c 10 = true then 3 else if bt (M 3 c) c = true then 4 else 0) else 2
set_option maxHeartbeats 4000000 in
theorem m_B_cellsDefining (l : Launch) (g : Gd) (hI : sI (sB g)) (M : Me) (x : Int32) : CB l g y_B_cellsDefining c_B_cellsDefining 4 (some .int) 3 [.ref (ga g 0), .int x] M (fun r M' => r = some (.int (mk (cdP M x) 10)) ∧ M = M') := by
  refine Ct.of hI (sB_N0 g) rfl (Nat.le_of_ble_eq_true rfl) (fun K h0 hC hR hkl hn => ?_)
  have hC : Cx (sB g) K gC_B _ := hC
  show V K (wp (sB g)) M 0 [(0, .ref (ga g 0)), (1, .int x)] []
  have loop : ∀ (t i : Nat), i + t = 10 → V K (wp (sB g)) M 4 [(3, .int (nI i)), (2, .int (mk (cdP M x) i)), (0, .ref (ga g 0)), (1, .int x)] [] := by
    intro t
    induction t with
    | zero =>
      intro i hi
      refine v_iload_n h0 d_B_cellsDefining_4 0 rfl ?_
      refine v_bipush h0 d_B_cellsDefining_5 (v := nI 10) (by decide) ?_
      refine n_icmp_ge h0 (by omega) (by omega) d_B_cellsDefining_7 rfl (fun h7 => ?_) (fun h7 => absurd h7 (by omega))
      refine v_iload_n h0 d_B_cellsDefining_36 1 rfl ?_
      exact v_iret h0 hC hR d_B_cellsDefining_37 (⟨by rw [show i = 10 by omega], rfl⟩)
    | succ t ih =>
      intro i hi
      refine v_iload_n h0 d_B_cellsDefining_4 0 rfl ?_
      refine v_bipush h0 d_B_cellsDefining_5 (v := nI 10) (by decide) ?_
      refine n_icmp_ge h0 (by omega) (by omega) d_B_cellsDefining_7 rfl (fun h7 => absurd h7 (by omega)) (fun h7 => ?_)
      refine v_aload_n h0 d_B_cellsDefining_10 2 rfl ?_
      refine g_B_cells h0 hC wd_139 d_B_cellsDefining_11 ?_
      refine v_iload_n h0 d_B_cellsDefining_14 0 rfl ?_
      refine a_B_cells h0 hC i (rfl) (by omega) d_B_cellsDefining_15 ?_
      refine v_callV h0 hC (sB_N0 g) (7 + i) (show (7 + i) < 59 by omega) (eB_Ce g (by omega) _) rfl (av := []) (rest := []) (m_Ce_nameBit (kl K) g hI M (by omega)) wd_179 wd_176 wd_177 wd_178 wd_2 hd_Ce_nameBit (by omega) (by decide) rfl rfl (Nat.le_of_ble_eq_true rfl) d_B_cellsDefining_16 (fun r9 M9 hp9 => ?_)
      obtain ⟨rfl, rfl⟩ := hp9
      refine v_r1 ?_
      refine v_iload_n h0 d_B_cellsDefining_19 3 rfl ?_
      refine v_iand h0 d_B_cellsDefining_20 ?_
      refine v_if_eq h0 d_B_cellsDefining_21 rfl (fun h21 => ?_) (fun h21 => ?_)
      · skip
        refine v_iinc h0 d_B_cellsDefining_30 (lv' := [(3, .int (nI (i + 1))), (2, .int (mk (cdP M x) i)), (0, .ref (ga g 0)), (1, .int x)]) 0 rfl (inc1 i) (lt_kn hn (by decide)) rfl ?_
        refine v_goto h0 d_B_cellsDefining_33 rfl ?_
        refine v_eq (ih (i + 1) (by omega)) rfl rfl (by rw [mk_f (decide_eq_false (fun q => q h21))]) rfl
      · skip
        refine v_iload_n h0 d_B_cellsDefining_24 1 rfl ?_
        refine v_iconst h0 d_B_cellsDefining_25 (v := nI 1) (by decide) ?_
        refine v_iload_n h0 d_B_cellsDefining_26 0 rfl ?_
        refine v_ishl h0 d_B_cellsDefining_27 ?_
        refine v_ior h0 d_B_cellsDefining_28 ?_
        refine v_istore_n h0 d_B_cellsDefining_29 (lv' := [(2, .int ((mk (cdP M x) i) ||| ((nI 1) <<< ((nI i) &&& 31)))), (3, .int (nI i)), (0, .ref (ga g 0)), (1, .int x)]) (lt_kn hn (by decide)) rfl ?_
        refine v_iinc h0 d_B_cellsDefining_30 (lv' := [(3, .int (nI (i + 1))), (2, .int ((mk (cdP M x) i) ||| ((nI 1) <<< ((nI i) &&& 31)))), (0, .ref (ga g 0)), (1, .int x)]) 1 rfl (inc1 i) (lt_kn hn (by decide)) rfl ?_
        refine v_goto h0 d_B_cellsDefining_33 rfl ?_
        refine v_eq (ih (i + 1) (by omega)) rfl rfl (by rw [mk_t (decide_eq_true h21)]) rfl
  refine v_iconst h0 d_B_cellsDefining_0 (v := nI 0) (by decide) ?_
  refine v_istore_n h0 d_B_cellsDefining_1 (lv' := [(2, .int (nI 0)), (0, .ref (ga g 0)), (1, .int x)]) (lt_kn hn (by decide)) rfl ?_
  refine v_iconst h0 d_B_cellsDefining_2 (v := nI 0) (by decide) ?_
  refine v_istore_n h0 d_B_cellsDefining_3 (lv' := [(3, .int (nI 0)), (2, .int (nI 0)), (0, .ref (ga g 0)), (1, .int x)]) (lt_kn hn (by decide)) rfl ?_
  exact loop 10 0 rfl
set_option maxHeartbeats 4000000 in
theorem m_B_staleCells (l : Launch) (g : Gd) (hI : sI (sB g)) (M : Me)  : CB l g y_B_staleCells c_B_staleCells 3 (some .int) 1 [.ref (ga g 0)] M (fun r M' => r = some (.int (mk (slP M) 10)) ∧ M = M') := by
  refine Ct.of hI (sB_N0 g) rfl (Nat.le_of_ble_eq_true rfl) (fun K h0 hC hR hkl hn => ?_)
  have hC : Cx (sB g) K gC_B _ := hC
  show V K (wp (sB g)) M 0 [(0, .ref (ga g 0))] []
  have loop : ∀ (t i : Nat), i + t = 10 → V K (wp (sB g)) M 4 [(2, .int (nI i)), (1, .int (mk (slP M) i)), (0, .ref (ga g 0))] [] := by
    intro t
    induction t with
    | zero =>
      intro i hi
      refine v_iload_n h0 d_B_staleCells_4 0 rfl ?_
      refine v_bipush h0 d_B_staleCells_5 (v := nI 10) (by decide) ?_
      refine n_icmp_ge h0 (by omega) (by omega) d_B_staleCells_7 rfl (fun h7 => ?_) (fun h7 => absurd h7 (by omega))
      refine v_iload_n h0 d_B_staleCells_34 1 rfl ?_
      exact v_iret h0 hC hR d_B_staleCells_35 (⟨by rw [show i = 10 by omega], rfl⟩)
    | succ t ih =>
      intro i hi
      refine v_iload_n h0 d_B_staleCells_4 0 rfl ?_
      refine v_bipush h0 d_B_staleCells_5 (v := nI 10) (by decide) ?_
      refine n_icmp_ge h0 (by omega) (by omega) d_B_staleCells_7 rfl (fun h7 => absurd h7 (by omega)) (fun h7 => ?_)
      refine v_aload_n h0 d_B_staleCells_10 2 rfl ?_
      refine g_B_cells h0 hC wd_139 d_B_staleCells_11 ?_
      refine v_iload_n h0 d_B_staleCells_14 0 rfl ?_
      refine a_B_cells h0 hC i (rfl) (by omega) d_B_staleCells_15 ?_
      refine gN_Ce_stale h0 hC (by omega) wn_9 d_B_staleCells_16 ?_
      refine v_if_eq h0 d_B_staleCells_19 rfl (fun h19 => ?_) (fun h19 => ?_)
      · skip
        refine v_iinc h0 d_B_staleCells_28 (lv' := [(2, .int (nI (i + 1))), (1, .int (mk (slP M) i)), (0, .ref (ga g 0))]) 0 rfl (inc1 i) (lt_kn hn (by decide)) rfl ?_
        refine v_goto h0 d_B_staleCells_31 rfl ?_
        refine v_eq (ih (i + 1) (by omega)) rfl rfl (by rw [mk_f (decide_eq_false (fun q => q h19))]) rfl
      · skip
        refine v_iload_n h0 d_B_staleCells_22 1 rfl ?_
        refine v_iconst h0 d_B_staleCells_23 (v := nI 1) (by decide) ?_
        refine v_iload_n h0 d_B_staleCells_24 0 rfl ?_
        refine v_ishl h0 d_B_staleCells_25 ?_
        refine v_ior h0 d_B_staleCells_26 ?_
        refine v_istore_n h0 d_B_staleCells_27 (lv' := [(1, .int ((mk (slP M) i) ||| ((nI 1) <<< ((nI i) &&& 31)))), (2, .int (nI i)), (0, .ref (ga g 0))]) (lt_kn hn (by decide)) rfl ?_
        refine v_iinc h0 d_B_staleCells_28 (lv' := [(2, .int (nI (i + 1))), (1, .int ((mk (slP M) i) ||| ((nI 1) <<< ((nI i) &&& 31)))), (0, .ref (ga g 0))]) 1 rfl (inc1 i) (lt_kn hn (by decide)) rfl ?_
        refine v_goto h0 d_B_staleCells_31 rfl ?_
        refine v_eq (ih (i + 1) (by omega)) rfl rfl (by rw [mk_t (decide_eq_true h19)]) rfl
  refine v_iconst h0 d_B_staleCells_0 (v := nI 0) (by decide) ?_
  refine v_istore_n h0 d_B_staleCells_1 (lv' := [(1, .int (nI 0)), (0, .ref (ga g 0))]) (lt_kn hn (by decide)) rfl ?_
  refine v_iconst h0 d_B_staleCells_2 (v := nI 0) (by decide) ?_
  refine v_istore_n h0 d_B_staleCells_3 (lv' := [(2, .int (nI 0)), (1, .int (nI 0)), (0, .ref (ga g 0))]) (lt_kn hn (by decide)) rfl ?_
  exact loop 10 0 rfl
set_option maxHeartbeats 4000000 in
theorem m_B_usableCells (l : Launch) (g : Gd) (hI : sI (sB g)) (M : Me)  : CB l g y_B_usableCells c_B_usableCells 3 (some .int) 4 [.ref (ga g 0)] M (fun r M' => r = some (.int (mk (ubP M) 10)) ∧ M = M') := by
  refine Ct.of hI (sB_N0 g) rfl (Nat.le_of_ble_eq_true rfl) (fun K h0 hC hR hkl hn => ?_)
  have hC : Cx (sB g) K gC_B _ := hC
  show V K (wp (sB g)) M 0 [(0, .ref (ga g 0))] []
  have loop : ∀ (t i : Nat), i + t = 10 → V K (wp (sB g)) M 4 [(2, .int (nI i)), (1, .int (mk (ubP M) i)), (0, .ref (ga g 0))] [] := by
    intro t
    induction t with
    | zero =>
      intro i hi
      refine v_iload_n h0 d_B_usableCells_4 0 rfl ?_
      refine v_bipush h0 d_B_usableCells_5 (v := nI 10) (by decide) ?_
      refine n_icmp_ge h0 (by omega) (by omega) d_B_usableCells_7 rfl (fun h7 => ?_) (fun h7 => absurd h7 (by omega))
      refine v_iload_n h0 d_B_usableCells_34 1 rfl ?_
      exact v_iret h0 hC hR d_B_usableCells_35 (⟨by rw [show i = 10 by omega], rfl⟩)
    | succ t ih =>
      intro i hi
      refine v_iload_n h0 d_B_usableCells_4 0 rfl ?_
      refine v_bipush h0 d_B_usableCells_5 (v := nI 10) (by decide) ?_
      refine n_icmp_ge h0 (by omega) (by omega) d_B_usableCells_7 rfl (fun h7 => absurd h7 (by omega)) (fun h7 => ?_)
      refine v_aload_n h0 d_B_usableCells_10 2 rfl ?_
      refine g_B_cells h0 hC wd_139 d_B_usableCells_11 ?_
      refine v_iload_n h0 d_B_usableCells_14 0 rfl ?_
      refine a_B_cells h0 hC i (rfl) (by omega) d_B_usableCells_15 ?_
      refine v_callV h0 hC (sB_N0 g) (7 + i) (show (7 + i) < 59 by omega) (eB_Ce g (by omega) _) rfl (av := []) (rest := []) (m_Ce_isUsable (kl K) g hI M (by omega)) wd_319 wd_316 wd_317 wd_318 wd_2 hd_Ce_isUsable (by omega) (by decide) rfl rfl (Nat.le_of_ble_eq_true rfl) d_B_usableCells_16 (fun r9 M9 hp9 => ?_)
      obtain ⟨rfl, rfl⟩ := hp9
      refine v_r1 ?_
      refine b_if_eq h0 d_B_usableCells_19 rfl (fun h19 => ?_) (fun h19 => ?_)
      · skip
        refine v_iinc h0 d_B_usableCells_28 (lv' := [(2, .int (nI (i + 1))), (1, .int (mk (ubP M) i)), (0, .ref (ga g 0))]) 0 rfl (inc1 i) (lt_kn hn (by decide)) rfl ?_
        refine v_goto h0 d_B_usableCells_31 rfl ?_
        refine v_eq (ih (i + 1) (by omega)) rfl rfl (by rw [mk_f (h19)]) rfl
      · skip
        refine v_iload_n h0 d_B_usableCells_22 1 rfl ?_
        refine v_iconst h0 d_B_usableCells_23 (v := nI 1) (by decide) ?_
        refine v_iload_n h0 d_B_usableCells_24 0 rfl ?_
        refine v_ishl h0 d_B_usableCells_25 ?_
        refine v_ior h0 d_B_usableCells_26 ?_
        refine v_istore_n h0 d_B_usableCells_27 (lv' := [(1, .int ((mk (ubP M) i) ||| ((nI 1) <<< ((nI i) &&& 31)))), (2, .int (nI i)), (0, .ref (ga g 0))]) (lt_kn hn (by decide)) rfl ?_
        refine v_iinc h0 d_B_usableCells_28 (lv' := [(2, .int (nI (i + 1))), (1, .int ((mk (ubP M) i) ||| ((nI 1) <<< ((nI i) &&& 31)))), (0, .ref (ga g 0))]) 1 rfl (inc1 i) (lt_kn hn (by decide)) rfl ?_
        refine v_goto h0 d_B_usableCells_31 rfl ?_
        refine v_eq (ih (i + 1) (by omega)) rfl rfl (by rw [mk_t (h19)]) rfl
  refine v_iconst h0 d_B_usableCells_0 (v := nI 0) (by decide) ?_
  refine v_istore_n h0 d_B_usableCells_1 (lv' := [(1, .int (nI 0)), (0, .ref (ga g 0))]) (lt_kn hn (by decide)) rfl ?_
  refine v_iconst h0 d_B_usableCells_2 (v := nI 0) (by decide) ?_
  refine v_istore_n h0 d_B_usableCells_3 (lv' := [(2, .int (nI 0)), (1, .int (nI 0)), (0, .ref (ga g 0))]) (lt_kn hn (by decide)) rfl ?_
  exact loop 10 0 rfl
set_option maxHeartbeats 4000000 in
theorem m_B_othersUsedBy (l : Launch) (g : Gd) (hI : sI (sB g)) (M : Me) {c : Nat} (hc : c < 10) : CB l g y_B_othersUsedBy c_B_othersUsedBy 2 (some .int) 4 [.ref (ga g 0), .int (nI c)] M (fun r M' => r = some (.int (otM M c)) ∧ M = M') := by
  refine Ct.of hI (sB_N0 g) rfl (Nat.le_of_ble_eq_true rfl) (fun K h0 hC hR hkl hn => ?_)
  have hC : Cx (sB g) K gC_B _ := hC
  show V K (wp (sB g)) M 0 [(0, .ref (ga g 0)), (1, .int (nI c))] []
  refine v_aload_n h0 d_B_othersUsedBy_0 0 rfl ?_
  refine v_aload_n h0 d_B_othersUsedBy_1 0 rfl ?_
  refine g_B_cells h0 hC wd_139 d_B_othersUsedBy_2 ?_
  refine v_iload_n h0 d_B_othersUsedBy_5 1 rfl ?_
  refine a_B_cells h0 hC c (rfl) (by omega) d_B_othersUsedBy_6 ?_
  refine gN_Ce_text h0 hC (by omega) wn_5 d_B_othersUsedBy_7 ?_
  refine gN_Te_names h0 hC (by omega) wn_3 d_B_othersUsedBy_10 ?_
  refine v_callV h0 hC (sB_N0 g) 0 (show 0 < 59 by omega) (eB_B g _) rfl (av := [.int (M (17 + c) 5)]) (rest := []) (m_B_cellsDefining (kl K) g hI M _) wd_266 wd_263 wd_265 ws_11 wd_1 hd_B_cellsDefining (by omega) (by decide) rfl rfl (Nat.le_of_ble_eq_true rfl) d_B_othersUsedBy_13 (fun r9 M9 hp9 => ?_)
  obtain ⟨rfl, rfl⟩ := hp9
  refine v_r1 ?_
  refine v_iconst h0 d_B_othersUsedBy_16 (v := nI 1) (by decide) ?_
  refine v_iload_n h0 d_B_othersUsedBy_17 1 rfl ?_
  refine v_ishl h0 d_B_othersUsedBy_18 ?_
  refine v_iconst h0 d_B_othersUsedBy_19 (v := -1) (by decide) ?_
  refine v_ixor h0 d_B_othersUsedBy_20 ?_
  refine v_iand h0 d_B_othersUsedBy_21 ?_
  exact v_iret h0 hC hR d_B_othersUsedBy_22 (⟨rfl, rfl⟩)
theorem um_t {M : Me} {c : Nat} : ∀ {i n : Nat}, i + 1 ≤ n → umB M c (i + 1) = true → umB M c n = true := by
  intro i n
  induction n with
  | zero => intro h; omega
  | succ n ih =>
    intro h hu
    by_cases q : i = n
    · subst q; exact hu
    · simp only [umB, ih (by omega) hu, Bool.true_or]
set_option maxHeartbeats 4000000 in
theorem m_B_usesMissingName (l : Launch) (g : Gd) (hI : sI (sB g)) (M : Me) {c : Nat} (hc : c < 10) (hDV : DV M) : CB l g y_B_usesMissingName c_B_usesMissingName 3 (some .boolean) 2 [.ref (ga g 0), .ref (ga g (7 + c))] M (fun r M' => r = some (.int (bI (umB M c 10))) ∧ M = M') := by
  refine Ct.of hI (sB_N0 g) rfl (Nat.le_of_ble_eq_true rfl) (fun K h0 hC hR hkl hn => ?_)
  have hC : Cx (sB g) K gC_B _ := hC
  show V K (wp (sB g)) M 0 [(0, .ref (ga g 0)), (1, .ref (ga g (7 + c)))] []
  have loop : ∀ (t i : Nat), i + t = 10 → umB M c i = false → V K (wp (sB g)) M 2 [(2, .int (nI i)), (0, .ref (ga g 0)), (1, .ref (ga g (7 + c)))] [] := by
    intro t
    induction t with
    | zero =>
      intro i hi hu
      refine v_iload_n h0 d_B_usesMissingName_2 0 rfl ?_
      refine v_bipush h0 d_B_usesMissingName_3 (v := nI 10) (by decide) ?_
      refine n_icmp_ge h0 (by omega) (by omega) d_B_usesMissingName_5 rfl (fun h5 => ?_) (fun h5 => absurd h5 (by omega))
      refine v_iconst h0 d_B_usesMissingName_39 (v := nI 0) (by decide) ?_
      exact v_zret h0 hC hR (rfl) d_B_usesMissingName_40 (⟨ret_f (by rw [← show i = 10 by omega]; exact hu), rfl⟩)
    | succ t ih =>
      intro i hi hu
      refine v_iload_n h0 d_B_usesMissingName_2 0 rfl ?_
      refine v_bipush h0 d_B_usesMissingName_3 (v := nI 10) (by decide) ?_
      refine n_icmp_ge h0 (by omega) (by omega) d_B_usesMissingName_5 rfl (fun h5 => absurd h5 (by omega)) (fun h5 => ?_)
      refine v_aload_n h0 d_B_usesMissingName_8 2 rfl ?_
      refine gN_Ce_text h0 hC (by omega) wn_5 d_B_usesMissingName_9 ?_
      refine gN_Te_names h0 hC (by omega) wn_3 d_B_usesMissingName_12 ?_
      refine v_iload_n h0 d_B_usesMissingName_15 0 rfl ?_
      refine v_callS h0 hC (sB_N0 g) (av := [.int (M (17 + c) 5), .int (nI i)]) (rest := []) (m_B_hasBit (kl K) g hI M _ i (by omega)) wd_241 wd_267 wd_240 wd_1 hd_B_hasBit (by omega) (by decide) rfl rfl (Nat.le_of_ble_eq_true rfl) d_B_usesMissingName_16 (fun r9 M9 hp9 => ?_)
      obtain ⟨rfl, rfl⟩ := hp9
      refine v_r1 ?_
      refine b_if_eq h0 d_B_usesMissingName_19 rfl (fun h19 => ?_) (fun h19 => ?_)
      · skip
        refine v_iinc h0 d_B_usesMissingName_33 (lv' := [(2, .int (nI (i + 1))), (0, .ref (ga g 0)), (1, .ref (ga g (7 + c)))]) 0 rfl (inc1 i) (lt_kn hn (by decide)) rfl ?_
        refine v_goto h0 d_B_usesMissingName_36 rfl ?_
        exact ih (i + 1) (by omega) (by simp only [umB, hu, h19, Bool.false_and, Bool.or_false])
      · skip
        refine v_aload_n h0 d_B_usesMissingName_22 1 rfl ?_
        refine g_B_definers h0 hC wd_140 d_B_usesMissingName_23 ?_
        refine v_iload_n h0 d_B_usesMissingName_26 0 rfl ?_
        refine a_B_defs h0 hC i (rfl) (by omega) d_B_usesMissingName_27 ?_
        by_cases hz : M 2 i = 0
        · skip
          refine v_top (.null) (by rw [hz, dcC_0]; rfl) ?_
          refine v_ifnonnullN h0 d_B_usesMissingName_28 ?_
          refine v_iconst h0 d_B_usesMissingName_31 (v := nI 1) (by decide) ?_
          exact v_zret h0 hC hR (rfl) d_B_usesMissingName_32 (⟨ret_t (um_t (i := i) (by omega) (by simp only [umB, h19, hz, decide_true, Bool.and_self, Bool.or_true])), rfl⟩)
        · skip
          obtain ⟨c1, hc1, hz1⟩ := (hDV i (by omega)).resolve_left hz
          refine v_top (.ref (ga g (7 + c1))) (by rw [hz1, dcC_c g hc1]; rfl) ?_
          refine v_ifnonnull h0 d_B_usesMissingName_28 rfl ?_
          refine v_iinc h0 d_B_usesMissingName_33 (lv' := [(2, .int (nI (i + 1))), (0, .ref (ga g 0)), (1, .ref (ga g (7 + c)))]) 0 rfl (inc1 i) (lt_kn hn (by decide)) rfl ?_
          refine v_goto h0 d_B_usesMissingName_36 rfl ?_
          exact ih (i + 1) (by omega) (by simp only [umB, hu, hz, decide_false, Bool.and_false, Bool.or_false])
  refine v_iconst h0 d_B_usesMissingName_0 (v := nI 0) (by decide) ?_
  refine v_istore_n h0 d_B_usesMissingName_1 (lv' := [(2, .int (nI 0)), (0, .ref (ga g 0)), (1, .ref (ga g (7 + c)))]) (lt_kn hn (by decide)) rfl ?_
  exact loop 10 0 rfl rfl
set_option maxHeartbeats 4000000 in
theorem m_B_faultOf (l : Launch) (g : Gd) (hI : sI (sB g)) (M : Me) {c : Nat} (hc : c < 10) (hDV : DV M) : CB l g y_B_faultOf c_B_faultOf 3 (some .int) 4 [.ref (ga g 0), .int (nI c)] M (fun r M' => r = some (.int (flM M c)) ∧ M = M') := by
  refine Ct.of hI (sB_N0 g) rfl (Nat.le_of_ble_eq_true rfl) (fun K h0 hC hR hkl hn => ?_)
  have hC : Cx (sB g) K gC_B _ := hC
  show V K (wp (sB g)) M 0 [(0, .ref (ga g 0)), (1, .int (nI c))] []
  refine v_aload_n h0 d_B_faultOf_0 0 rfl ?_
  refine g_B_cells h0 hC wd_139 d_B_faultOf_1 ?_
  refine v_iload_n h0 d_B_faultOf_4 1 rfl ?_
  refine a_B_cells h0 hC c (rfl) (by omega) d_B_faultOf_5 ?_
  refine v_astore_n h0 d_B_faultOf_6 (lv' := [(2, .ref (ga g (7 + c))), (0, .ref (ga g 0)), (1, .int (nI c))]) (lt_kn hn (by decide)) rfl ?_
  refine v_aload_n h0 d_B_faultOf_7 0 rfl ?_
  refine v_callV h0 hC (sB_N0 g) (7 + c) (show (7 + c) < 59 by omega) (eB_Ce g (by omega) _) rfl (av := []) (rest := []) (m_Ce_isEmpty (kl K) g hI M hc) wd_183 wd_250 wd_181 wd_182 wd_2 hd_Ce_isEmpty (by omega) (by decide) rfl rfl (Nat.le_of_ble_eq_true rfl) d_B_faultOf_8 (fun r9 M9 hp9 => ?_)
  obtain ⟨rfl, rfl⟩ := hp9
  refine v_r1 ?_
  refine b_if_eq h0 d_B_faultOf_11 rfl (fun h11 => ?_) (fun h11 => ?_)
  · skip
    refine v_aload_n h0 d_B_faultOf_16 0 rfl ?_
    refine gN_Ce_text h0 hC (by omega) wn_5 d_B_faultOf_17 ?_
    refine gN_Te_wellFormed h0 hC (by omega) wn_2 d_B_faultOf_20 ?_
    refine v_if_ne h0 d_B_faultOf_23 rfl (fun h23 => ?_) (fun h23 => ?_)
    · skip
      refine v_aload_n h0 d_B_faultOf_28 1 rfl ?_
      refine v_aload_n h0 d_B_faultOf_29 0 rfl ?_
      refine v_callV h0 hC (sB_N0 g) (7 + c) (show (7 + c) < 59 by omega) (eB_Ce g (by omega) _) rfl (av := []) (rest := [.ref (ga g 0)]) (m_Ce_nameBit (kl K) g hI M hc) wd_179 wd_176 wd_177 wd_178 wd_2 hd_Ce_nameBit (by omega) (by decide) rfl rfl (Nat.le_of_ble_eq_true rfl) d_B_faultOf_30 (fun r9 M9 hp9 => ?_)
      obtain ⟨rfl, rfl⟩ := hp9
      refine v_r1 ?_
      refine v_callV h0 hC (sB_N0 g) 0 (show 0 < 59 by omega) (eB_B g _) rfl (av := [.int (nbI (M (7 + c) 1))]) (rest := []) (m_B_cellsDefining (kl K) g hI M _) wd_266 wd_263 wd_265 ws_11 wd_1 hd_B_cellsDefining (by omega) (by decide) rfl rfl (Nat.le_of_ble_eq_true rfl) d_B_faultOf_33 (fun r9 M9 hp9 => ?_)
      obtain ⟨rfl, rfl⟩ := hp9
      refine v_r1 ?_
      refine v_iconst h0 d_B_faultOf_36 (v := nI 1) (by decide) ?_
      refine v_iload_n h0 d_B_faultOf_37 2 rfl ?_
      refine v_ishl h0 d_B_faultOf_38 ?_
      refine v_icmp_eq h0 d_B_faultOf_39 rfl (fun h39 => ?_) (fun h39 => ?_)
      · skip
        refine v_aload_n h0 d_B_faultOf_44 1 rfl ?_
        refine v_aload_n h0 d_B_faultOf_45 0 rfl ?_
        refine v_callV h0 hC (sB_N0 g) 0 (show 0 < 59 by omega) (eB_B g _) rfl (av := [.ref (ga g (7 + c))]) (rest := []) (m_B_usesMissingName (kl K) g hI M hc hDV) wd_275 wd_272 wd_274 ws_13 wd_1 hd_B_usesMissingName (by omega) (by decide) rfl rfl (Nat.le_of_ble_eq_true rfl) d_B_faultOf_46 (fun r9 M9 hp9 => ?_)
        obtain ⟨rfl, rfl⟩ := hp9
        refine v_r1 ?_
        refine b_if_eq h0 d_B_faultOf_49 rfl (fun h49 => ?_) (fun h49 => ?_)
        · skip
          refine v_aload_n h0 d_B_faultOf_54 1 rfl ?_
          refine g_B_reached h0 hC wd_141 d_B_faultOf_55 ?_
          refine v_iload_n h0 d_B_faultOf_58 2 rfl ?_
          refine a_B_reached h0 hC c (rfl) (by omega) d_B_faultOf_59 ?_
          refine v_iload_n h0 d_B_faultOf_60 2 rfl ?_
          refine v_callS h0 hC (sB_N0 g) (av := [.int (M 3 c), .int (nI c)]) (rest := []) (m_B_hasBit (kl K) g hI M _ c (by omega)) wd_241 wd_267 wd_240 wd_1 hd_B_hasBit (by omega) (by decide) rfl rfl (Nat.le_of_ble_eq_true rfl) d_B_faultOf_61 (fun r9 M9 hp9 => ?_)
          obtain ⟨rfl, rfl⟩ := hp9
          refine v_r1 ?_
          refine b_if_eq h0 d_B_faultOf_64 rfl (fun h64 => ?_) (fun h64 => ?_)
          · skip
            refine v_iconst h0 d_B_faultOf_71 (v := nI 0) (by decide) ?_
            exact v_iret h0 hC hR d_B_faultOf_72 (⟨by unfold flM; rw [if_neg (of_decide_eq_false h11), if_neg h23, if_pos h39, if_neg (by rw [h49]; decide), if_neg (by rw [h64]; decide)]; rfl, rfl⟩)
          · skip
            refine v_iconst h0 d_B_faultOf_67 (v := nI 4) (by decide) ?_
            refine v_goto h0 d_B_faultOf_68 rfl ?_
            exact v_iret h0 hC hR d_B_faultOf_72 (⟨by unfold flM; rw [if_neg (of_decide_eq_false h11), if_neg h23, if_pos h39, if_neg (by rw [h49]; decide), if_pos h64]; rfl, rfl⟩)
        · skip
          refine v_iconst h0 d_B_faultOf_52 (v := nI 3) (by decide) ?_
          exact v_iret h0 hC hR d_B_faultOf_53 (⟨by unfold flM; rw [if_neg (of_decide_eq_false h11), if_neg h23, if_pos h39, if_pos h49]; rfl, rfl⟩)
      · skip
        refine v_iconst h0 d_B_faultOf_42 (v := nI 2) (by decide) ?_
        exact v_iret h0 hC hR d_B_faultOf_43 (⟨by unfold flM; rw [if_neg (of_decide_eq_false h11), if_neg h23, if_neg h39]; rfl, rfl⟩)
    · skip
      refine v_iconst h0 d_B_faultOf_26 (v := nI 1) (by decide) ?_
      exact v_iret h0 hC hR d_B_faultOf_27 (⟨by unfold flM; rw [if_neg (of_decide_eq_false h11), if_pos h23]; rfl, rfl⟩)
  · skip
    refine v_iconst h0 d_B_faultOf_14 (v := nI 0) (by decide) ?_
    exact v_iret h0 hC hR d_B_faultOf_15 (⟨by unfold flM; rw [if_pos (of_decide_eq_true h11)]; rfl, rfl⟩)
