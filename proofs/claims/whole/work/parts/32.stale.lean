/-! STALE CELLS (the book) -/
/-- the first i cells for which p holds are stale -/
def skI (M : Me) (p : Nat → Bool) (i : Nat) : Me := fun a b => if (7 ≤ a ∧ a < 7 + i) ∧ b = 3 ∧ p (a - 7) = true then 1 else M a b
theorem skI_0 (M : Me) (p : Nat → Bool) : skI M p 0 = M := by
  funext a b; unfold skI; rw [if_neg (by omega)]
theorem skI_t {M : Me} {p : Nat → Bool} {i : Nat} (h : p i = true) : skI M p (i + 1) = up2 (skI M p i) (7 + i) 3 1 := by
  funext a b
  rw [up2_if]
  unfold skI
  by_cases e : a = 7 + i ∧ b = 3
  · rw [if_pos e, if_pos ⟨by omega, e.2, by rw [show a - 7 = i by omega]; exact h⟩]
  · rw [if_neg e]
    by_cases e2 : (7 ≤ a ∧ a < 7 + i) ∧ b = 3 ∧ p (a - 7) = true
    · rw [if_pos e2, if_pos ⟨by omega, e2.2⟩]
    · rw [if_neg e2, if_neg (fun q => by
        have : ¬ (a = 7 + i) := fun z => e ⟨z, q.2.1⟩
        exact e2 ⟨by omega, q.2⟩)]
theorem skI_f {M : Me} {p : Nat → Bool} {i : Nat} (h : p i = false) : skI M p (i + 1) = skI M p i := by
  funext a b
  unfold skI
  by_cases e2 : (7 ≤ a ∧ a < 7 + i) ∧ b = 3 ∧ p (a - 7) = true
  · rw [if_pos e2, if_pos ⟨by omega, e2.2⟩]
  · rw [if_neg e2, if_neg (fun q => by
      have : ¬ (a = 7 + i) := fun z => by rw [z, show 7 + i - 7 = i by omega, h] at q; exact absurd q.2.2 (by decide)
      exact e2 ⟨by omega, q.2⟩)]
theorem skI_n (M : Me) (p : Nat → Bool) (i : Nat) {a b : Nat} (h : ¬ (7 ≤ a ∧ a < 17 ∧ b = 3)) (hi : i ≤ 10) : skI M p i a b = M a b := by
  unfold skI; rw [if_neg (fun q => h ⟨q.1.1, by omega, q.2.1⟩)]
theorem skI_r (M : Me) (p : Nat → Bool) (i : Nat) {a : Nat} (h : ¬ (7 ≤ a ∧ a < 17)) (hi : i ≤ 10) : skI M p i a = M a := by
  funext b; exact skI_n M p i (fun q => h ⟨q.1, q.2.1⟩) hi
theorem skI_s (M : Me) (p : Nat → Bool) {c : Nat} (hc : c < 10) : skI M p 10 (7 + c) 3 = if p c = true then 1 else M (7 + c) 3 := by
  unfold skI
  rw [show 7 + c - 7 = c by omega]
  by_cases h : p c = true
  · rw [if_pos h, if_pos ⟨by omega, rfl, h⟩]
  · rw [if_neg h, if_neg (fun q => h q.2.2)]
theorem skI_2 (M : Me) (p q : Nat → Bool) : skI (skI M p 10) q 10 = skI M (fun c => p c || q c) 10 := by
  funext a b
  unfold skI
  by_cases h : (7 ≤ a ∧ a < 7 + 10) ∧ b = 3
  · cases hp : p (a - 7) <;> cases hq : q (a - 7) <;> simp [h.1.1, h.1.2, h.2, hp, hq]
  · rw [if_neg (fun w => h ⟨w.1, w.2.1⟩), if_neg (fun w => h ⟨w.1, w.2.1⟩), if_neg (fun w => h ⟨w.1, w.2.1⟩)]
def usr (M : Me) (x : Int32) (c : Nat) : Bool := decide (¬ M (17 + c) 5 &&& x = 0)
def foM (M : Me) (x : Int32) : Nat → Int32
  | 0 => nI 0
  | i + 1 => if usr M x i = true then foM M x i ||| nbI (M (7 + i) 1) else foM M x i
theorem usr_sk (M : Me) (p : Nat → Bool) (x : Int32) : ∀ c, c < 10 → usr (skI M p 10) x c = usr M x c := by
  intro c hc; unfold usr; rw [skI_r _ _ _ (by omega) (by omega)]
theorem foM_sk (M : Me) (p : Nat → Bool) (x : Int32) : ∀ i, i ≤ 10 → foM (skI M p 10) x i = foM M x i := by
  intro i
  induction i with
  | zero => intro _; rfl
  | succ i ih => intro hi; simp only [foM]; rw [usr_sk M p x i (by omega), ih (by omega), skI_n _ _ _ (by omega) (by omega)]
theorem skI_cong {M : Me} {p q : Nat → Bool} (h : ∀ c, c < 10 → p c = q c) : skI M p 10 = skI M q 10 := by
  funext a b
  unfold skI
  by_cases w : (7 ≤ a ∧ a < 7 + 10) ∧ b = 3
  · rw [h (a - 7) (by omega)]
  · rw [if_neg (fun z => w ⟨z.1, z.2.1⟩), if_neg (fun z => w ⟨z.1, z.2.1⟩)]
/-- the names that are reached, round by round, and the cells -/
def NNx (M : Me) (x : Int32) : Nat → Int32
  | 0 => x
  | t + 1 => NNx M x t ||| foM M (NNx M x t) 10
def PPx (M : Me) (x : Int32) : Nat → Nat → Bool
  | 0 => cdP M x
  | t + 1 => fun c => PPx M x t c || usr M (NNx M x t) c
def SpP (M : Me) (x : Int32) (r : Option Value) (M' : Me) : Prop := r = none ∧ ∃ t, M' = skI M (PPx M x (t + 1)) 10 ∧ (NNx M x (t + 1) = NNx M x t ∨ t = 10)
set_option maxHeartbeats 4000000 in
theorem m_B_makeUsersStale (l : Launch) (g : Gd) (hI : sI (sB g)) (M : Me) (x : Int32) : CB l g y_B_makeUsersStale c_B_makeUsersStale 4 (some .int) 3 [.ref (ga g 0), .int x] M (fun r M' => r = some (.int (foM M x 10)) ∧ M' = skI M (usr M x) 10) := by
  refine Ct.of hI (sB_N0 g) rfl (Nat.le_of_ble_eq_true rfl) (fun K h0 hC hR hkl hn => ?_)
  have hC : Cx (sB g) K gC_B _ := hC
  show V K (wp (sB g)) M 0 [(0, .ref (ga g 0)), (1, .int x)] []
  have loop : ∀ (t i : Nat), i + t = 10 → V K (wp (sB g)) (skI M (usr M x) i) 4 [(3, .int (nI i)), (2, .int (foM M x i)), (0, .ref (ga g 0)), (1, .int x)] [] := by
    intro t
    induction t with
    | zero =>
      intro i hi
      refine v_iload_n h0 d_B_makeUsersStale_4 0 rfl ?_
      refine v_bipush h0 d_B_makeUsersStale_5 (v := nI 10) (by decide) ?_
      refine n_icmp_ge h0 (by omega) (by omega) d_B_makeUsersStale_7 rfl (fun h7 => ?_) (fun h7 => absurd h7 (by omega))
      refine v_iload_n h0 d_B_makeUsersStale_55 1 rfl ?_
      exact v_iret h0 hC hR d_B_makeUsersStale_56 (⟨by rw [show i = 10 by omega], by rw [show i = 10 by omega]⟩)
    | succ t ih =>
      intro i hi
      refine v_iload_n h0 d_B_makeUsersStale_4 0 rfl ?_
      refine v_bipush h0 d_B_makeUsersStale_5 (v := nI 10) (by decide) ?_
      refine n_icmp_ge h0 (by omega) (by omega) d_B_makeUsersStale_7 rfl (fun h7 => absurd h7 (by omega)) (fun h7 => ?_)
      refine v_aload_n h0 d_B_makeUsersStale_10 2 rfl ?_
      refine g_B_cells h0 hC wd_139 d_B_makeUsersStale_11 ?_
      refine v_iload_n h0 d_B_makeUsersStale_14 0 rfl ?_
      refine a_B_cells h0 hC i (rfl) (by omega) d_B_makeUsersStale_15 ?_
      refine gN_Ce_text h0 hC (by omega) wn_5 d_B_makeUsersStale_16 ?_
      refine gN_Te_names h0 hC (by omega) wn_3 d_B_makeUsersStale_19 ?_
      refine v_int (M (17 + i) 5) (skI_n _ _ _ (by omega) (by omega)) ?_
      refine v_iload_n h0 d_B_makeUsersStale_22 3 rfl ?_
      refine v_iand h0 d_B_makeUsersStale_23 ?_
      refine v_if_eq h0 d_B_makeUsersStale_24 rfl (fun h24 => ?_) (fun h24 => ?_)
      · skip
        have hu : usr M x i = false := decide_eq_false (fun q => q h24)
        refine v_iinc h0 d_B_makeUsersStale_49 (lv' := [(3, .int (nI (i + 1))), (2, .int (foM M x i)), (0, .ref (ga g 0)), (1, .int x)]) 0 rfl (inc1 i) (lt_kn hn (by decide)) rfl ?_
        refine v_goto h0 d_B_makeUsersStale_52 rfl ?_
        refine v_eq (ih (i + 1) (by omega)) (skI_f hu).symm rfl (by rw [foM, if_neg (by rw [hu]; decide)]) rfl
      · skip
        have hu : usr M x i = true := decide_eq_true h24
        refine v_aload_n h0 d_B_makeUsersStale_27 2 rfl ?_
        refine g_B_cells h0 hC wd_139 d_B_makeUsersStale_28 ?_
        refine v_iload_n h0 d_B_makeUsersStale_31 0 rfl ?_
        refine a_B_cells h0 hC i (rfl) (by omega) d_B_makeUsersStale_32 ?_
        refine v_iconst h0 d_B_makeUsersStale_33 (v := nI 1) (by decide) ?_
        refine pN_Ce_stale h0 hC (by omega) (Or.inr rfl) wn_9 d_B_makeUsersStale_34 ?_
        refine v_iload_n h0 d_B_makeUsersStale_37 1 rfl ?_
        refine v_aload_n h0 d_B_makeUsersStale_38 2 rfl ?_
        refine g_B_cells h0 hC wd_139 d_B_makeUsersStale_39 ?_
        refine v_iload_n h0 d_B_makeUsersStale_42 0 rfl ?_
        refine a_B_cells h0 hC i (rfl) (by omega) d_B_makeUsersStale_43 ?_
        rw [show up2 (skI M (usr M x) i) (7 + i) 3 (nI 1) = skI M (usr M x) (i + 1) from (skI_t hu).symm]
        refine v_callV h0 hC (sB_N0 g) (7 + i) (show (7 + i) < 59 by omega) (eB_Ce g (by omega) _) rfl (av := []) (rest := [.int (foM M x i)]) (m_Ce_nameBit (kl K) g hI (skI M (usr M x) (i + 1)) (by omega)) wd_179 wd_176 wd_177 wd_178 wd_2 hd_Ce_nameBit (by omega) (by decide) rfl rfl (Nat.le_of_ble_eq_true rfl) d_B_makeUsersStale_44 (fun r9 M9 hp9 => ?_)
        obtain ⟨rfl, rfl⟩ := hp9
        refine v_r1 ?_
        refine v_int (nbI (M (7 + i) 1)) (by rw [skI_n _ _ _ (by omega) (by omega)]) ?_
        refine v_ior h0 d_B_makeUsersStale_47 ?_
        refine v_istore_n h0 d_B_makeUsersStale_48 (lv' := [(2, .int ((foM M x i) ||| (nbI (M (7 + i) 1)))), (3, .int (nI i)), (0, .ref (ga g 0)), (1, .int x)]) (lt_kn hn (by decide)) rfl ?_
        refine v_iinc h0 d_B_makeUsersStale_49 (lv' := [(3, .int (nI (i + 1))), (2, .int ((foM M x i) ||| (nbI (M (7 + i) 1)))), (0, .ref (ga g 0)), (1, .int x)]) 1 rfl (inc1 i) (lt_kn hn (by decide)) rfl ?_
        refine v_goto h0 d_B_makeUsersStale_52 rfl ?_
        refine v_eq (ih (i + 1) (by omega)) rfl rfl (by rw [foM, if_pos hu]) rfl
  refine v_iconst h0 d_B_makeUsersStale_0 (v := nI 0) (by decide) ?_
  refine v_istore_n h0 d_B_makeUsersStale_1 (lv' := [(2, .int (nI 0)), (0, .ref (ga g 0)), (1, .int x)]) (lt_kn hn (by decide)) rfl ?_
  refine v_iconst h0 d_B_makeUsersStale_2 (v := nI 0) (by decide) ?_
  refine v_istore_n h0 d_B_makeUsersStale_3 (lv' := [(3, .int (nI 0)), (2, .int (nI 0)), (0, .ref (ga g 0)), (1, .int x)]) (lt_kn hn (by decide)) rfl ?_
  refine v_eq (loop 10 0 rfl) (skI_0 _ _).symm rfl rfl rfl
set_option maxHeartbeats 4000000 in
theorem m_B_spreadStale (l : Launch) (g : Gd) (hI : sI (sB g)) (M : Me) (x : Int32) : CB l g y_B_spreadStale c_B_spreadStale 5 none 4 [.ref (ga g 0), .int x] M (SpP M x) := by
  refine Ct.of hI (sB_N0 g) rfl (Nat.le_of_ble_eq_true rfl) (fun K h0 hC hR hkl hn => ?_)
  have hC : Cx (sB g) K gC_B _ := hC
  show V K (wp (sB g)) M 0 [(0, .ref (ga g 0)), (1, .int x)] []
  have rounds : ∀ (t i : Nat), i + t = 11 → V K (wp (sB g)) (skI M (PPx M x i) 10) 42 [(3, .int (nI i)), (2, .int (NNx M x i)), (0, .ref (ga g 0)), (1, .int x)] [] := by
    intro t
    induction t with
    | zero =>
      intro i hi
      obtain rfl : i = 10 + 1 := by omega
      refine v_iload_n h0 d_B_spreadStale_42 0 rfl ?_
      refine v_bipush h0 d_B_spreadStale_43 (v := nI 10) (by decide) ?_
      refine n_icmp_gt h0 (by omega) (by omega) d_B_spreadStale_45 rfl (fun h45 => ?_) (fun h45 => absurd h45 (by omega))
      exact v_vret h0 hC hR d_B_spreadStale_72 (⟨rfl, 10, rfl, Or.inr rfl⟩)
    | succ t ih =>
      intro i hi
      refine v_iload_n h0 d_B_spreadStale_42 0 rfl ?_
      refine v_bipush h0 d_B_spreadStale_43 (v := nI 10) (by decide) ?_
      refine n_icmp_gt h0 (by omega) (by omega) d_B_spreadStale_45 rfl (fun h45 => absurd h45 (by omega)) (fun h45 => ?_)
      refine v_iload_n h0 d_B_spreadStale_48 1 rfl ?_
      refine v_istore h0 d_B_spreadStale_49 (lv' := [(4, .int (NNx M x i)), (3, .int (nI i)), (2, .int (NNx M x i)), (0, .ref (ga g 0)), (1, .int x)]) (lt_kn hn (by decide)) rfl ?_
      refine v_iload_n h0 d_B_spreadStale_51 2 rfl ?_
      refine v_aload_n h0 d_B_spreadStale_52 3 rfl ?_
      refine v_iload_n h0 d_B_spreadStale_53 2 rfl ?_
      refine v_callV h0 hC (sB_N0 g) 0 (show 0 < 59 by omega) (eB_B g _) rfl (av := [.int (NNx M x i)]) (rest := [.int (NNx M x i)]) (m_B_makeUsersStale (kl K) g hI (skI M (PPx M x i) 10) _) wd_283 wd_280 wd_282 ws_15 wd_1 hd_B_makeUsersStale (by omega) (by decide) rfl rfl (Nat.le_of_ble_eq_true rfl) d_B_spreadStale_54 (fun r9 M9 hp9 => ?_)
      obtain ⟨rfl, rfl⟩ := hp9
      rw [show skI (skI M (PPx M x i) 10) (usr (skI M (PPx M x i) 10) (NNx M x i)) 10 = skI M (PPx M x (i + 1)) 10 from by rw [skI_cong (usr_sk M _ _), skI_2]; rfl, foM_sk M _ _ 10 (by omega)]
      refine v_r1 ?_
      refine v_ior h0 d_B_spreadStale_57 ?_
      refine v_int (NNx M x (i + 1)) (rfl) ?_
      refine v_istore_n h0 d_B_spreadStale_58 (lv' := [(2, .int (NNx M x (i + 1))), (4, .int (NNx M x i)), (3, .int (nI i)), (0, .ref (ga g 0)), (1, .int x)]) (lt_kn hn (by decide)) rfl ?_
      refine v_iload_n h0 d_B_spreadStale_59 0 rfl ?_
      refine v_iload h0 d_B_spreadStale_60 1 rfl ?_
      refine v_icmp_ne h0 d_B_spreadStale_62 rfl (fun h62 => ?_) (fun h62 => ?_)
      · skip
        refine v_iinc h0 d_B_spreadStale_66 (lv' := [(3, .int (nI (i + 1))), (2, .int (NNx M x (i + 1))), (4, .int (NNx M x i)), (0, .ref (ga g 0)), (1, .int x)]) 2 rfl (inc1 i) (lt_kn hn (by decide)) rfl ?_
        refine v_goto h0 d_B_spreadStale_69 rfl ?_
        refine v_sub [0, 1, 3, 4] rfl ?_
        exact ih (i + 1) (by omega)
      · skip
        exact v_vret h0 hC hR d_B_spreadStale_65 (⟨rfl, i, rfl, Or.inl h62⟩)
  have loop : ∀ (t i : Nat), i + t = 10 → V K (wp (sB g)) (skI M (cdP M x) i) 2 [(2, .int (nI i)), (0, .ref (ga g 0)), (1, .int x)] [] := by
    intro t
    induction t with
    | zero =>
      intro i hi
      obtain rfl : i = 10 := by omega
      refine v_iload_n h0 d_B_spreadStale_2 0 rfl ?_
      refine v_bipush h0 d_B_spreadStale_3 (v := nI 10) (by decide) ?_
      refine n_icmp_ge h0 (by omega) (by omega) d_B_spreadStale_5 rfl (fun h5 => ?_) (fun h5 => absurd h5 (by omega))
      refine v_iload_n h0 d_B_spreadStale_38 2 rfl ?_
      refine v_istore_n h0 d_B_spreadStale_39 (lv' := [(2, .int x), (0, .ref (ga g 0)), (1, .int x)]) (lt_kn hn (by decide)) rfl ?_
      refine v_iconst h0 d_B_spreadStale_40 (v := nI 0) (by decide) ?_
      refine v_istore_n h0 d_B_spreadStale_41 (lv' := [(3, .int (nI 0)), (2, .int x), (0, .ref (ga g 0)), (1, .int x)]) (lt_kn hn (by decide)) rfl ?_
      exact rounds 11 0 rfl
    | succ t ih =>
      intro i hi
      refine v_iload_n h0 d_B_spreadStale_2 0 rfl ?_
      refine v_bipush h0 d_B_spreadStale_3 (v := nI 10) (by decide) ?_
      refine n_icmp_ge h0 (by omega) (by omega) d_B_spreadStale_5 rfl (fun h5 => absurd h5 (by omega)) (fun h5 => ?_)
      refine v_aload_n h0 d_B_spreadStale_8 1 rfl ?_
      refine g_B_cells h0 hC wd_139 d_B_spreadStale_9 ?_
      refine v_iload_n h0 d_B_spreadStale_12 0 rfl ?_
      refine a_B_cells h0 hC i (rfl) (by omega) d_B_spreadStale_13 ?_
      refine v_callV h0 hC (sB_N0 g) (7 + i) (show (7 + i) < 59 by omega) (eB_Ce g (by omega) _) rfl (av := []) (rest := []) (m_Ce_nameBit (kl K) g hI (skI M (cdP M x) i) (by omega)) wd_179 wd_176 wd_177 wd_178 wd_2 hd_Ce_nameBit (by omega) (by decide) rfl rfl (Nat.le_of_ble_eq_true rfl) d_B_spreadStale_14 (fun r9 M9 hp9 => ?_)
      obtain ⟨rfl, rfl⟩ := hp9
      refine v_r1 ?_
      refine v_int (nbI (M (7 + i) 1)) (by rw [skI_n _ _ _ (by omega) (by omega)]) ?_
      refine v_iload_n h0 d_B_spreadStale_17 2 rfl ?_
      refine v_iand h0 d_B_spreadStale_18 ?_
      refine v_if_eq h0 d_B_spreadStale_19 rfl (fun h19 => ?_) (fun h19 => ?_)
      · skip
        refine v_iinc h0 d_B_spreadStale_32 (lv' := [(2, .int (nI (i + 1))), (0, .ref (ga g 0)), (1, .int x)]) 0 rfl (inc1 i) (lt_kn hn (by decide)) rfl ?_
        refine v_goto h0 d_B_spreadStale_35 rfl ?_
        refine v_eq (ih (i + 1) (by omega)) (skI_f (decide_eq_false (fun q => q h19))).symm rfl rfl rfl
      · skip
        refine v_aload_n h0 d_B_spreadStale_22 1 rfl ?_
        refine g_B_cells h0 hC wd_139 d_B_spreadStale_23 ?_
        refine v_iload_n h0 d_B_spreadStale_26 0 rfl ?_
        refine a_B_cells h0 hC i (rfl) (by omega) d_B_spreadStale_27 ?_
        refine v_iconst h0 d_B_spreadStale_28 (v := nI 1) (by decide) ?_
        refine pN_Ce_stale h0 hC (by omega) (Or.inr rfl) wn_9 d_B_spreadStale_29 ?_
        refine v_iinc h0 d_B_spreadStale_32 (lv' := [(2, .int (nI (i + 1))), (0, .ref (ga g 0)), (1, .int x)]) 0 rfl (inc1 i) (lt_kn hn (by decide)) rfl ?_
        refine v_goto h0 d_B_spreadStale_35 rfl ?_
        refine v_eq (ih (i + 1) (by omega)) (skI_t (p := cdP M x) (decide_eq_true h19)).symm rfl rfl rfl
  refine v_iconst h0 d_B_spreadStale_0 (v := nI 0) (by decide) ?_
  refine v_istore_n h0 d_B_spreadStale_1 (lv' := [(2, .int (nI 0)), (0, .ref (ga g 0)), (1, .int x)]) (lt_kn hn (by decide)) rfl ?_
  refine v_eq (loop 10 0 rfl) (skI_0 _ _).symm rfl rfl rfl
def faM (M : Me) (i : Nat) : Me := fun a b => if (7 ≤ a ∧ a < 7 + i) ∧ b = 2 then flM M (a - 7) else M a b
theorem faM_0 (M : Me) : faM M 0 = M := by funext a b; unfold faM; rw [if_neg (by omega)]
theorem faM_s (M : Me) (i : Nat) : faM M (i + 1) = up2 (faM M i) (7 + i) 2 (flM M i) := by
  funext a b
  rw [up2_if]
  unfold faM
  by_cases e : a = 7 + i ∧ b = 2
  · rw [if_pos e, if_pos (by omega), show a - 7 = i by omega]
  · rw [if_neg e]
    by_cases e2 : (7 ≤ a ∧ a < 7 + i) ∧ b = 2
    · rw [if_pos e2, if_pos (by omega)]
    · rw [if_neg e2, if_neg (by omega)]
theorem faM_n (M : Me) {i a b : Nat} (h : ¬ (7 ≤ a ∧ a < 17 ∧ b = 2)) (hi : i ≤ 10) : faM M i a b = M a b := by
  unfold faM; rw [if_neg (by omega)]
theorem faM_r (M : Me) {i a : Nat} (h : ¬ (7 ≤ a ∧ a < 17)) (hi : i ≤ 10) : faM M i a = M a := by
  funext b; exact faM_n M (by omega) hi
theorem umB_fa (M : Me) {i : Nat} (hi : i ≤ 10) (c : Nat) : ∀ n, umB (faM M i) c n = umB M c n := by
  intro n
  induction n with
  | zero => rfl
  | succ n ih => simp only [umB]; rw [ih, faM_r M (by omega) hi, faM_r M (by omega) hi]
theorem flM_fa (M : Me) {i c : Nat} (hi : i ≤ 10) : flM (faM M i) c = flM M c := by
  have e : ∀ x, cdP (faM M i) x = cdP M x := fun x => by funext q; unfold cdP; rw [faM_n M (by omega) hi]
  unfold flM
  rw [e, umB_fa M hi, faM_n M (by omega) hi, faM_r M (by omega) hi, faM_r M (by omega) hi]
def FoP (M : Me) (x : Int32) (r : Option Value) (M' : Me) : Prop := ∃ q M2, M2 = upR (upR M 2 (dfR M 10)) 3 q ∧ (∀ c, c < 10 → ∀ d, d < 32 → bt (q c) d = (decide (d < 10) && Wb (wyE (upR M 2 (dfR M 10))) 10 c d)) ∧ SpP (faM M2 10) x r M'
theorem DV_df {M : Me} (hN : NMo M) : ∀ i, i ≤ 10 → ∀ j, j < 10 → dfR M i j = 0 ∨ ∃ c, c < 10 ∧ dfR M i j = nI (c + 1) := by
  intro i
  induction i with
  | zero => intro _ j hj; left; show nuR M 10 j = 0; unfold nuR; rw [if_pos hj]
  | succ i ih =>
    intro hi j hj
    simp only [dfR]
    split
    · exact ih (by omega) j hj
    · unfold upd
      split
      · exact Or.inr ⟨i, by omega, rfl⟩
      · exact ih (by omega) j hj
set_option maxHeartbeats 4000000 in
theorem m_B_follow (l : Launch) (g : Gd) (hI : sI (sB g)) (M : Me) (x : Int32) (hN : NMo M) : CB l g y_B_follow c_B_follow 3 none 6 [.ref (ga g 0), .int x] M (FoP M x) := by
  refine Ct.of hI (sB_N0 g) rfl (Nat.le_of_ble_eq_true rfl) (fun K h0 hC hR hkl hn => ?_)
  have hC : Cx (sB g) K gC_B _ := hC
  show V K (wp (sB g)) M 0 [(0, .ref (ga g 0)), (1, .int x)] []
  have hDVd := DV_df hN 10 (by omega)
  have loop : ∀ (M2 : Me), DV M2 → (∀ M3, SpP (faM M2 10) x none M3 → FoP M x none M3) → ∀ (t i : Nat), i + t = 10 → V K (wp (sB g)) (faM M2 i) 10 [(2, .int (nI i)), (0, .ref (ga g 0)), (1, .int x)] [] := by
    intro M2 hDV hx t
    induction t with
    | zero =>
      intro i hi
      obtain rfl : i = 10 := by omega
      refine v_iload_n h0 d_B_follow_10 0 rfl ?_
      refine v_bipush h0 d_B_follow_11 (v := nI 10) (by decide) ?_
      refine n_icmp_ge h0 (by omega) (by omega) d_B_follow_13 rfl (fun h13 => ?_) (fun h13 => absurd h13 (by omega))
      refine v_aload_n h0 d_B_follow_36 1 rfl ?_
      refine v_iload_n h0 d_B_follow_37 2 rfl ?_
      refine v_callV h0 hC (sB_N0 g) 0 (show 0 < 59 by omega) (eB_B g _) rfl (av := [.int x]) (rest := []) (m_B_spreadStale (kl K) g hI (faM M2 10) x) wd_279 wd_276 wd_278 ws_14 wd_1 hd_B_spreadStale (by omega) (by decide) rfl rfl (Nat.le_of_ble_eq_true rfl) d_B_follow_38 (fun r9 M9 hp9 => ?_)
      obtain rfl : r9 = none := hp9.1
      refine v_r0 ?_
      exact v_vret h0 hC hR d_B_follow_41 (hx _ hp9)
    | succ t ih =>
      intro i hi
      refine v_iload_n h0 d_B_follow_10 0 rfl ?_
      refine v_bipush h0 d_B_follow_11 (v := nI 10) (by decide) ?_
      refine n_icmp_ge h0 (by omega) (by omega) d_B_follow_13 rfl (fun h13 => absurd h13 (by omega)) (fun h13 => ?_)
      refine v_aload_n h0 d_B_follow_16 1 rfl ?_
      refine g_B_cells h0 hC wd_139 d_B_follow_17 ?_
      refine v_iload_n h0 d_B_follow_20 0 rfl ?_
      refine a_B_cells h0 hC i (rfl) (by omega) d_B_follow_21 ?_
      refine v_aload_n h0 d_B_follow_22 1 rfl ?_
      refine v_iload_n h0 d_B_follow_23 0 rfl ?_
      refine v_callV h0 hC (sB_N0 g) 0 (show 0 < 59 by omega) (eB_B g _) rfl (av := [.int (nI i)]) (rest := [.ref (ga g (7 + i))]) (m_B_faultOf (kl K) g hI (faM M2 i) (by omega) (fun j hj => by rw [faM_r M2 (by omega) (by omega)]; exact hDV j hj)) wd_271 wd_268 wd_270 ws_12 wd_1 hd_B_faultOf (by omega) (by decide) rfl rfl (Nat.le_of_ble_eq_true rfl) d_B_follow_24 (fun r9 M9 hp9 => ?_)
      obtain ⟨rfl, rfl⟩ := hp9
      refine v_r1 ?_
      refine v_int (flM M2 i) (flM_fa M2 (by omega)) ?_
      refine pN_Ce_fault h0 hC (by omega) wn_8 d_B_follow_27 ?_
      refine v_iinc h0 d_B_follow_30 (lv' := [(2, .int (nI (i + 1))), (0, .ref (ga g 0)), (1, .int x)]) 0 rfl (inc1 i) (lt_kn hn (by decide)) rfl ?_
      refine v_goto h0 d_B_follow_33 rfl ?_
      refine v_eq (ih (i + 1) (by omega)) (faM_s M2 i).symm rfl rfl rfl
  refine v_aload_n h0 d_B_follow_0 0 rfl ?_
  refine v_callV h0 hC (sB_N0 g) 0 (show 0 < 59 by omega) (eB_B g _) rfl (av := []) (rest := []) (m_B_findDefiners (kl K) g hI M hN) wd_249 wd_246 wd_248 ws_8 wd_1 hd_B_findDefiners (by omega) (by decide) rfl rfl (Nat.le_of_ble_eq_true rfl) d_B_follow_1 (fun r9 M9 hp9 => ?_)
  obtain ⟨rfl, rfl⟩ := hp9
  refine v_r0 ?_
  refine v_aload_n h0 d_B_follow_4 0 rfl ?_
  refine v_callV h0 hC (sB_N0 g) 0 (show 0 < 59 by omega) (eB_B g _) rfl (av := []) (rest := []) (m_B_findWays (kl K) g hI _) wd_254 wd_251 wd_253 ws_9 wd_1 hd_B_findWays (by omega) (by decide) rfl rfl (Nat.le_of_ble_eq_true rfl) d_B_follow_5 (fun r9 M9 hp9 => ?_)
  obtain ⟨rfl, q, rfl, hq⟩ := hp9
  refine v_r0 ?_
  refine v_iconst h0 d_B_follow_8 (v := nI 0) (by decide) ?_
  refine v_istore_n h0 d_B_follow_9 (lv' := [(2, .int (nI 0)), (0, .ref (ga g 0)), (1, .int x)]) (lt_kn hn (by decide)) rfl ?_
  refine v_eq (loop _ (fun j hj => by rw [upR_n _ _ (by omega), upR_s]; exact hDVd j hj) (fun M3 h3 => ⟨q, _, rfl, hq, h3⟩) 10 0 rfl) (faM_0 _).symm rfl rfl rfl
def rdM' (M : Me) (c : Nat) : Bool := slP M c && (decide (¬ M (7 + c) 2 = 0) || decide (otM M c &&& mk (slP M) 10 = 0))
set_option maxHeartbeats 4000000 in
theorem m_B_nextToWorkOn (l : Launch) (g : Gd) (hI : sI (sB g)) (M : Me)  : CB l g y_B_nextToWorkOn c_B_nextToWorkOn 4 (some .int) 5 [.ref (ga g 0)] M (fun r M' => M = M' ∧ ((∃ c, c < 10 ∧ r = some (.int (nI c)) ∧ rdM' M c = true ∧ ∀ q, q < c → rdM' M q = false) ∨ (r = some (.int (-1)) ∧ ∀ q, q < 10 → rdM' M q = false))) := by
  refine Ct.of hI (sB_N0 g) rfl (Nat.le_of_ble_eq_true rfl) (fun K h0 hC hR hkl hn => ?_)
  have hC : Cx (sB g) K gC_B _ := hC
  show V K (wp (sB g)) M 0 [(0, .ref (ga g 0))] []
  have loop : ∀ (t i : Nat), i + t = 10 → (∀ c, c < i → rdM' M c = false) → V K (wp (sB g)) M 7 [(2, .int (nI i)), (1, .int (mk (slP M) 10)), (0, .ref (ga g 0))] [] := by
    intro t
    induction t with
    | zero =>
      intro i hi hn9
      refine v_iload_n h0 d_B_nextToWorkOn_7 0 rfl ?_
      refine v_bipush h0 d_B_nextToWorkOn_8 (v := nI 10) (by decide) ?_
      refine n_icmp_ge h0 (by omega) (by omega) d_B_nextToWorkOn_10 rfl (fun h10 => ?_) (fun h10 => absurd h10 (by omega))
      refine v_iconst h0 d_B_nextToWorkOn_61 (v := -1) (by decide) ?_
      exact v_iret h0 hC hR d_B_nextToWorkOn_62 (⟨rfl, Or.inr ⟨rfl, fun c hc => hn9 c (by omega)⟩⟩)
    | succ t ih =>
      intro i hi hn9
      have hbt : bt (mk (slP M) 10) i = slP M i := by rw [bt_mk _ (by omega) 10 (by omega), decide_eq_true (by omega), Bool.true_and]
      refine v_iload_n h0 d_B_nextToWorkOn_7 0 rfl ?_
      refine v_bipush h0 d_B_nextToWorkOn_8 (v := nI 10) (by decide) ?_
      refine n_icmp_ge h0 (by omega) (by omega) d_B_nextToWorkOn_10 rfl (fun h10 => absurd h10 (by omega)) (fun h10 => ?_)
      refine v_aload_n h0 d_B_nextToWorkOn_13 2 rfl ?_
      refine g_B_cells h0 hC wd_139 d_B_nextToWorkOn_14 ?_
      refine v_iload_n h0 d_B_nextToWorkOn_17 0 rfl ?_
      refine a_B_cells h0 hC i (rfl) (by omega) d_B_nextToWorkOn_18 ?_
      refine gN_Ce_fault h0 hC (by omega) wn_8 d_B_nextToWorkOn_19 ?_
      refine v_if_ne h0 d_B_nextToWorkOn_22 rfl (fun h22 => ?_) (fun h22 => ?_)
      · skip
        refine v_iconst h0 d_B_nextToWorkOn_35 (v := nI 1) (by decide) ?_
        refine v_goto h0 d_B_nextToWorkOn_36 rfl ?_
        refine v_istore_n h0 d_B_nextToWorkOn_40 (lv' := [(3, .int (nI 1)), (2, .int (nI i)), (1, .int (mk (slP M) 10)), (0, .ref (ga g 0))]) (lt_kn hn (by decide)) rfl ?_
        refine v_iload_n h0 d_B_nextToWorkOn_41 2 rfl ?_
        refine v_iload_n h0 d_B_nextToWorkOn_42 1 rfl ?_
        refine v_callS h0 hC (sB_N0 g) (av := [.int (mk (slP M) 10), .int (nI i)]) (rest := []) (m_B_hasBit (kl K) g hI M _ i (by omega)) wd_241 wd_267 wd_240 wd_1 hd_B_hasBit (by omega) (by decide) rfl rfl (Nat.le_of_ble_eq_true rfl) d_B_nextToWorkOn_43 (fun r9 M9 hp9 => ?_)
        obtain ⟨rfl, rfl⟩ := hp9
        refine v_r1 ?_
        refine b_if_eq h0 d_B_nextToWorkOn_46 rfl (fun h46 => ?_) (fun h46 => ?_)
        · skip
          refine v_iinc h0 d_B_nextToWorkOn_55 (lv' := [(2, .int (nI (i + 1))), (3, .int (nI 1)), (1, .int (mk (slP M) 10)), (0, .ref (ga g 0))]) 1 rfl (inc1 i) (lt_kn hn (by decide)) rfl ?_
          refine v_goto h0 d_B_nextToWorkOn_58 rfl ?_
          refine v_sub [0, 2, 3] rfl ?_
          exact ih (i + 1) (by omega) (lt_s hn9 (by unfold rdM'; rw [← hbt, h46, Bool.false_and]))
        · skip
          refine v_iload_n h0 d_B_nextToWorkOn_49 0 rfl ?_
          refine v_if_eq h0 d_B_nextToWorkOn_50 rfl (fun h50 => absurd h50 (by decide)) (fun h50 => ?_)
          refine v_iload_n h0 d_B_nextToWorkOn_53 1 rfl ?_
          exact v_iret h0 hC hR d_B_nextToWorkOn_54 (⟨rfl, Or.inl ⟨i, by omega, rfl, by unfold rdM'; rw [← hbt, h46, decide_eq_true h22, Bool.true_or]; rfl, hn9⟩⟩)
      · skip
        refine v_aload_n h0 d_B_nextToWorkOn_25 2 rfl ?_
        refine v_iload_n h0 d_B_nextToWorkOn_26 0 rfl ?_
        refine v_callV h0 hC (sB_N0 g) 0 (show 0 < 59 by omega) (eB_B g _) rfl (av := [.int (nI i)]) (rest := []) (m_B_othersUsedBy (kl K) g hI M (by omega)) wd_262 wd_259 wd_261 ws_10 wd_1 hd_B_othersUsedBy (by omega) (by decide) rfl rfl (Nat.le_of_ble_eq_true rfl) d_B_nextToWorkOn_27 (fun r9 M9 hp9 => ?_)
        obtain ⟨rfl, rfl⟩ := hp9
        refine v_r1 ?_
        refine v_iload_n h0 d_B_nextToWorkOn_30 1 rfl ?_
        refine v_iand h0 d_B_nextToWorkOn_31 ?_
        refine v_if_ne h0 d_B_nextToWorkOn_32 rfl (fun h32 => ?_) (fun h32 => ?_)
        · skip
          refine v_iconst h0 d_B_nextToWorkOn_39 (v := nI 0) (by decide) ?_
          refine v_istore_n h0 d_B_nextToWorkOn_40 (lv' := [(3, .int (nI 0)), (2, .int (nI i)), (1, .int (mk (slP M) 10)), (0, .ref (ga g 0))]) (lt_kn hn (by decide)) rfl ?_
          refine v_iload_n h0 d_B_nextToWorkOn_41 2 rfl ?_
          refine v_iload_n h0 d_B_nextToWorkOn_42 1 rfl ?_
          refine v_callS h0 hC (sB_N0 g) (av := [.int (mk (slP M) 10), .int (nI i)]) (rest := []) (m_B_hasBit (kl K) g hI M _ i (by omega)) wd_241 wd_267 wd_240 wd_1 hd_B_hasBit (by omega) (by decide) rfl rfl (Nat.le_of_ble_eq_true rfl) d_B_nextToWorkOn_43 (fun r9 M9 hp9 => ?_)
          obtain ⟨rfl, rfl⟩ := hp9
          refine v_r1 ?_
          refine b_if_eq h0 d_B_nextToWorkOn_46 rfl (fun h46 => ?_) (fun h46 => ?_)
          · skip
            refine v_iinc h0 d_B_nextToWorkOn_55 (lv' := [(2, .int (nI (i + 1))), (3, .int (nI 0)), (1, .int (mk (slP M) 10)), (0, .ref (ga g 0))]) 1 rfl (inc1 i) (lt_kn hn (by decide)) rfl ?_
            refine v_goto h0 d_B_nextToWorkOn_58 rfl ?_
            refine v_sub [0, 2, 3] rfl ?_
            exact ih (i + 1) (by omega) (lt_s hn9 (by unfold rdM'; rw [← hbt, h46, Bool.false_and]))
          · skip
            refine v_iload_n h0 d_B_nextToWorkOn_49 0 rfl ?_
            refine v_if_eq h0 d_B_nextToWorkOn_50 rfl (fun h50 => ?_) (fun h50 => absurd h50 (by decide))
            refine v_iinc h0 d_B_nextToWorkOn_55 (lv' := [(2, .int (nI (i + 1))), (3, .int (nI 0)), (1, .int (mk (slP M) 10)), (0, .ref (ga g 0))]) 1 rfl (inc1 i) (lt_kn hn (by decide)) rfl ?_
            refine v_goto h0 d_B_nextToWorkOn_58 rfl ?_
            refine v_sub [0, 2, 3] rfl ?_
            exact ih (i + 1) (by omega) (lt_s hn9 (by unfold rdM'; rw [show (decide (¬ M (7 + i) 2 = 0)) = false from decide_eq_false (fun q => q h22), decide_eq_false h32, Bool.or_false, Bool.and_false]))
        · skip
          refine v_iconst h0 d_B_nextToWorkOn_35 (v := nI 1) (by decide) ?_
          refine v_goto h0 d_B_nextToWorkOn_36 rfl ?_
          refine v_istore_n h0 d_B_nextToWorkOn_40 (lv' := [(3, .int (nI 1)), (2, .int (nI i)), (1, .int (mk (slP M) 10)), (0, .ref (ga g 0))]) (lt_kn hn (by decide)) rfl ?_
          refine v_iload_n h0 d_B_nextToWorkOn_41 2 rfl ?_
          refine v_iload_n h0 d_B_nextToWorkOn_42 1 rfl ?_
          refine v_callS h0 hC (sB_N0 g) (av := [.int (mk (slP M) 10), .int (nI i)]) (rest := []) (m_B_hasBit (kl K) g hI M _ i (by omega)) wd_241 wd_267 wd_240 wd_1 hd_B_hasBit (by omega) (by decide) rfl rfl (Nat.le_of_ble_eq_true rfl) d_B_nextToWorkOn_43 (fun r9 M9 hp9 => ?_)
          obtain ⟨rfl, rfl⟩ := hp9
          refine v_r1 ?_
          refine b_if_eq h0 d_B_nextToWorkOn_46 rfl (fun h46 => ?_) (fun h46 => ?_)
          · skip
            refine v_iinc h0 d_B_nextToWorkOn_55 (lv' := [(2, .int (nI (i + 1))), (3, .int (nI 1)), (1, .int (mk (slP M) 10)), (0, .ref (ga g 0))]) 1 rfl (inc1 i) (lt_kn hn (by decide)) rfl ?_
            refine v_goto h0 d_B_nextToWorkOn_58 rfl ?_
            refine v_sub [0, 2, 3] rfl ?_
            exact ih (i + 1) (by omega) (lt_s hn9 (by unfold rdM'; rw [← hbt, h46, Bool.false_and]))
          · skip
            refine v_iload_n h0 d_B_nextToWorkOn_49 0 rfl ?_
            refine v_if_eq h0 d_B_nextToWorkOn_50 rfl (fun h50 => absurd h50 (by decide)) (fun h50 => ?_)
            refine v_iload_n h0 d_B_nextToWorkOn_53 1 rfl ?_
            exact v_iret h0 hC hR d_B_nextToWorkOn_54 (⟨rfl, Or.inl ⟨i, by omega, rfl, by unfold rdM'; rw [← hbt, h46, decide_eq_true h32, Bool.or_true]; rfl, hn9⟩⟩)
  refine v_aload_n h0 d_B_nextToWorkOn_0 0 rfl ?_
  refine v_callV h0 hC (sB_N0 g) 0 (show 0 < 59 by omega) (eB_B g _) rfl (av := []) (rest := []) (m_B_staleCells (kl K) g hI M) wd_307 wd_304 wd_306 ws_17 wd_1 hd_B_staleCells (by omega) (by decide) rfl rfl (Nat.le_of_ble_eq_true rfl) d_B_nextToWorkOn_1 (fun r9 M9 hp9 => ?_)
  obtain ⟨rfl, rfl⟩ := hp9
  refine v_r1 ?_
  refine v_istore_n h0 d_B_nextToWorkOn_4 (lv' := [(1, .int (mk (slP M) 10)), (0, .ref (ga g 0))]) (lt_kn hn (by decide)) rfl ?_
  refine v_iconst h0 d_B_nextToWorkOn_5 (v := nI 0) (by decide) ?_
  refine v_istore_n h0 d_B_nextToWorkOn_6 (lv' := [(2, .int (nI 0)), (1, .int (mk (slP M) 10)), (0, .ref (ga g 0))]) (lt_kn hn (by decide)) rfl ?_
  exact loop 10 0 rfl lt_0
