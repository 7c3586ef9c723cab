/-! READING A TEXT (the book) -/
/-- while cell c's text is read, only its names and its ends change -/
def rdM (M : Me) (c : Nat) (a : Int32) (e : Nat → Int32) : Me := upR (up2 M (17 + c) 5 a) (37 + c) e
theorem rdM_o (M : Me) (c : Nat) (a : Int32) (e : Nat → Int32) {i : Nat} (h1 : i ≠ 17 + c) (h2 : i ≠ 37 + c) : rdM M c a e i = M i := by
  unfold rdM up2
  rw [upR_n _ _ h2, upR_n _ _ h1]
theorem rdM_e (M : Me) (c : Nat) (a : Int32) (e : Nat → Int32) : rdM M c a e (37 + c) = e := upR_s _ _ _
theorem rdM_t (M : Me) (c : Nat) (a : Int32) (e : Nat → Int32) : rdM M c a e (17 + c) = upd (M (17 + c)) 5 a := by
  unfold rdM up2
  rw [upR_n _ _ (by omega), upR_s]
theorem rdM_rdM (M : Me) (c : Nat) (a a' : Int32) (e e' : Nat → Int32) : rdM (rdM M c a e) c a' e' = rdM M c a' e' := by
  funext i
  by_cases h2 : i = 37 + c
  · subst h2; rw [rdM_e, rdM_e]
  · by_cases h1 : i = 17 + c
    · subst h1
      rw [rdM_t, rdM_t, rdM_t]
      funext j
      unfold upd
      by_cases hj : j = 5
      · rw [if_pos hj, if_pos hj]
      · rw [if_neg hj, if_neg hj, if_neg hj]
    · rw [rdM_o _ _ _ _ h1 h2, rdM_o _ _ _ _ h1 h2, rdM_o _ _ _ _ h1 h2]
theorem rdM_id (M : Me) (c : Nat) : M = rdM M c (M (17 + c) 5) (M (37 + c)) := by
  funext i
  by_cases h2 : i = 37 + c
  · subst h2; rw [rdM_e]
  · by_cases h1 : i = 17 + c
    · subst h1
      rw [rdM_t]
      funext j
      unfold upd
      by_cases hj : j = 5
      · rw [if_pos hj, hj]
      · rw [if_neg hj]
    · rw [rdM_o _ _ _ _ h1 h2]
theorem rdM_nm (M : Me) (c : Nat) (a : Int32) : up2 M (17 + c) 5 a = rdM M c a (M (37 + c)) := by
  funext i
  unfold rdM
  by_cases h2 : i = 37 + c
  · subst h2
    rw [upR_s]
    unfold up2
    rw [upR_n _ _ (by omega)]
  · rw [upR_n _ _ h2]
theorem rdM_en (M : Me) (c k : Nat) (a v : Int32) (e : Nat → Int32) : up2 (rdM M c a e) (37 + c) k v = rdM M c a (upd e k v) := by
  unfold up2
  rw [rdM_e]
  funext i
  by_cases h2 : i = 37 + c
  · subst h2; rw [upR_s, rdM_e]
  · rw [upR_n _ _ h2]
    unfold rdM
    rw [upR_n _ _ h2, upR_n _ _ h2]
/-- cell c's text: its signs, its length, the names so far, the ends so far -/
def TX (M : Me) (c : Nat) (s : Nat → Int32) (n : Nat) (a : Int32) (e : Nat → Int32) : Prop := M (27 + c) = s ∧ M (17 + c) 2 = nI n ∧ M (17 + c) 5 = a ∧ M (37 + c) = e ∧ chS s ∧ n ≤ 24
theorem TX.rd {M : Me} {c n : Nat} {s e : Nat → Int32} {a : Int32} (h : TX M c s n a e) (a' : Int32) (e' : Nat → Int32) : TX (rdM M c a' e') c s n a' e' := by
  refine ⟨?_, ?_, ?_, rdM_e _ _ _ _, h.2.2.2.2⟩
  · rw [rdM_o _ _ _ _ (by omega) (by omega)]; exact h.1
  · rw [rdM_t]; exact h.2.1
  · rw [rdM_t]; rfl
theorem TX.id {M : Me} {c n : Nat} {s e : Nat → Int32} {a : Int32} (h : TX M c s n a e) : M = rdM M c a e := by
  obtain ⟨-, -, rfl, rfl, -⟩ := h
  exact rdM_id M c
def BM (x : Int32) (b : Nat → Bool) : Prop := ∀ j, j < 6 → bt x j = b j
theorem BM.set {x : Int32} {b : Nat → Bool} (h : BM x b) {i : Nat} (hi : i < 6) : BM (x ||| (1 <<< (nI i &&& 31))) (bSet b i) := by
  intro j hj
  rw [b_or, b_bit (by omega) (by omega), h j hj]
  unfold bSet
  rw [Bool.or_comm]
  by_cases q : j = i
  · subst q; simp
  · simp [q]
theorem kd_sg {s : Nat → Int32} {n k j : Nat} (hj : j ≠ 0) (h : kd (sgA s n k) = j) : k < n ∧ sgA s n k = s k := by
  unfold sgA at h ⊢
  by_cases hk : k < n
  · rw [if_pos hk]; exact ⟨hk, rfl⟩
  · rw [if_neg hk] at h
    exact absurd (h.symm.trans (by decide : kd 0 = 0)) hj
theorem or0 (a : Int32) : a ||| 0 = a := b_ext (fun i _ => by rw [b_or, b_0, Bool.or_false])
theorem ora (a b c : Int32) : (a ||| b) ||| c = a ||| (b ||| c) := b_ext (fun i _ => by simp only [b_or, Bool.or_assoc])
theorem kdB_t {j : Nat} {x : Int32} (h : kdB j x = true) : kd x = j := of_decide_eq_true h
theorem kdB_f {j : Nat} {x : Int32} (h : kdB j x = false) : ¬ kd x = j := of_decide_eq_false h
def SgP (s : Nat → Int32) (n d : Nat) (b : Nat → Bool) (k c : Nat) (M : Me) (a : Int32) (e : Nat → Int32) (r : Option Value) (M' : Me) : Prop :=
  ∃ a' e', M' = rdM M c a' e' ∧ ((OK s n (d + 1) b k = true ∧ r = some (.int (nI (EN s (d + 1) k))) ∧ a' = a ||| NM s (d + 1) k ∧ EO s (upd e' k (nI (EN s (d + 1) k))) (d + 1) k ∧ ∀ j, j ≤ k ∨ EN s (d + 1) k ≤ j → e' j = e j) ∨ (OK s n (d + 1) b k = false ∧ r = some (.int (-1))))
def RdP (s : Nat → Int32) (n d : Nat) (b : Nat → Bool) (k c : Nat) (M : Me) (a : Int32) (e : Nat → Int32) (r : Option Value) (M' : Me) : Prop :=
  ∃ a' e', M' = rdM M c a' e' ∧ ((OK s n d b k = true ∧ r = some (.int (nI (EN s d k))) ∧ a' = a ||| NM s d k ∧ EO s e' d k ∧ ∀ j, j < k ∨ EN s d k ≤ j → e' j = e j) ∨ (OK s n d b k = false ∧ r = some (.int (-1))))
/-- several expressions, one behind the other -/
def ENs (s : Nat → Int32) (d : Nat) : Nat → Nat → Nat
  | 0, k => k
  | i + 1, k => ENs s d i (EN s d k)
def OKs (s : Nat → Int32) (n d : Nat) (b : Nat → Bool) : Nat → Nat → Bool
  | 0, _ => true
  | i + 1, k => OK s n d b k && OKs s n d b i (EN s d k)
def NMs (s : Nat → Int32) (d : Nat) : Nat → Nat → Int32
  | 0, _ => 0
  | i + 1, k => NM s d k ||| NMs s d i (EN s d k)
def EOs (s e : Nat → Int32) (d : Nat) : Nat → Nat → Prop
  | 0, _ => True
  | i + 1, k => EO s e d k ∧ EOs s e d i (EN s d k)
theorem ENs_ge {s : Nat → Int32} {n d : Nat} {b : Nat → Bool} : ∀ i k, OKs s n d b i k = true → k ≤ ENs s d i k ∧ (k ≤ n → ENs s d i k ≤ n) := by
  intro i
  induction i with
  | zero => intro k _; exact ⟨Nat.le_refl _, fun h => h⟩
  | succ i ih =>
    intro k h
    simp only [OKs, Bool.and_eq_true] at h
    have h1 := OK_ends s n d b k h.1
    have h2 := ih _ h.2
    simp only [ENs]
    exact ⟨by omega, fun _ => h2.2 h1.2⟩
theorem EOs_same {s e e' : Nat → Int32} {n d : Nat} {b : Nat → Bool} : ∀ i k, OKs s n d b i k = true → (∀ j, k ≤ j → j < ENs s d i k → e' j = e j) → EOs s e d i k → EOs s e' d i k := by
  intro i
  induction i with
  | zero => intro k _ _ _; trivial
  | succ i ih =>
    intro k h hj ho
    simp only [OKs, Bool.and_eq_true] at h
    have h1 := OK_ends s n d b k h.1
    have h2 := (ENs_ge i _ h.2).1
    simp only [ENs] at hj
    exact ⟨EO_same d b k h.1 (fun j a c => hj j a (by omega)) ho.1, ih _ h.2 (fun j a c => hj j (by omega) c) ho.2⟩
def RsP (s : Nat → Int32) (n d : Nat) (b : Nat → Bool) (i k c : Nat) (M : Me) (a : Int32) (e : Nat → Int32) (r : Option Value) (M' : Me) : Prop :=
  ∃ a' e', M' = rdM M c a' e' ∧ ((OKs s n d b i k = true ∧ r = some (.int (nI (ENs s d i k))) ∧ a' = a ||| NMs s d i k ∧ EOs s e' d i k ∧ ∀ j, j < k ∨ ENs s d i k ≤ j → e' j = e j) ∨ (OKs s n d b i k = false ∧ r = some (.int (-1))))

set_option maxHeartbeats 4000000 in
theorem m_Te_readName (l : Launch) (g : Gd) (hI : sI (sB g)) (M : Me) {c n k : Nat} {s e : Nat → Int32} {a : Int32} (hc : c < 10) (hk : k < 40) (hT : TX M c s n a e) : CB l g y_Te_readName c_Te_readName 3 (some .int) 2 [.ref (ga g (17 + c)), .int (nI k)] M (fun r M' => (k < n ∧ kd (s k) = 8 ∧ r = some (.int (nI (k + 1))) ∧ M' = rdM M c (a ||| (1 <<< (nI (nmI (s k)) &&& 31))) e) ∨ (¬ (k < n ∧ kd (s k) = 8) ∧ r = some (.int (-1)) ∧ M = M')) := by
  obtain ⟨rfl, hl, rfl, rfl, hch, hn24⟩ := hT
  refine Ct.of hI (sB_N0 g) rfl (Nat.le_of_ble_eq_true rfl) (fun K h0 hC hR hkl hn => ?_)
  have hC : Cx (sB g) K gC_Te _ := hC
  show V K (wp (sB g)) M 0 [(0, .ref (ga g (17 + c))), (1, .int (nI k))] []
  refine v_aload_n h0 d_Te_readName_0 0 rfl ?_
  refine v_iload_n h0 d_Te_readName_1 1 rfl ?_
  refine v_callV h0 hC (sB_N0 g) (17 + c) (show (17 + c) < 59 by omega) (eB_Te g (by omega) _) rfl (av := [.int (nI k)]) (rest := []) (m_Te_signAt (kl K) g hI M hc hn24 (by omega) hl hch) wd_197 wd_194 wd_195 wd_196 wd_3 hd_Te_signAt (by omega) (by decide) rfl rfl (Nat.le_of_ble_eq_true rfl) d_Te_readName_2 (fun r9 M9 hp9 => ?_)
  obtain ⟨rfl, rfl⟩ := hp9
  refine v_r1 ?_
  refine v_istore_n h0 d_Te_readName_5 (lv' := [(2, .int (sgA (M (27 + c)) n k)), (0, .ref (ga g (17 + c))), (1, .int (nI k))]) (lt_kn hn (by decide)) rfl ?_
  refine v_iload_n h0 d_Te_readName_6 0 rfl ?_
  refine v_callSN h0 hC (sB_N0 g) (av := [.int (sgA (M (27 + c)) n k)]) (rest := []) (m_B_isName (kl K) g hI M _) wd_227 wn_24 wd_226 wd_1 hd_B_isName (by omega) (by decide) rfl rfl (Nat.le_of_ble_eq_true rfl) d_Te_readName_7 (fun r9 M9 hp9 => ?_)
  obtain ⟨rfl, rfl⟩ := hp9
  refine v_r1 ?_
  refine b_if_ne h0 d_Te_readName_10 rfl (fun h10 => ?_) (fun h10 => ?_)
  · skip
    obtain ⟨hkn, hse⟩ := kd_sg (by decide) (kdB_t h10)
    have h8 := kdB_t h10
    rw [hse] at h8
    refine v_aload_n h0 d_Te_readName_15 1 rfl ?_
    refine v_dup h0 d_Te_readName_16 rfl ?_
    refine g_Te_names h0 hC (by omega) wd_39 d_Te_readName_17 ?_
    refine v_iconst h0 d_Te_readName_20 (v := nI 1) (by decide) ?_
    refine v_iload_n h0 d_Te_readName_21 0 rfl ?_
    refine v_bipush h0 d_Te_readName_22 (v := nI 97) (by decide) ?_
    refine v_isub h0 d_Te_readName_24 ?_
    refine v_int (M (27 + c) k - nI 97) (by rw [hse]) ?_
    refine v_int (nI (nmI (M (27 + c) k))) ((nm_of h8).2) ?_
    refine v_ishl h0 d_Te_readName_25 ?_
    refine v_ior h0 d_Te_readName_26 ?_
    refine p_Te_names h0 hC (by omega) wd_39 d_Te_readName_27 ?_
    refine v_iload_n h0 d_Te_readName_30 2 rfl ?_
    refine v_iconst h0 d_Te_readName_31 (v := nI 1) (by decide) ?_
    refine v_iadd h0 d_Te_readName_32 ?_
    refine v_int (nI (k + 1)) (nI_add k 1) ?_
    exact v_iret h0 hC hR d_Te_readName_33 (Or.inl ⟨hkn, h8, rfl, rdM_nm _ _ _⟩)
  · skip
    refine v_iconst h0 d_Te_readName_13 (v := -1) (by decide) ?_
    exact v_iret h0 hC hR d_Te_readName_14 (Or.inr ⟨fun q => kdB_f h10 (by unfold sgA; rw [if_pos q.1]; exact q.2), rfl, rfl⟩)
theorem leaf_ok {M : Me} {c n k d : Nat} {s e : Nat → Int32} {a : Int32} {b : Nat → Bool} (hT : TX M c s n a e) (hk : k < n) (hj : kd (s k) = 7 ∨ kd (s k) = 9) (hb : kd (s k) = 9 → b (lcI (s k)) = true) : SgP s n d b k c M a e (some (.int (nI (k + 1)))) M := by
  refine ⟨a, e, hT.id, Or.inl ?_⟩
  rcases hj with q | q
  · rw [OK_7 s n d b k q, EN_7 s d k q, NM_7 s d k q, EO_7 _ _ d k q, EN_7 s d k q, or0]
    exact ⟨by simp [hk], rfl, rfl, ⟨pk_us, trivial⟩, fun _ _ => rfl⟩
  · rw [OK_9 s n d b k q, EN_9 s d k q, NM_9 s d k q, EO_9 _ _ d k q, EN_9 s d k q, or0]
    exact ⟨by simp [hk, hb q], rfl, rfl, ⟨pk_us, trivial⟩, fun _ _ => rfl⟩
theorem leaf_8 {M : Me} {c n k d : Nat} {s e : Nat → Int32} {a : Int32} {b : Nat → Bool} (hT : TX M c s n a e) (hk : k < n) (q : kd (s k) = 8) : SgP s n d b k c M a e (some (.int (nI (k + 1)))) (rdM M c (a ||| (1 <<< (nI (nmI (s k)) &&& 31))) e) := by
  refine ⟨_, e, rfl, Or.inl ?_⟩
  rw [OK_8 s n d b k q, EN_8 s d k q, NM_8 s d k q, EO_8 _ _ d k q, EN_8 s d k q]
  exact ⟨by simp [hk], rfl, rfl, ⟨pk_us, trivial⟩, fun _ _ => rfl⟩
theorem leaf_no {M : Me} {c n k d : Nat} {s e : Nat → Int32} {a : Int32} {b : Nat → Bool} (hT : TX M c s n a e) (h : OK s n (d + 1) b k = false) : SgP s n d b k c M a e (some (.int (-1))) M := ⟨a, e, hT.id, Or.inr ⟨h, rfl⟩⟩
theorem OK_0k {s : Nat → Int32} {n d k : Nat} {b : Nat → Bool} (q : kd (s k) = 0) : OK s n (d + 1) b k = false := by simp only [OK, q, Bool.and_false]
set_option maxHeartbeats 4000000 in
theorem m_Te_readLeaf (l : Launch) (g : Gd) (hI : sI (sB g)) (M : Me) {c n k d : Nat} {s e : Nat → Int32} {a bm : Int32} {b : Nat → Bool} (hc : c < 10) (hk : k < n) (hT : TX M c s n a e) (hbm : BM bm b) (hj : kd (s k) = 7 ∨ kd (s k) = 8 ∨ kd (s k) = 9 ∨ kd (s k) = 0) : CB l g y_Te_readLeaf c_Te_readLeaf 4 (some .int) 3 [.ref (ga g (17 + c)), .int (nI k), .int bm] M (SgP s n d b k c M a e) := by
  have hT0 := hT
  obtain ⟨rfl, hl, rfl, rfl, hch, hn24⟩ := hT0
  refine Ct.of hI (sB_N0 g) rfl (Nat.le_of_ble_eq_true rfl) (fun K h0 hC hR hkl hn => ?_)
  have hC : Cx (sB g) K gC_Te _ := hC
  show V K (wp (sB g)) M 0 [(0, .ref (ga g (17 + c))), (1, .int (nI k)), (2, .int bm)] []
  refine v_aload_n h0 d_Te_readLeaf_0 0 rfl ?_
  refine v_iload_n h0 d_Te_readLeaf_1 1 rfl ?_
  refine v_callV h0 hC (sB_N0 g) (17 + c) (show (17 + c) < 59 by omega) (eB_Te g (by omega) _) rfl (av := [.int (nI k)]) (rest := []) (m_Te_signAt (kl K) g hI M hc hn24 (by omega) hl hch) wd_197 wd_194 wd_195 wd_196 wd_3 hd_Te_signAt (by omega) (by decide) rfl rfl (Nat.le_of_ble_eq_true rfl) d_Te_readLeaf_2 (fun r9 M9 hp9 => ?_)
  obtain ⟨rfl, rfl⟩ := hp9
  refine v_r1 ?_
  refine v_int (M (27 + c) k) (if_pos hk) ?_
  refine v_istore_n h0 d_Te_readLeaf_5 (lv' := [(3, .int (M (27 + c) k)), (0, .ref (ga g (17 + c))), (1, .int (nI k)), (2, .int bm)]) (lt_kn hn (by decide)) rfl ?_
  refine v_iload_n h0 d_Te_readLeaf_6 0 rfl ?_
  refine v_callSN h0 hC (sB_N0 g) (av := [.int (M (27 + c) k)]) (rest := []) (m_B_isLocal (kl K) g hI M _) wd_200 wn_23 wd_199 wd_1 hd_B_isLocal (by omega) (by decide) rfl rfl (Nat.le_of_ble_eq_true rfl) d_Te_readLeaf_7 (fun r9 M9 hp9 => ?_)
  obtain ⟨rfl, rfl⟩ := hp9
  refine v_r1 ?_
  refine b_if_eq h0 d_Te_readLeaf_10 rfl (fun h10 => ?_) (fun h10 => ?_)
  · skip
    refine v_iload_n h0 d_Te_readLeaf_32 0 rfl ?_
    refine v_callSN h0 hC (sB_N0 g) (av := [.int (M (27 + c) k)]) (rest := []) (m_B_isDigit (kl K) g hI M _) wd_234 wn_25 wd_233 wd_1 hd_B_isDigit (by omega) (by decide) rfl rfl (Nat.le_of_ble_eq_true rfl) d_Te_readLeaf_33 (fun r9 M9 hp9 => ?_)
    obtain ⟨rfl, rfl⟩ := hp9
    refine v_r1 ?_
    refine b_if_eq h0 d_Te_readLeaf_36 rfl (fun h36 => ?_) (fun h36 => ?_)
    · skip
      refine v_aload_n h0 d_Te_readLeaf_45 1 rfl ?_
      refine v_iload_n h0 d_Te_readLeaf_46 2 rfl ?_
      refine v_callV h0 hC (sB_N0 g) (17 + c) (show (17 + c) < 59 by omega) (eB_Te g (by omega) _) rfl (av := [.int (nI k)]) (rest := []) (m_Te_readName (kl K) g hI M hc (by omega) hT) wd_224 wd_221 wd_223 ws_4 wd_3 hd_Te_readName (by omega) (by decide) rfl rfl (Nat.le_of_ble_eq_true rfl) d_Te_readLeaf_47 (fun r9 M9 hp9 => ?_)
      rcases hp9 with ⟨q1, q2, rfl, rfl⟩ | ⟨q1, rfl, rfl⟩
      · skip
        refine v_r1 ?_
        exact v_iret h0 hC hR d_Te_readLeaf_50 (leaf_8 hT hk q2)
      · skip
        refine v_r1 ?_
        exact v_iret h0 hC hR d_Te_readLeaf_50 (leaf_no hT (OK_0k (by rcases hj with q | q | q | q; exact absurd q (kdB_f h36); exact absurd ⟨hk, q⟩ q1; exact absurd q (kdB_f h10); exact q)))
    · skip
      refine v_iload_n h0 d_Te_readLeaf_39 2 rfl ?_
      refine v_iconst h0 d_Te_readLeaf_40 (v := nI 1) (by decide) ?_
      refine v_iadd h0 d_Te_readLeaf_41 ?_
      refine v_int (nI (k + 1)) (nI_add k 1) ?_
      refine v_goto h0 d_Te_readLeaf_42 rfl ?_
      exact v_iret h0 hC hR d_Te_readLeaf_50 (leaf_ok hT hk (Or.inl (kdB_t h36)) (fun q => absurd (q.symm.trans (kdB_t h36)) (by decide)))
  · skip
    refine v_iload_n h0 d_Te_readLeaf_13 3 rfl ?_
    refine v_iload_n h0 d_Te_readLeaf_14 0 rfl ?_
    refine v_bipush h0 d_Te_readLeaf_15 (v := nI 107) (by decide) ?_
    refine v_isub h0 d_Te_readLeaf_17 ?_
    refine v_int (nI (lcI (M (27 + c) k))) ((lc_of (kdB_t h10)).2) ?_
    refine v_callSN h0 hC (sB_N0 g) (av := [.int bm, .int (nI (lcI (M (27 + c) k)))]) (rest := []) (m_B_hasBit (kl K) g hI M bm _ (by have := (lc_of (kdB_t h10)).1; omega)) wd_241 wn_26 wd_240 wd_1 hd_B_hasBit (by omega) (by decide) rfl rfl (Nat.le_of_ble_eq_true rfl) d_Te_readLeaf_18 (fun r9 M9 hp9 => ?_)
    obtain ⟨rfl, rfl⟩ := hp9
    refine v_r1 ?_
    refine b_if_eq h0 d_Te_readLeaf_21 rfl (fun h21 => ?_) (fun h21 => ?_)
    · skip
      refine v_iconst h0 d_Te_readLeaf_30 (v := -1) (by decide) ?_
      exact v_iret h0 hC hR d_Te_readLeaf_31 (leaf_no hT (by rw [OK_9 _ n d b k (kdB_t h10), ← hbm _ (lc_of (kdB_t h10)).1, h21, Bool.and_false]))
    · skip
      refine v_iload_n h0 d_Te_readLeaf_24 2 rfl ?_
      refine v_iconst h0 d_Te_readLeaf_25 (v := nI 1) (by decide) ?_
      refine v_iadd h0 d_Te_readLeaf_26 ?_
      refine v_int (nI (k + 1)) (nI_add k 1) ?_
      refine v_goto h0 d_Te_readLeaf_27 rfl ?_
      exact v_iret h0 hC hR d_Te_readLeaf_31 (leaf_ok hT hk (Or.inr (kdB_t h10)) (fun _ => by rw [← hbm _ (lc_of (kdB_t h10)).1]; exact h21))
