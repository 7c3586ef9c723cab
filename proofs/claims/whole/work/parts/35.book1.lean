/-! ONE ABSTRACT BOOK: names, uses, ways, faults, as the book's memory has them -/
def Nmb (β : Me) : Prop := ∀ c, c < 10 → β 2 c = -1 ∨ ∃ j, j < 10 ∧ β 2 c = nI j
theorem th_t {β : Me} (h : Nmb β) {c : Nat} (hc : c < 10) (ht : thB β c = true) : nmN β c < 10 ∧ β 2 c = nI (nmN β c) := by
  have h0 := of_decide_eq_true ht
  rcases h c hc with e | ⟨j, hj, e⟩
  · rw [e] at h0; exact absurd h0 (by decide)
  · have : nmN β c = j := by unfold nmN; rw [e, nI_clamp (by omega)]
    rw [this]; exact ⟨hj, e⟩
theorem th_f {β : Me} (h : Nmb β) {c : Nat} (hc : c < 10) (ht : thB β c = false) : β 2 c = -1 := by
  have h0 := of_decide_eq_false ht
  rcases h c hc with e | ⟨j, hj, e⟩
  · exact e
  · exact absurd (by rw [e]; exact nI_pos' (by omega)) h0
theorem th_m {β : Me} {c : Nat} (e : β 2 c = -1) : thB β c = false := decide_eq_false (by rw [e]; decide)
theorem th_j {β : Me} {c j : Nat} (hj : j < 10) (e : β 2 c = nI j) : thB β c = true ∧ nmN β c = j := ⟨decide_eq_true (by rw [e]; exact nI_pos' (by omega)), by unfold nmN; rw [e, nI_clamp (by omega)]⟩
theorem nb_bit {β : Me} (h : Nmb β) {c : Nat} (hc : c < 10) {j : Nat} (hj : j < 32) : bt (nbI (β 2 c)) j = (thB β c && decide (j = nmN β c)) := by
  unfold nbI
  cases ht : thB β c with
  | false => rw [th_f h hc ht, if_pos rfl, Bool.false_and]; exact b_0 j
  | true =>
    obtain ⟨h1, h2⟩ := th_t h hc ht
    rw [if_neg (by rw [h2]; exact nI_m1 (by omega)), Bool.true_and]
    rw [h2, b_bit (by omega) hj]
theorem and_nz {x y : Int32} : decide (¬ x &&& y = 0) = true ↔ ∃ j, j < 32 ∧ bt x j = true ∧ bt y j = true := by
  rw [decide_eq_true_eq]
  constructor
  · intro h
    obtain ⟨j, hj, hb⟩ := b_nz h
    rw [b_and, Bool.and_eq_true] at hb
    exact ⟨j, hj, hb⟩
  · rintro ⟨j, hj, h1, h2⟩ h
    have : bt (x &&& y) j = true := by rw [b_and, h1, h2]; rfl
    rw [h, b_0] at this; cases this
theorem and_nb {β : Me} (h : Nmb β) {c : Nat} (hc : c < 10) (x : Int32) : decide (¬ nbI (β 2 c) &&& x = 0) = (thB β c && bt x (nmN β c)) := by
  cases ht : thB β c with
  | false =>
    rw [Bool.false_and]
    refine decide_eq_false (fun q => ?_)
    obtain ⟨j, hj, h1, -⟩ := and_nz.mp (decide_eq_true q)
    rw [nb_bit h hc hj, ht] at h1; cases h1
  | true =>
    rw [Bool.true_and]
    have hn := (th_t h hc ht).1
    cases hx : bt x (nmN β c) with
    | true => exact and_nz.mpr ⟨nmN β c, by omega, by rw [nb_bit h hc (by omega), ht]; simp, hx⟩
    | false =>
      refine decide_eq_false (fun q => ?_)
      obtain ⟨j, hj, h1, h2⟩ := and_nz.mp (decide_eq_true q)
      rw [nb_bit h hc hj, ht, Bool.true_and] at h1
      rw [of_decide_eq_true h1, hx] at h2; cases h2
/-- the texts of the cells, as the book's memory has them -/
def AbT (M β : Me) : Prop := ∀ c, c < 10 → M (7 + c) 1 = β 2 c ∧ M (27 + c) = β (20 + c) ∧ M (17 + c) 4 = bI (wlB β c) ∧ M (17 + c) 5 = usI β c ∧ (thB β c = true → M (17 + c) 2 = β 3 c ∧ M (17 + c) 3 = nI (stN β c) ∧ (wlB β c = true → EO (β (20 + c)) (M (37 + c)) 6 (stN β c)))
theorem AbT.nm {M β : Me} (h : AbT M β) (hN : Nmb β) : NMo M := fun c hc => by rw [(h c hc).1]; exact hN c hc
theorem cd_eq {M β : Me} (h : AbT M β) (hN : Nmb β) (x : Int32) {c : Nat} (hc : c < 10) : cdP M x c = (thB β c && bt x (nmN β c)) := by
  unfold cdP; rw [(h c hc).1]; exact and_nb hN hc x
theorem fu_eq {M β : Me} (h : AbT M β) {c : Nat} (hc : c < 10) : fuB M c = fnB β c := by
  obtain ⟨-, -, h4, -, h6⟩ := h c hc
  unfold fuB fnB
  cases hw : wlB β c with
  | false => rw [h4, hw, Bool.false_and]; exact decide_eq_false (fun q => q.1 rfl)
  | true =>
    have ht : thB β c = true := by unfold wlB at hw; simp only [Bool.and_eq_true] at hw; exact hw.1
    rw [h4, hw, (h6 ht).2.1, Bool.true_and]
    unfold stN
    cases hh : hdB β c with
    | true => rw [if_pos rfl]; exact decide_eq_true ⟨by decide, rfl⟩
    | false => rw [if_neg (by decide)]; exact decide_eq_false (fun q => absurd q.2 (by decide))
theorem ng_bit {M β : Me} (h : AbT M β) (hN : Nmb β) {c : Nat} (hc : c < 10) {d : Nat} (hd : d < 32) : bt (mk (cdP M (M (17 + c) 5)) 10) d = ngB β c d := by
  rw [bt_mk _ hd 10 (by omega)]
  unfold ngB ndB
  by_cases h10 : d < 10
  · rw [cd_eq h hN _ h10, (h c hc).2.2.2.1]
  · rw [decide_eq_false h10, Bool.false_and, Bool.false_and]
theorem ot_bit {M β : Me} (h : AbT M β) (hN : Nmb β) {c : Nat} (hc : c < 10) {d : Nat} (hd : d < 32) : bt (otM M c) d = (ngB β c d && !decide (d = c)) := by
  unfold otM
  rw [b_and, ng_bit h hN hc hd, b_not _ hd]
  have e : bt (nI 1 <<< (nI c &&& 31)) d = decide (d = c) := b_bit (by omega) hd
  rw [e]
theorem wy_eq {M β : Me} (h : AbT M β) (hN : Nmb β) {c : Nat} (hc : c < 10) (d : Nat) : wyE M c d = egB β c d := by
  unfold wyE
  by_cases hd : d < 32
  · unfold wyI
    rw [fu_eq h hc]
    unfold egB
    cases hf : fnB β c with
    | true =>
      rw [if_pos rfl, ot_bit h hN hc hd]
      unfold ngB
      simp [Bool.and_assoc]
    | false =>
      rw [if_neg (by decide), ng_bit h hN hc hd]
      unfold ngB
      simp
  · rw [b_big (by omega)]
    unfold egB
    rw [decide_eq_false (by omega), Bool.false_and]
theorem Wb_cong {E E' : Nat → Nat → Bool} {n : Nat} (h : ∀ c, c < n → ∀ d, E c d = E' c d) : ∀ b, b ≤ n → ∀ c, c < n → ∀ d, Wb E b c d = Wb E' b c d := by
  intro b
  induction b with
  | zero => intro _ c hc d; exact h c hc d
  | succ b ih =>
    intro hb c hc d
    simp only [Wb]
    rw [ih (by omega) c hc, ih (by omega) c hc, ih (by omega) b (by omega)]
/-- definers -/
def dfE (β : Me) (j i : Nat) : Int32 := if dfL β j i < 0 then 0 else dfL β j i + 1
theorem dfL_in (β : Me) (j : Nat) : ∀ i, i ≤ 10 → dfL β j i = -1 ∨ ∃ c, c < i ∧ dfL β j i = nI c ∧ β 2 c = nI j := by
  intro i
  induction i with
  | zero => intro _; exact Or.inl rfl
  | succ i ih =>
    intro hi
    simp only [dfL]
    by_cases h : β 2 i = nI j
    · rw [if_pos h]; exact Or.inr ⟨i, by omega, rfl, h⟩
    · rw [if_neg h]
      rcases ih (by omega) with e | ⟨c, hc, e1, e2⟩
      · exact Or.inl e
      · exact Or.inr ⟨c, by omega, e1, e2⟩
theorem dfE_f {β : Me} {j i : Nat} (h : ¬ β 2 i = nI j) : dfE β j (i + 1) = dfE β j i := by
  have e : dfL β j (i + 1) = dfL β j i := by simp only [dfL]; rw [if_neg h]
  unfold dfE; rw [e]
theorem dfE_t {β : Me} {j i : Nat} (hi : i < 10) (h : β 2 i = nI j) : dfE β j (i + 1) = nI (i + 1) := by
  have e : dfL β j (i + 1) = nI i := by simp only [dfL]; rw [if_pos h]
  unfold dfE; rw [e, if_neg (nI_pos (by omega)), nI_1]
theorem df_eq {M β : Me} (h : AbT M β) (hN : Nmb β) : ∀ i, i ≤ 10 → ∀ j, j < 10 → dfR M i j = dfE β j i := by
  intro i
  induction i with
  | zero => intro _ j hj; show nuR M 10 j = _; unfold nuR dfE; rw [if_pos hj]; rfl
  | succ i ih =>
    intro hi j hj
    simp only [dfR]
    rw [(h i (by omega)).1]
    rcases hN i (by omega) with e | ⟨q, hq, e⟩
    · rw [if_pos e, dfE_f (by rw [e]; exact fun z => nI_m1 (n := j) (by omega) z.symm)]
      exact ih (by omega) j hj
    · rw [if_neg (by rw [e]; exact nI_m1 (by omega))]
      unfold upd
      rw [show (β 2 i).toNatClampNeg = q by rw [e, nI_clamp (by omega)]]
      by_cases z : j = q
      · rw [if_pos z, dfE_t (by omega) (by rw [e, z])]
      · rw [if_neg z, dfE_f (by rw [e]; exact fun w => z (nI_inj (by omega) (by omega) w).symm)]
        exact ih (by omega) j hj
theorem dfE_0 (β : Me) (j : Nat) : (dfE β j 10 = 0) ↔ dfL β j 10 < 0 := by
  unfold dfE
  rcases dfL_in β j 10 (Nat.le_refl _) with e | ⟨c, hc, e, -⟩
  · rw [e]; decide
  · rw [e, if_neg (nI_pos (by omega)), nI_1]
    exact ⟨fun z => absurd z (nI_ne0 (by omega) (by omega)), fun z => absurd z (nI_pos (by omega))⟩
theorem df_def {β : Me} {j : Nat} (h : ¬ dfL β j 10 < 0) : dfN β j < 10 ∧ dfL β j 10 = nI (dfN β j) ∧ β 2 (dfN β j) = nI j ∧ dfE β j 10 = nI (dfN β j + 1) := by
  unfold dfN dfE
  rcases dfL_in β j 10 (Nat.le_refl _) with e | ⟨c, hc, e, e2⟩
  · exact absurd (by rw [e]; decide) h
  · rw [e, nI_clamp (by omega), if_neg (nI_pos (by omega)), nI_1]; exact ⟨hc, rfl, e2, rfl⟩
theorem um_eq {M β : Me} (h : AbT M β) {c : Nat} (hc : c < 10) (hd : ∀ j, j < 10 → M 2 j = dfE β j 10) : umB M c 10 = msB β c := by
  have key : ∀ n, n ≤ 10 → umB M c n = (List.range n).any fun j => bt (usI β c) j && decide (dfL β j 10 < 0) := by
    intro n
    induction n with
    | zero => intro _; rfl
    | succ n ih =>
      intro hn
      rw [List.range_succ, List.any_append, ← ih (by omega)]
      simp only [umB, List.any_cons, List.any_nil, Bool.or_false]
      rw [(h c hc).2.2.2.1, hd n (by omega)]
      congr 2
      exact decide_eq_decide.mpr (dfE_0 β n)
  exact key 10 (Nat.le_refl _)
theorem dp_eq {M β : Me} (h : AbT M β) (hN : Nmb β) {c : Nat} (hc : c < 10) (ht : thB β c = true) : mk (cdP M (nbI (M (7 + c) 1))) 10 = nI 1 <<< (nI c &&& 31) ↔ dpB β c = false := by
  obtain ⟨hn, hnm⟩ := th_t hN hc ht
  have e1 : ∀ d, d < 32 → bt (mk (cdP M (nbI (M (7 + c) 1))) 10) d = (decide (d < 10) && decide (β 2 d = β 2 c)) := by
    intro d hd
    rw [bt_mk _ hd 10 (by omega)]
    by_cases h10 : d < 10
    · rw [decide_eq_true h10, Bool.true_and, Bool.true_and, cd_eq h hN _ h10, (h c hc).1]
      cases hd2 : thB β d with
      | false =>
        rw [Bool.false_and]
        exact (decide_eq_false (fun z => by rw [th_f hN h10 hd2, hnm] at z; exact nI_m1 (by omega) z.symm)).symm
      | true =>
        obtain ⟨q1, q2⟩ := th_t hN h10 hd2
        rw [Bool.true_and, nb_bit hN hc (by omega), ht, Bool.true_and]
        apply decide_eq_decide.mpr
        rw [q2, hnm]
        exact ⟨fun z => by rw [z], fun z => nI_inj (by omega) (by omega) z⟩
    · rw [decide_eq_false h10, Bool.false_and, Bool.false_and]
  have e2 : ∀ d, d < 32 → bt (nI 1 <<< (nI c &&& 31)) d = decide (d = c) := fun d hd => b_bit (by omega) hd
  unfold dpB
  rw [List.any_eq_false]
  constructor
  · intro z d hd
    have hd := List.mem_range.mp hd
    have := e1 d (by omega)
    rw [z, e2 d (by omega), decide_eq_true hd, Bool.true_and] at this
    simp only [ne_eq, Bool.and_eq_true, decide_eq_true_eq, not_and]
    intro w w2
    rw [decide_eq_false w, decide_eq_true w2] at this
    cases this
  · intro z
    apply b_ext
    intro d hd
    rw [e1 d hd, e2 d hd]
    by_cases h10 : d < 10
    · rw [decide_eq_true h10, Bool.true_and]
      apply decide_eq_decide.mpr
      constructor
      · intro w
        have := z d (List.mem_range.mpr h10)
        simp only [ne_eq, Bool.and_eq_true, decide_eq_true_eq, not_and] at this
        exact Classical.byContradiction (fun q => this q w)
      · intro w; rw [w]
    · rw [decide_eq_false h10, Bool.false_and]
      exact (decide_eq_false (by omega)).symm
theorem wl_th {β : Me} {c : Nat} (h : wlB β c = true) : thB β c = true := by unfold wlB at h; simp only [Bool.and_eq_true] at h; exact h.1
theorem fl_eq {M β : Me} (h : AbT M β) (hN : Nmb β) {c : Nat} (hc : c < 10) (hd : ∀ j, j < 10 → M 2 j = dfE β j 10) (hw : ∀ d, d < 32 → bt (M 3 c) d = (decide (d < 10) && Wb (egB β) 10 c d)) : flM M c = if thB β c = true then ftI β c else 0 := by
  unfold flM
  rw [(h c hc).1]
  cases ht : thB β c with
  | false => rw [th_f hN hc ht]; rfl
  | true =>
    obtain ⟨hn, hnm⟩ := th_t hN hc ht
    rw [if_neg (by rw [hnm]; exact nI_m1 (by omega)), if_pos rfl]
    unfold ftI
    rw [(h c hc).2.2.1]
    cases hwl : wlB β c with
    | false => rfl
    | true =>
      rw [if_neg (by decide), if_pos rfl]
      have e := dp_eq h hN hc ht
      rw [(h c hc).1] at e
      rw [um_eq h hc hd, hw c (by omega), decide_eq_true hc, Bool.true_and]
      cases hdp : dpB β c with
      | false => rw [if_pos (e.mpr hdp)]; rfl
      | true => rw [if_neg (fun z => by rw [e.mp z] at hdp; cases hdp), if_pos rfl]
