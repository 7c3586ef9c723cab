/-! KINDS OF SIGNS -/
theorem kd_cases (x : Int32) : kd x = 2 ∨ kd x = 1 ∨ kd x = 3 ∨ kd x = 4 ∨ kd x = 5 ∨ kd x = 6 ∨ kd x = 7 ∨ kd x = 8 ∨ kd x = 9 ∨ kd x = 0 := by
  unfold kd
  repeat' split
  all_goals simp
theorem kd_2 (x : Int32) : kd x = 2 ↔ (x = 43 ∨ x = 45 ∨ x = 42 ∨ x = 47 ∨ x = 60 ∨ x = 61 ∨ x = 38) := by
  unfold kd
  constructor
  · intro h
    repeat' split at h
    all_goals first | assumption | exact absurd h (by decide)
  · intro h; rw [if_pos h]
theorem kd_1 (x : Int32) : kd x = 1 ↔ x = 126 := by
  unfold kd
  constructor
  · intro h
    repeat' split at h
    all_goals first | assumption | exact absurd h (by decide)
  · intro h; subst h; decide
theorem kd_3 (x : Int32) : kd x = 3 ↔ x = 63 := by
  unfold kd
  constructor
  · intro h
    repeat' split at h
    all_goals first | assumption | exact absurd h (by decide)
  · intro h; subst h; decide
theorem kd_4 (x : Int32) : kd x = 4 ↔ x = 36 := by
  unfold kd
  constructor
  · intro h
    repeat' split at h
    all_goals first | assumption | exact absurd h (by decide)
  · intro h; subst h; decide
theorem kd_5 (x : Int32) : kd x = 5 ↔ x = 33 := by
  unfold kd
  constructor
  · intro h
    repeat' split at h
    all_goals first | assumption | exact absurd h (by decide)
  · intro h; subst h; decide
theorem kd_6 (x : Int32) : kd x = 6 ↔ x = 35 := by
  unfold kd
  constructor
  · intro h
    repeat' split at h
    all_goals first | assumption | exact absurd h (by decide)
  · intro h; subst h; decide
theorem kd_7 (x : Int32) : kd x = 7 ↔ (48 ≤ x ∧ x ≤ 57) := by
  constructor
  · intro h
    unfold kd at h
    repeat' split at h
    all_goals first | assumption | exact absurd h (by decide)
  · intro h
    unfold kd
    rw [if_neg, if_neg, if_neg, if_neg, if_neg, if_neg, if_pos h]
    all_goals intro q
    all_goals try (subst q; revert h; decide)
    rcases q with q | q | q | q | q | q | q <;> (subst q; revert h; decide)
theorem kd_8 (x : Int32) : kd x = 8 ↔ (97 ≤ x ∧ x ≤ 106) := by
  constructor
  · intro h
    unfold kd at h
    repeat' split at h
    all_goals first | assumption | exact absurd h (by decide)
  · intro h
    have h7 : ¬ (48 ≤ x ∧ x ≤ 57) := fun q => absurd (Int32.le_trans h.1 q.2) (by decide)
    unfold kd
    rw [if_neg, if_neg, if_neg, if_neg, if_neg, if_neg, if_neg h7, if_pos h]
    all_goals intro q
    all_goals try (subst q; revert h; decide)
    rcases q with q | q | q | q | q | q | q <;> (subst q; revert h; decide)
theorem kd_9 (x : Int32) : kd x = 9 ↔ (107 ≤ x ∧ x ≤ 112) := by
  constructor
  · intro h
    unfold kd at h
    repeat' split at h
    all_goals first | assumption | exact absurd h (by decide)
  · intro h
    have h7 : ¬ (48 ≤ x ∧ x ≤ 57) := fun q => absurd (Int32.le_trans h.1 q.2) (by decide)
    have h8 : ¬ (97 ≤ x ∧ x ≤ 106) := fun q => absurd (Int32.le_trans h.1 q.2) (by decide)
    unfold kd
    rw [if_neg, if_neg, if_neg, if_neg, if_neg, if_neg, if_neg h7, if_neg h8, if_pos h]
    all_goals intro q
    all_goals try (subst q; revert h; decide)
    rcases q with q | q | q | q | q | q | q <;> (subst q; revert h; decide)
theorem i_sub_nat {x a : Int32} (h1 : a ≤ x) (h2 : 0 ≤ a) : x - a = nI (x - a).toNatClampNeg ∧ ((x - a).toNatClampNeg : Int) = x.toInt - a.toInt := by
  have e : (x - a).toInt = x.toInt - a.toInt := by
    rw [Int32.toInt_sub, Int32.le_iff_toInt_le] at *
    rw [Int32.toInt_zero] at h2
    have hx := Int32.toInt_lt x
    have hx2 := Int32.le_toInt x
    exact Int.bmod_eq_of_le (by omega) (by omega)
  rw [Int32.le_iff_toInt_le] at h1
  have hn : 0 ≤ (x - a).toInt := by omega
  have h3 : ((x - a).toNatClampNeg : Int) = (x - a).toInt := by
    unfold Int32.toNatClampNeg
    exact Int.toNat_of_nonneg hn
  refine ⟨?_, by rw [h3, e]⟩
  apply Int32.toInt_inj.mp
  have hx := Int32.toInt_lt (x - a)
  rw [nI_toInt (by omega), h3]
/-- which name -/
theorem nm_of {x : Int32} (h : kd x = 8) : nmI x < 10 ∧ x - 97 = nI (nmI x) := by
  rw [kd_8] at h
  obtain ⟨e1, e2⟩ := i_sub_nat h.1 (by decide)
  have h2 := Int32.le_iff_toInt_le.mp h.2
  refine ⟨?_, e1⟩
  have c1 : (97 : Int32).toInt = 97 := by decide
  have c2 : (106 : Int32).toInt = 106 := by decide
  unfold nmI
  omega
theorem lc_of {x : Int32} (h : kd x = 9) : lcI x < 6 ∧ x - 107 = nI (lcI x) := by
  rw [kd_9] at h
  obtain ⟨e1, e2⟩ := i_sub_nat h.1 (by decide)
  have h2 := Int32.le_iff_toInt_le.mp h.2
  refine ⟨?_, e1⟩
  have c1 : (107 : Int32).toInt = 107 := by decide
  have c2 : (112 : Int32).toInt = 112 := by decide
  unfold lcI
  omega
theorem OK_ends (s : Nat → Int32) (n : Nat) : ∀ (d : Nat) (b : Nat → Bool) (k : Nat), OK s n d b k = true → k < EN s d k ∧ EN s d k ≤ n := by
  intro d
  induction d with
  | zero => intro b k h; simp [OK] at h
  | succ d ih =>
    intro b k h
    have hk := OK_k h
    rcases OK_kd h with q | q | q | q | q | q | q | q | q
    · rw [OK_2 s n d b k q] at h
      simp only [Bool.and_eq_true] at h
      rw [EN_2 s d k q]
      have h1 := ih _ _ h.2.1
      have h2 := ih _ _ h.2.2
      omega
    · rw [OK_1 s n d b k q] at h
      simp only [Bool.and_eq_true] at h
      rw [EN_1 s d k q]
      have h1 := ih _ _ h.2
      omega
    · rw [OK_3 s n d b k q] at h
      simp only [Bool.and_eq_true] at h
      rw [EN_3 s d k q]
      have h1 := ih _ _ h.2.1
      have h2 := ih _ _ h.2.2.1
      have h3 := ih _ _ h.2.2.2
      omega
    · rw [OK_4 s n d b k q] at h
      simp only [Bool.and_eq_true] at h
      rw [EN_4 s d k q]
      have h1 := ih _ _ h.2.2.1
      have h2 := ih _ _ h.2.2.2
      omega
    · rw [OK_5 s n d b k q] at h
      simp only [Bool.and_eq_true] at h
      rw [EN_5 s d k q]
      have h1 := ih _ _ h.2.2
      omega
    · rw [OK_6 s n d b k q] at h
      simp only [Bool.and_eq_true] at h
      rw [EN_6 s d k q]
      have h1 := ih _ _ h.2.1
      have h2 := ih _ _ h.2.2.2.1
      have h3 := ih _ _ h.2.2.2.2.2
      omega
    · rw [EN_7 s d k q]; omega
    · rw [EN_8 s d k q]; omega
    · rw [EN_9 s d k q]; omega
/-- ends in another array that is the same there -/
theorem EO_same {s e e' : Nat → Int32} {n : Nat} : ∀ (d : Nat) (b : Nat → Bool) (k : Nat), OK s n d b k = true → (∀ j, k ≤ j → j < EN s d k → e' j = e j) → EO s e d k → EO s e' d k := by
  intro d
  induction d with
  | zero => intro b k h; simp [OK] at h
  | succ d ih =>
    intro b k h hj ho
    have hE := OK_ends s n (d + 1) b k h
    rcases OK_kd h with q | q | q | q | q | q | q | q | q
    · rw [OK_2 s n d b k q] at h
      simp only [Bool.and_eq_true] at h
      rw [EO_2 s e d k q] at ho
      rw [EO_2 s e' d k q, hj k (Nat.le_refl _) hE.1]
      rw [EN_2 s d k q] at hj hE
      have h1 := OK_ends s n _ _ _ h.2.1
      have h2 := OK_ends s n _ _ _ h.2.2
      exact ⟨ho.1, ih _ _ h.2.1 (fun j a b => hj j (by omega) (by omega)) ho.2.1, ih _ _ h.2.2 (fun j a b => hj j (by omega) (by omega)) ho.2.2⟩
    · rw [OK_1 s n d b k q] at h
      simp only [Bool.and_eq_true] at h
      rw [EO_1 s e d k q] at ho
      rw [EO_1 s e' d k q, hj k (Nat.le_refl _) hE.1]
      rw [EN_1 s d k q] at hj hE
      exact ⟨ho.1, ih _ _ h.2 (fun j a b => hj j (by omega) (by omega)) ho.2⟩
    · rw [OK_3 s n d b k q] at h
      simp only [Bool.and_eq_true] at h
      rw [EO_3 s e d k q] at ho
      rw [EO_3 s e' d k q, hj k (Nat.le_refl _) hE.1]
      rw [EN_3 s d k q] at hj hE
      have h1 := OK_ends s n _ _ _ h.2.1
      have h2 := OK_ends s n _ _ _ h.2.2.1
      have h3 := OK_ends s n _ _ _ h.2.2.2
      exact ⟨ho.1, ih _ _ h.2.1 (fun j a b => hj j (by omega) (by omega)) ho.2.1, ih _ _ h.2.2.1 (fun j a b => hj j (by omega) (by omega)) ho.2.2.1, ih _ _ h.2.2.2 (fun j a b => hj j (by omega) (by omega)) ho.2.2.2⟩
    · rw [OK_4 s n d b k q] at h
      simp only [Bool.and_eq_true] at h
      rw [EO_4 s e d k q] at ho
      rw [EO_4 s e' d k q, hj k (Nat.le_refl _) hE.1]
      rw [EN_4 s d k q] at hj hE
      have h1 := OK_ends s n _ _ _ h.2.2.1
      have h2 := OK_ends s n _ _ _ h.2.2.2
      exact ⟨ho.1, ih _ _ h.2.2.1 (fun j a b => hj j (by omega) (by omega)) ho.2.1, ih _ _ h.2.2.2 (fun j a b => hj j (by omega) (by omega)) ho.2.2⟩
    · rw [OK_5 s n d b k q] at h
      simp only [Bool.and_eq_true] at h
      rw [EO_5 s e d k q] at ho
      rw [EO_5 s e' d k q, hj k (Nat.le_refl _) hE.1]
      rw [EN_5 s d k q] at hj hE
      exact ⟨ho.1, ih _ _ h.2.2 (fun j a b => hj j (by omega) (by omega)) ho.2⟩
    · rw [OK_6 s n d b k q] at h
      simp only [Bool.and_eq_true] at h
      rw [EO_6 s e d k q] at ho
      rw [EO_6 s e' d k q, hj k (Nat.le_refl _) hE.1]
      rw [EN_6 s d k q] at hj hE
      have h1 := OK_ends s n _ _ _ h.2.1
      have h2 := OK_ends s n _ _ _ h.2.2.2.1
      have h3 := OK_ends s n _ _ _ h.2.2.2.2.2
      exact ⟨ho.1, ih _ _ h.2.1 (fun j a b => hj j (by omega) (by omega)) ho.2.1, ih _ _ h.2.2.2.1 (fun j a b => hj j (by omega) (by omega)) ho.2.2.1, ih _ _ h.2.2.2.2.2 (fun j a b => hj j (by omega) (by omega)) ho.2.2.2⟩
    · rw [EO_7 s e d k q] at ho
      rw [EO_7 s e' d k q, hj k (Nat.le_refl _) hE.1]
      exact ho
    · rw [EO_8 s e d k q] at ho
      rw [EO_8 s e' d k q, hj k (Nat.le_refl _) hE.1]
      exact ho
    · rw [EO_9 s e d k q] at ho
      rw [EO_9 s e' d k q, hj k (Nat.le_refl _) hE.1]
      exact ho
