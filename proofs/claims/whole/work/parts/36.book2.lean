/-! ONE ABSTRACT BOOK: who becomes stale -/
theorem us_lt {β : Me} (c : Nat) : ∀ {j : Nat}, j < 32 → bt (usI β c) j = true → thB β c = true := by
  intro j hj h
  unfold usI at h
  cases hw : wlB β c with
  | true => exact wl_th hw
  | false => rw [hw, if_neg (by decide), b_0] at h; cases h
section SP
variable {M β : Me} {x : Int32}
theorem foM_bit (h : AbT M β) (hN : Nmb β) (n : Int32) {j : Nat} (hj : j < 32) : ∀ i, i ≤ 10 → (bt (foM M n i) j = true ↔ ∃ c, c < i ∧ usr M n c = true ∧ thB β c = true ∧ nmN β c = j) := by
  intro i
  induction i with
  | zero => intro _; rw [show foM M n 0 = nI 0 from rfl, show bt (nI 0) j = false from b_0 j]; exact ⟨fun z => (by cases z), fun ⟨c, hc, _⟩ => by omega⟩
  | succ i ih =>
    intro hi
    simp only [foM]
    have e : bt (nbI (M (7 + i) 1)) j = (thB β i && decide (j = nmN β i)) := by rw [(h i (by omega)).1]; exact nb_bit hN (by omega) hj
    cases hu : usr M n i with
    | true =>
      rw [if_pos rfl, b_or, Bool.or_eq_true, ih (by omega), e, Bool.and_eq_true, decide_eq_true_eq]
      constructor
      · rintro (⟨c, h1, h2⟩ | ⟨h1, h2⟩)
        · exact ⟨c, by omega, h2⟩
        · exact ⟨i, by omega, hu, h1, h2.symm⟩
      · rintro ⟨c, h1, h2, h3, h4⟩
        by_cases z : c = i
        · subst z; exact Or.inr ⟨h3, h4.symm⟩
        · exact Or.inl ⟨c, by omega, h2, h3, h4⟩
    | false =>
      rw [if_neg (by decide), ih (by omega)]
      constructor
      · rintro ⟨c, h1, h2⟩; exact ⟨c, by omega, h2⟩
      · rintro ⟨c, h1, h2, h3⟩
        by_cases z : c = i
        · subst z; rw [hu] at h2; cases h2
        · exact ⟨c, by omega, h2, h3⟩
theorem usr_iff (h : AbT M β) {c : Nat} (hc : c < 10) (n : Int32) : usr M n c = true ↔ ∃ j, j < 32 ∧ bt (usI β c) j = true ∧ bt n j = true := by
  unfold usr; rw [(h c hc).2.2.2.1]; exact and_nz
theorem NN_mono (t : Nat) {j : Nat} (hb : bt (NNx M x t) j = true) : bt (NNx M x (t + 1)) j = true := by
  simp only [NNx]; rw [b_or, hb, Bool.true_or]
theorem usr_mono (h : AbT M β) {c : Nat} (hc : c < 10) (t : Nat) (hu : usr M (NNx M x t) c = true) : usr M (NNx M x (t + 1)) c = true := by
  obtain ⟨j, hj, h1, h2⟩ := (usr_iff h hc _).mp hu
  exact (usr_iff h hc _).mpr ⟨j, hj, h1, NN_mono t h2⟩
theorem PP_eq (h : AbT M β) {c : Nat} (hc : c < 10) : ∀ t, PPx M x (t + 1) c = (cdP M x c || usr M (NNx M x t) c) := by
  intro t
  induction t with
  | zero => rfl
  | succ t ih =>
    show (PPx M x (t + 1) c || usr M (NNx M x (t + 1)) c) = _
    rw [ih]
    cases hu : usr M (NNx M x t) c with
    | false => rw [Bool.or_false]
    | true => rw [usr_mono h hc t hu, Bool.or_true, Bool.or_true]
/-- a set of names is closed -/
def ClN (M : Me) (β : Me) (S : Nat → Bool) : Prop := ∀ c, c < 10 → (∃ j, j < 32 ∧ bt (usI β c) j = true ∧ S j = true) → thB β c = true → S (nmN β c) = true
theorem ClN_fix (h : AbT M β) (hN : Nmb β) {t : Nat} (hf : NNx M x (t + 1) = NNx M x t) : ClN M β (bt (NNx M x t)) := by
  intro c hc hu ht
  have hn := (th_t hN hc ht).1
  rw [← hf]
  simp only [NNx]
  rw [b_or, Bool.or_eq_true]
  right
  exact (foM_bit h hN _ (by omega) 10 (Nat.le_refl _)).mpr ⟨c, hc, (usr_iff h hc _).mpr hu, ht, rfl⟩
theorem NN_closed (h : AbT M β) (hN : Nmb β) : ClN M β (bt (NNx M x 10)) := by
  refine grows_closed (n := 10) (fun t => bt (NNx M x t)) (ClN M β) (fun t i hb => NN_mono t hb) (fun t => ?_) (fun t hc => ?_)
  · by_cases hc : ClN M β (bt (NNx M x t))
    · exact Or.inl hc
    · right
      unfold ClN at hc
      simp only [Classical.not_forall] at hc
      obtain ⟨c, hc, hu, ht, hn⟩ := hc
      have hnm := (th_t hN hc ht).1
      refine ⟨nmN β c, hnm, by simpa using hn, ?_⟩
      show bt (NNx M x (t + 1)) _ = true
      simp only [NNx]
      rw [b_or, Bool.or_eq_true]
      right
      exact (foM_bit h hN _ (by omega) 10 (Nat.le_refl _)).mpr ⟨c, hc, (usr_iff h hc _).mpr hu, ht, rfl⟩
  · have hfix : ∀ j, j < 32 → bt (NNx M x (t + 1)) j = bt (NNx M x t) j := by
      intro j hj
      simp only [NNx]
      rw [b_or]
      cases hb : bt (foM M (NNx M x t) 10) j with
      | false => rw [Bool.or_false]
      | true =>
        obtain ⟨c, hc1, hu, ht, hn⟩ := (foM_bit h hN _ hj 10 (Nat.le_refl _)).mp hb
        rw [← hn, hc c hc1 ((usr_iff h hc1 _).mp hu) ht]; rfl
    intro c hc1 hu ht
    have hnm := (th_t hN hc1 ht).1
    rw [hfix _ (by omega)]
    obtain ⟨j, hj, h1, h2⟩ := hu
    exact hc c hc1 ⟨j, hj, h1, by rw [← hfix j hj]; exact h2⟩ ht
theorem nr_th {d : Nat} (h : nrB β x d = true) : thB β d = true := by unfold nrB at h; simp only [Bool.and_eq_true] at h; exact h.1
theorem tc_th {d : Nat} (h : tcB β x d = true) : thB β d = true := by unfold tcB at h; simp only [Bool.and_eq_true] at h; exact h.1
theorem ng_lt {a b : Nat} (h : ngB β a b = true) : b < 10 := by unfold ngB at h; simp only [Bool.and_eq_true, decide_eq_true_eq] at h; exact h.1
theorem tc_iff {d : Nat} : tcB β x d = true ↔ thB β d = true ∧ (nrB β x d = true ∨ ∃ y, y < 10 ∧ nrB β x y = true ∧ Relation.TransGen (fun a a' => ngB β a a' = true) d y) := by
  unfold tcB
  simp only [Bool.and_eq_true, Bool.or_eq_true, List.any_eq_true, List.mem_range]
  constructor
  · rintro ⟨h1, h2 | ⟨y, hy, h3, h4⟩⟩
    · exact ⟨h1, Or.inl h2⟩
    · exact ⟨h1, Or.inr ⟨y, hy, h3, Wb_sound _ _ _ _ h4⟩⟩
  · rintro ⟨h1, h2 | ⟨y, hy, h3, h4⟩⟩
    · exact ⟨h1, Or.inl h2⟩
    · exact ⟨h1, Or.inr ⟨y, hy, h3, (Wb_full (fun a b => ng_lt) h4).2⟩⟩
/-- who uses a touched cell is touched -/
theorem tc_up {d e : Nat} (he : e < 10) (hd : thB β d = true) (hn : ngB β d e = true) (ht : tcB β x e = true) : tcB β x d = true := by
  obtain ⟨h1, h2⟩ := tc_iff.mp ht
  refine tc_iff.mpr ⟨hd, Or.inr ?_⟩
  rcases h2 with h2 | ⟨y, hy, h3, h4⟩
  · exact ⟨e, he, h2, .single hn⟩
  · exact ⟨y, hy, h3, Relation.TransGen.trans (.single hn) h4⟩
theorem NN_sound (h : AbT M β) (hN : Nmb β) : ∀ t j, j < 32 → bt (NNx M x t) j = true → bt x j = true ∨ ∃ e, e < 10 ∧ nmN β e = j ∧ tcB β x e = true := by
  intro t
  induction t with
  | zero => intro j _ hb; exact Or.inl hb
  | succ t ih =>
    intro j hj hb
    simp only [NNx] at hb
    rw [b_or, Bool.or_eq_true] at hb
    rcases hb with hb | hb
    · exact ih j hj hb
    · obtain ⟨c, hc, hu, ht, hn⟩ := (foM_bit h hN _ hj 10 (Nat.le_refl _)).mp hb
      right
      refine ⟨c, hc, hn, ?_⟩
      obtain ⟨q, hq, h1, h2⟩ := (usr_iff h hc _).mp hu
      rcases ih q hq h2 with h3 | ⟨e, he, h4, h5⟩
      · exact tc_iff.mpr ⟨ht, Or.inl (by unfold nrB; rw [ht, Bool.true_and, Bool.or_eq_true]; right; exact and_nz.mpr ⟨q, hq, h1, h3⟩)⟩
      · exact tc_up he ht (by unfold ngB ndB; rw [decide_eq_true he, tc_th h5, h4, h1]; rfl) h5
theorem sp_eq (h : AbT M β) (hN : Nmb β) {t : Nat} (hf : NNx M x (t + 1) = NNx M x t ∨ t = 10) {c : Nat} (hc : c < 10) : PPx M x (t + 1) c = tcB β x c := by
  have hcl : ClN M β (bt (NNx M x t)) := by
    rcases hf with e | e
    · exact ClN_fix h hN e
    · rw [e]; exact NN_closed h hN
  have hx : ∀ j, bt x j = true → bt (NNx M x t) j = true := by
    intro j hj
    clear hf hcl
    induction t with
    | zero => exact hj
    | succ t ih => exact NN_mono t ih
  rw [PP_eq h hc]
  have key : (cdP M x c || usr M (NNx M x t) c) = true ↔ tcB β x c = true := by
    rw [Bool.or_eq_true]
    constructor
    · rintro (h1 | h1)
      · rw [cd_eq h hN x hc, Bool.and_eq_true] at h1
        exact tc_iff.mpr ⟨h1.1, Or.inl (by unfold nrB; rw [h1.1, h1.2]; rfl)⟩
      · obtain ⟨j, hj, h2, h3⟩ := (usr_iff h hc _).mp h1
        have ht := us_lt c hj h2
        rcases NN_sound h hN t j hj h3 with h4 | ⟨e, he, h5, h6⟩
        · exact tc_iff.mpr ⟨ht, Or.inl (by unfold nrB; rw [ht, Bool.true_and, Bool.or_eq_true]; right; exact and_nz.mpr ⟨j, hj, h2, h4⟩)⟩
        · exact tc_up he ht (by unfold ngB ndB; rw [decide_eq_true he, tc_th h6, h5, h2]; rfl) h6
    · intro ht
      have near : ∀ y, y < 10 → nrB β x y = true → bt (NNx M x t) (nmN β y) = true := by
        intro y hy hn
        have hty := nr_th hn
        unfold nrB at hn
        rw [hty, Bool.true_and, Bool.or_eq_true] at hn
        rcases hn with hn | hn
        · exact hx _ hn
        · obtain ⟨j, hj, h1, h2⟩ := and_nz.mp hn
          exact hcl y hy ⟨j, hj, h1, hx j h2⟩ hty
      have up : ∀ y z, Relation.TransGen (fun a a' => ngB β a a' = true) y z → y < 10 → bt (NNx M x t) (nmN β z) = true → usr M (NNx M x t) y = true := by
        intro y z hyz
        induction hyz with
        | single q =>
          intro hy hz
          unfold ngB ndB at q
          simp only [Bool.and_eq_true, decide_eq_true_eq] at q
          exact (usr_iff h hy _).mpr ⟨_, by have := (th_t hN q.1 q.2.1).1; omega, q.2.2, hz⟩
        | tail p q ih =>
          rename_i b z
          intro hy hz
          have hb : b < 10 ∧ thB β b = true := by
            cases p with
            | single w => unfold ngB ndB at w; simp only [Bool.and_eq_true, decide_eq_true_eq] at w; exact ⟨w.1, w.2.1⟩
            | tail _ w => unfold ngB ndB at w; simp only [Bool.and_eq_true, decide_eq_true_eq] at w; exact ⟨w.1, w.2.1⟩
          unfold ngB ndB at q
          simp only [Bool.and_eq_true, decide_eq_true_eq] at q
          exact ih hy (hcl b hb.1 ⟨_, by have := (th_t hN q.1 q.2.1).1; omega, q.2.2, hz⟩ hb.2)
      obtain ⟨h1, h2 | ⟨y, hy, h3, h4⟩⟩ := tc_iff.mp ht
      · unfold nrB at h2
        rw [h1, Bool.true_and, Bool.or_eq_true] at h2
        rcases h2 with h2 | h2
        · left; rw [cd_eq h hN x hc, h1, h2]; rfl
        · right
          obtain ⟨j, hj, w1, w2⟩ := and_nz.mp h2
          exact (usr_iff h hc _).mpr ⟨j, hj, w1, hx j w2⟩
      · right; exact up c y h4 hc (near y hy h3)
  cases ha : (cdP M x c || usr M (NNx M x t) c) with
  | true => exact (key.mp ha).symm
  | false =>
    cases hb : tcB β x c with
    | false => rfl
    | true => rw [key.mpr hb] at ha; cases ha
end SP
