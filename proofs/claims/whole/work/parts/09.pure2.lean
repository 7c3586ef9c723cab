/-! WAYS: Warshall's squares, and a set that grows, are both the ways of a relation over ten places -/
/-- ways whose places between lie below b -/
def Wb (E : Nat → Nat → Bool) : Nat → Nat → Nat → Bool
  | 0, c, d => E c d
  | b + 1, c, d => Wb E b c d || (Wb E b c b && Wb E b b d)
theorem Wb_trans (E : Nat → Nat → Bool) : ∀ b c m d, m < b → Wb E b c m = true → Wb E b m d = true → Wb E b c d = true := by
  intro b
  induction b with
  | zero => intro c m d h; omega
  | succ b ih =>
    intro c m d hm h1 h2
    simp only [Wb, Bool.or_eq_true, Bool.and_eq_true] at h1 h2 ⊢
    by_cases hb : m = b
    · subst hb
      have e1 : Wb E m c m = true := by rcases h1 with h | h; exact h; exact h.1
      have e2 : Wb E m m d = true := by rcases h2 with h | h; exact h; exact h.2
      exact Or.inr ⟨e1, e2⟩
    · have hlt : m < b := by omega
      rcases h1 with h1 | ⟨h1, h1'⟩ <;> rcases h2 with h2 | ⟨h2, h2'⟩
      · exact Or.inl (ih c m d hlt h1 h2)
      · exact Or.inr ⟨ih c m b hlt h1 h2, h2'⟩
      · exact Or.inr ⟨h1, ih b m d hlt h1' h2⟩
      · exact Or.inr ⟨h1, h2'⟩
theorem Wb_sound (E : Nat → Nat → Bool) : ∀ b c d, Wb E b c d = true → Relation.TransGen (fun a a' => E a a' = true) c d := by
  intro b
  induction b with
  | zero => intro c d h; exact .single h
  | succ b ih =>
    intro c d h
    simp only [Wb, Bool.or_eq_true, Bool.and_eq_true] at h
    rcases h with h | ⟨h1, h2⟩
    · exact ih c d h
    · exact Relation.TransGen.trans (ih c b h1) (ih b d h2)
theorem Wb_edge (E : Nat → Nat → Bool) : ∀ b c d, E c d = true → Wb E b c d = true := by
  intro b
  induction b with
  | zero => intro c d h; exact h
  | succ b ih => intro c d h; simp only [Wb, ih c d h, Bool.true_or]
theorem Wb_full {E : Nat → Nat → Bool} {n : Nat} (hE : ∀ a a', E a a' = true → a' < n) {c d : Nat} (h : Relation.TransGen (fun a a' => E a a' = true) c d) : d < n ∧ Wb E n c d = true := by
  induction h with
  | single h => exact ⟨hE _ _ h, Wb_edge E n _ _ h⟩
  | tail _ h ih => exact ⟨hE _ _ h, Wb_trans E n _ _ _ ih.1 ih.2 (Wb_edge E n _ _ h)⟩
/-- how many of the first n are in a set -/
def cnt (f : Nat → Bool) : Nat → Nat
  | 0 => 0
  | n + 1 => cnt f n + (if f n then 1 else 0)
theorem cnt_le (f : Nat → Bool) : ∀ n, cnt f n ≤ n := by
  intro n
  induction n with
  | zero => exact Nat.le_refl _
  | succ n ih => unfold cnt; split <;> omega
theorem cnt_mono {f g : Nat → Bool} : ∀ n, (∀ i, i < n → f i = true → g i = true) → cnt f n ≤ cnt g n := by
  intro n
  induction n with
  | zero => intro _; exact Nat.le_refl _
  | succ n ih =>
    intro h
    have h1 := ih (fun i hi => h i (by omega))
    unfold cnt
    by_cases hf : f n = true
    · rw [if_pos hf, if_pos (h n (by omega) hf)]; omega
    · rw [if_neg hf]; split <;> omega
theorem cnt_lt {f g : Nat → Bool} : ∀ n, (∀ i, i < n → f i = true → g i = true) → ∀ j, j < n → f j = false → g j = true → cnt f n < cnt g n := by
  intro n
  induction n with
  | zero => intro _ j hj; omega
  | succ n ih =>
    intro h j hj hf hg
    by_cases hjn : j = n
    · subst hjn
      have h1 := cnt_mono j (fun i hi => h i (by omega))
      unfold cnt
      rw [if_neg (by rw [hf]; decide), if_pos hg]
      omega
    · have h1 := ih (fun i hi => h i (by omega)) j (by omega) hf hg
      unfold cnt
      by_cases hfn : f n = true
      · rw [if_pos hfn, if_pos (h n (by omega) hfn)]; omega
      · rw [if_neg hfn]; split <;> omega
/-- a set of at most n places that grows in every round until it is closed is closed behind n rounds -/
theorem grows_closed {n : Nat} (R : Nat → Nat → Bool) (closed : (Nat → Bool) → Prop) (hmono : ∀ t i, R t i = true → R (t + 1) i = true) (hstep : ∀ t, closed (R t) ∨ ∃ j, j < n ∧ R t j = false ∧ R (t + 1) j = true) (hstay : ∀ t, closed (R t) → closed (R (t + 1))) : closed (R n) := by
  have key : ∀ t, closed (R t) ∨ t ≤ cnt (R t) n := by
    intro t
    induction t with
    | zero => exact Or.inr (Nat.zero_le _)
    | succ t ih =>
      rcases ih with h | h
      · exact Or.inl (hstay t h)
      · rcases hstep t with h1 | ⟨j, hj, h2, h3⟩
        · exact Or.inl (hstay t h1)
        · have := cnt_lt n (fun i _ => hmono t i) j hj h2 h3
          exact Or.inr (by omega)
  rcases key n with h | h
  · exact h
  · rcases hstep n with h1 | ⟨j, hj, h2, h3⟩
    · exact h1
    · have h4 := cnt_lt n (fun i _ => hmono n i) j hj h2 h3
      have h5 := cnt_le (R (n + 1)) n
      omega
