/-! EVALUATIONS: steps, truth values -/
theorem bd_e {r : Rs} {f : Int32 → Nat → Rs} (h : ¬ r.1 = 0) : bd r f = (r.1, 0, r.2.2) := if_neg h
theorem bd_o {r : Rs} {f : Int32 → Nat → Rs} (h : r.1 = 0) : bd r f = f r.2.1 r.2.2 := if_pos h
theorem bd_le {r : Rs} {f : Int32 → Nat → Rs} (h : r.2.2 ≤ 2000) (hf : ∀ v m, m ≤ 2000 → (f v m).2.2 ≤ 2000) : (bd r f).2.2 ≤ 2000 := by
  unfold bd
  split
  · exact hf _ _ h
  · exact h
theorem jn_le (x a b : Int32) {n : Nat} (h : n ≤ 2000) : (jn x a b n).2.2 ≤ 2000 := by
  unfold jn
  repeat' split
  all_goals exact h
theorem EV_le {tx : Nat → Nat → Int32} {df : Nat → Nat} {am : Nat → Int32} {cl : Nat → Int32 → Nat → Rs} (hcl : ∀ c a m, m ≤ 2000 → (cl c a m).2.2 ≤ 2000) (c : Nat) : ∀ (d k : Nat) (lc : Nat → Int32) (m : Nat), m ≤ 2000 → (EV tx df am cl c d k lc m).2.2 ≤ 2000 := by
  intro d
  induction d with
  | zero => intro k lc m h; exact h
  | succ d ih =>
    intro k lc m h
    by_cases hm : 2000 ≤ m
    · rw [EV_f tx df am cl c d k lc m hm]; exact h
    · have hm2 : m < 2000 := by omega
      have h1 : m + 1 ≤ 2000 := by omega
      rcases kd_cases (tx c k) with q | q | q | q | q | q | q | q | q | q
      · rw [EV_2 tx df am cl c d k lc m hm2 q]
        refine bd_le (ih _ _ _ h1) (fun v p hp => ?_)
        split
        · exact hp
        · exact bd_le (ih _ _ _ hp) (fun w p hp => jn_le _ _ _ hp)
      · rw [EV_1 tx df am cl c d k lc m hm2 q]
        exact bd_le (ih _ _ _ h1) (fun v p hp => hp)
      · rw [EV_3 tx df am cl c d k lc m hm2 q]
        exact bd_le (ih _ _ _ h1) (fun v p hp => bd_le (ih _ _ _ hp) (fun _ _ hp => hp))
      · rw [EV_4 tx df am cl c d k lc m hm2 q]
        exact bd_le (ih _ _ _ h1) (fun v p hp => bd_le (ih _ _ _ hp) (fun _ _ hp => hp))
      · rw [EV_5 tx df am cl c d k lc m hm2 q]
        exact bd_le (ih _ _ _ h1) (fun v p hp => bd_le (hcl _ _ _ hp) (fun _ _ hp => hp))
      · rw [EV_6 tx df am cl c d k lc m hm2 q]
        refine bd_le (ih _ _ _ h1) (fun v p hp => ?_)
        split
        · exact bd_le (ih _ _ _ hp) (fun _ _ hp => hp)
        · split
          · exact bd_le (ih _ _ _ hp) (fun _ _ hp => hp)
          · exact hp
      · rw [EV_7 tx df am cl c d k lc m hm2 q]; exact h1
      · rw [EV_8 tx df am cl c d k lc m hm2 q]; exact h1
      · rw [EV_9 tx df am cl c d k lc m hm2 q]; exact h1
      · simp only [EV, q, if_neg hm]; exact h1
theorem CL_le {tx : Nat → Nat → Int32} {df : Nat → Nat} {am : Nat → Int32} : ∀ (o c : Nat) (a : Int32) (m : Nat), m ≤ 2000 → (CL tx df am o c a m).2.2 ≤ 2000 := by
  intro o
  induction o with
  | zero => intro c a m h; exact h
  | succ o ih => intro c a m h; exact EV_le ih c 6 2 _ m h
def z1 (v : Int32) : Prop := v = 0 ∨ v = 1
theorem EV_bool {tx : Nat → Nat → Int32} {df : Nat → Nat} {am tn : Nat → Int32} {fn : Nat → Bool} {cl : Nat → Int32 → Nat → Rs} (hb : ∀ j, tn j = 2 → z1 (am (df j))) (c : Nat) : ∀ (d k : Nat) (lc : Nat → Int32) (m : Nat), TY (tx c) tn fn d k = 2 → (EV tx df am cl c d k lc m).1 = 0 → z1 (EV tx df am cl c d k lc m).2.1 := by
  intro d
  induction d with
  | zero => intro k lc m h; exact absurd h (by simp only [TY]; decide)
  | succ d ih =>
    intro k lc m ht he
    by_cases hm : 2000 ≤ m
    · rw [EV_f tx df am cl c d k lc m hm] at he; exact absurd he (by show ¬ (10 : Int32) = 0; decide)
    · have hm2 : m < 2000 := by omega
      rcases kd_cases (tx c k) with q | q | q | q | q | q | q | q | q | q
      · rw [EV_2 tx df am cl c d k lc m hm2 q] at he ⊢
        by_cases h1 : (EV tx df am cl c d (k + 1) lc (m + 1)).1 = 0
        · rw [bd_o h1] at he ⊢
          split
          · exact Or.inl rfl
          · rename_i hx
            rw [if_neg hx] at he
            by_cases h2 : (EV tx df am cl c d (EN (tx c) d (k + 1)) lc (EV tx df am cl c d (k + 1) lc (m + 1)).2.2).1 = 0
            · rw [bd_o h2] at he ⊢
              rw [TY_2 _ _ _ d k q] at ht
              unfold jn at he ⊢
              by_cases h38 : tx c k = 38
              · rw [if_pos h38] at ht ⊢
                split at ht
                · rename_i hh
                  exact ih _ _ _ hh.2 h2
                · exact absurd ht (by decide)
              · rw [if_neg h38] at ht ⊢
                split at ht
                · split at ht
                  · rename_i h60
                    rw [if_neg (by rcases h60 with h | h <;> (rw [h]; decide))]
                    show z1 (if tx c k = 43 then _ else _)
                    rw [if_neg (by rcases h60 with h | h <;> (rw [h]; decide)), if_neg (by rcases h60 with h | h <;> (rw [h]; decide)), if_neg (by rcases h60 with h | h <;> (rw [h]; decide))]
                    unfold z1
                    repeat' split
                    all_goals simp
                  · exact absurd ht (by decide)
                · exact absurd ht (by decide)
            · rw [bd_e h2] at he; exact absurd he h2
        · rw [bd_e h1] at he; exact absurd he h1
      · rw [EV_1 tx df am cl c d k lc m hm2 q] at he ⊢
        rw [TY_1 _ _ _ d k q] at ht
        split at ht
        · rename_i hh
          by_cases h1 : (EV tx df am cl c d (k + 1) lc (m + 1)).1 = 0
          · rw [bd_o h1]
            rcases ih _ _ _ hh h1 with h | h
            · right; show 1 - _ = _; rw [h]; decide
            · left; show 1 - _ = _; rw [h]; decide
          · rw [bd_e h1] at he; exact absurd he h1
        · exact absurd ht (by decide)
      · rw [EV_3 tx df am cl c d k lc m hm2 q] at he ⊢
        rw [TY_3 _ _ _ d k q] at ht
        split at ht
        · rename_i hh
          by_cases h1 : (EV tx df am cl c d (k + 1) lc (m + 1)).1 = 0
          · rw [bd_o h1] at he ⊢
            by_cases hv : (EV tx df am cl c d (k + 1) lc (m + 1)).2.1 = 0
            · rw [if_pos hv] at he ⊢
              by_cases h2 : (EV tx df am cl c d (EN (tx c) d (EN (tx c) d (k + 1))) lc (EV tx df am cl c d (k + 1) lc (m + 1)).2.2).1 = 0
              · rw [bd_o h2]; exact ih _ _ _ (hh.2 ▸ ht) h2
              · rw [bd_e h2] at he; exact absurd he h2
            · rw [if_neg hv] at he ⊢
              by_cases h2 : (EV tx df am cl c d (EN (tx c) d (k + 1)) lc (EV tx df am cl c d (k + 1) lc (m + 1)).2.2).1 = 0
              · rw [bd_o h2]; exact ih _ _ _ ht h2
              · rw [bd_e h2] at he; exact absurd he h2
          · rw [bd_e h1] at he; exact absurd he h1
        · exact absurd ht (by decide)
      · rw [EV_4 tx df am cl c d k lc m hm2 q] at he ⊢
        rw [TY_4 _ _ _ d k q] at ht
        split at ht
        · by_cases h1 : (EV tx df am cl c d (k + 2) lc (m + 1)).1 = 0
          · rw [bd_o h1] at he ⊢
            by_cases h2 : (EV tx df am cl c d (EN (tx c) d (k + 2)) (upd lc (lcI (tx c (k + 1))) (EV tx df am cl c d (k + 2) lc (m + 1)).2.1) (EV tx df am cl c d (k + 2) lc (m + 1)).2.2).1 = 0
            · rw [bd_o h2]; exact ih _ _ _ ht h2
            · rw [bd_e h2] at he; exact absurd he h2
          · rw [bd_e h1] at he; exact absurd he h1
        · exact absurd ht (by decide)
      · rw [TY_5 _ _ _ d k q] at ht
        split at ht <;> exact absurd ht (by decide)
      · rw [TY_6 _ _ _ d k q] at ht
        split at ht <;> exact absurd ht (by decide)
      · rw [TY_7 _ _ _ d k q] at ht; exact absurd ht (by decide)
      · rw [TY_8 _ _ _ d k q] at ht
        rw [EV_8 tx df am cl c d k lc m hm2 q]
        exact hb _ ht
      · rw [TY_9 _ _ _ d k q] at ht; exact absurd ht (by decide)
      · exact absurd ht (by simp only [TY, q]; decide)
