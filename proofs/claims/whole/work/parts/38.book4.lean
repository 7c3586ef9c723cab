/-! ONE ABSTRACT BOOK: the invariant; types of cells that are ready -/
theorem or_l {x y : Int32} {j : Nat} (h : bt x j = true) : bt (x ||| y) j = true := by rw [b_or, h, Bool.true_or]
theorem or_r {x y : Int32} {j : Nat} (h : bt y j = true) : bt (x ||| y) j = true := by rw [b_or, h, Bool.or_true]
theorem TY_cong {s : Nat → Int32} {n : Nat} {tn tn' : Nat → Int32} {fn fn' : Nat → Bool} : ∀ (d : Nat) (b : Nat → Bool) (k : Nat), OK s n d b k = true → (∀ j, j < 10 → bt (NM s d k) j = true → tn j = tn' j ∧ fn j = fn' j) → TY s tn fn d k = TY s tn' fn' d k := by
  intro d
  induction d with
  | zero => intro b k h; simp [OK] at h
  | succ d ih =>
    intro b k h hj
    rcases OK_kd h with q | q | q | q | q | q | q | q | q
    · rw [OK_2 s n d b k q] at h
      simp only [Bool.and_eq_true] at h
      rw [NM_2 s d k q] at hj
      rw [TY_2 _ _ _ d k q, TY_2 _ _ _ d k q, ih _ _ h.2.1 (fun j w1 w2 => hj j w1 (or_l w2)), ih _ _ h.2.2 (fun j w1 w2 => hj j w1 (or_r w2))]
    · rw [OK_1 s n d b k q] at h
      simp only [Bool.and_eq_true] at h
      rw [NM_1 s d k q] at hj
      rw [TY_1 _ _ _ d k q, TY_1 _ _ _ d k q, ih _ _ h.2 hj]
    · rw [OK_3 s n d b k q] at h
      simp only [Bool.and_eq_true] at h
      rw [NM_3 s d k q] at hj
      rw [TY_3 _ _ _ d k q, TY_3 _ _ _ d k q, ih _ _ h.2.1 (fun j w1 w2 => hj j w1 (or_l w2)), ih _ _ h.2.2.1 (fun j w1 w2 => hj j w1 (or_r (or_l w2))), ih _ _ h.2.2.2 (fun j w1 w2 => hj j w1 (or_r (or_r w2)))]
    · rw [OK_4 s n d b k q] at h
      simp only [Bool.and_eq_true] at h
      rw [NM_4 s d k q] at hj
      rw [TY_4 _ _ _ d k q, TY_4 _ _ _ d k q, ih _ _ h.2.2.1 (fun j w1 w2 => hj j w1 (or_l w2)), ih _ _ h.2.2.2 (fun j w1 w2 => hj j w1 (or_r w2))]
    · rw [OK_5 s n d b k q] at h
      simp only [Bool.and_eq_true, decide_eq_true_eq] at h
      rw [NM_5 s d k q] at hj
      have hn := (nm_of h.2.1.2).1
      rw [TY_5 _ _ _ d k q, TY_5 _ _ _ d k q, ih _ _ h.2.2 (fun j w1 w2 => hj j w1 (or_r w2)), (hj _ hn (or_l (by rw [b_bit (by omega) (by omega)]; simp))).2]
    · rw [OK_6 s n d b k q] at h
      simp only [Bool.and_eq_true] at h
      rw [NM_6 s d k q] at hj
      rw [TY_6 _ _ _ d k q, TY_6 _ _ _ d k q, ih _ _ h.2.1 (fun j w1 w2 => hj j w1 (or_l w2)), ih _ _ h.2.2.2.1 (fun j w1 w2 => hj j w1 (or_r (or_l w2))), ih _ _ h.2.2.2.2.2 (fun j w1 w2 => hj j w1 (or_r (or_r w2)))]
    · rw [TY_7 _ _ _ d k q, TY_7 _ _ _ d k q]
    · rw [NM_8 s d k q] at hj
      have hn := (nm_of q).1
      rw [TY_8 _ _ _ d k q, TY_8 _ _ _ d k q, (hj _ hn (by rw [b_bit (by omega) (by omega)]; simp)).1]
    · rw [TY_9 _ _ _ d k q, TY_9 _ _ _ d k q]
/-- a cell that stands: there, not stale, no fault, a value or a function -/
def gdB (β : Me) (c : Nat) : Bool := thB β c && (decide (β 4 c = 0) && (decide (ftI β c = 0) && (decide (β 5 c = 13) || decide (β 5 c = 14))))
theorem gd_iff {β : Me} {c : Nat} : gdB β c = true ↔ thB β c = true ∧ β 4 c = 0 ∧ ftI β c = 0 ∧ (β 5 c = 13 ∨ β 5 c = 14) := by
  unfold gdB; simp only [Bool.and_eq_true, Bool.or_eq_true, decide_eq_true_eq]
def Iv1 (β : Me) : Prop := ∀ c, c < 10 → gdB β c = true → (∀ d, d < 10 → d ≠ c → ndB β c d = true → gdB β d = true) ∧ (β 5 c = 13 → fnB β c = true ∧ tyI β c = 1) ∧ (β 5 c = 14 → fnB β c = false ∧ tyI β c = β 7 c ∧ ¬ β 7 c = 0 ∧ (β 7 c = 2 → z1 (β 6 c)))
def Iv (β : Me) : Prop := Iv0 β ∧ Iv1 β
theorem ft_0 {β : Me} {c : Nat} (h : ftI β c = 0) : wlB β c = true ∧ dpB β c = false ∧ msB β c = false ∧ cyB β c = false := by
  unfold ftI at h
  cases h1 : wlB β c with
  | false => rw [h1, if_neg (by decide)] at h; exact absurd h (by decide)
  | true =>
    rw [h1, if_pos rfl] at h
    cases h2 : dpB β c with
    | true => rw [h2, if_pos rfl] at h; exact absurd h (by decide)
    | false =>
      rw [h2, if_neg (by decide)] at h
      cases h3 : msB β c with
      | true => rw [h3, if_pos rfl] at h; exact absurd h (by decide)
      | false =>
        rw [h3, if_neg (by decide)] at h
        cases h4 : cyB β c with
        | true => rw [h4] at h; exact absurd h (by decide)
        | false => exact ⟨rfl, rfl, rfl, rfl⟩
theorem ft_range (β : Me) (c : Nat) : ftI β c = 0 ∨ ftI β c = 1 ∨ ftI β c = 2 ∨ ftI β c = 3 ∨ ftI β c = 4 := by
  unfold ftI
  repeat' split
  all_goals simp
/-- a name that a cell without fault uses: its definer -/
theorem us_def {β : Me} {c : Nat} (hc : c < 10) (hf : ftI β c = 0) {j : Nat} (hj : j < 10) (hu : bt (usI β c) j = true) : dfN β j < 10 ∧ β 2 (dfN β j) = nI j ∧ ¬ dfL β j 10 < 0 ∧ dfE β j 10 = nI (dfN β j + 1) ∧ ndB β c (dfN β j) = true ∧ (dfN β j ≠ c → ¬ β 2 c = nI j) ∧ (dfN β j = c → fnB β c = true ∧ β 2 c = nI j) := by
  obtain ⟨h1, h2, h3, h4⟩ := ft_0 hf
  have hl : ¬ dfL β j 10 < 0 := fun z => by
    unfold msB at h3
    rw [List.any_eq_false] at h3
    exact h3 j (List.mem_range.mpr hj) (by rw [hu, decide_eq_true z]; rfl)
  obtain ⟨d1, d2, d3, d4⟩ := df_def hl
  have ht := th_j hj d3
  have hnd : ndB β c (dfN β j) = true := by unfold ndB; rw [ht.1, ht.2, hu]; rfl
  refine ⟨d1, d3, hl, d4, hnd, fun hne z => ?_, fun e => ⟨?_, by rw [← e]; exact d3⟩⟩
  · unfold dpB at h2
    rw [List.any_eq_false] at h2
    exact h2 (dfN β j) (List.mem_range.mpr d1) (by rw [decide_eq_true hne, decide_eq_true (by rw [d3, z])]; rfl)
  · cases hfn : fnB β c with
    | true => rfl
    | false =>
      have : egB β c c = true := by
        unfold egB; rw [e] at hnd; rw [decide_eq_true hc, hnd, hfn]; simp
      unfold cyB at h4
      rw [Wb_edge (egB β) 10 c c this] at h4; cases h4
/-- a cell that is to be worked on, without fault, not blocked: what it uses stands -/
theorem rd_gd {β : Me} (hI : Iv0 β) {c : Nat} (hc : c < 10) (hr : rdB β c = true) (hf : ftI β c = 0) (hb : bkB β c = false) {d : Nat} (hd : d < 10) (hne : d ≠ c) (hn : ndB β c d = true) : gdB β d = true := by
  have ht : thB β d = true := by unfold ndB at hn; simp only [Bool.and_eq_true] at hn; exact hn.1
  unfold rdB at hr
  simp only [Bool.and_eq_true, Bool.or_eq_true, decide_eq_true_eq, Bool.not_eq_true'] at hr
  have hs : β 4 d = 0 := by
    rcases hr.2.2 with w | w
    · exact absurd hf w
    · rw [List.any_eq_false] at w
      have := w d (List.mem_range.mpr hd)
      simp only [Bool.and_eq_true, decide_eq_true_eq, not_and] at this
      rcases hI.2.2.2.1 d hd with z | z
      · exact z
      · exact absurd z (this hne hn)
  unfold bkB at hb
  rw [List.any_eq_false] at hb
  have h2 := hb d (List.mem_range.mpr hd)
  simp only [Bool.and_eq_true, Bool.or_eq_true, decide_eq_true_eq, not_and, not_or] at h2
  have h3 := h2 hne hn
  have hft : ftI β d = 0 := Classical.byContradiction h3.1
  refine gd_iff.mpr ⟨ht, hs, hft, ?_⟩
  by_cases e : β 5 d = 14
  · exact Or.inr e
  · exact Or.inl (Classical.byContradiction (h3.2 e))
/-- the types of names and the functions, as an evaluation has them -/
def tnE (β : Me) (j : Nat) : Int32 := if ¬ dfL β j 10 < 0 ∧ gdB β (dfN β j) = true ∧ β 5 (dfN β j) = 14 then β 7 (dfN β j) else 0
def fnE (β : Me) (j : Nat) : Bool := decide (¬ dfL β j 10 < 0) && (gdB β (dfN β j) && decide (β 5 (dfN β j) = 13))
theorem wl_ok {β : Me} {c : Nat} (h : wlB β c = true) : OK (β (20 + c)) (lenN β c) 6 (b0 β c) (stN β c) = true ∧ EN (β (20 + c)) 6 (stN β c) = lenN β c := by
  unfold wlB at h; simp only [Bool.and_eq_true, decide_eq_true_eq] at h; exact h.2
/-- with a cell's own name a function or nothing, and the others standing, its type is its type -/
theorem ty_E {β : Me} {c : Nat} (hc : c < 10) (hf : ftI β c = 0) (hg : ∀ d, d < 10 → d ≠ c → ndB β c d = true → gdB β d = true) (ho : fnB β c = true → gdB β c = true ∧ β 5 c = 13) : TY (β (20 + c)) (tnE β) (fnE β) 6 (stN β c) = tyI β c := by
  have hw := (ft_0 hf).1
  unfold tyI
  refine TY_cong 6 (b0 β c) (stN β c) (wl_ok hw).1 (fun j hj hu => ?_)
  have hu2 : bt (usI β c) j = true := by unfold usI; rw [if_pos hw]; exact hu
  obtain ⟨d1, d2, d3, d4, d5, d6, d7⟩ := us_def hc hf hj hu2
  by_cases e : dfN β j = c
  · obtain ⟨w1, w2⟩ := d7 e
    obtain ⟨w3, w4⟩ := ho w1
    constructor
    · unfold tnE tnI
      rw [if_pos w2, if_neg (fun z => by rw [e, w4] at z; exact absurd z.2.2 (by decide))]
    · unfold fnE fjB
      rw [if_pos e, e, w3, w4, w1, decide_eq_true d3]; rfl
  · have g := hg _ d1 e d5
    have g2 := gd_iff.mp g
    constructor
    · unfold tnE tnI
      rw [if_neg (d6 e)]
      by_cases z : β 5 (dfN β j) = 14
      · rw [if_pos ⟨d3, g, z⟩, if_pos z]
      · rw [if_neg (fun w => z w.2.2), if_neg z]
    · unfold fnE fjB
      rw [if_neg e, g, decide_eq_true d3]; rfl
