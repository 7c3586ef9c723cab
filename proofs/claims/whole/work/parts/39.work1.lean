/-! WORK ON A CELL (the book) -/
theorem sl_eq {M β : Me} (h : AbsB M β) (hI : Iv0 β) {c : Nat} (hc : c < 10) : slP M c = decide (β 4 c = 1) := by
  unfold slP
  rw [(h.2.2.1 c hc).1]
  rcases hI.2.2.2.1 c hc with e | e <;> rw [e] <;> decide
theorem s1_th {β : Me} (hI : Iv0 β) {c : Nat} (hc : c < 10) (h : β 4 c = 1) : thB β c = true := by
  cases ht : thB β c with
  | true => rfl
  | false => rw [hI.2.2.2.2 c hc ht] at h; exact absurd h (by decide)
theorem rd_eq {M β : Me} (h : AbsB M β) (hI : Iv0 β) {c : Nat} (hc : c < 10) : rdM' M c = rdB β c := by
  unfold rdM' rdB
  rw [sl_eq h hI hc]
  by_cases hs : β 4 c = 1
  · have ht := s1_th hI hc hs
    rw [decide_eq_true hs, ht, Bool.true_and, Bool.true_and, Bool.true_and, (h.2.2.1 c hc).2.2.2.2, if_pos ht]
    congr 1
    have key : decide (¬ otM M c &&& mk (slP M) 10 = 0) = ((List.range 10).any fun d => decide (d ≠ c) && (ndB β c d && decide (β 4 d = 1))) := by
      cases hx : ((List.range 10).any fun d => decide (d ≠ c) && (ndB β c d && decide (β 4 d = 1))) with
      | true =>
        rw [List.any_eq_true] at hx
        obtain ⟨d, hd, w⟩ := hx
        have hd := List.mem_range.mp hd
        simp only [Bool.and_eq_true, decide_eq_true_eq] at w
        exact and_nz.mpr ⟨d, by omega, by rw [ot_bit h.1 hI.1 hc (by omega)]; unfold ngB; rw [decide_eq_true hd, w.2.1, decide_eq_false w.1]; rfl, by rw [bt_mk _ (by omega) 10 (by omega), decide_eq_true hd, sl_eq h hI hd, decide_eq_true w.2.2]; rfl⟩
      | false =>
        refine decide_eq_false (fun q => ?_)
        obtain ⟨d, hd, w1, w2⟩ := and_nz.mp (decide_eq_true q)
        rw [ot_bit h.1 hI.1 hc hd] at w1
        unfold ngB at w1
        simp only [Bool.and_eq_true, Bool.not_eq_true', decide_eq_true_eq, decide_eq_false_iff_not] at w1
        rw [bt_mk _ hd 10 (by omega), decide_eq_true w1.1.1, Bool.true_and, sl_eq h hI w1.1.1] at w2
        rw [List.any_eq_false] at hx
        exact hx d (List.mem_range.mpr w1.1.1) (by rw [decide_eq_true w1.2, w1.1.2, w2]; rfl)
    rw [← key]
    by_cases z : otM M c &&& mk (slP M) 10 = 0
    · rw [decide_eq_true z, decide_eq_false (fun q => q z)]; rfl
    · rw [decide_eq_false z, decide_eq_true z]; rfl
  · rw [decide_eq_false hs, Bool.false_and, Bool.false_and, Bool.and_false]
theorem sh_eq {M β : Me} (h : AbsB M β) (hI : Iv0 β) {c : Nat} (hc : c < 10) : shI M c = (if thB β c = true then (if ftI β c = 0 then (if β 4 c = 1 then 12 else β 5 c) else ftI β c) else 0) := by
  obtain ⟨k1, k2, k3, k4, k5⟩ := h.2.2.1 c hc
  unfold shI
  rw [(h.1 c hc).1, k1, k2, k5]
  cases ht : thB β c with
  | false => rw [th_f hI.1 hc ht]; rfl
  | true =>
    obtain ⟨w1, w2⟩ := th_t hI.1 hc ht
    rw [if_neg (by rw [w2]; exact nI_m1 (by omega)), if_pos rfl, if_pos rfl]
    rcases hI.2.2.2.1 c hc with e | e <;> rw [e] <;> rfl
/-- the cell that is worked on is no longer stale -/
theorem M1_abs {M β : Me} (h : AbsB M β) {c : Nat} (hc : c < 10) : AbT (up2 M (7 + c) 3 0) β := h.1.rows (fun d _ => up2_n _ _ (by omega)) (fun i w1 w2 => up2_r _ _ _ (by omega))
theorem bk_eq {M β : Me} (h : AbsB M β) (hI : Iv0 β) {c : Nat} (hc : c < 10) (hr : rdB β c = true) (hf : ftI β c = 0) : decide (¬ otM (up2 M (7 + c) 3 0) c &&& (mk (ubP (up2 M (7 + c) 3 0)) 10 ^^^ (-1)) = 0) = bkB β c := by
  have hA := M1_abs h hc
  have hst : ∀ d, d < 10 → d ≠ c → ndB β c d = true → β 4 d = 0 := by
    intro d hd hne hn
    unfold rdB at hr
    simp only [Bool.and_eq_true, Bool.or_eq_true, decide_eq_true_eq, Bool.not_eq_true'] at hr
    rcases hr.2.2 with w | w
    · exact absurd hf w
    · rw [List.any_eq_false] at w
      have := w d (List.mem_range.mpr hd)
      simp only [Bool.and_eq_true, decide_eq_true_eq, not_and] at this
      rcases hI.2.2.2.1 d hd with z | z
      · exact z
      · exact absurd z (this hne hn)
  have hub : ∀ d, d < 10 → d ≠ c → ndB β c d = true → ubP (up2 M (7 + c) 3 0) d = !(decide (ftI β d ≠ 0) || (decide (β 5 d ≠ 14) && decide (β 5 d ≠ 13))) := by
    intro d hd hne hn
    have ht : thB β d = true := by unfold ndB at hn; simp only [Bool.and_eq_true] at hn; exact hn.1
    have e : shI (up2 M (7 + c) 3 0) d = shI M d := by unfold shI; rw [up2_r _ _ _ (by omega)]
    unfold ubP
    rw [e, sh_eq h hI hd, if_pos ht, hst d hd hne hn, if_neg (show ¬ (0 : Int32) = 1 by decide)]
    rcases ft_range β d with w | w | w | w | w
    · rw [w, if_pos rfl]
      by_cases z1 : β 5 d = 14
      · rw [z1]; decide
      · by_cases z2 : β 5 d = 13
        · rw [z2]; decide
        · rw [decide_eq_false (fun q => q.elim z1 z2), decide_eq_true z1, decide_eq_true z2]; rfl
    all_goals (rw [w, if_neg (by decide)]; rfl)
  cases hx : bkB β c with
  | true =>
    unfold bkB at hx
    rw [List.any_eq_true] at hx
    obtain ⟨d, hd, w⟩ := hx
    have hd := List.mem_range.mp hd
    rw [Bool.and_eq_true, Bool.and_eq_true, decide_eq_true_eq] at w
    refine and_nz.mpr ⟨d, by omega, ?_, ?_⟩
    · rw [ot_bit hA hI.1 hc (by omega)]; unfold ngB; rw [decide_eq_true hd, w.2.1, decide_eq_false w.1]; rfl
    · rw [b_not _ (by omega), bt_mk _ (by omega) 10 (by omega), decide_eq_true hd, Bool.true_and, hub d hd w.1 w.2.1, w.2.2]; rfl
  | false =>
    refine decide_eq_false (fun q => ?_)
    obtain ⟨d, hd, w1, w2⟩ := and_nz.mp (decide_eq_true q)
    rw [ot_bit hA hI.1 hc hd] at w1
    unfold ngB at w1
    simp only [Bool.and_eq_true, Bool.not_eq_true', decide_eq_true_eq, decide_eq_false_iff_not] at w1
    rw [b_not _ hd, bt_mk _ hd 10 (by omega), decide_eq_true w1.1.1, Bool.true_and, hub d w1.1.1 w1.2 w1.1.2, Bool.not_not] at w2
    unfold bkB at hx
    rw [List.any_eq_false] at hx
    exact hx d (List.mem_range.mpr w1.1.1) (by rw [decide_eq_true w1.2, w1.1.2, w2]; rfl)
theorem tx_of {M β : Me} (h : AbT M β) (hch : ∀ c, c < 10 → chF (M (27 + c))) (hI : Iv0 β) {c : Nat} (hc : c < 10) (hw : wlB β c = true) : TX M c (β (20 + c)) (lenN β c) (usI β c) (M (37 + c)) ∧ M (17 + c) 3 = nI (stN β c) ∧ EO (β (20 + c)) (M (37 + c)) 6 (stN β c) := by
  obtain ⟨h1, h2, h3, h4, h5⟩ := h c hc
  have ht := wl_th hw
  obtain ⟨w1, w2, w3⟩ := h5 ht
  obtain ⟨n, n1, n2, n3⟩ := hI.2.2.1 c hc ht
  have hl : lenN β c = n := by unfold lenN; rw [n3, nI_clamp (by omega)]
  exact ⟨⟨h2, by rw [w1, n3, hl], h4, rfl, by rw [← h2]; exact (hch c hc).s, by rw [hl]; exact n2⟩, w2, w3 hw⟩
theorem dv_of {M β : Me} (hd : ∀ j, j < 10 → M 2 j = dfE β j 10) : DV M := by
  intro j hj
  rw [hd j hj]
  by_cases e : dfL β j 10 < 0
  · exact Or.inl ((dfE_0 β j).mpr e)
  · obtain ⟨d1, d2, d3, d4⟩ := df_def e
    exact Or.inr ⟨dfN β j, d1, d4⟩
/-- the type that the book finds -/
theorem ty_M {M β : Me} (h : AbT M β) (hd : ∀ j, j < 10 → M 2 j = dfE β j 10) (hs : ∀ d, d < 10 → β 5 d = 14 → M (7 + d) 6 = β 7 d) (hI : Iv β) {c : Nat} (hc : c < 10) (hf : ftI β c = 0) (hg : ∀ d, d < 10 → d ≠ c → ndB β c d = true → gdB β d = true) : TY (β (20 + c)) (tnM M) (fnM M) 6 (stN β c) = tyI β c := by
  have hw := (ft_0 hf).1
  unfold tyI
  refine TY_cong 6 (b0 β c) (stN β c) (wl_ok hw).1 (fun j hj hu => ?_)
  have hu2 : bt (usI β c) j = true := by unfold usI; rw [if_pos hw]; exact hu
  obtain ⟨d1, d2, d3, d4, d5, d6, d7⟩ := us_def hc hf hj hu2
  have e1 : M 2 j = nI (dfN β j + 1) := (hd j hj).trans d4
  have e2 : ¬ M 2 j = 0 := by rw [e1]; exact nI_ne0 (by omega) (by omega)
  have e3 : dvN (M 2 j) = dfN β j := by rw [e1]; exact dvN_c d1
  unfold tnM fnM tnI fjB
  rw [if_neg e2, if_neg e2, e3, fu_eq h d1]
  by_cases e : dfN β j = c
  · obtain ⟨w1, w2⟩ := d7 e
    rw [if_pos w2, if_pos e, e, w1]
    exact ⟨rfl, rfl⟩
  · have g := hg _ d1 e d5
    rw [if_neg (d6 e), if_neg e]
    rcases (gd_iff.mp g).2.2.2 with z | z
    · have w := ((hI.2 _ d1 g).2.1 z).1
      rw [w, z]; exact ⟨by rw [if_pos rfl, if_neg (by decide)], by decide⟩
    · have w := ((hI.2 _ d1 g).2.2 z).1
      rw [w, z, if_neg (by decide), if_pos rfl]; exact ⟨hs _ d1 z, by decide⟩
theorem b0_fn {β : Me} {c : Nat} (h : fnB β c = true) : hdB β c = true ∧ stN β c = 2 ∧ b0 β c = (fun i => decide (i = lcI (β (20 + c) 1))) ∧ 1 < lenN β c ∧ kd (β (20 + c) 1) = 9 := by
  unfold fnB at h
  simp only [Bool.and_eq_true] at h
  have hh := h.2
  refine ⟨hh, by unfold stN; rw [hh]; rfl, by funext i; unfold b0; rw [hh]; rfl, ?_⟩
  unfold hdB at hh
  simp only [Bool.and_eq_true, decide_eq_true_eq] at hh
  exact hh.2
theorem ec_of {M β : Me} (h : AbT M β) (hd : ∀ j, j < 10 → M 2 j = dfE β j 10) (hch : ∀ c, c < 10 → chF (M (27 + c))) (hs : ∀ d, d < 10 → β 5 d = 14 → M (7 + d) 5 = β 6 d) (hI : Iv β) (h41 : M 4 1 = 1) : EC M (fun d => β (20 + d)) (dfN β) (β 6) (tnE β) (fnE β) := by
  have tn0 : ∀ j, ¬ tnE β j = 0 → ¬ dfL β j 10 < 0 ∧ gdB β (dfN β j) = true ∧ β 5 (dfN β j) = 14 := by
    intro j w
    unfold tnE at w
    by_cases z : ¬ dfL β j 10 < 0 ∧ gdB β (dfN β j) = true ∧ β 5 (dfN β j) = 14
    · exact z
    · rw [if_neg z] at w; exact absurd rfl w
  have fn0 : ∀ j, fnE β j = true → ¬ dfL β j 10 < 0 ∧ gdB β (dfN β j) = true ∧ β 5 (dfN β j) = 13 := by
    intro j w
    unfold fnE at w
    simp only [Bool.and_eq_true, decide_eq_true_eq] at w
    exact w
  refine ⟨h41, fun c hc => (h c hc).2.1, fun j hj w => ?_, fun j w => ?_, fun j hj w => ?_⟩
  · have hl : ¬ dfL β j 10 < 0 := by rcases w with w | w; exact (tn0 j w).1; exact (fn0 j w).1
    obtain ⟨d1, d2, d3, d4⟩ := df_def hl
    exact ⟨d1, (hd j hj).trans d4, fun z => hs _ d1 (tn0 j z).2.2⟩
  · obtain ⟨w1, w2, w3⟩ := tn0 j (by rw [w]; decide)
    obtain ⟨d1, d2, d3, d4⟩ := df_def w1
    have := (hI.2 _ d1 w2).2.2 w3
    unfold tnE at w
    rw [if_pos ⟨w1, w2, w3⟩] at w
    exact this.2.2.2 w
  · obtain ⟨w1, w2, w3⟩ := fn0 j w
    obtain ⟨d1, d2, d3, d4⟩ := df_def w1
    obtain ⟨k1, k2, k3⟩ := hI.2 _ d1 w2
    obtain ⟨f1, f2⟩ := k2 w3
    obtain ⟨g1, g2, g3, g4, g5⟩ := b0_fn f1
    have hft := (gd_iff.mp w2).2.2.1
    have hw := (ft_0 hft).1
    obtain ⟨t1, t2, t3⟩ := tx_of h hch hI.1 d1 hw
    refine ⟨lenN β (dfN β j), _, _, t1, by rw [t2, g2], g4, g5, ?_, ?_, ?_⟩
    · have := (wl_ok hw).1
      rw [g2, g3] at this
      exact this
    · rw [g2] at t3; exact t3
    · have := ty_E d1 hft (fun d hd hne hn => k1 d hd hne hn) (fun _ => ⟨w2, w3⟩)
      rw [g2, f2] at this
      exact this
/-- the abstract book behind the work on a cell -/
def wkβ (β : Me) (c : Nat) : Me :=
  if ¬ ftI β c = 0 then up2 β 4 c 0 else if bkB β c = true then up2 (up2 β 4 c 0) 5 c 5 else if tyI β c = 0 ∨ (fnB β c = true ∧ ¬ tyI β c = 1) then up2 (up2 β 4 c 0) 5 c 6 else if fnB β c = true then up2 (up2 β 4 c 0) 5 c 13 else
  if (evR β c).1 = 0 then up2 (up2 (up2 (up2 (up2 (up2 β 4 c 0) 5 c 14) 6 c (evR β c).2.1) 7 c (tyI β c)) 8 c (β 8 c + 1)) 0 1 (β 0 1 + nI (evR β c).2.2)
  else up2 (up2 (up2 (up2 β 4 c 0) 5 c (evR β c).1) 8 c (β 8 c + 1)) 0 1 (β 0 1 + nI (evR β c).2.2)
theorem abs_of {M M' β β' : Me} (h : AbsB M β) (hs : SameT β β') (h7 : ∀ c, c < 10 → M' (7 + c) 1 = M (7 + c) 1 ∧ M' (7 + c) 2 = M (7 + c) 2) (hr : ∀ i, i < 47 → i ≠ 4 → ¬ (7 ≤ i ∧ i < 17) → M' i = M i) (h4 : M' 4 3 = β' 0 1) (h0 : β' 0 0 = β 0 0) (h1 : β' 1 = β 1) (hc : ∀ c, c < 10 → M' (7 + c) 3 = β' 4 c ∧ M' (7 + c) 4 = β' 5 c ∧ M' (7 + c) 7 = β' 8 c ∧ (β' 5 c = 14 → M' (7 + c) 5 = β' 6 c ∧ M' (7 + c) 6 = β' 7 c)) : AbsB M' β' := by
  obtain ⟨a1, ⟨a2, a3, a4, a5, a6⟩, a7, a8⟩ := h
  refine ⟨(a1.rows (fun c hc => (h7 c hc).1) (fun i w1 w2 => hr i (by omega) (by omega) (by omega))).same hs, ⟨?_, ?_, h4, ?_, fun c hc => ?_⟩, fun c hcc => ?_, fun j hj => ?_⟩
  · rw [hr 0 (by omega) (by omega) (by omega), h0]; exact a2
  · rw [hr 5 (by omega) (by omega) (by omega), h1]; exact a3
  · rw [hr 5 (by omega) (by omega) (by omega)]; exact a5
  · rw [hr _ (by omega) (by omega) (by omega)]; exact a6 c hc
  · obtain ⟨k1, k2, k3, k4⟩ := hc c hcc
    exact ⟨k1, k2, k3, k4, by rw [(h7 c hcc).2, hs.th, hs.ft]; exact (a7 c hcc).2.2.2.2⟩
  · rw [hr 2 (by omega) (by omega) (by omega), hs.df2]; exact a8 j hj
theorem same_up (β : Me) {i : Nat} (k : Nat) (v : Int32) (h : i = 0 ∨ i = 1 ∨ (4 ≤ i ∧ i < 20)) : SameT β (up2 β i k v) := ⟨up2_r _ _ _ (by omega), up2_r _ _ _ (by omega), fun c => up2_r _ _ _ (by omega)⟩
theorem SameT.tr {a b c : Me} (h : SameT a b) (h' : SameT b c) : SameT a c := ⟨h'.1.trans h.1, h'.2.1.trans h.2.1, fun d => (h'.2.2 d).trans (h.2.2 d)⟩
theorem wk_a {M β : Me} (h : AbsB M β) {c : Nat} (hc : c < 10) : AbsB (up2 M (7 + c) 3 0) (up2 β 4 c 0) := by
  refine abs_of h (same_up β c 0 (by omega)) (fun d hd => ⟨up2_n _ _ (by omega), up2_n _ _ (by omega)⟩) (fun i w1 w2 w3 => up2_r _ _ _ (by omega)) ?_ (up2_n _ _ (by omega)) (up2_r _ _ _ (by omega)) (fun d hd => ?_)
  · rw [up2_r _ _ _ (by omega), up2_r _ _ _ (by omega)]; exact h.2.1.2.2.1
  · obtain ⟨k1, k2, k3, k4, -⟩ := h.2.2.1 d hd
    rw [up2_r β _ _ (show (5 : Nat) ≠ 4 by decide), up2_r β _ _ (show (6 : Nat) ≠ 4 by decide), up2_r β _ _ (show (7 : Nat) ≠ 4 by decide), up2_r β _ _ (show (8 : Nat) ≠ 4 by decide), up2_n M (a := 7 + d) (b := 4) _ (by omega), up2_n M (a := 7 + d) (b := 5) _ (by omega), up2_n M (a := 7 + d) (b := 6) _ (by omega), up2_n M (a := 7 + d) (b := 7) _ (by omega)]
    refine ⟨?_, k2, k3, k4⟩
    by_cases e : d = c
    · subst e; rw [up2_s, up2_s]
    · rw [up2_n _ _ (by omega), up2_n _ _ (by omega)]; exact k1
theorem wk_b {M β : Me} (h : AbsB M β) {c : Nat} (hc : c < 10) {v : Int32} (hv : ¬ v = 14) : AbsB (up2 M (7 + c) 4 v) (up2 β 5 c v) := by
  refine abs_of h (same_up β c v (by omega)) (fun d hd => ⟨up2_n _ _ (by omega), up2_n _ _ (by omega)⟩) (fun i w1 w2 w3 => up2_r _ _ _ (by omega)) ?_ (up2_n _ _ (by omega)) (up2_r _ _ _ (by omega)) (fun d hd => ?_)
  · rw [up2_r _ _ _ (by omega), up2_r _ _ _ (by omega)]; exact h.2.1.2.2.1
  · obtain ⟨k1, k2, k3, k4, -⟩ := h.2.2.1 d hd
    rw [up2_r β _ _ (show (4 : Nat) ≠ 5 by decide), up2_r β _ _ (show (6 : Nat) ≠ 5 by decide), up2_r β _ _ (show (7 : Nat) ≠ 5 by decide), up2_r β _ _ (show (8 : Nat) ≠ 5 by decide), up2_n M (a := 7 + d) (b := 3) _ (by omega), up2_n M (a := 7 + d) (b := 5) _ (by omega), up2_n M (a := 7 + d) (b := 6) _ (by omega), up2_n M (a := 7 + d) (b := 7) _ (by omega)]
    by_cases e : d = c
    · subst e; rw [up2_s, up2_s]; exact ⟨k1, rfl, k3, fun z => absurd z hv⟩
    · rw [up2_n M (a := 7 + d) (b := 4) _ (by omega), up2_n β (a := 5) (b := d) _ (by omega)]; exact ⟨k1, k2, k3, k4⟩
