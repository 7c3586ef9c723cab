/-! ONE ABSTRACT BOOK: the book's memory has it; type, set, remove, cancel -/
def AbC (M β : Me) (c : Nat) : Prop := M (7 + c) 3 = β 4 c ∧ M (7 + c) 4 = β 5 c ∧ M (7 + c) 7 = β 8 c ∧ (β 5 c = 14 → M (7 + c) 5 = β 6 c ∧ M (7 + c) 6 = β 7 c) ∧ M (7 + c) 2 = (if thB β c = true then ftI β c else 0)
def AbsB (M β : Me) : Prop := AbT M β ∧ (M 0 5 = β 0 0 ∧ M 5 = β 1 ∧ M 4 3 = β 0 1 ∧ chF (M 5) ∧ ∀ c, c < 10 → chF (M (27 + c))) ∧ (∀ c, c < 10 → AbC M β c) ∧ ∀ j, j < 10 → M 2 j = dfE β j 10
def Iv0 (β : Me) : Prop := Nmb β ∧ (∃ L, L ≤ 24 ∧ β 0 0 = nI L) ∧ (∀ c, c < 10 → thB β c = true → ∃ n, 0 < n ∧ n ≤ 24 ∧ β 3 c = nI n) ∧ (∀ c, c < 10 → z1 (β 4 c)) ∧ ∀ c, c < 10 → thB β c = false → β 4 c = 0
section CS
variable {β β' : Me} {d : Nat}
theorem cs_th (h2 : β' 2 d = β 2 d) : thB β' d = thB β d := by unfold thB; rw [h2]
theorem cs_nm (h2 : β' 2 d = β 2 d) : nmN β' d = nmN β d := by unfold nmN; rw [h2]
theorem cs_len (h3 : β' 3 d = β 3 d) : lenN β' d = lenN β d := by unfold lenN; rw [h3]
theorem cs_hd (h3 : β' 3 d = β 3 d) (h20 : β' (20 + d) = β (20 + d)) : hdB β' d = hdB β d := by unfold hdB; rw [h20, cs_len h3]
theorem cs_st (h3 : β' 3 d = β 3 d) (h20 : β' (20 + d) = β (20 + d)) : stN β' d = stN β d := by unfold stN; rw [cs_hd h3 h20]
theorem cs_b0 (h3 : β' 3 d = β 3 d) (h20 : β' (20 + d) = β (20 + d)) : b0 β' d = b0 β d := by unfold b0; rw [cs_hd h3 h20, h20]
theorem cs_wl (h2 : β' 2 d = β 2 d) (h3 : β' 3 d = β 3 d) (h20 : β' (20 + d) = β (20 + d)) : wlB β' d = wlB β d := by unfold wlB; rw [cs_th h2, h20, cs_len h3, cs_b0 h3 h20, cs_st h3 h20]
theorem cs_us (h2 : β' 2 d = β 2 d) (h3 : β' 3 d = β 3 d) (h20 : β' (20 + d) = β (20 + d)) : usI β' d = usI β d := by unfold usI; rw [cs_wl h2 h3 h20, h20, cs_st h3 h20]
theorem cs_fn (h2 : β' 2 d = β 2 d) (h3 : β' 3 d = β 3 d) (h20 : β' (20 + d) = β (20 + d)) : fnB β' d = fnB β d := by unfold fnB; rw [cs_wl h2 h3 h20, cs_hd h3 h20]
end CS
/-- what a text is depends on rows 2, 3, 20 + c alone -/
def SameT (β β' : Me) : Prop := β' 2 = β 2 ∧ β' 3 = β 3 ∧ ∀ c, β' (20 + c) = β (20 + c)
theorem SameT.th {β β' : Me} (h : SameT β β') (d : Nat) : thB β' d = thB β d := cs_th (by rw [h.1])
theorem SameT.nm {β β' : Me} (h : SameT β β') (d : Nat) : nmN β' d = nmN β d := cs_nm (by rw [h.1])
theorem SameT.wl {β β' : Me} (h : SameT β β') (d : Nat) : wlB β' d = wlB β d := cs_wl (by rw [h.1]) (by rw [h.2.1]) (h.2.2 d)
theorem SameT.us {β β' : Me} (h : SameT β β') (d : Nat) : usI β' d = usI β d := cs_us (by rw [h.1]) (by rw [h.2.1]) (h.2.2 d)
theorem SameT.fn {β β' : Me} (h : SameT β β') (d : Nat) : fnB β' d = fnB β d := cs_fn (by rw [h.1]) (by rw [h.2.1]) (h.2.2 d)
theorem SameT.st {β β' : Me} (h : SameT β β') (d : Nat) : stN β' d = stN β d := cs_st (by rw [h.2.1]) (h.2.2 d)
theorem SameT.nd {β β' : Me} (h : SameT β β') (c d : Nat) : ndB β' c d = ndB β c d := by unfold ndB; rw [h.th, h.us, h.nm]
theorem SameT.eg {β β' : Me} (h : SameT β β') : egB β' = egB β := by funext c d; unfold egB; rw [h.nd, h.fn]
theorem SameT.df1 {β β' : Me} (h : SameT β β') (j : Nat) : ∀ i, dfL β' j i = dfL β j i := by
  intro i
  induction i with
  | zero => rfl
  | succ i ih => simp only [dfL, ih, h.1]
theorem SameT.df2 {β β' : Me} (h : SameT β β') (j i : Nat) : dfE β' j i = dfE β j i := by
  have e := h.df1 j i
  unfold dfE
  rw [e]
theorem SameT.ft {β β' : Me} (h : SameT β β') (c : Nat) : ftI β' c = ftI β c := by
  have e : ∀ j, dfL β' j 10 = dfL β j 10 := fun j => h.df1 j 10
  unfold ftI dpB msB cyB
  simp only [h.wl, h.us, h.eg, h.1, e]
theorem AbT.same {M β β' : Me} (h : AbT M β) (hs : SameT β β') : AbT M β' := by
  intro c hc
  obtain ⟨h1, h2, h3, h4, h5⟩ := h c hc
  refine ⟨by rw [hs.1]; exact h1, by rw [hs.2.2]; exact h2, by rw [hs.wl]; exact h3, by rw [hs.us]; exact h4, fun ht => ?_⟩
  rw [hs.th] at ht
  rw [hs.st, hs.2.1, hs.wl, hs.2.2]
  exact h5 ht
theorem AbT.rows {M M' β : Me} (h : AbT M β) (h7 : ∀ c, c < 10 → M' (7 + c) 1 = M (7 + c) 1) (hr : ∀ i, 17 ≤ i → i < 47 → M' i = M i) : AbT M' β := by
  intro c hc
  rw [h7 c hc, hr _ (by omega) (by omega), hr _ (by omega) (by omega), hr _ (by omega) (by omega)]
  exact h c hc
/-- behind a change: definers, faults, stale cells -/
theorem fo_abs {M M' β : Me} {x : Int32} (h : AbT M β) (hN : Nmb β) (hF : FoP M x none M') : AbT M' β ∧ (∀ j, j < 10 → M' 2 j = dfE β j 10) ∧ (∀ c, c < 10 → M' (7 + c) 2 = (if thB β c = true then ftI β c else 0) ∧ M' (7 + c) 3 = (if tcB β x c = true then 1 else M (7 + c) 3) ∧ ∀ k, k ≠ 2 → k ≠ 3 → M' (7 + c) k = M (7 + c) k) ∧ ∀ i, i ≠ 2 → i ≠ 3 → ¬ (7 ≤ i ∧ i < 17) → M' i = M i := by
  obtain ⟨q, M2, rfl, hq, -, t, rfl, hfix⟩ := hF
  have hr : ∀ i, i ≠ 2 → i ≠ 3 → (upR (upR M 2 (dfR M 10)) 3 q) i = M i := fun i w1 w2 => by rw [upR_n _ _ w2, upR_n _ _ w1]
  have hA2 : AbT (upR (upR M 2 (dfR M 10)) 3 q) β := h.rows (fun c hc => by rw [hr _ (by omega) (by omega)]) (fun i w1 w2 => hr i (by omega) (by omega))
  have hAd : AbT (upR M 2 (dfR M 10)) β := h.rows (fun c hc => by rw [upR_n _ _ (by omega)]) (fun i w1 w2 => upR_n _ _ (by omega))
  have hd2 : ∀ j, j < 10 → (upR (upR M 2 (dfR M 10)) 3 q) 2 j = dfE β j 10 := fun j hj => by rw [upR_n _ _ (by omega), upR_s]; exact df_eq h hN 10 (Nat.le_refl _) j hj
  have hw : ∀ c, c < 10 → ∀ d, d < 32 → bt ((upR (upR M 2 (dfR M 10)) 3 q) 3 c) d = (decide (d < 10) && Wb (egB β) 10 c d) := by
    intro c hc d hd
    rw [upR_s, hq c hc d hd, Wb_cong (n := 10) (fun c hc d => wy_eq hAd hN hc d) 10 (Nat.le_refl _) c hc d]
  have hAf : AbT (faM (upR (upR M 2 (dfR M 10)) 3 q) 10) β := hA2.rows (fun c hc => faM_n _ (by omega) (by omega)) (fun i w1 w2 => faM_r _ (by omega) (by omega))
  have hAs : AbT (skI (faM (upR (upR M 2 (dfR M 10)) 3 q) 10) (PPx (faM (upR (upR M 2 (dfR M 10)) 3 q) 10) x (t + 1)) 10) β := hAf.rows (fun c hc => skI_n _ _ _ (by omega) (by omega)) (fun i w1 w2 => skI_r _ _ _ (by omega) (by omega))
  refine ⟨hAs, fun j hj => ?_, fun c hc => ⟨?_, ?_, fun k w1 w2 => ?_⟩, fun i w1 w2 w3 => ?_⟩
  · rw [skI_r _ _ _ (by omega) (by omega), faM_r _ (by omega) (by omega)]; exact hd2 j hj
  · rw [skI_n _ _ _ (by omega) (by omega)]
    unfold faM
    rw [if_pos (by omega), show 7 + c - 7 = c by omega]
    exact fl_eq hA2 hN hc hd2 (hw c hc)
  · rw [skI_s _ _ hc, sp_eq hAf hN hfix hc, faM_n _ (by omega) (by omega), hr _ (by omega) (by omega)]
  · rw [skI_n _ _ _ (by omega) (by omega), faM_n _ (by omega) (by omega), hr _ (by omega) (by omega)]
  · rw [skI_r _ _ _ (by omega) (by omega), faM_r _ (by omega) (by omega), hr _ w1 w2]
/-- the operations on the abstract book -/
def tyβ (β : Me) (x : Int64) (L m : Nat) : Me := up2 (upR β 1 (tyR (β 1) x L m)) 0 0 (nI (L + m))
def spβ (β : Me) (x : Int32) : Me := upR β 4 (fun k => if k < 10 then (if tcB β x k = true then 1 else β 4 k) else β 4 k)
def se0 (β : Me) (c j L : Nat) : Me := up2 (up2 (up2 (upR β (20 + c) (va_cpy (β 1) (β (20 + c)) 0 0 L)) 2 c (nI j)) 3 c (nI L)) 0 0 0
def seβ (β : Me) (c j L : Nat) : Me := spβ (se0 β c j L) (nbI (β 2 c) ||| (1 <<< (nI j &&& 31)))
def rz0 (β : Me) (c : Nat) : Me := up2 (up2 β 2 c (-1)) 4 c 0
def rmβ (β : Me) (c : Nat) : Me := spβ (rz0 β c) (nbI (β 2 c))
def caβ (β : Me) (c : Nat) : Me := up2 (up2 β 4 c 0) 5 c 11
theorem sp_same (β : Me) (x : Int32) : SameT β (spβ β x) := ⟨upR_n _ _ (by omega), upR_n _ _ (by omega), fun c => upR_n _ _ (by omega)⟩
theorem sp_4 (β : Me) (x : Int32) {c : Nat} (hc : c < 10) : spβ β x 4 c = (if tcB β x c = true then 1 else β 4 c) := by unfold spβ; rw [upR_s, if_pos hc]
theorem sp_n (β : Me) (x : Int32) {i : Nat} (h : i ≠ 4) : spβ β x i = β i := upR_n _ _ h
theorem fo_AbsB {M M' β : Me} {x : Int32} (h : AbT M β) (hN : Nmb β) (hg : M 0 5 = β 0 0 ∧ M 5 = β 1 ∧ M 4 3 = β 0 1 ∧ chF (M 5) ∧ ∀ c, c < 10 → chF (M (27 + c))) (hc : ∀ c, c < 10 → M (7 + c) 3 = β 4 c ∧ M (7 + c) 4 = β 5 c ∧ M (7 + c) 7 = β 8 c ∧ (β 5 c = 14 → M (7 + c) 5 = β 6 c ∧ M (7 + c) 6 = β 7 c)) (hF : FoP M x none M') : AbsB M' (spβ β x) := by
  obtain ⟨f1, f2, f3, f4⟩ := fo_abs h hN hF
  have hs := sp_same β x
  refine ⟨f1.same hs, ?_, fun c hcc => ?_, fun j hj => by rw [hs.df2]; exact f2 j hj⟩
  · rw [f4 0 (by omega) (by omega) (by omega), f4 5 (by omega) (by omega) (by omega), f4 4 (by omega) (by omega) (by omega), sp_n β x (by omega), sp_n β x (by omega)]
    refine ⟨hg.1, hg.2.1, hg.2.2.1, hg.2.2.2.1, fun c hcc => ?_⟩
    rw [f4 _ (by omega) (by omega) (by omega)]; exact hg.2.2.2.2 c hcc
  · obtain ⟨g1, g2, g3⟩ := f3 c hcc
    obtain ⟨k1, k2, k3, k4⟩ := hc c hcc
    refine ⟨?_, ?_, ?_, ?_, ?_⟩
    · rw [g2, sp_4 β x hcc, k1]
    · rw [g3 4 (by omega) (by omega), sp_n β x (by omega)]; exact k2
    · rw [g3 7 (by omega) (by omega), sp_n β x (by omega)]; exact k3
    · rw [g3 5 (by omega) (by omega), g3 6 (by omega) (by omega), sp_n β x (by omega), sp_n β x (by omega), sp_n β x (by omega)]; exact k4
    · rw [g1, hs.th, hs.ft]
