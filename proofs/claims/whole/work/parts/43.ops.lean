/-! THE BOOK'S CALLS OVER THE ABSTRACT BOOK -/
theorem se0_2 (β : Me) (c j L : Nat) : se0 β c j L 2 c = nI j := by unfold se0; rw [up2_r _ _ _ (by omega), up2_r _ _ _ (by omega), up2_s]
theorem se0_3 (β : Me) (c j L : Nat) : se0 β c j L 3 c = nI L := by unfold se0; rw [up2_r _ _ _ (by omega), up2_s]
theorem se0_20 (β : Me) (c j L : Nat) : se0 β c j L (20 + c) = va_cpy (β 1) (β (20 + c)) 0 0 L := by unfold se0; rw [up2_r _ _ _ (by omega), up2_r _ _ _ (by omega), up2_r _ _ _ (by omega), upR_s]
theorem se0_d (β : Me) {c d : Nat} (j L : Nat) (h : d ≠ c) : se0 β c j L 2 d = β 2 d ∧ se0 β c j L 3 d = β 3 d ∧ se0 β c j L (20 + d) = β (20 + d) := by
  unfold se0
  refine ⟨?_, ?_, ?_⟩
  · rw [up2_r _ _ _ (by omega), up2_r _ _ _ (by omega), up2_n _ _ (by omega), upR_n _ _ (by omega)]
  · rw [up2_r _ _ _ (by omega), up2_n _ _ (by omega), up2_r _ _ _ (by omega), upR_n _ _ (by omega)]
  · rw [up2_r _ _ _ (by omega), up2_r _ _ _ (by omega), up2_r _ _ _ (by omega), upR_n _ _ (by omega)]
theorem se0_i (β : Me) (c j L : Nat) {i : Nat} (h : i ≠ 0) (h2 : i ≠ 2) (h3 : i ≠ 3) (h20 : i ≠ 20 + c) : se0 β c j L i = β i := by
  unfold se0; rw [up2_r _ _ _ h, up2_r _ _ _ h3, up2_r _ _ _ h2, upR_n _ _ h20]
theorem se0_0 (β : Me) (c j L : Nat) : se0 β c j L 0 0 = 0 ∧ se0 β c j L 0 1 = β 0 1 := by
  unfold se0
  exact ⟨up2_s _ _ _ _, by rw [up2_n _ _ (by omega), up2_r _ _ _ (by omega), up2_r _ _ _ (by omega), upR_n _ _ (by omega)]⟩
theorem se_th {β : Me} {c j L : Nat} (hj : j < 10) : thB (se0 β c j L) c = true ∧ nmN (se0 β c j L) c = j := th_j hj (se0_2 β c j L)
theorem se_wl {β : Me} {c j L : Nat} (hj : j < 10) (hL : L ≤ 24) (s : Nat → Int32) (hs : va_cpy (β 1) (β (20 + c)) 0 0 L = s) : lenN (se0 β c j L) c = L ∧ stN (se0 β c j L) c = tSt s L ∧ wlB (se0 β c j L) c = tWl s L ∧ usI (se0 β c j L) c = tNm s L := by
  have hl : lenN (se0 β c j L) c = L := by unfold lenN; rw [se0_3, nI_clamp (by omega)]
  have h20 : se0 β c j L (20 + c) = s := by rw [se0_20, hs]
  have hhd : hdB (se0 β c j L) c = tHd s L := by unfold hdB tHd; rw [h20, hl]
  have hst : stN (se0 β c j L) c = tSt s L := by unfold stN tSt; rw [hhd]
  have hb : b0 (se0 β c j L) c = tB0 s L := by unfold b0 tB0; rw [hhd, h20]
  have hw : wlB (se0 β c j L) c = tWl s L := by unfold wlB tWl; rw [(se_th hj).1, h20, hl, hb, hst, Bool.true_and]
  exact ⟨hl, hst, hw, by unfold usI tNm; rw [hw, h20, hst]⟩
theorem se_Nmb {β : Me} (hN : Nmb β) {c j : Nat} (L : Nat) (hj : j < 10) : Nmb (se0 β c j L) := by
  intro d hd
  by_cases e : d = c
  · subst e; exact Or.inr ⟨j, hj, se0_2 β d j L⟩
  · rw [(se0_d β j L e).1]; exact hN d hd
theorem set_abs {M M2 M' β : Me} (h : AbsB M β) (hI : Iv β) {c j L : Nat} (hc : c < 10) (hj : j < 10) (hL : L ≤ 24) (hL0 : 0 < L) (hR : ReP (up2 M (7 + c) 1 (nI j)) c L (va_cpy (M 5) (M (27 + c)) 0 0 L) none M2) (hF : FoP (up2 M2 0 5 0) (nbI (M (7 + c) 1) ||| (1 <<< (nI j &&& 31))) none M') : AbsB M' (seβ β c j L) ∧ Iv (seβ β c j L) := by
  obtain ⟨a1, ⟨a2, a3, a4, a5, a6⟩, a7, a8⟩ := h
  obtain ⟨-, r1, r2, r3, r4, r5, r6, r7⟩ := hR
  have hsig : va_cpy (M 5) (M (27 + c)) 0 0 L = va_cpy (β 1) (β (20 + c)) 0 0 L := by rw [a3, (a1 c hc).2.1]
  rw [hsig] at r2 r4 r5 r6 r7
  generalize hse : va_cpy (β 1) (β (20 + c)) 0 0 L = s at r2 r4 r5 r6 r7
  obtain ⟨w1, w2, w3, w4⟩ := se_wl (β := β) (c := c) (j := j) hj hL s hse
  have hN1 := se_Nmb hI.1.1 (c := c) L hj
  have e3 : ∀ i, i ≠ 0 → (up2 M2 0 5 0) i = M2 i := fun i w => up2_r _ _ _ w
  have oth : ∀ i, i ≠ 0 → i ≠ 7 + c → i ≠ 17 + c → i ≠ 27 + c → i ≠ 37 + c → (up2 M2 0 5 0) i = M i := fun i q0 q1 q2 q3 q4 => by rw [e3 i q0, r1 i q2 q3 q4, up2_r _ _ _ q1]
  have c7 : ∀ k, k ≠ 1 → (up2 M2 0 5 0) (7 + c) k = M (7 + c) k := fun k hk => by rw [e3 _ (by omega), r1 _ (by omega) (by omega) (by omega), up2_n _ _ (by omega)]
  have hA : AbT (up2 M2 0 5 0) (se0 β c j L) := by
    intro d hd
    by_cases e : d = c
    · subst e
      rw [e3 _ (by omega), e3 _ (by omega), e3 _ (by omega), e3 _ (by omega), w2, w3, w4, se0_20, se0_2, se0_3, hse]
      refine ⟨by rw [r1 _ (by omega) (by omega) (by omega), up2_s], r2, r5, r6, fun _ => ⟨r3, r4, r7⟩⟩
    · obtain ⟨q1, q2, q3⟩ := se0_d β j L e
      rw [oth _ (by omega) (by omega) (by omega) (by omega) (by omega), oth _ (by omega) (by omega) (by omega) (by omega) (by omega), oth _ (by omega) (by omega) (by omega) (by omega) (by omega), oth _ (by omega) (by omega) (by omega) (by omega) (by omega)]
      rw [q1, q3, cs_wl q1 q2 q3, cs_us q1 q2 q3, cs_th q1, cs_st q2 q3, q2]
      exact a1 d hd
  have hx : nbI (M (7 + c) 1) = nbI (β 2 c) := by rw [(a1 c hc).1]
  rw [hx] at hF
  constructor
  · refine fo_AbsB hA hN1 ⟨?_, ?_, ?_, ?_, fun d hd => ?_⟩ (fun d hd => ?_) hF
    · rw [up2_s, (se0_0 β c j L).1]
    · rw [oth 5 (by omega) (by omega) (by omega) (by omega) (by omega), se0_i β c j L (by omega) (by omega) (by omega) (by omega)]; exact a3
    · rw [oth 4 (by omega) (by omega) (by omega) (by omega) (by omega), (se0_0 β c j L).2]; exact a4
    · rw [oth 5 (by omega) (by omega) (by omega) (by omega) (by omega)]; exact a5
    · by_cases e : d = c
      · subst e
        rw [e3 _ (by omega), r2, ← hse, ← hsig]
        exact chF.cpy (fun q hq => a5 q (by omega)) (a6 d hd)
      · rw [oth _ (by omega) (by omega) (by omega) (by omega) (by omega)]; exact a6 d hd
    · obtain ⟨k1, k2, k3, k4, -⟩ := a7 d hd
      rw [se0_i β c j L (i := 4) (by omega) (by omega) (by omega) (by omega), se0_i β c j L (i := 5) (by omega) (by omega) (by omega) (by omega), se0_i β c j L (i := 6) (by omega) (by omega) (by omega) (by omega), se0_i β c j L (i := 7) (by omega) (by omega) (by omega) (by omega), se0_i β c j L (i := 8) (by omega) (by omega) (by omega) (by omega)]
      by_cases e : d = c
      · subst e; rw [c7 3 (by omega), c7 4 (by omega), c7 5 (by omega), c7 6 (by omega), c7 7 (by omega)]; exact ⟨k1, k2, k3, k4⟩
      · rw [oth _ (by omega) (by omega) (by omega) (by omega) (by omega)]; exact ⟨k1, k2, k3, k4⟩
  · unfold seβ
    have i4 : ∀ i, i = 4 ∨ i = 5 ∨ i = 6 ∨ i = 7 → se0 β c j L i = β i := fun i hi => se0_i β c j L (by omega) (by omega) (by omega) (by omega)
    have hthx := se_th (β := β) (c := c) (L := L) hj
    refine sp_Iv (x := c) ⟨hc, hI.1.1, hN1, fun d e => ?_, fun ht => ?_, fun _ => ?_⟩ hI (fun z => by rw [hthx.1] at z; cases z) ⟨0, by omega, (se0_0 β c j L).1⟩ (fun d hd ht => ?_) (by rw [i4 4 (by omega)]; exact hI.1.2.2.2.1 c hc)
    · obtain ⟨q1, q2, q3⟩ := se0_d β j L e
      rw [i4 4 (by omega), i4 5 (by omega), i4 6 (by omega), i4 7 (by omega)]
      exact ⟨q1, q2, q3, rfl, rfl, rfl, rfl⟩
    · have hn := (th_t hI.1.1 hc ht).1
      exact or_l (by rw [nb_bit hI.1.1 hc (by omega), ht]; simp)
    · rw [hthx.2]; exact or_r (by rw [b_bit (by omega) (by omega)]; simp)
    · by_cases e : d = c
      · subst e; exact ⟨L, hL0, hL, se0_3 β d j L⟩
      · obtain ⟨q1, q2, q3⟩ := se0_d β j L e
        rw [cs_th q1] at ht
        rw [q2]; exact hI.1.2.2.1 d hd ht
theorem rz_2 (β : Me) (c : Nat) : rz0 β c 2 c = -1 := by unfold rz0; rw [up2_r _ _ _ (by omega), up2_s]
theorem rz_d (β : Me) {c d : Nat} (h : d ≠ c) : rz0 β c 2 d = β 2 d ∧ rz0 β c 4 d = β 4 d := by
  unfold rz0; exact ⟨by rw [up2_r _ _ _ (by omega), up2_n _ _ (by omega)], by rw [up2_n _ _ (by omega), up2_r _ _ _ (by omega)]⟩
theorem rz_i (β : Me) (c : Nat) {i : Nat} (h2 : i ≠ 2) (h4 : i ≠ 4) : rz0 β c i = β i := by unfold rz0; rw [up2_r _ _ _ h4, up2_r _ _ _ h2]
theorem rz_Nmb {β : Me} (hN : Nmb β) (c : Nat) : Nmb (rz0 β c) := by
  intro d hd
  by_cases e : d = c
  · subst e; exact Or.inl (rz_2 β d)
  · rw [(rz_d β e).1]; exact hN d hd
theorem rm_abs {M M' β : Me} (h : AbsB M β) (hI : Iv β) {c : Nat} (hc : c < 10) (hF : FoP (clM M c) (nbI (M (7 + c) 1)) none M') : AbsB M' (rmβ β c) ∧ Iv (rmβ β c) := by
  obtain ⟨a1, ⟨a2, a3, a4, a5, a6⟩, a7, a8⟩ := h
  have hx : nbI (M (7 + c) 1) = nbI (β 2 c) := by rw [(a1 c hc).1]
  rw [hx] at hF
  have oth : ∀ i, i ≠ 7 + c → i ≠ 17 + c → clM M c i = M i := fun i w1 w2 => by unfold clM; rw [up2_r _ _ _ w2, up2_r _ _ _ w2, up2_r _ _ _ w2, up2_r _ _ _ w1, up2_r _ _ _ w1]
  have c7 : ∀ k, k ≠ 1 → k ≠ 3 → clM M c (7 + c) k = M (7 + c) k := fun k w1 w3 => by unfold clM; rw [up2_r _ _ _ (by omega), up2_r _ _ _ (by omega), up2_r _ _ _ (by omega), up2_n _ _ (by omega), up2_n _ _ (by omega)]
  have hth : thB (rz0 β c) c = false := th_m (rz_2 β c)
  have hwl : wlB (rz0 β c) c = false := by unfold wlB; rw [hth, Bool.false_and]
  have hA : AbT (clM M c) (rz0 β c) := by
    intro d hd
    by_cases e : d = c
    · subst e
      rw [hwl, hth]
      refine ⟨?_, ?_, ?_, ?_, fun z => by cases z⟩
      · unfold clM; rw [up2_r _ _ _ (by omega), up2_r _ _ _ (by omega), up2_r _ _ _ (by omega), up2_n _ _ (by omega), up2_s, rz_2]
      · rw [oth _ (by omega) (by omega), rz_i β d (by omega) (by omega)]; exact (a1 d hd).2.1
      · unfold clM; rw [up2_n _ _ (by omega), up2_s]; rfl
      · unfold clM usI; rw [up2_s, hwl]; rfl
    · rw [oth _ (by omega) (by omega), oth _ (by omega) (by omega), oth _ (by omega) (by omega), oth _ (by omega) (by omega)]
      have q1 := (rz_d β e).1
      have q2 : rz0 β c 3 d = β 3 d := by rw [rz_i β c (by omega) (by omega)]
      have q3 : rz0 β c (20 + d) = β (20 + d) := rz_i β c (by omega) (by omega)
      rw [q1, q3, cs_wl q1 q2 q3, cs_us q1 q2 q3, cs_th q1, cs_st q2 q3, q2]
      exact a1 d hd
  constructor
  · refine fo_AbsB hA (rz_Nmb hI.1.1 c) ⟨?_, ?_, ?_, ?_, fun d hd => ?_⟩ (fun d hd => ?_) hF
    · rw [oth 0 (by omega) (by omega), rz_i β c (by omega) (by omega)]; exact a2
    · rw [oth 5 (by omega) (by omega), rz_i β c (by omega) (by omega)]; exact a3
    · rw [oth 4 (by omega) (by omega), rz_i β c (by omega) (by omega)]; exact a4
    · rw [oth 5 (by omega) (by omega)]; exact a5
    · rw [oth _ (by omega) (by omega)]; exact a6 d hd
    · obtain ⟨k1, k2, k3, k4, -⟩ := a7 d hd
      rw [rz_i β c (i := 5) (by omega) (by omega), rz_i β c (i := 6) (by omega) (by omega), rz_i β c (i := 7) (by omega) (by omega), rz_i β c (i := 8) (by omega) (by omega)]
      by_cases e : d = c
      · subst e
        rw [c7 4 (by omega) (by omega), c7 5 (by omega) (by omega), c7 6 (by omega) (by omega), c7 7 (by omega) (by omega)]
        refine ⟨?_, k2, k3, k4⟩
        unfold clM rz0
        rw [up2_r _ _ _ (by omega), up2_r _ _ _ (by omega), up2_r _ _ _ (by omega), up2_s, up2_s]
      · rw [oth _ (by omega) (by omega), (rz_d β e).2]; exact ⟨k1, k2, k3, k4⟩
  · unfold rmβ
    have x4 : rz0 β c 4 c = 0 := by unfold rz0; rw [up2_s]
    refine sp_Iv (x := c) ⟨hc, hI.1.1, rz_Nmb hI.1.1 c, fun d e => ?_, fun ht => ?_, fun ht => by rw [hth] at ht; cases ht⟩ hI (fun _ => x4) (by rw [rz_i β c (by omega) (by omega)]; exact hI.1.2.1) (fun d hd ht => ?_) (Or.inl x4)
    · rw [rz_i β c (i := 3) (by omega) (by omega), rz_i β c (i := 20 + d) (by omega) (by omega), rz_i β c (i := 5) (by omega) (by omega), rz_i β c (i := 6) (by omega) (by omega), rz_i β c (i := 7) (by omega) (by omega)]
      exact ⟨(rz_d β e).1, rfl, rfl, (rz_d β e).2, rfl, rfl, rfl⟩
    · have hn := (th_t hI.1.1 hc ht).1
      rw [nb_bit hI.1.1 hc (by omega), ht]; simp
    · have e : d ≠ c := fun z => by rw [z, hth] at ht; cases ht
      rw [cs_th (rz_d β e).1] at ht
      rw [rz_i β c (by omega) (by omega)]; exact hI.1.2.2.1 d hd ht
theorem ty_abs {M β : Me} (h : AbsB M β) (hI : Iv β) {x : Int64} {L m : Nat} (hL : β 0 0 = nI L) (hm : L + m ≤ 24) : AbsB (up2 (upR M 5 (tyR (M 5) x L m)) 0 5 (nI (L + m))) (tyβ β x L m) ∧ Iv (tyβ β x L m) := by
  obtain ⟨a1, ⟨a2, a3, a4, a5, a6⟩, a7, a8⟩ := h
  have hs : SameT β (tyβ β x L m) := by
    unfold tyβ
    exact ⟨by rw [up2_r _ _ _ (by omega), upR_n _ _ (by omega)], by rw [up2_r _ _ _ (by omega), upR_n _ _ (by omega)], fun c => by rw [up2_r _ _ _ (by omega), upR_n _ _ (by omega)]⟩
  have rw1 : ∀ i, i ≠ 0 → i ≠ 5 → (up2 (upR M 5 (tyR (M 5) x L m)) 0 5 (nI (L + m))) i = M i := fun i w1 w2 => by rw [up2_r _ _ _ w1, upR_n _ _ w2]
  have rb : ∀ i, i ≠ 0 → i ≠ 1 → tyβ β x L m i = β i := fun i w1 w2 => by unfold tyβ; rw [up2_r _ _ _ w1, upR_n _ _ w2]
  have b1 : tyβ β x L m 1 = tyR (β 1) x L m := by unfold tyβ; rw [up2_r _ _ _ (by omega), upR_s]
  have b00 : tyβ β x L m 0 0 = nI (L + m) := up2_s _ _ _ _
  have b01 : tyβ β x L m 0 1 = β 0 1 := by unfold tyβ; rw [up2_n _ _ (by omega), upR_n _ _ (by omega)]
  have cf : chF (tyR (M 5) x L m) := by
    intro j hj
    unfold tyR
    split
    · exact (pk_charN (by have := byN_lt x (j - L); omega)).2
    · exact a5 j hj
  refine ⟨⟨(a1.rows (fun c hc => by rw [rw1 _ (by omega) (by omega)]) (fun i w1 w2 => rw1 i (by omega) (by omega))).same hs, ⟨?_, ?_, ?_, ?_, fun c hc => ?_⟩, fun c hc => ?_, fun j hj => ?_⟩, ⟨?_, ?_⟩⟩
  · rw [up2_s, b00]
  · rw [up2_r _ _ _ (by omega), upR_s, b1, a3]
  · rw [rw1 4 (by omega) (by omega), b01]; exact a4
  · rw [up2_r _ _ _ (by omega), upR_s]; exact cf
  · rw [rw1 _ (by omega) (by omega)]; exact a6 c hc
  · unfold AbC
    rw [rw1 _ (by omega) (by omega), rb 4 (by omega) (by omega), rb 5 (by omega) (by omega), rb 6 (by omega) (by omega), rb 7 (by omega) (by omega), rb 8 (by omega) (by omega), hs.th, hs.ft]
    exact a7 c hc
  · rw [rw1 2 (by omega) (by omega), hs.df2]; exact a8 j hj
  · obtain ⟨i1, i2, i3, i4, i5⟩ := hI.1
    exact ⟨hs.mb i1, ⟨L + m, hm, b00⟩, fun c hc ht => by rw [hs.th] at ht; rw [hs.2.1]; exact i3 c hc ht, fun c hc => by rw [rb 4 (by omega) (by omega)]; exact i4 c hc, fun c hc ht => by rw [hs.th] at ht; rw [rb 4 (by omega) (by omega)]; exact i5 c hc ht⟩
  · intro d hd g
    have gs : ∀ e, gdB (tyβ β x L m) e = gdB β e := fun e => gd_same hs (by rw [rb 4 (by omega) (by omega)]) (by rw [rb 5 (by omega) (by omega)])
    rw [gs] at g
    obtain ⟨k1, k2, k3⟩ := hI.2 d hd g
    have hf : ftI β d = 0 := (gd_iff.mp g).2.2.1
    have ty : tyI (tyβ β x L m) d = tyI β d := ty_same hd hf (by rw [hs.1]) (by rw [hs.2.1]) (hs.2.2 d) (fun j hj hb => ⟨hs.dn j, fun _ => by rw [rb 5 (by omega) (by omega), rb 7 (by omega) (by omega)]; exact ⟨rfl, fun _ => rfl⟩⟩)
    rw [ty, hs.fn, rb 5 (by omega) (by omega), rb 6 (by omega) (by omega), rb 7 (by omega) (by omega)]
    exact ⟨fun e he hne hn => by rw [hs.nd] at hn; rw [gs]; exact k1 e he hne hn, k2, k3⟩
theorem ca_abs {M β : Me} (h : AbsB M β) {c : Nat} (hc : c < 10) : AbsB (up2 (up2 M (7 + c) 3 0) (7 + c) 4 11) (caβ β c) := wk_b (wk_a h hc) hc (by decide)
/-- what a cell shows -/
def shβ (β : Me) (c : Nat) : Int32 := if thB β c = true then (if ftI β c = 0 then (if β 4 c = 1 then 12 else β 5 c) else ftI β c) else 0
theorem sh_12 {β : Me} {c : Nat} (hI : Iv β) (hc : c < 10) : shβ β c = 12 → thB β c = true ∧ ftI β c = 0 ∧ (β 4 c = 1 ∨ β 5 c = 12) := by
  intro h
  unfold shβ at h
  cases ht : thB β c with
  | false => rw [ht, if_neg (by decide)] at h; exact absurd h (by decide)
  | true =>
    rw [ht, if_pos rfl] at h
    by_cases hf : ftI β c = 0
    · rw [if_pos hf] at h
      by_cases h4 : β 4 c = 1
      · exact ⟨rfl, hf, Or.inl h4⟩
      · rw [if_neg h4] at h; exact ⟨rfl, hf, Or.inr h⟩
    · rw [if_neg hf] at h
      rcases ft_range β c with w | w | w | w | w <;> (rw [w] at h; exact absurd h (by decide))
/-- no error is 12 -/
theorem EV_ng {tx : Nat → Nat → Int32} {df : Nat → Nat} {am : Nat → Int32} {cl : Nat → Int32 → Nat → Rs} (hcl : ∀ c a m, ¬ (cl c a m).1 = 12) (c : Nat) : ∀ (d k : Nat) (lc : Nat → Int32) (m : Nat), ¬ (EV tx df am cl c d k lc m).1 = 12 := by
  have bdn : ∀ (r : Rs) (f : Int32 → Nat → Rs), ¬ r.1 = 12 → (∀ v m, ¬ (f v m).1 = 12) → ¬ (bd r f).1 = 12 := by
    intro r f h1 h2
    unfold bd
    split
    · exact h2 _ _
    · exact h1
  have n0 : ¬ (0 : Int32) = 12 := by decide
  have n7 : ¬ (7 : Int32) = 12 := by decide
  have n8 : ¬ (8 : Int32) = 12 := by decide
  have n9 : ¬ (9 : Int32) = 12 := by decide
  have n10 : ¬ (10 : Int32) = 12 := by decide
  intro d
  induction d with
  | zero => intro k lc m; exact n9
  | succ d ih =>
    intro k lc m
    unfold EV
    split
    · exact n10
    · split
      · refine bdn _ _ (ih _ _ _) (fun v p => ?_)
        split
        · exact n0
        · refine bdn _ _ (ih _ _ _) (fun w p => ?_)
          unfold jn
          repeat' split
          all_goals first | exact n0 | exact n7
      · exact bdn _ _ (ih _ _ _) (fun v p => n0)
      · exact bdn _ _ (ih _ _ _) (fun v p => bdn _ _ (ih _ _ _) (fun _ _ => n0))
      · exact bdn _ _ (ih _ _ _) (fun v p => bdn _ _ (ih _ _ _) (fun _ _ => n0))
      · exact bdn _ _ (ih _ _ _) (fun v p => bdn _ _ (hcl _ _ _) (fun _ _ => n0))
      · refine bdn _ _ (ih _ _ _) (fun v p => ?_)
        split
        · exact bdn _ _ (ih _ _ _) (fun _ _ => n0)
        · split
          · exact bdn _ _ (ih _ _ _) (fun _ _ => n0)
          · exact n8
      · exact n0
      · exact n0
      · exact n0
theorem CL_ng {tx : Nat → Nat → Int32} {df : Nat → Nat} {am : Nat → Int32} : ∀ (o c : Nat) (a : Int32) (m : Nat), ¬ (CL tx df am o c a m).1 = 12 := by
  intro o
  induction o with
  | zero => intro c a m; show ¬ (9 : Int32) = 12; decide
  | succ o ih => intro c a m; exact EV_ng ih c 6 2 _ m
theorem ev_ne12 (β : Me) (c : Nat) : ¬ (evR β c).1 = 12 := EV_ng (CL_ng 5) c 6 0 _ 0
/-- no result is 12 -/
def Iv2 (β : Me) : Prop := ∀ c, c < 10 → ¬ β 5 c = 12
theorem wk_Iv2 {β : Me} (h : Iv2 β) (c : Nat) : Iv2 (wkβ β c) := by
  intro d hd
  unfold wkβ
  have n1 := ev_ne12 β c
  repeat' split
  all_goals (simp only [up2_if]; by_cases e : d = c <;> simp [e] <;> first | exact h d hd | exact n1 | exact h c (e ▸ hd))
theorem sp_Iv2 {β : Me} {x : Int32} (h : Iv2 β) : Iv2 (spβ β x) := fun c hc => by rw [sp_n _ _ (by omega)]; exact h c hc
theorem se_Iv2 {β : Me} (h : Iv2 β) (c j L : Nat) : Iv2 (seβ β c j L) := sp_Iv2 (fun d hd => by rw [se0_i β c j L (by omega) (by omega) (by omega) (by omega)]; exact h d hd)
theorem rm_Iv2 {β : Me} (h : Iv2 β) (c : Nat) : Iv2 (rmβ β c) := sp_Iv2 (fun d hd => by rw [rz_i β c (by omega) (by omega)]; exact h d hd)
theorem ty_Iv2 {β : Me} (h : Iv2 β) (x : Int64) (L m : Nat) : Iv2 (tyβ β x L m) := fun d hd => by unfold tyβ; rw [up2_r _ _ _ (by omega), upR_n _ _ (by omega)]; exact h d hd
theorem ca_Iv2 {β : Me} (h : Iv2 β) (c : Nat) : Iv2 (caβ β c) := fun d hd => by
  unfold caβ
  by_cases e : d = c
  · subst e; rw [up2_s]; decide
  · rw [up2_n _ _ (by omega), up2_r _ _ _ (by omega)]; exact h d hd
