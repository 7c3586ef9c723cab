/-! THE INVARIANT STAYS -/
/-- no error is 13 -/
theorem EV_nf {tx : Nat → Nat → Int32} {df : Nat → Nat} {am : Nat → Int32} {cl : Nat → Int32 → Nat → Rs} (hcl : ∀ c a m, ¬ (cl c a m).1 = 13) (c : Nat) : ∀ (d k : Nat) (lc : Nat → Int32) (m : Nat), ¬ (EV tx df am cl c d k lc m).1 = 13 := by
  have bdn : ∀ (r : Rs) (f : Int32 → Nat → Rs), ¬ r.1 = 13 → (∀ v m, ¬ (f v m).1 = 13) → ¬ (bd r f).1 = 13 := by
    intro r f h1 h2
    unfold bd
    split
    · exact h2 _ _
    · exact h1
  have n0 : ¬ (0 : Int32) = 13 := by decide
  have n7 : ¬ (7 : Int32) = 13 := by decide
  have n8 : ¬ (8 : Int32) = 13 := by decide
  have n9 : ¬ (9 : Int32) = 13 := by decide
  have n10 : ¬ (10 : Int32) = 13 := by decide
  intro d
  induction d with
  | zero => intro k lc m; exact n9
  | succ d ih =>
    intro k lc m
    unfold EV
    split
    · exact n10
    · split
      · refine bdn _ _ (ih _ _ _) (fun v p => ?_)
        split
        · exact n0
        · refine bdn _ _ (ih _ _ _) (fun w p => ?_)
          unfold jn
          repeat' split
          all_goals first | exact n0 | exact n7
      · exact bdn _ _ (ih _ _ _) (fun v p => n0)
      · exact bdn _ _ (ih _ _ _) (fun v p => bdn _ _ (ih _ _ _) (fun _ _ => n0))
      · exact bdn _ _ (ih _ _ _) (fun v p => bdn _ _ (ih _ _ _) (fun _ _ => n0))
      · exact bdn _ _ (ih _ _ _) (fun v p => bdn _ _ (hcl _ _ _) (fun _ _ => n0))
      · refine bdn _ _ (ih _ _ _) (fun v p => ?_)
        split
        · exact bdn _ _ (ih _ _ _) (fun _ _ => n0)
        · split
          · exact bdn _ _ (ih _ _ _) (fun _ _ => n0)
          · exact n8
      · exact n0
      · exact n0
      · exact n0
theorem CL_nf {tx : Nat → Nat → Int32} {df : Nat → Nat} {am : Nat → Int32} : ∀ (o c : Nat) (a : Int32) (m : Nat), ¬ (CL tx df am o c a m).1 = 13 := by
  intro o
  induction o with
  | zero => intro c a m; show ¬ (9 : Int32) = 13; decide
  | succ o ih => intro c a m; exact EV_nf ih c 6 2 _ m
theorem ev_ne13 (β : Me) (c : Nat) : ¬ (evR β c).1 = 13 := EV_nf (CL_nf 5) c 6 0 _ 0
/-- the type of a cell, when what it uses stays -/
theorem ty_same {β β' : Me} {d : Nat} (hd : d < 10) (hf : ftI β d = 0) (h2 : β' 2 d = β 2 d) (h3 : β' 3 d = β 3 d) (h20 : β' (20 + d) = β (20 + d)) (hu : ∀ j, j < 10 → bt (usI β d) j = true → dfN β' j = dfN β j ∧ (dfN β j ≠ d → β' 5 (dfN β j) = β 5 (dfN β j) ∧ (β 5 (dfN β j) = 14 → β' 7 (dfN β j) = β 7 (dfN β j)))) : tyI β' d = tyI β d := by
  have hw := (ft_0 hf).1
  unfold tyI
  rw [cs_st h3 h20, h20]
  refine TY_cong 6 (b0 β d) (stN β d) (wl_ok hw).1 (fun j hj hb => ?_)
  have hb2 : bt (usI β d) j = true := by unfold usI; rw [if_pos hw]; exact hb
  obtain ⟨w1, w2⟩ := hu j hj hb2
  obtain ⟨d1, d2, d3, d4, d5, d6, d7⟩ := us_def hd hf hj hb2
  unfold tnI fjB
  rw [h2, w1, cs_fn h2 h3 h20]
  by_cases e : dfN β j = d
  · rw [if_pos (d7 e).2, if_pos (d7 e).2, if_pos e, if_pos e]; exact ⟨rfl, rfl⟩
  · obtain ⟨k1, k2⟩ := w2 e
    rw [if_neg (d6 e), if_neg (d6 e), if_neg e, if_neg e, k1]
    refine ⟨?_, rfl⟩
    by_cases z : β 5 (dfN β j) = 14
    · rw [if_pos z, if_pos z, k2 z]
    · rw [if_neg z, if_neg z]
theorem SameT.dn {β β' : Me} (h : SameT β β') (j : Nat) : dfN β' j = dfN β j := by
  have e := h.df1 j 10
  unfold dfN; rw [e]
theorem SameT.mb {β β' : Me} (h : SameT β β') (hN : Nmb β) : Nmb β' := fun c hc => by rw [h.1]; exact hN c hc
theorem Iv0.up {β β' : Me} (h : Iv0 β) (hs : SameT β β') (h0 : β' 0 0 = β 0 0) (h4 : ∀ c, c < 10 → β' 4 c = β 4 c ∨ β' 4 c = 0) : Iv0 β' := by
  obtain ⟨a1, a2, a3, a4, a5⟩ := h
  refine ⟨hs.mb a1, by rw [h0]; exact a2, fun c hc ht => by rw [hs.th] at ht; rw [hs.2.1]; exact a3 c hc ht, fun c hc => ?_, fun c hc ht => ?_⟩
  · rcases h4 c hc with e | e
    · rw [e]; exact a4 c hc
    · exact Or.inl e
  · rw [hs.th] at ht
    rcases h4 c hc with e | e
    · rw [e]; exact a5 c hc ht
    · exact e
theorem gd_same {β β' : Me} (hs : SameT β β') {d : Nat} (h4 : β' 4 d = β 4 d) (h5 : β' 5 d = β 5 d) : gdB β' d = gdB β d := by
  unfold gdB; rw [hs.th, hs.ft, h4, h5]
theorem us_nd {β : Me} {d j : Nat} (hj : j < 10) (hu : bt (usI β d) j = true) (hl : ¬ dfL β j 10 < 0) : ndB β d (dfN β j) = true := by
  obtain ⟨-, -, w3, -⟩ := df_def hl
  have ht := th_j hj w3
  unfold ndB; rw [ht.1, ht.2, hu]; rfl
/-- a change of one cell that was stale: those that stand stay -/
theorem Iv1.one {β β' : Me} (hI : Iv β) (hs : SameT β β') {c : Nat} (hc : c < 10) (h4 : β 4 c = 1) (ho : ∀ d, d ≠ c → β' 4 d = β 4 d ∧ β' 5 d = β 5 d ∧ β' 6 d = β 6 d ∧ β' 7 d = β 7 d)
    (hcc : gdB β' c = true → (∀ d, d < 10 → d ≠ c → ndB β c d = true → gdB β d = true) ∧ (β' 5 c = 13 → fnB β c = true ∧ tyI β c = 1) ∧ (β' 5 c = 14 → fnB β c = false ∧ tyI β c = β' 7 c ∧ ¬ β' 7 c = 0 ∧ (β' 7 c = 2 → z1 (β' 6 c)))) : Iv1 β' := by
  have gdc : gdB β c = false := by
    cases h : gdB β c with
    | false => rfl
    | true => rw [(gd_iff.mp h).2.1] at h4; exact absurd h4 (by decide)
  have tyq : ∀ d, d < 10 → ftI β d = 0 → (∀ e, e < 10 → e ≠ d → ndB β d e = true → gdB β e = true) → tyI β' d = tyI β d := by
    intro d hd hf hg
    refine ty_same hd hf (by rw [hs.1]) (by rw [hs.2.1]) (hs.2.2 d) (fun j hj hu => ⟨hs.dn j, fun hne => ?_⟩)
    obtain ⟨d1, -, -, -, d5, -, -⟩ := us_def hd hf hj hu
    have hne2 : dfN β j ≠ c := fun e => by rw [e] at d5 hne; have := hg c hc hne d5; rw [gdc] at this; cases this
    obtain ⟨-, q2, -, q4⟩ := ho _ hne2
    exact ⟨q2, fun _ => q4⟩
  intro d hd hgd
  by_cases e : d = c
  · subst e
    obtain ⟨k1, k2, k3⟩ := hcc hgd
    have hf : ftI β d = 0 := by rw [← hs.ft]; exact (gd_iff.mp hgd).2.2.1
    rw [tyq d hd hf k1, hs.fn]
    refine ⟨fun x hx hne hn => ?_, k2, k3⟩
    rw [hs.nd] at hn
    rw [gd_same hs (ho x hne).1 (ho x hne).2.1]
    exact k1 x hx hne hn
  · obtain ⟨q4, q5, q6, q7⟩ := ho d e
    rw [gd_same hs q4 q5] at hgd
    obtain ⟨k1, k2, k3⟩ := hI.2 d hd hgd
    have hf : ftI β d = 0 := (gd_iff.mp hgd).2.2.1
    rw [tyq d hd hf k1, hs.fn, q5, q6, q7]
    refine ⟨fun x hx hne hn => ?_, k2, k3⟩
    rw [hs.nd] at hn
    have g := k1 x hx hne hn
    have hxc : x ≠ c := fun z => by rw [z, gdc] at g; cases g
    rw [gd_same hs (ho x hxc).1 (ho x hxc).2.1]
    exact g
theorem rd_4 {β : Me} {c : Nat} (h : rdB β c = true) : thB β c = true ∧ β 4 c = 1 := by
  unfold rdB at h; simp only [Bool.and_eq_true, decide_eq_true_eq] at h; exact ⟨h.1, h.2.1⟩
theorem wk_Iv {β : Me} (hI : Iv β) {c : Nat} (hc : c < 10) (hr : rdB β c = true) : Iv (wkβ β c) := by
  obtain ⟨ht, h4⟩ := rd_4 hr
  unfold wkβ
  by_cases hf : ftI β c = 0
  · rw [if_neg (fun q => q hf)]
    by_cases hb : bkB β c = true
    · rw [if_pos hb]
      have hs : SameT β (up2 (up2 β 4 c 0) 5 c 5) := (same_up β c 0 (by omega)).tr (same_up _ c 5 (by omega))
      refine ⟨hI.1.up hs (by simp only [up2_if]; simp) (fun d hd => ?_), Iv1.one hI hs hc h4 (fun d hne => ?_) (fun g => ?_)⟩
      · by_cases e : d = c
        · right; simp only [up2_if]; simp [e]
        · left; simp only [up2_if]; simp [e]
      · simp only [up2_if]; simp [hne]
      · have := (gd_iff.mp g).2.2.2
        simp only [up2_if] at this
        simp at this
    · have hb : bkB β c = false := by cases h : bkB β c; rfl; exact absurd h hb
      rw [if_neg (by rw [hb]; decide)]
      have hg : ∀ d, d < 10 → d ≠ c → ndB β c d = true → gdB β d = true := fun d hd hne hn => rd_gd hI.1 hc hr hf hb hd hne hn
      by_cases ht : tyI β c = 0 ∨ (fnB β c = true ∧ ¬ tyI β c = 1)
      · rw [if_pos ht]
        have hs : SameT β (up2 (up2 β 4 c 0) 5 c 6) := (same_up β c 0 (by omega)).tr (same_up _ c 6 (by omega))
        refine ⟨hI.1.up hs (by simp only [up2_if]; simp) (fun d hd => ?_), Iv1.one hI hs hc h4 (fun d hne => ?_) (fun g => ?_)⟩
        · by_cases e : d = c
          · right; simp only [up2_if]; simp [e]
          · left; simp only [up2_if]; simp [e]
        · simp only [up2_if]; simp [hne]
        · have := (gd_iff.mp g).2.2.2
          simp only [up2_if] at this
          simp at this
      · rw [if_neg ht]
        by_cases hfn : fnB β c = true
        · rw [if_pos hfn]
          have hs : SameT β (up2 (up2 β 4 c 0) 5 c 13) := (same_up β c 0 (by omega)).tr (same_up _ c 13 (by omega))
          refine ⟨hI.1.up hs (by simp only [up2_if]; simp) (fun d hd => ?_), Iv1.one hI hs hc h4 (fun d hne => ?_) (fun g => ⟨hg, fun _ => ⟨hfn, ?_⟩, fun z => ?_⟩)⟩
          · by_cases e : d = c
            · right; simp only [up2_if]; simp [e]
            · left; simp only [up2_if]; simp [e]
          · simp only [up2_if]; simp [hne]
          · exact Classical.byContradiction (fun q => ht (Or.inr ⟨hfn, q⟩))
          · simp only [up2_if] at z; simp at z
        · rw [if_neg hfn]
          have hfz : fnB β c = false := by cases h : fnB β c; rfl; exact absurd h hfn
          have hst0 : stN β c = 0 := by
            have hw := (ft_0 hf).1
            unfold fnB at hfz
            rw [hw, Bool.true_and] at hfz
            unfold stN; rw [hfz]; rfl
          by_cases hz : (evR β c).1 = 0
          · rw [if_pos hz]
            have hs := (((((same_up β c 0 (show (4 : Nat) = 0 ∨ (4 : Nat) = 1 ∨ (4 ≤ 4 ∧ 4 < 20) by omega)).tr (same_up _ c 14 (show (5 : Nat) = 0 ∨ (5 : Nat) = 1 ∨ (4 ≤ 5 ∧ 5 < 20) by omega))).tr (same_up _ c (evR β c).2.1 (show (6 : Nat) = 0 ∨ (6 : Nat) = 1 ∨ (4 ≤ 6 ∧ 6 < 20) by omega))).tr (same_up _ c (tyI β c) (show (7 : Nat) = 0 ∨ (7 : Nat) = 1 ∨ (4 ≤ 7 ∧ 7 < 20) by omega))).tr (same_up _ c (β 8 c + 1) (show (8 : Nat) = 0 ∨ (8 : Nat) = 1 ∨ (4 ≤ 8 ∧ 8 < 20) by omega))).tr (same_up _ 1 (β 0 1 + nI (evR β c).2.2) (show (0 : Nat) = 0 ∨ (0 : Nat) = 1 ∨ (4 ≤ 0 ∧ 0 < 20) by omega))
            refine ⟨hI.1.up hs (by simp only [up2_if]; simp) (fun d hd => ?_), Iv1.one hI hs hc h4 (fun d hne => ?_) (fun g => ⟨hg, fun z => ?_, fun _ => ⟨hfz, ?_, ?_, fun z => ?_⟩⟩)⟩
            · by_cases e : d = c
              · right; simp only [up2_if]; simp [e]
              · left; simp only [up2_if]; simp [e]
            · simp only [up2_if]; simp [hne]
            · simp only [up2_if] at z; simp at z
            · simp only [up2_if]; simp
            · simp only [up2_if]; simp; exact fun q => ht (Or.inl q)
            · simp only [up2_if] at z ⊢
              simp at z ⊢
              have tE := ty_E hc hf hg (fun q => by rw [hfz] at q; cases q)
              rw [hst0, z] at tE
              refine EV_bool (tx := fun d => β (20 + d)) (tn := tnE β) (fn := fnE β) (fun j w => ?_) c 6 0 (fun _ => 0) 0 tE hz
              by_cases q : ¬ dfL β j 10 < 0 ∧ gdB β (dfN β j) = true ∧ β 5 (dfN β j) = 14
              · have w2 := w
                unfold tnE at w2
                rw [if_pos q] at w2
                exact ((hI.2 _ (df_def q.1).1 q.2.1).2.2 q.2.2).2.2.2 w2
              · unfold tnE at w; rw [if_neg q] at w; exact absurd w (by decide)
          · rw [if_neg hz]
            have hs := (((same_up β c 0 (show (4 : Nat) = 0 ∨ (4 : Nat) = 1 ∨ (4 ≤ 4 ∧ 4 < 20) by omega)).tr (same_up _ c (evR β c).1 (show (5 : Nat) = 0 ∨ (5 : Nat) = 1 ∨ (4 ≤ 5 ∧ 5 < 20) by omega))).tr (same_up _ c (β 8 c + 1) (show (8 : Nat) = 0 ∨ (8 : Nat) = 1 ∨ (4 ≤ 8 ∧ 8 < 20) by omega))).tr (same_up _ 1 (β 0 1 + nI (evR β c).2.2) (show (0 : Nat) = 0 ∨ (0 : Nat) = 1 ∨ (4 ≤ 0 ∧ 0 < 20) by omega))
            refine ⟨hI.1.up hs (by simp only [up2_if]; simp) (fun d hd => ?_), Iv1.one hI hs hc h4 (fun d hne => ?_) (fun g => ?_)⟩
            · by_cases e : d = c
              · right; simp only [up2_if]; simp [e]
              · left; simp only [up2_if]; simp [e]
            · simp only [up2_if]; simp [hne]
            · have := (gd_iff.mp g).2.2.2
              simp only [up2_if] at this
              simp at this
              rcases this with z | z
              · exact absurd z (ev_ne13 β c)
              · exact absurd z (ev_ne14 β c)
  · rw [if_pos hf]
    have hs : SameT β (up2 β 4 c 0) := same_up β c 0 (by omega)
    refine ⟨hI.1.up hs (up2_n _ _ (by omega)) (fun d hd => ?_), Iv1.one hI hs hc h4 (fun d hne => ?_) (fun g => ?_)⟩
    · by_cases e : d = c
      · right; rw [e, up2_s]
      · left; exact up2_n _ _ (by omega)
    · simp only [up2_if]; simp [hne]
    · have := (gd_iff.mp g).2.2.1
      rw [hs.ft] at this
      exact absurd this hf
theorem ca_Iv {β : Me} (hI : Iv β) {c : Nat} (hc : c < 10) (h4 : β 4 c = 1) : Iv (caβ β c) := by
  unfold caβ
  have hs : SameT β (up2 (up2 β 4 c 0) 5 c 11) := (same_up β c 0 (by omega)).tr (same_up _ c 11 (by omega))
  refine ⟨hI.1.up hs (by simp only [up2_if]; simp) (fun d hd => ?_), Iv1.one hI hs hc h4 (fun d hne => ?_) (fun g => ?_)⟩
  · by_cases e : d = c
    · right; simp only [up2_if]; simp [e]
    · left; simp only [up2_if]; simp [e]
  · simp only [up2_if]; simp [hne]
  · have := (gd_iff.mp g).2.2.2
    simp only [up2_if] at this
    simp at this
