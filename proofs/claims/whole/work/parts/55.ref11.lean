/-! THE REFERENCE'S EVALUATOR: the loop -/
def EFr (M M' : Me) : Prop := (∀ i, 1 ≤ i → i ≤ 16 → M' i = M i) ∧ ∀ k, k ≠ 14 → k ≠ 25 → k ≠ 27 → k ≠ 28 → k ≠ 29 → k ≠ 30 → M' 0 k = M 0 k
theorem EFr.refl (M : Me) : EFr M M := ⟨fun _ _ _ => rfl, fun _ _ _ _ _ _ _ => rfl⟩
theorem EFr.trans {M M1 M2 : Me} (h : EFr M M1) (k : EFr M1 M2) : EFr M M2 := ⟨fun i a b => (k.1 i a b).trans (h.1 i a b), fun i a b c d e f => (k.2 i a b c d e f).trans (h.2 i a b c d e f)⟩
theorem EFr.far {M M1 : Me} (h : EFr M M1) {i : Nat} (hi : 17 ≤ i) (k : Nat) (v : Int32) : EFr M (up2 M1 i k v) := h.trans ⟨fun j _ _ => up2_q _ _ (by omega), fun j _ _ _ _ _ _ => up2_n _ _ (by omega)⟩
theorem EFr.in0 {M M1 : Me} (h : EFr M M1) {k : Nat} (hk : k = 14 ∨ k = 25 ∨ k = 27 ∨ k = 28 ∨ k = 29 ∨ k = 30) (v : Int32) : EFr M (up2 M1 0 k v) := h.trans ⟨fun j _ _ => up2_q _ _ (by omega), fun j _ _ _ _ _ _ => up2_n _ _ (by omega)⟩
def EvQ (o dp : Nat) (M M' : Me) : Prop := EFr M M' ∧ M' 0 25 = nI o ∧ M' 0 27 = nI dp ∧ M' 0 30 = 0 ∧ (∀ i, i < o → M' 17 i = M 17 i ∧ M' 18 i = M 18 i ∧ M' 19 i = M 19 i ∧ M' 20 i = M 20 i) ∧ ∀ l, l < 6 * dp + 6 → M' 21 l = M 21 l
def EvS (o dp : Nat) (z : Int32) (fu : Nat) (M : Me) : Prop := M 0 25 = nI o ∧ M 0 27 = nI dp ∧ M 0 30 = 0 ∧ M 0 28 = nI fu ∧ M 0 14 = z + nI fu
def EvT (o dp dq : Nat) (z : Int32) (fu c k st : Nat) (lr : Nat → Int32) (M0 M : Me) : Prop := EFr M0 M ∧ EvS (o + 1) dq z fu M ∧ M 17 o = nI c ∧ M 18 o = nI k ∧ M 19 o = nI st ∧ (∀ i, i < o → M 17 i = M0 17 i ∧ M 18 i = M0 18 i ∧ M 19 i = M0 19 i ∧ M 20 i = M0 20 i) ∧ ∀ l, l < 6 * dp + 6 → M 21 l = lr l
section EVT
variable {o dp dq fu c k st : Nat} {z : Int32} {lr : Nat → Int32} {M0 M M1 : Me}
theorem z_inc (z : Int32) (fu : Nat) : z + nI fu + nI 1 = z + nI (fu + 1) := by rw [Int32.add_assoc, nI_add]
theorem EvT.start (h : EvS o dp z fu M) : EvT o dp dp z (fu + 1) c k 0 (M 21) M (enM M c k o fu) := by
  unfold enM
  refine ⟨((((((EFr.refl M).in0 (by omega) _).in0 (by omega) _).far (by omega) _ _).far (by omega) _ _).far (by omega) _ _).in0 (by omega) _, ⟨up2_s _ _ _ _, ?_, ?_, ?_, ?_⟩, ?_, ?_, ?_, fun i hi => ⟨?_, ?_, ?_, ?_⟩, fun l hl => ?_⟩
  · rw [up2_n _ _ (by omega), up2_n _ _ (by omega), up2_n _ _ (by omega), up2_n _ _ (by omega), up2_n _ _ (by omega), up2_n _ _ (by omega)]; exact h.2.1
  · rw [up2_n _ _ (by omega), up2_n _ _ (by omega), up2_n _ _ (by omega), up2_n _ _ (by omega), up2_n _ _ (by omega), up2_n _ _ (by omega)]; exact h.2.2.1
  · rw [up2_n _ _ (by omega), up2_n _ _ (by omega), up2_n _ _ (by omega), up2_n _ _ (by omega), up2_n _ _ (by omega), up2_s]
  · rw [up2_n _ _ (by omega), up2_n _ _ (by omega), up2_n _ _ (by omega), up2_n _ _ (by omega), up2_s, h.2.2.2.2, z_inc]
  · rw [up2_n _ _ (by omega), up2_n _ _ (by omega), up2_n _ _ (by omega), up2_s]
  · rw [up2_n _ _ (by omega), up2_n _ _ (by omega), up2_s]
  · rw [up2_n _ _ (by omega), up2_s]
  · rw [up2_n _ _ (by omega), up2_n _ _ (by omega), up2_n _ _ (by omega), up2_n _ _ (by omega), up2_n _ _ (by omega), up2_n _ _ (by omega)]
  · rw [up2_n _ _ (by omega), up2_n _ _ (by omega), up2_n _ _ (by omega), up2_n _ _ (by omega), up2_n _ _ (by omega), up2_n _ _ (by omega)]
  · rw [up2_n _ _ (by omega), up2_n _ _ (by omega), up2_n _ _ (by omega), up2_n _ _ (by omega), up2_n _ _ (by omega), up2_n _ _ (by omega)]
  · rw [up2_n _ _ (by omega), up2_n _ _ (by omega), up2_n _ _ (by omega), up2_n _ _ (by omega), up2_n _ _ (by omega), up2_n _ _ (by omega)]
  · rw [up2_n _ _ (by omega), up2_n _ _ (by omega), up2_n _ _ (by omega), up2_n _ _ (by omega), up2_n _ _ (by omega), up2_n _ _ (by omega)]
theorem EvT.row {i j : Nat} (v : Int32) (h : EvT o dp dq z fu c k st lr M0 M) (hi : i = 20 ∧ o ≤ j ∨ i = 21 ∧ 6 * dp + 6 ≤ j) : EvT o dp dq z fu c k st lr M0 (up2 M i j v) := by
  obtain ⟨h1, ⟨s1, s2, s3, s4, s5⟩, h2, h3, h4, h5, h6⟩ := h
  refine ⟨h1.far (by omega) _ _, ⟨(up2_n _ _ (by omega)).trans s1, (up2_n _ _ (by omega)).trans s2, (up2_n _ _ (by omega)).trans s3, (up2_n _ _ (by omega)).trans s4, (up2_n _ _ (by omega)).trans s5⟩, (up2_n _ _ (by omega)).trans h2, (up2_n _ _ (by omega)).trans h3, (up2_n _ _ (by omega)).trans h4, fun q hq => ⟨(up2_n _ _ (by omega)).trans (h5 q hq).1, (up2_n _ _ (by omega)).trans (h5 q hq).2.1, (up2_n _ _ (by omega)).trans (h5 q hq).2.2.1, (up2_n _ _ (by omega)).trans (h5 q hq).2.2.2⟩, fun l hl => (up2_n _ _ (by omega)).trans (h6 l hl)⟩
theorem EvT.stage (st' : Nat) (h : EvT o dp dq z fu c k st lr M0 M) : EvT o dp dq z fu c k st' lr M0 (up2 M 19 o (nI st')) := by
  obtain ⟨h1, ⟨s1, s2, s3, s4, s5⟩, h2, h3, h4, h5, h6⟩ := h
  exact ⟨h1.far (by omega) _ _, ⟨(up2_n _ _ (by omega)).trans s1, (up2_n _ _ (by omega)).trans s2, (up2_n _ _ (by omega)).trans s3, (up2_n _ _ (by omega)).trans s4, (up2_n _ _ (by omega)).trans s5⟩, (up2_n _ _ (by omega)).trans h2, (up2_n _ _ (by omega)).trans h3, up2_s _ _ _ _, fun q hq => ⟨(up2_n _ _ (by omega)).trans (h5 q hq).1, (up2_n _ _ (by omega)).trans (h5 q hq).2.1, (up2_n _ _ (by omega)).trans (h5 q hq).2.2.1, (up2_n _ _ (by omega)).trans (h5 q hq).2.2.2⟩, fun l hl => (up2_n _ _ (by omega)).trans (h6 l hl)⟩
theorem EvT.bind (j : Nat) (v : Int32) (h : EvT o dp dq z fu c k st lr M0 M) : EvT o dp dq z fu c k st (upd lr j v) M0 (up2 M 21 j v) := by
  obtain ⟨h1, ⟨s1, s2, s3, s4, s5⟩, h2, h3, h4, h5, h6⟩ := h
  refine ⟨h1.far (by omega) _ _, ⟨(up2_n _ _ (by omega)).trans s1, (up2_n _ _ (by omega)).trans s2, (up2_n _ _ (by omega)).trans s3, (up2_n _ _ (by omega)).trans s4, (up2_n _ _ (by omega)).trans s5⟩, (up2_n _ _ (by omega)).trans h2, (up2_n _ _ (by omega)).trans h3, (up2_n _ _ (by omega)).trans h4, fun q hq => ⟨(up2_n _ _ (by omega)).trans (h5 q hq).1, (up2_n _ _ (by omega)).trans (h5 q hq).2.1, (up2_n _ _ (by omega)).trans (h5 q hq).2.2.1, (up2_n _ _ (by omega)).trans (h5 q hq).2.2.2⟩, fun l hl => ?_⟩
  unfold upd
  by_cases e : l = j
  · rw [if_pos e, e, up2_s]
  · rw [if_neg e, up2_n _ _ (by omega)]; exact h6 l hl
theorem EvT.deep (dq' : Nat) (h : EvT o dp dq z fu c k st lr M0 M) : EvT o dp dq' z fu c k st lr M0 (up2 M 0 27 (nI dq')) := by
  obtain ⟨h1, ⟨s1, s2, s3, s4, s5⟩, h2, h3, h4, h5, h6⟩ := h
  exact ⟨h1.in0 (by omega) _, ⟨(up2_n _ _ (by omega)).trans s1, up2_s _ _ _ _, (up2_n _ _ (by omega)).trans s3, (up2_n _ _ (by omega)).trans s4, (up2_n _ _ (by omega)).trans s5⟩, (up2_n _ _ (by omega)).trans h2, (up2_n _ _ (by omega)).trans h3, (up2_n _ _ (by omega)).trans h4, fun q hq => ⟨(up2_n _ _ (by omega)).trans (h5 q hq).1, (up2_n _ _ (by omega)).trans (h5 q hq).2.1, (up2_n _ _ (by omega)).trans (h5 q hq).2.2.1, (up2_n _ _ (by omega)).trans (h5 q hq).2.2.2⟩, fun l hl => (up2_n _ _ (by omega)).trans (h6 l hl)⟩
theorem EvT.ret {m : Nat} (h : EvT o dp dq z fu c k st lr M0 M) (hq : dp ≤ dq) (q : EvQ (o + 1) dq M M1) (f1 : M1 0 28 = nI m) (f2 : M1 0 14 = z + nI m) : EvT o dp dq z m c k st lr M0 M1 ∧ M1 20 o = M 20 o := by
  obtain ⟨h1, ⟨s1, s2, s3, s4, s5⟩, h2, h3, h4, h5, h6⟩ := h
  obtain ⟨q1, q2, q3, q4, q5, q6⟩ := q
  obtain ⟨w1, w2, w3, w4⟩ := q5 o (by omega)
  exact ⟨⟨h1.trans q1, ⟨q2, q3, q4, f1, f2⟩, w1.trans h2, w2.trans h3, w3.trans h4, fun i hi => ⟨(q5 i (by omega)).1.trans (h5 i hi).1, (q5 i (by omega)).2.1.trans (h5 i hi).2.1, (q5 i (by omega)).2.2.1.trans (h5 i hi).2.2.1, (q5 i (by omega)).2.2.2.trans (h5 i hi).2.2.2⟩, fun l hl => (q6 l (by omega)).trans (h6 l hl)⟩, w4⟩
theorem EvT.leave (v : Int32) (h : EvT o dp dp z fu c k st lr M0 M) (hlr : ∀ l, l < 6 * dp + 6 → lr l = M0 21 l) : EvQ o dp M0 (lvM M v o) ∧ lvM M v o 0 29 = v ∧ lvM M v o 0 28 = nI fu ∧ lvM M v o 0 14 = z + nI fu := by
  obtain ⟨h1, ⟨s1, s2, s3, s4, s5⟩, h2, h3, h4, h5, h6⟩ := h
  unfold lvM
  have N : ∀ a b, ¬ (a = 0 ∧ b = 29) → ¬ (a = 0 ∧ b = 25) → up2 (up2 M 0 29 v) 0 25 (nI o) a b = M a b := fun a b x y => by rw [up2_n _ _ y, up2_n _ _ x]
  exact ⟨⟨(h1.in0 (by omega) _).in0 (by omega) _, up2_s _ _ _ _, (N _ _ (by omega) (by omega)).trans s2, (N _ _ (by omega) (by omega)).trans s3, fun i hi => ⟨(N _ _ (by omega) (by omega)).trans (h5 i hi).1, (N _ _ (by omega) (by omega)).trans (h5 i hi).2.1, (N _ _ (by omega) (by omega)).trans (h5 i hi).2.2.1, (N _ _ (by omega) (by omega)).trans (h5 i hi).2.2.2⟩, fun l hl => ((N _ _ (by omega) (by omega)).trans (h6 l hl)).trans (hlr l hl)⟩, (up2_n _ _ (by omega)).trans (up2_s _ _ _ _), (N _ _ (by omega) (by omega)).trans s4, (N _ _ (by omega) (by omega)).trans s5⟩
end EVT
/-- what the evaluation rests on -/
def ECR (M β : Me) : Prop := TxR M β ∧ (∀ d, d < 10 → β 5 d = 14 → M 11 d = β 6 d) ∧ ∀ d, d < 10 → wlB β d = true → EO (β (20 + d)) (edR M d) 6 (stN β d)
theorem ECR.fr {M M' β : Me} (h : ECR M β) (k : EFr M M') : ECR M' β := ⟨h.1.rows (fun i hi => k.1 i (by omega) (by omega)), fun d hd e => by rw [k.1 11 (by omega) (by omega)]; exact h.2.1 d hd e, fun d hd e => by unfold edR; rw [k.1 5 (by omega) (by omega)]; exact h.2.2 d hd e⟩
theorem len_of {β : Me} (hI : Iv0 β) {c : Nat} (hc : c < 10) (ht : thB β c = true) : β 3 c = nI (lenN β c) ∧ lenN β c ≤ 24 ∧ 0 < lenN β c := by
  obtain ⟨n, h1, h2, h3⟩ := hI.2.2.1 c hc ht
  have e : lenN β c = n := by unfold lenN; rw [h3]; exact nI_clamp (by omega)
  rw [e]; exact ⟨h3, h2, h1⟩
theorem ECR.tr {M β : Me} (h : ECR M β) (hI : Iv0 β) {c : Nat} (hc : c < 10) (hw : wlB β c = true) : TR M c (β (20 + c)) (lenN β c) := by
  obtain ⟨h1, h2, -⟩ := len_of hI hc (wl_th hw)
  exact h.1.tr hc h2 h1
theorem tn_0 {β : Me} {j : Nat} (w : ¬ tnE β j = 0) : ¬ dfL β j 10 < 0 ∧ gdB β (dfN β j) = true ∧ β 5 (dfN β j) = 14 := by
  unfold tnE at w
  by_cases z : ¬ dfL β j 10 < 0 ∧ gdB β (dfN β j) = true ∧ β 5 (dfN β j) = 14
  · exact z
  · rw [if_neg z] at w; exact absurd rfl w
theorem fn_0 {β : Me} (hI : Iv β) {j : Nat} (w : fnE β j = true) : ¬ dfL β j 10 < 0 ∧ dfN β j < 10 ∧ wlB β (dfN β j) = true ∧ stN β (dfN β j) = 2 ∧ 1 < lenN β (dfN β j) ∧ kd (β (20 + dfN β j) 1) = 9 ∧ OK (β (20 + dfN β j)) (lenN β (dfN β j)) 6 (fun i => decide (i = lcI (β (20 + dfN β j) 1))) 2 = true ∧ TY (β (20 + dfN β j)) (tnE β) (fnE β) 6 2 = 1 := by
  unfold fnE at w
  simp only [Bool.and_eq_true, decide_eq_true_eq] at w
  obtain ⟨w1, w2, w3⟩ := w
  obtain ⟨d1, d2, d3, d4⟩ := df_def w1
  obtain ⟨k1, k2, k3⟩ := hI.2 _ d1 w2
  obtain ⟨f1, f2⟩ := k2 w3
  obtain ⟨g1, g2, g3, g4, g5⟩ := b0_fn f1
  have hft := (gd_iff.mp w2).2.2.1
  have hw := (ft_0 hft).1
  refine ⟨w1, d1, hw, g2, g4, g5, ?_, ?_⟩
  · have := (wl_ok hw).1
    rw [g2, g3] at this
    exact this
  · have := ty_E d1 hft (fun d hd hne hn => k1 d hd hne hn) (fun _ => ⟨w2, w3⟩)
    rw [g2, f2] at this
    exact this
theorem ed_hd {M M' : Me} {c : Nat} {s : Nat → Int32} {n d : Nat} {b : Nat → Bool} {k : Nat} (ho : OK s n d b k = true) (he : EO s (edR M c) d k) (hf : EFr M M') : M' 5 (24 * c + k) = nI (EN s d k) := by
  rw [hf.1 5 (by omega) (by omega)]; exact EO_hd ho he
theorem jn_n (x a b : Int32) (n : Nat) : (jn x a b n).1 = (jn x a b 0).1 ∧ (jn x a b n).2.1 = (jn x a b 0).2.1 ∧ (jn x a b n).2.2 = n := by
  unfold jn
  repeat' split
  all_goals exact ⟨rfl, rfl, rfl⟩
theorem jn_7 (x a b : Int32) (n : Nat) (h : ¬ (jn x a b n).1 = 0) : (jn x a b n).1 = 7 := by
  unfold jn at h ⊢
  split at h
  · exact absurd rfl h
  · split at h
    · rename_i h38 h47
      rw [if_neg h38, if_pos h47]
      split at h
      · rename_i hb; rw [if_pos hb]
      · exact absurd rfl h
    · exact absurd rfl h
section EVL
variable {K : Cf} {g : Gd} {c0 : Nat} {x0 : Int32}
theorem lp_go (hI : sI (sR g)) (h0 : C0 K c_Mo_evaluate) (hC : Cx (sR g) K gC_Mo 4) (hn : kn K = 3) {M X : Me} {o : Nat} (ho : M 0 25 = nI (o + 1)) (ho3 : o < 300) (he : M 0 30 = 0) (hR : CR (kl K) g y_Mo_goOn c_Mo_goOn 6 none 3 [.ref (ga g 0)] M (fun r M' => r = none ∧ M' = X)) (kk : V K (wp (sR g)) X 36 [(0, .ref (ga g 0)), (1, .int (nI c0)), (2, .int x0)] []) : V K (wp (sR g)) M 36 [(0, .ref (ga g 0)), (1, .int (nI c0)), (2, .int x0)] [] := by
  refine v_aload_n h0 d_Mo_evaluate_36 0 rfl ?_
  refine g_Mo_open_ h0 hC wd_473 d_Mo_evaluate_37 ?_
  refine v_int (nI (o + 1)) (ho) ?_
  refine v_if_le h0 d_Mo_evaluate_40 rfl (fun h40 => absurd h40 (Int32.not_le.mpr ((nI_ltI (a := 0) (by omega) (by omega)).mpr (by omega)))) (fun h40 => ?_)
  refine v_aload_n h0 d_Mo_evaluate_43 0 rfl ?_
  refine g_Mo_error_ h0 hC wd_478 d_Mo_evaluate_44 ?_
  refine v_int (0) (he) ?_
  refine v_if_ne h0 d_Mo_evaluate_47 rfl (fun h47 => absurd h47 (fun z => z rfl)) (fun h47 => ?_)
  refine v_aload_n h0 d_Mo_evaluate_50 0 rfl ?_
  refine v_callV h0 hC (sR_N0 g) 0 (show 0 < 22 by omega) (show enR g 0 _ = _ from rfl) rfl (av := []) (rest := []) (hR) wd_683 wd_680 wd_682 ws_56 wd_6 hd_Mo_goOn (by omega) (by decide) rfl rfl (Nat.le_of_ble_eq_true rfl) d_Mo_evaluate_51 (fun r9 M9 hp9 => ?_)
  obtain ⟨rfl, rfl⟩ := hp9
  refine v_r0 ?_
  exact v_goto h0 d_Mo_evaluate_54 rfl kk
theorem lp_err (hI : sI (sR g)) (h0 : C0 K c_Mo_evaluate) (hC : Cx (sR g) K gC_Mo 4) (hn : kn K = 3) {M : Me} (he : ¬ M 0 30 = 0) (kk : V K (wp (sR g)) M 57 [(0, .ref (ga g 0)), (1, .int (nI c0)), (2, .int x0)] []) : V K (wp (sR g)) M 36 [(0, .ref (ga g 0)), (1, .int (nI c0)), (2, .int x0)] [] := by
  refine v_aload_n h0 d_Mo_evaluate_36 0 rfl ?_
  refine g_Mo_open_ h0 hC wd_473 d_Mo_evaluate_37 ?_
  refine v_if_le h0 d_Mo_evaluate_40 rfl (fun h40 => ?_) (fun h40 => ?_)
  · skip
    exact kk
  · skip
    refine v_aload_n h0 d_Mo_evaluate_43 0 rfl ?_
    refine g_Mo_error_ h0 hC wd_478 d_Mo_evaluate_44 ?_
    refine v_if_ne h0 d_Mo_evaluate_47 rfl (fun h47 => ?_) (fun h47 => absurd h47 (he))
    exact kk
theorem lp_end (hI : sI (sR g)) (h0 : C0 K c_Mo_evaluate) (hC : Cx (sR g) K gC_Mo 4) (hn : kn K = 3) {M : Me} (ho : M 0 25 = nI 0) (kk : V K (wp (sR g)) M 57 [(0, .ref (ga g 0)), (1, .int (nI c0)), (2, .int x0)] []) : V K (wp (sR g)) M 36 [(0, .ref (ga g 0)), (1, .int (nI c0)), (2, .int x0)] [] := by
  refine v_aload_n h0 d_Mo_evaluate_36 0 rfl ?_
  refine g_Mo_open_ h0 hC wd_473 d_Mo_evaluate_37 ?_
  refine v_int (nI 0) (ho) ?_
  refine v_if_le h0 d_Mo_evaluate_40 rfl (fun h40 => ?_) (fun h40 => absurd h40 (fun z => z (by decide)))
  exact kk
def EvN (K : Cf) (g : Gd) (c0 : Nat) (x0 : Int32) (β : Me) (z : Int32) (q d : Nat) : Prop := ∀ (M : Me) (c k o dp fu : Nat) (b : Nat → Bool) (lc : Nat → Int32), c < 10 → dp + q = 5 → o + d + 7 * q ≤ 60 → ECR M β → EvS o dp z fu M → fu ≤ 2000 → wlB β c = true → OK (β (20 + c)) (lenN β c) d b k = true → EO (β (20 + c)) (edR M c) d k → ¬ TY (β (20 + c)) (tnE β) (fnE β) d k = 0 → (∀ j, j < 6 → b j = true → M 21 (6 * dp + j) = lc j) → ∀ R : Rs, EV (fun d => β (20 + d)) (dfN β) (β 6) (CL (fun d => β (20 + d)) (dfN β) (β 6) q) c d k lc fu = R →
  (R.1 = 0 → ∀ M', EvQ o dp M M' → M' 0 29 = R.2.1 → M' 0 28 = nI R.2.2 → M' 0 14 = z + nI R.2.2 → V K (wp (sR g)) M' 36 [(0, .ref (ga g 0)), (1, .int (nI c0)), (2, .int x0)] []) →
  (¬ R.1 = 0 → ∀ M', EFr M M' → M' 0 30 = R.1 → M' 0 14 = z + nI R.2.2 → V K (wp (sR g)) M' 57 [(0, .ref (ga g 0)), (1, .int (nI c0)), (2, .int x0)] []) → V K (wp (sR g)) (enF M c k o fu) 36 [(0, .ref (ga g 0)), (1, .int (nI c0)), (2, .int x0)] []
theorem TY_sub2 {s : Nat → Int32} {tn : Nat → Int32} {fn : Nat → Bool} {d k : Nat} (q : kd (s k) = 2) (h : ¬ TY s tn fn (d + 1) k = 0) : ¬ TY s tn fn d (k + 1) = 0 ∧ ¬ TY s tn fn d (EN s d (k + 1)) = 0 := by
  rw [TY_2 _ _ _ _ _ q] at h
  have := tv2_n (x := s k) (decide_eq_true h)
  exact ⟨of_decide_eq_true this.1, of_decide_eq_true this.2⟩
theorem TY_sub1 {s : Nat → Int32} {tn : Nat → Int32} {fn : Nat → Bool} {d k : Nat} (q : kd (s k) = 1) (h : ¬ TY s tn fn (d + 1) k = 0) : ¬ TY s tn fn d (k + 1) = 0 := by
  rw [TY_1 _ _ _ _ _ q] at h
  exact of_decide_eq_true (tv1_n (decide_eq_true h))
theorem TY_sub3 {s : Nat → Int32} {tn : Nat → Int32} {fn : Nat → Bool} {d k : Nat} (q : kd (s k) = 3) (h : ¬ TY s tn fn (d + 1) k = 0) : ¬ TY s tn fn d (k + 1) = 0 ∧ ¬ TY s tn fn d (EN s d (k + 1)) = 0 ∧ ¬ TY s tn fn d (EN s d (EN s d (k + 1))) = 0 := by
  rw [TY_3 _ _ _ _ _ q] at h
  have := tv3_n (decide_eq_true h)
  exact ⟨of_decide_eq_true this.1, of_decide_eq_true this.2.1, of_decide_eq_true this.2.2⟩
theorem TY_sub4 {s : Nat → Int32} {tn : Nat → Int32} {fn : Nat → Bool} {d k : Nat} (q : kd (s k) = 4) (h : ¬ TY s tn fn (d + 1) k = 0) : ¬ TY s tn fn d (k + 2) = 0 ∧ ¬ TY s tn fn d (EN s d (k + 2)) = 0 := by
  rw [TY_4 _ _ _ _ _ q] at h
  have := tv4_n (decide_eq_true h)
  exact ⟨of_decide_eq_true this.1, of_decide_eq_true this.2⟩
theorem TY_sub5 {s : Nat → Int32} {tn : Nat → Int32} {fn : Nat → Bool} {d k : Nat} (q : kd (s k) = 5) (h : ¬ TY s tn fn (d + 1) k = 0) : ¬ TY s tn fn d (k + 2) = 0 ∧ fn (nmI (s (k + 1))) = true := by
  rw [TY_5 _ _ _ _ _ q] at h
  by_cases z : TY s tn fn d (k + 2) = 1 ∧ fn (nmI (s (k + 1))) = true
  · exact ⟨by rw [z.1]; decide, z.2⟩
  · rw [if_neg z] at h; exact absurd rfl h
theorem TY_sub6 {s : Nat → Int32} {tn : Nat → Int32} {fn : Nat → Bool} {d k : Nat} (q : kd (s k) = 6) (h : ¬ TY s tn fn (d + 1) k = 0) : ¬ TY s tn fn d (k + 1) = 0 ∧ ¬ TY s tn fn d (EN s d (k + 1) + 1) = 0 ∧ ¬ TY s tn fn d (EN s d (EN s d (k + 1) + 1) + 1) = 0 := by
  rw [TY_6 _ _ _ _ _ q] at h
  have := tv6_n (decide_eq_true h)
  exact ⟨of_decide_eq_true this.1, of_decide_eq_true this.2.1, of_decide_eq_true this.2.2⟩
set_option maxHeartbeats 4000000 in
theorem EvN_7 (hI : sI (sR g)) (h0 : C0 K c_Mo_evaluate) (hC : Cx (sR g) K gC_Mo 4) (hn : kn K = 3) {β : Me} {z : Int32} {q d : Nat} (hIv : Iv β) (ih : EvN K g c0 x0 β z q d) (hcl : ∀ q', q = q' + 1 → EvN K g c0 x0 β z q' 6) (M : Me) (c k o dp fu : Nat) (b : Nat → Bool) (lc : Nat → Int32) (hc : c < 10) (hdp : dp + q = 5) (hod : o + (d + 1) + 7 * q ≤ 60) (hE : ECR M β) (hS : EvS o dp z fu M) (hfu : fu < 2000) (hw : wlB β c = true) (hok : OK (β (20 + c)) (lenN β c) (d + 1) b k = true) (heo : EO (β (20 + c)) (edR M c) (d + 1) k) (hty : ¬ TY (β (20 + c)) (tnE β) (fnE β) (d + 1) k = 0) (hlc : ∀ j, j < 6 → b j = true → M 21 (6 * dp + j) = lc j) (R : Rs) (hR : EV (fun d => β (20 + d)) (dfN β) (β 6) (CL (fun d => β (20 + d)) (dfN β) (β 6) q) c (d + 1) k lc fu = R)
  (good : R.1 = 0 → ∀ M', EvQ o dp M M' → M' 0 29 = R.2.1 → M' 0 28 = nI R.2.2 → M' 0 14 = z + nI R.2.2 → V K (wp (sR g)) M' 36 [(0, .ref (ga g 0)), (1, .int (nI c0)), (2, .int x0)] [])
  (bad : ¬ R.1 = 0 → ∀ M', EFr M M' → M' 0 30 = R.1 → M' 0 14 = z + nI R.2.2 → V K (wp (sR g)) M' 57 [(0, .ref (ga g 0)), (1, .int (nI c0)), (2, .int x0)] []) (hx : kd (β (20 + c) k) = 7) : V K (wp (sR g)) (enM M c k o fu) 36 [(0, .ref (ga g 0)), (1, .int (nI c0)), (2, .int x0)] [] := by
  have hk := OK_k hok
  have hn24 := (hE.tr hIv.1 hc hw).2.1
  have hE0 := OK_ends _ _ _ _ _ hok
  have h1 : EvT o dp dp z (fu + 1) c k 0 (M 21) M (enM M c k o fu) := EvT.start hS
  have hT1 := (hE.fr h1.1).tr hIv.1 hc hw
  rw [EV_7 _ _ _ _ c d k lc fu hfu hx] at hR
  subst hR
  refine lp_go hI h0 hC hn h1.2.1.1 (by omega) h1.2.1.2.2.1 (m_Mo_goOn_7 (kl K) g hI _ hc ((hE.fr h1.1).tr hIv.1 hc hw) hk h1.2.1.1 (by omega) h1.2.2.1 h1.2.2.2.1 hx h1.2.2.2.2.1 ) ?_
  obtain ⟨l1, l2, l3, l4⟩ := (h1.stage 1).leave (β (20 + c) k - 48) (fun _ _ => rfl)
  exact good rfl _ l1 l2 l3 l4
set_option maxHeartbeats 4000000 in
theorem EvN_8 (hI : sI (sR g)) (h0 : C0 K c_Mo_evaluate) (hC : Cx (sR g) K gC_Mo 4) (hn : kn K = 3) {β : Me} {z : Int32} {q d : Nat} (hIv : Iv β) (ih : EvN K g c0 x0 β z q d) (hcl : ∀ q', q = q' + 1 → EvN K g c0 x0 β z q' 6) (M : Me) (c k o dp fu : Nat) (b : Nat → Bool) (lc : Nat → Int32) (hc : c < 10) (hdp : dp + q = 5) (hod : o + (d + 1) + 7 * q ≤ 60) (hE : ECR M β) (hS : EvS o dp z fu M) (hfu : fu < 2000) (hw : wlB β c = true) (hok : OK (β (20 + c)) (lenN β c) (d + 1) b k = true) (heo : EO (β (20 + c)) (edR M c) (d + 1) k) (hty : ¬ TY (β (20 + c)) (tnE β) (fnE β) (d + 1) k = 0) (hlc : ∀ j, j < 6 → b j = true → M 21 (6 * dp + j) = lc j) (R : Rs) (hR : EV (fun d => β (20 + d)) (dfN β) (β 6) (CL (fun d => β (20 + d)) (dfN β) (β 6) q) c (d + 1) k lc fu = R)
  (good : R.1 = 0 → ∀ M', EvQ o dp M M' → M' 0 29 = R.2.1 → M' 0 28 = nI R.2.2 → M' 0 14 = z + nI R.2.2 → V K (wp (sR g)) M' 36 [(0, .ref (ga g 0)), (1, .int (nI c0)), (2, .int x0)] [])
  (bad : ¬ R.1 = 0 → ∀ M', EFr M M' → M' 0 30 = R.1 → M' 0 14 = z + nI R.2.2 → V K (wp (sR g)) M' 57 [(0, .ref (ga g 0)), (1, .int (nI c0)), (2, .int x0)] []) (hx : kd (β (20 + c) k) = 8) : V K (wp (sR g)) (enM M c k o fu) 36 [(0, .ref (ga g 0)), (1, .int (nI c0)), (2, .int x0)] [] := by
  have hk := OK_k hok
  have hn24 := (hE.tr hIv.1 hc hw).2.1
  have hE0 := OK_ends _ _ _ _ _ hok
  have h1 : EvT o dp dp z (fu + 1) c k 0 (M 21) M (enM M c k o fu) := EvT.start hS
  have hT1 := (hE.fr h1.1).tr hIv.1 hc hw
  rw [EV_8 _ _ _ _ c d k lc fu hfu hx] at hR
  subst hR
  rw [TY_8 _ _ _ _ _ hx] at hty
  obtain ⟨t1, t2, t3⟩ := tn_0 hty
  refine lp_go hI h0 hC hn h1.2.1.1 (by omega) h1.2.1.2.2.1 (m_Mo_goOn_8 (kl K) g hI _ hc ((hE.fr h1.1).tr hIv.1 hc hw) hk h1.2.1.1 (by omega) h1.2.2.1 h1.2.2.2.1 hx h1.2.2.2.2.1 (hE.fr h1.1).1 t1) ?_
  obtain ⟨l1, l2, l3, l4⟩ := (h1.stage 1).leave (enM M c k o fu 11 (dfN β (nmI (β (20 + c) k)))) (fun _ _ => rfl)
  exact good rfl _ l1 (l2.trans ((hE.fr h1.1).2.1 _ (df_def t1).1 t3)) l3 l4
set_option maxHeartbeats 4000000 in
theorem EvN_9 (hI : sI (sR g)) (h0 : C0 K c_Mo_evaluate) (hC : Cx (sR g) K gC_Mo 4) (hn : kn K = 3) {β : Me} {z : Int32} {q d : Nat} (hIv : Iv β) (ih : EvN K g c0 x0 β z q d) (hcl : ∀ q', q = q' + 1 → EvN K g c0 x0 β z q' 6) (M : Me) (c k o dp fu : Nat) (b : Nat → Bool) (lc : Nat → Int32) (hc : c < 10) (hdp : dp + q = 5) (hod : o + (d + 1) + 7 * q ≤ 60) (hE : ECR M β) (hS : EvS o dp z fu M) (hfu : fu < 2000) (hw : wlB β c = true) (hok : OK (β (20 + c)) (lenN β c) (d + 1) b k = true) (heo : EO (β (20 + c)) (edR M c) (d + 1) k) (hty : ¬ TY (β (20 + c)) (tnE β) (fnE β) (d + 1) k = 0) (hlc : ∀ j, j < 6 → b j = true → M 21 (6 * dp + j) = lc j) (R : Rs) (hR : EV (fun d => β (20 + d)) (dfN β) (β 6) (CL (fun d => β (20 + d)) (dfN β) (β 6) q) c (d + 1) k lc fu = R)
  (good : R.1 = 0 → ∀ M', EvQ o dp M M' → M' 0 29 = R.2.1 → M' 0 28 = nI R.2.2 → M' 0 14 = z + nI R.2.2 → V K (wp (sR g)) M' 36 [(0, .ref (ga g 0)), (1, .int (nI c0)), (2, .int x0)] [])
  (bad : ¬ R.1 = 0 → ∀ M', EFr M M' → M' 0 30 = R.1 → M' 0 14 = z + nI R.2.2 → V K (wp (sR g)) M' 57 [(0, .ref (ga g 0)), (1, .int (nI c0)), (2, .int x0)] []) (hx : kd (β (20 + c) k) = 9) : V K (wp (sR g)) (enM M c k o fu) 36 [(0, .ref (ga g 0)), (1, .int (nI c0)), (2, .int x0)] [] := by
  have hk := OK_k hok
  have hn24 := (hE.tr hIv.1 hc hw).2.1
  have hE0 := OK_ends _ _ _ _ _ hok
  have h1 : EvT o dp dp z (fu + 1) c k 0 (M 21) M (enM M c k o fu) := EvT.start hS
  have hT1 := (hE.fr h1.1).tr hIv.1 hc hw
  rw [EV_9 _ _ _ _ c d k lc fu hfu hx] at hR
  subst hR
  rw [OK_9 _ _ _ _ _ hx] at hok
  simp only [Bool.and_eq_true] at hok
  have hl6 := (lc_of hx).1
  refine lp_go hI h0 hC hn h1.2.1.1 (by omega) h1.2.1.2.2.1 (m_Mo_goOn_9 (kl K) g hI _ hc ((hE.fr h1.1).tr hIv.1 hc hw) hk h1.2.1.1 (by omega) h1.2.2.1 h1.2.2.2.1 hx h1.2.2.2.2.1 h1.2.1.2.1 (by omega)) ?_
  obtain ⟨l1, l2, l3, l4⟩ := (h1.stage 1).leave (enM M c k o fu 21 (6 * dp + lcI (β (20 + c) k))) (fun _ _ => rfl)
  exact good rfl _ l1 (l2.trans ((h1.2.2.2.2.2.2 _ (by omega)).trans (hlc _ hl6 hok.2))) l3 l4
set_option maxHeartbeats 4000000 in
theorem EvN_1 (hI : sI (sR g)) (h0 : C0 K c_Mo_evaluate) (hC : Cx (sR g) K gC_Mo 4) (hn : kn K = 3) {β : Me} {z : Int32} {q d : Nat} (hIv : Iv β) (ih : EvN K g c0 x0 β z q d) (hcl : ∀ q', q = q' + 1 → EvN K g c0 x0 β z q' 6) (M : Me) (c k o dp fu : Nat) (b : Nat → Bool) (lc : Nat → Int32) (hc : c < 10) (hdp : dp + q = 5) (hod : o + (d + 1) + 7 * q ≤ 60) (hE : ECR M β) (hS : EvS o dp z fu M) (hfu : fu < 2000) (hw : wlB β c = true) (hok : OK (β (20 + c)) (lenN β c) (d + 1) b k = true) (heo : EO (β (20 + c)) (edR M c) (d + 1) k) (hty : ¬ TY (β (20 + c)) (tnE β) (fnE β) (d + 1) k = 0) (hlc : ∀ j, j < 6 → b j = true → M 21 (6 * dp + j) = lc j) (R : Rs) (hR : EV (fun d => β (20 + d)) (dfN β) (β 6) (CL (fun d => β (20 + d)) (dfN β) (β 6) q) c (d + 1) k lc fu = R)
  (good : R.1 = 0 → ∀ M', EvQ o dp M M' → M' 0 29 = R.2.1 → M' 0 28 = nI R.2.2 → M' 0 14 = z + nI R.2.2 → V K (wp (sR g)) M' 36 [(0, .ref (ga g 0)), (1, .int (nI c0)), (2, .int x0)] [])
  (bad : ¬ R.1 = 0 → ∀ M', EFr M M' → M' 0 30 = R.1 → M' 0 14 = z + nI R.2.2 → V K (wp (sR g)) M' 57 [(0, .ref (ga g 0)), (1, .int (nI c0)), (2, .int x0)] []) (hx : kd (β (20 + c) k) = 1) : V K (wp (sR g)) (enM M c k o fu) 36 [(0, .ref (ga g 0)), (1, .int (nI c0)), (2, .int x0)] [] := by
  have hk := OK_k hok
  have hn24 := (hE.tr hIv.1 hc hw).2.1
  have hE0 := OK_ends _ _ _ _ _ hok
  have h1 : EvT o dp dp z (fu + 1) c k 0 (M 21) M (enM M c k o fu) := EvT.start hS
  have hT1 := (hE.fr h1.1).tr hIv.1 hc hw
  rw [OK_1 _ _ _ _ _ hx] at hok
  simp only [Bool.and_eq_true, decide_eq_true_eq] at hok
  rw [EO_1 _ _ _ _ hx] at heo
  rw [EV_1 _ _ _ _ c d k lc fu hfu hx] at hR
  refine lp_go hI h0 hC hn h1.2.1.1 (by omega) h1.2.1.2.2.1 (m_Mo_goOn_10 (kl K) g hI _ hc ((hE.fr h1.1).tr hIv.1 hc hw) hk h1.2.1.1 (by omega) h1.2.2.1 h1.2.2.2.1 hx h1.2.2.2.2.1 h1.2.1.2.2.2.1 (by omega)) ?_
  have a1 := h1.stage 1
  refine ih _ c (k + 1) (o + 1) dp (fu + 1) b lc hc hdp (by omega) (hE.fr a1.1) a1.2.1 (by omega) hw hok.2 (by unfold edR; rw [a1.1.1 5 (by omega) (by omega)]; exact heo.2) (TY_sub1 hx hty) (fun j hj hb => (a1.2.2.2.2.2.2 _ (by omega)).trans (hlc j hj hb)) _ rfl (fun y1 M2 q2 v2 f2 m2 => ?_) (fun n1 M9 e9 x9 m9 => bad (by rw [← hR, bd_e n1]; exact n1) M9 (a1.1.trans e9) (by rw [x9, ← hR, bd_e n1]) (by rw [m9, ← hR, bd_e n1]))
  obtain ⟨h2, w2⟩ := a1.ret (Nat.le_refl _) q2 f2 m2
  rw [bd_o y1] at hR
  have le1 := EV_le (cl := CL (fun d => β (20 + d)) (dfN β) (β 6) q) (CL_le q) c d (k + 1) lc (fu + 1) (tx := (fun d => β (20 + d))) (df := dfN β) (am := β 6) (by omega)
  generalize EV (fun d => β (20 + d)) (dfN β) (β 6) (CL (fun d => β (20 + d)) (dfN β) (β 6) q) c d (k + 1) lc (fu + 1) = r1 at *
  obtain ⟨r1e, r1v, r1m⟩ := r1
  simp only at hR y1 v2 f2 m2 h2 le1
  subst hR
  refine lp_go hI h0 hC hn h2.2.1.1 (by omega) h2.2.1.2.2.1 (m_Mo_goOn_11 (kl K) g hI M2 hc ((hE.fr h2.1).tr hIv.1 hc hw) hk h2.2.1.1 (by omega) h2.2.2.1 h2.2.2.2.1 hx h2.2.2.2.2.1 ) ?_
  obtain ⟨l1, l2, l3, l4⟩ := (h2.stage 2).leave (1 - M2 0 29) (fun _ _ => rfl)
  exact good rfl _ l1 (l2.trans (by rw [v2])) l3 l4
set_option maxHeartbeats 4000000 in
theorem EvN_2 (hI : sI (sR g)) (h0 : C0 K c_Mo_evaluate) (hC : Cx (sR g) K gC_Mo 4) (hn : kn K = 3) {β : Me} {z : Int32} {q d : Nat} (hIv : Iv β) (ih : EvN K g c0 x0 β z q d) (hcl : ∀ q', q = q' + 1 → EvN K g c0 x0 β z q' 6) (M : Me) (c k o dp fu : Nat) (b : Nat → Bool) (lc : Nat → Int32) (hc : c < 10) (hdp : dp + q = 5) (hod : o + (d + 1) + 7 * q ≤ 60) (hE : ECR M β) (hS : EvS o dp z fu M) (hfu : fu < 2000) (hw : wlB β c = true) (hok : OK (β (20 + c)) (lenN β c) (d + 1) b k = true) (heo : EO (β (20 + c)) (edR M c) (d + 1) k) (hty : ¬ TY (β (20 + c)) (tnE β) (fnE β) (d + 1) k = 0) (hlc : ∀ j, j < 6 → b j = true → M 21 (6 * dp + j) = lc j) (R : Rs) (hR : EV (fun d => β (20 + d)) (dfN β) (β 6) (CL (fun d => β (20 + d)) (dfN β) (β 6) q) c (d + 1) k lc fu = R)
  (good : R.1 = 0 → ∀ M', EvQ o dp M M' → M' 0 29 = R.2.1 → M' 0 28 = nI R.2.2 → M' 0 14 = z + nI R.2.2 → V K (wp (sR g)) M' 36 [(0, .ref (ga g 0)), (1, .int (nI c0)), (2, .int x0)] [])
  (bad : ¬ R.1 = 0 → ∀ M', EFr M M' → M' 0 30 = R.1 → M' 0 14 = z + nI R.2.2 → V K (wp (sR g)) M' 57 [(0, .ref (ga g 0)), (1, .int (nI c0)), (2, .int x0)] []) (hx : kd (β (20 + c) k) = 2) : V K (wp (sR g)) (enM M c k o fu) 36 [(0, .ref (ga g 0)), (1, .int (nI c0)), (2, .int x0)] [] := by
  have hk := OK_k hok
  have hn24 := (hE.tr hIv.1 hc hw).2.1
  have hE0 := OK_ends _ _ _ _ _ hok
  have h1 : EvT o dp dp z (fu + 1) c k 0 (M 21) M (enM M c k o fu) := EvT.start hS
  have hT1 := (hE.fr h1.1).tr hIv.1 hc hw
  rw [OK_2 _ _ _ _ _ hx] at hok
  simp only [Bool.and_eq_true, decide_eq_true_eq] at hok
  rw [EO_2 _ _ _ _ hx] at heo
  obtain ⟨ty1, ty2⟩ := TY_sub2 hx hty
  rw [EV_2 _ _ _ _ c d k lc fu hfu hx] at hR
  refine lp_go hI h0 hC hn h1.2.1.1 (by omega) h1.2.1.2.2.1 (m_Mo_goOn_20 (kl K) g hI _ hc ((hE.fr h1.1).tr hIv.1 hc hw) hk h1.2.1.1 (by omega) h1.2.2.1 h1.2.2.2.1 hx h1.2.2.2.2.1 h1.2.1.2.2.2.1 (by omega)) ?_
  have a1 := h1.stage 1
  refine ih _ c (k + 1) (o + 1) dp (fu + 1) b lc hc hdp (by omega) (hE.fr a1.1) a1.2.1 (by omega) hw hok.2.1 (by unfold edR; rw [a1.1.1 5 (by omega) (by omega)]; exact heo.2.1) ty1 (fun j hj hb => (a1.2.2.2.2.2.2 _ (by omega)).trans (hlc j hj hb)) _ rfl (fun y1 M2 q2 v2 f2 m2 => ?_) (fun n1 M9 e9 x9 m9 => bad (by rw [← hR, bd_e n1]; exact n1) M9 (a1.1.trans e9) (by rw [x9, ← hR, bd_e n1]) (by rw [m9, ← hR, bd_e n1]))
  obtain ⟨h2, w2⟩ := a1.ret (Nat.le_refl _) q2 f2 m2
  rw [bd_o y1] at hR
  have le1 := EV_le (cl := CL (fun d => β (20 + d)) (dfN β) (β 6) q) (CL_le q) c d (k + 1) lc (fu + 1) (tx := (fun d => β (20 + d))) (df := dfN β) (am := β 6) (by omega)
  generalize EV (fun d => β (20 + d)) (dfN β) (β 6) (CL (fun d => β (20 + d)) (dfN β) (β 6) q) c d (k + 1) lc (fu + 1) = r1 at *
  obtain ⟨r1e, r1v, r1m⟩ := r1
  simp only at hR y1 v2 f2 m2 h2 le1
  have e1 := OK_ends _ _ _ _ _ hok.2.1
  have e2 := OK_ends _ _ _ _ _ hok.2.2
  by_cases hz : β (20 + c) k = 38 ∧ r1v = 0
  · rw [if_pos hz] at hR
    subst hR
    refine lp_go hI h0 hC hn h2.2.1.1 (by omega) h2.2.1.2.2.1 (m_Mo_goOn_21z (kl K) g hI M2 hc ((hE.fr h2.1).tr hIv.1 hc hw) hk h2.2.1.1 (by omega) h2.2.2.1 h2.2.2.2.1 hx h2.2.2.2.2.1 hz.1 (v2.trans hz.2)) ?_
    obtain ⟨l1, l2, l3, l4⟩ := (h2.stage 2).leave (M2 0 29) (fun _ _ => rfl)
    exact good rfl _ l1 (l2.trans (v2.trans hz.2)) l3 l4
  rw [if_neg hz] at hR
  refine lp_go hI h0 hC hn h2.2.1.1 (by omega) h2.2.1.2.2.1 (m_Mo_goOn_21 (kl K) g hI M2 hc ((hE.fr h2.1).tr hIv.1 hc hw) hk h2.2.1.1 (by omega) h2.2.2.1 h2.2.2.2.1 hx h2.2.2.2.2.1 h2.2.1.2.2.2.1 (le1) (show M2 5 (24 * c + k + 1) = nI (EN (β (20 + c)) d (k + 1)) from ed_hd hok.2.1 heo.2.1 h2.1) (by omega) (by omega) (fun y => hz ⟨y.1, v2.symm.trans y.2⟩)) ?_
  have a2 := (h2.stage 2).row (i := 20) (j := o) (M2 0 29) (Or.inl ⟨rfl, Nat.le_refl _⟩)
  refine ih _ c (EN (β (20 + c)) d (k + 1)) (o + 1) dp r1m b lc hc hdp (by omega) (hE.fr a2.1) a2.2.1 le1 hw hok.2.2 (by unfold edR; rw [a2.1.1 5 (by omega) (by omega)]; exact heo.2.2) ty2 (fun j hj hb => (a2.2.2.2.2.2.2 _ (by omega)).trans (hlc j hj hb)) _ rfl (fun y2 M3 q3 v3 f3 m3 => ?_) (fun n2 M9 e9 x9 m9 => bad (by rw [← hR, bd_e n2]; exact n2) M9 (a2.1.trans e9) (by rw [x9, ← hR, bd_e n2]) (by rw [m9, ← hR, bd_e n2]))
  obtain ⟨h3, w3⟩ := a2.ret (Nat.le_refl _) q3 f3 m3
  rw [bd_o y2] at hR
  have w4 : M3 20 o = r1v := w3.trans ((up2_s _ _ _ _).trans v2)
  by_cases h38 : β (20 + c) k = 38
  · refine lp_go hI h0 hC hn h3.2.1.1 (by omega) h3.2.1.2.2.1 (m_Mo_goOn_22a (kl K) g hI M3 hc ((hE.fr h3.1).tr hIv.1 hc hw) hk h3.2.1.1 (by omega) h3.2.2.1 h3.2.2.2.1 hx h3.2.2.2.2.1 h38) ?_
    unfold jn at hR; rw [if_pos h38] at hR
    subst hR
    obtain ⟨l1, l2, l3, l4⟩ := (h3.stage 3).leave (M3 0 29) (fun _ _ => rfl)
    exact good rfl _ l1 (l2.trans v3) l3 l4
  · refine lp_go hI h0 hC hn h3.2.1.1 (by omega) h3.2.1.2.2.1 (m_Mo_goOn_22 (kl K) g hI M3 hc ((hE.fr h3.1).tr hIv.1 hc hw) hk h3.2.1.1 (by omega) h3.2.2.1 h3.2.2.2.1 hx h3.2.2.2.2.1 h38) ?_
    generalize EV (fun d => β (20 + d)) (dfN β) (β 6) (CL (fun d => β (20 + d)) (dfN β) (β 6) q) c d (EN (β (20 + c)) d (k + 1)) lc r1m = r2 at *
    obtain ⟨r2e, r2v, r2m⟩ := r2
    simp only at hR y2 v3 f3 m3 h3
    obtain ⟨j1, j2, j3⟩ := jn_n (β (20 + c) k) r1v r2v r2m
    by_cases hj : (jn (β (20 + c) k) (M3 20 o) (M3 0 29) 0).1 = 0
    · rw [if_pos hj]
      obtain ⟨l1, l2, l3, l4⟩ := (h3.stage 3).leave (jn (β (20 + c) k) (M3 20 o) (M3 0 29) 0).2.1 (fun _ _ => rfl)
      subst hR
      rw [w4, v3] at hj
      exact good (j1.trans hj) _ l1 (l2.trans (by rw [w4, v3, j2])) (l3.trans (by rw [j3])) (l4.trans (by rw [j3]))
    · rw [if_neg hj]
      subst hR
      rw [w4, v3] at hj
      have e7 := jn_7 _ _ _ r2m (fun y => hj (j1.symm.trans y))
      refine lp_err hI h0 hC hn (by unfold lvM; rw [up2_n _ _ (by omega), up2_n _ _ (by omega), up2_s]; decide) ?_
      refine bad (by rw [e7]; decide) _ ((((h3.stage 3).1.in0 (by omega) _).in0 (by omega) _).in0 (by omega) _) (by unfold lvM; rw [up2_n _ _ (by omega), up2_n _ _ (by omega), up2_s, e7]; rfl) (by unfold lvM; rw [up2_n _ _ (by omega), up2_n _ _ (by omega), up2_n _ _ (by omega), j3]; exact (h3.stage 3).2.1.2.2.2.2)
set_option maxHeartbeats 4000000 in
theorem EvN_3 (hI : sI (sR g)) (h0 : C0 K c_Mo_evaluate) (hC : Cx (sR g) K gC_Mo 4) (hn : kn K = 3) {β : Me} {z : Int32} {q d : Nat} (hIv : Iv β) (ih : EvN K g c0 x0 β z q d) (hcl : ∀ q', q = q' + 1 → EvN K g c0 x0 β z q' 6) (M : Me) (c k o dp fu : Nat) (b : Nat → Bool) (lc : Nat → Int32) (hc : c < 10) (hdp : dp + q = 5) (hod : o + (d + 1) + 7 * q ≤ 60) (hE : ECR M β) (hS : EvS o dp z fu M) (hfu : fu < 2000) (hw : wlB β c = true) (hok : OK (β (20 + c)) (lenN β c) (d + 1) b k = true) (heo : EO (β (20 + c)) (edR M c) (d + 1) k) (hty : ¬ TY (β (20 + c)) (tnE β) (fnE β) (d + 1) k = 0) (hlc : ∀ j, j < 6 → b j = true → M 21 (6 * dp + j) = lc j) (R : Rs) (hR : EV (fun d => β (20 + d)) (dfN β) (β 6) (CL (fun d => β (20 + d)) (dfN β) (β 6) q) c (d + 1) k lc fu = R)
  (good : R.1 = 0 → ∀ M', EvQ o dp M M' → M' 0 29 = R.2.1 → M' 0 28 = nI R.2.2 → M' 0 14 = z + nI R.2.2 → V K (wp (sR g)) M' 36 [(0, .ref (ga g 0)), (1, .int (nI c0)), (2, .int x0)] [])
  (bad : ¬ R.1 = 0 → ∀ M', EFr M M' → M' 0 30 = R.1 → M' 0 14 = z + nI R.2.2 → V K (wp (sR g)) M' 57 [(0, .ref (ga g 0)), (1, .int (nI c0)), (2, .int x0)] []) (hx : kd (β (20 + c) k) = 3) : V K (wp (sR g)) (enM M c k o fu) 36 [(0, .ref (ga g 0)), (1, .int (nI c0)), (2, .int x0)] [] := by
  have hk := OK_k hok
  have hn24 := (hE.tr hIv.1 hc hw).2.1
  have hE0 := OK_ends _ _ _ _ _ hok
  have h1 : EvT o dp dp z (fu + 1) c k 0 (M 21) M (enM M c k o fu) := EvT.start hS
  have hT1 := (hE.fr h1.1).tr hIv.1 hc hw
  rw [OK_3 _ _ _ _ _ hx] at hok
  simp only [Bool.and_eq_true, decide_eq_true_eq] at hok
  rw [EO_3 _ _ _ _ hx] at heo
  obtain ⟨ty1, ty2, ty3⟩ := TY_sub3 hx hty
  rw [EV_3 _ _ _ _ c d k lc fu hfu hx] at hR
  refine lp_go hI h0 hC hn h1.2.1.1 (by omega) h1.2.1.2.2.1 (m_Mo_goOn_30 (kl K) g hI _ hc ((hE.fr h1.1).tr hIv.1 hc hw) hk h1.2.1.1 (by omega) h1.2.2.1 h1.2.2.2.1 hx h1.2.2.2.2.1 h1.2.1.2.2.2.1 (by omega)) ?_
  have a1 := h1.stage 1
  refine ih _ c (k + 1) (o + 1) dp (fu + 1) b lc hc hdp (by omega) (hE.fr a1.1) a1.2.1 (by omega) hw hok.2.1 (by unfold edR; rw [a1.1.1 5 (by omega) (by omega)]; exact heo.2.1) ty1 (fun j hj hb => (a1.2.2.2.2.2.2 _ (by omega)).trans (hlc j hj hb)) _ rfl (fun y1 M2 q2 v2 f2 m2 => ?_) (fun n1 M9 e9 x9 m9 => bad (by rw [← hR, bd_e n1]; exact n1) M9 (a1.1.trans e9) (by rw [x9, ← hR, bd_e n1]) (by rw [m9, ← hR, bd_e n1]))
  obtain ⟨h2, w2⟩ := a1.ret (Nat.le_refl _) q2 f2 m2
  rw [bd_o y1] at hR
  have le1 := EV_le (cl := CL (fun d => β (20 + d)) (dfN β) (β 6) q) (CL_le q) c d (k + 1) lc (fu + 1) (tx := (fun d => β (20 + d))) (df := dfN β) (am := β 6) (by omega)
  generalize EV (fun d => β (20 + d)) (dfN β) (β 6) (CL (fun d => β (20 + d)) (dfN β) (β 6) q) c d (k + 1) lc (fu + 1) = r1 at *
  obtain ⟨r1e, r1v, r1m⟩ := r1
  simp only at hR y1 v2 f2 m2 h2 le1
  have e1 := OK_ends _ _ _ _ _ hok.2.1
  have e2 := OK_ends _ _ _ _ _ hok.2.2.1
  have e3 := OK_ends _ _ _ _ _ hok.2.2.2
  have a2 := h2.stage 2
  by_cases hz : r1v = 0
  · rw [if_pos hz] at hR
    refine lp_go hI h0 hC hn h2.2.1.1 (by omega) h2.2.1.2.2.1 (m_Mo_goOn_31z (kl K) g hI M2 hc ((hE.fr h2.1).tr hIv.1 hc hw) hk h2.2.1.1 (by omega) h2.2.2.1 h2.2.2.2.1 hx h2.2.2.2.2.1 h2.2.1.2.2.2.1 (le1) (show M2 5 (24 * c + k + 1) = nI (EN (β (20 + c)) d (k + 1)) from ed_hd hok.2.1 heo.2.1 h2.1) (by omega) (by omega) (by omega) (ed_hd hok.2.2.1 heo.2.2.1 h2.1) (v2.trans hz)) ?_
    refine ih _ c (EN (β (20 + c)) d (EN (β (20 + c)) d (k + 1))) (o + 1) dp r1m b lc hc hdp (by omega) (hE.fr a2.1) a2.2.1 le1 hw hok.2.2.2 (by unfold edR; rw [a2.1.1 5 (by omega) (by omega)]; exact heo.2.2.2) ty3 (fun j hj hb => (a2.2.2.2.2.2.2 _ (by omega)).trans (hlc j hj hb)) _ rfl (fun y2 M3 q3 v3 f3 m3 => ?_) (fun n2 M9 e9 x9 m9 => bad (by rw [← hR, bd_e n2]; exact n2) M9 (a2.1.trans e9) (by rw [x9, ← hR, bd_e n2]) (by rw [m9, ← hR, bd_e n2]))
    obtain ⟨h3, w3⟩ := a2.ret (Nat.le_refl _) q3 f3 m3
    rw [bd_o y2] at hR
    refine lp_go hI h0 hC hn h3.2.1.1 (by omega) h3.2.1.2.2.1 (m_Mo_goOn_32 (kl K) g hI M3 hc ((hE.fr h3.1).tr hIv.1 hc hw) hk h3.2.1.1 (by omega) h3.2.2.1 h3.2.2.2.1 hx h3.2.2.2.2.1 ) ?_
    subst hR
    obtain ⟨l1, l2, l3, l4⟩ := (h3.stage 3).leave (M3 0 29) (fun _ _ => rfl)
    exact good rfl _ l1 (l2.trans v3) l3 l4
  · rw [if_neg hz] at hR
    refine lp_go hI h0 hC hn h2.2.1.1 (by omega) h2.2.1.2.2.1 (m_Mo_goOn_31n (kl K) g hI M2 hc ((hE.fr h2.1).tr hIv.1 hc hw) hk h2.2.1.1 (by omega) h2.2.2.1 h2.2.2.2.1 hx h2.2.2.2.2.1 h2.2.1.2.2.2.1 (le1) (show M2 5 (24 * c + k + 1) = nI (EN (β (20 + c)) d (k + 1)) from ed_hd hok.2.1 heo.2.1 h2.1) (by omega) (by omega) (by omega) (ed_hd hok.2.2.1 heo.2.2.1 h2.1) (fun y => hz (v2.symm.trans y))) ?_
    refine ih _ c (EN (β (20 + c)) d (k + 1)) (o + 1) dp r1m b lc hc hdp (by omega) (hE.fr a2.1) a2.2.1 le1 hw hok.2.2.1 (by unfold edR; rw [a2.1.1 5 (by omega) (by omega)]; exact heo.2.2.1) ty2 (fun j hj hb => (a2.2.2.2.2.2.2 _ (by omega)).trans (hlc j hj hb)) _ rfl (fun y2 M3 q3 v3 f3 m3 => ?_) (fun n2 M9 e9 x9 m9 => bad (by rw [← hR, bd_e n2]; exact n2) M9 (a2.1.trans e9) (by rw [x9, ← hR, bd_e n2]) (by rw [m9, ← hR, bd_e n2]))
    obtain ⟨h3, w3⟩ := a2.ret (Nat.le_refl _) q3 f3 m3
    rw [bd_o y2] at hR
    refine lp_go hI h0 hC hn h3.2.1.1 (by omega) h3.2.1.2.2.1 (m_Mo_goOn_32 (kl K) g hI M3 hc ((hE.fr h3.1).tr hIv.1 hc hw) hk h3.2.1.1 (by omega) h3.2.2.1 h3.2.2.2.1 hx h3.2.2.2.2.1 ) ?_
    subst hR
    obtain ⟨l1, l2, l3, l4⟩ := (h3.stage 3).leave (M3 0 29) (fun _ _ => rfl)
    exact good rfl _ l1 (l2.trans v3) l3 l4
set_option maxHeartbeats 4000000 in
theorem EvN_4 (hI : sI (sR g)) (h0 : C0 K c_Mo_evaluate) (hC : Cx (sR g) K gC_Mo 4) (hn : kn K = 3) {β : Me} {z : Int32} {q d : Nat} (hIv : Iv β) (ih : EvN K g c0 x0 β z q d) (hcl : ∀ q', q = q' + 1 → EvN K g c0 x0 β z q' 6) (M : Me) (c k o dp fu : Nat) (b : Nat → Bool) (lc : Nat → Int32) (hc : c < 10) (hdp : dp + q = 5) (hod : o + (d + 1) + 7 * q ≤ 60) (hE : ECR M β) (hS : EvS o dp z fu M) (hfu : fu < 2000) (hw : wlB β c = true) (hok : OK (β (20 + c)) (lenN β c) (d + 1) b k = true) (heo : EO (β (20 + c)) (edR M c) (d + 1) k) (hty : ¬ TY (β (20 + c)) (tnE β) (fnE β) (d + 1) k = 0) (hlc : ∀ j, j < 6 → b j = true → M 21 (6 * dp + j) = lc j) (R : Rs) (hR : EV (fun d => β (20 + d)) (dfN β) (β 6) (CL (fun d => β (20 + d)) (dfN β) (β 6) q) c (d + 1) k lc fu = R)
  (good : R.1 = 0 → ∀ M', EvQ o dp M M' → M' 0 29 = R.2.1 → M' 0 28 = nI R.2.2 → M' 0 14 = z + nI R.2.2 → V K (wp (sR g)) M' 36 [(0, .ref (ga g 0)), (1, .int (nI c0)), (2, .int x0)] [])
  (bad : ¬ R.1 = 0 → ∀ M', EFr M M' → M' 0 30 = R.1 → M' 0 14 = z + nI R.2.2 → V K (wp (sR g)) M' 57 [(0, .ref (ga g 0)), (1, .int (nI c0)), (2, .int x0)] []) (hx : kd (β (20 + c) k) = 4) : V K (wp (sR g)) (enM M c k o fu) 36 [(0, .ref (ga g 0)), (1, .int (nI c0)), (2, .int x0)] [] := by
  have hk := OK_k hok
  have hn24 := (hE.tr hIv.1 hc hw).2.1
  have hE0 := OK_ends _ _ _ _ _ hok
  have h1 : EvT o dp dp z (fu + 1) c k 0 (M 21) M (enM M c k o fu) := EvT.start hS
  have hT1 := (hE.fr h1.1).tr hIv.1 hc hw
  rw [OK_4 _ _ _ _ _ hx] at hok
  simp only [Bool.and_eq_true, decide_eq_true_eq] at hok
  rw [EO_4 _ _ _ _ hx] at heo
  obtain ⟨ty1, ty2⟩ := TY_sub4 hx hty
  have hl6 := (lc_of hok.2.1.2).1
  rw [EV_4 _ _ _ _ c d k lc fu hfu hx] at hR
  refine lp_go hI h0 hC hn h1.2.1.1 (by omega) h1.2.1.2.2.1 (m_Mo_goOn_40 (kl K) g hI _ hc ((hE.fr h1.1).tr hIv.1 hc hw) hk h1.2.1.1 (by omega) h1.2.2.1 h1.2.2.2.1 hx h1.2.2.2.2.1 h1.2.1.2.2.2.1 (by omega)) ?_
  have a1 := h1.stage 1
  refine ih _ c (k + 2) (o + 1) dp (fu + 1) b lc hc hdp (by omega) (hE.fr a1.1) a1.2.1 (by omega) hw hok.2.2.1 (by unfold edR; rw [a1.1.1 5 (by omega) (by omega)]; exact heo.2.1) ty1 (fun j hj hb => (a1.2.2.2.2.2.2 _ (by omega)).trans (hlc j hj hb)) _ rfl (fun y1 M2 q2 v2 f2 m2 => ?_) (fun n1 M9 e9 x9 m9 => bad (by rw [← hR, bd_e n1]; exact n1) M9 (a1.1.trans e9) (by rw [x9, ← hR, bd_e n1]) (by rw [m9, ← hR, bd_e n1]))
  obtain ⟨h2, w2⟩ := a1.ret (Nat.le_refl _) q2 f2 m2
  rw [bd_o y1] at hR
  have le1 := EV_le (cl := CL (fun d => β (20 + d)) (dfN β) (β 6) q) (CL_le q) c d (k + 2) lc (fu + 1) (tx := (fun d => β (20 + d))) (df := dfN β) (am := β 6) (by omega)
  generalize EV (fun d => β (20 + d)) (dfN β) (β 6) (CL (fun d => β (20 + d)) (dfN β) (β 6) q) c d (k + 2) lc (fu + 1) = r1 at *
  obtain ⟨r1e, r1v, r1m⟩ := r1
  simp only at hR y1 v2 f2 m2 h2 le1
  have e1 := OK_ends _ _ _ _ _ hok.2.2.1
  have e2 := OK_ends _ _ _ _ _ hok.2.2.2
  refine lp_go hI h0 hC hn h2.2.1.1 (by omega) h2.2.1.2.2.1 (m_Mo_goOn_41 (kl K) g hI M2 hc ((hE.fr h2.1).tr hIv.1 hc hw) hk h2.2.1.1 (by omega) h2.2.2.1 h2.2.2.2.1 hx h2.2.2.2.2.1 hok.2.1.1 hok.2.1.2 h2.2.1.2.1 (by omega) h2.2.1.2.2.2.1 (le1) (show M2 5 (24 * c + k + 2) = nI (EN (β (20 + c)) d (k + 2)) from ed_hd hok.2.2.1 heo.2.1 h2.1) (by omega)) ?_
  have a2 := ((h2.stage 2).row (i := 20) (j := o) (M2 21 (6 * dp + lcI (β (20 + c) (k + 1)))) (Or.inl ⟨rfl, Nat.le_refl _⟩)).bind (6 * dp + lcI (β (20 + c) (k + 1))) (M2 0 29)
  refine ih _ c (EN (β (20 + c)) d (k + 2)) (o + 1) dp r1m (bSet b (lcI (β (20 + c) (k + 1)))) (upd lc (lcI (β (20 + c) (k + 1))) r1v) hc hdp (by omega) (hE.fr a2.1) a2.2.1 le1 hw hok.2.2.2 (by unfold edR; rw [a2.1.1 5 (by omega) (by omega)]; exact heo.2.2) ty2 (fun j hj hb => by rw [a2.2.2.2.2.2.2 _ (by omega)]; unfold upd; by_cases y : j = lcI (β (20 + c) (k + 1)); rw [if_pos y, if_pos (by rw [y])]; exact v2; rw [if_neg y, if_neg (by omega)]; exact hlc j hj (by unfold bSet at hb; rw [Bool.or_eq_true] at hb; exact hb.resolve_left (fun w => y (of_decide_eq_true w)))) _ rfl (fun y2 M3 q3 v3 f3 m3 => ?_) (fun n2 M9 e9 x9 m9 => bad (by rw [← hR, bd_e n2]; exact n2) M9 (a2.1.trans e9) (by rw [x9, ← hR, bd_e n2]) (by rw [m9, ← hR, bd_e n2]))
  obtain ⟨h3, w3⟩ := a2.ret (Nat.le_refl _) q3 f3 m3
  rw [bd_o y2] at hR
  have w4 : M3 20 o = M 21 (6 * dp + lcI (β (20 + c) (k + 1))) := w3.trans ((up2_n _ _ (by omega)).trans ((up2_s _ _ _ _).trans (h2.2.2.2.2.2.2 _ (by omega))))
  refine lp_go hI h0 hC hn h3.2.1.1 (by omega) h3.2.1.2.2.1 (m_Mo_goOn_42 (kl K) g hI M3 hc ((hE.fr h3.1).tr hIv.1 hc hw) hk h3.2.1.1 (by omega) h3.2.2.1 h3.2.2.2.1 hx h3.2.2.2.2.1 hok.2.1.1 hok.2.1.2 h3.2.1.2.1 (by omega)) ?_
  subst hR
  have hlr : ∀ l, l < 6 * dp + 6 → upd (upd (M 21) (6 * dp + lcI (β (20 + c) (k + 1))) (M2 0 29)) (6 * dp + lcI (β (20 + c) (k + 1))) (M3 20 o) l = M 21 l := by
    intro l hl
    unfold upd
    by_cases y : l = (6 * dp + lcI (β (20 + c) (k + 1)))
    · rw [if_pos y, y, w4]
    · rw [if_neg y, if_neg y]
  obtain ⟨l1, l2, l3, l4⟩ := ((h3.stage 3).bind (6 * dp + lcI (β (20 + c) (k + 1))) (M3 20 o)).leave (M3 0 29) hlr
  exact good rfl _ l1 (l2.trans v3) l3 l4
set_option maxHeartbeats 4000000 in
theorem EvN_6 (hI : sI (sR g)) (h0 : C0 K c_Mo_evaluate) (hC : Cx (sR g) K gC_Mo 4) (hn : kn K = 3) {β : Me} {z : Int32} {q d : Nat} (hIv : Iv β) (ih : EvN K g c0 x0 β z q d) (hcl : ∀ q', q = q' + 1 → EvN K g c0 x0 β z q' 6) (M : Me) (c k o dp fu : Nat) (b : Nat → Bool) (lc : Nat → Int32) (hc : c < 10) (hdp : dp + q = 5) (hod : o + (d + 1) + 7 * q ≤ 60) (hE : ECR M β) (hS : EvS o dp z fu M) (hfu : fu < 2000) (hw : wlB β c = true) (hok : OK (β (20 + c)) (lenN β c) (d + 1) b k = true) (heo : EO (β (20 + c)) (edR M c) (d + 1) k) (hty : ¬ TY (β (20 + c)) (tnE β) (fnE β) (d + 1) k = 0) (hlc : ∀ j, j < 6 → b j = true → M 21 (6 * dp + j) = lc j) (R : Rs) (hR : EV (fun d => β (20 + d)) (dfN β) (β 6) (CL (fun d => β (20 + d)) (dfN β) (β 6) q) c (d + 1) k lc fu = R)
  (good : R.1 = 0 → ∀ M', EvQ o dp M M' → M' 0 29 = R.2.1 → M' 0 28 = nI R.2.2 → M' 0 14 = z + nI R.2.2 → V K (wp (sR g)) M' 36 [(0, .ref (ga g 0)), (1, .int (nI c0)), (2, .int x0)] [])
  (bad : ¬ R.1 = 0 → ∀ M', EFr M M' → M' 0 30 = R.1 → M' 0 14 = z + nI R.2.2 → V K (wp (sR g)) M' 57 [(0, .ref (ga g 0)), (1, .int (nI c0)), (2, .int x0)] []) (hx : kd (β (20 + c) k) = 6) : V K (wp (sR g)) (enM M c k o fu) 36 [(0, .ref (ga g 0)), (1, .int (nI c0)), (2, .int x0)] [] := by
  have hk := OK_k hok
  have hn24 := (hE.tr hIv.1 hc hw).2.1
  have hE0 := OK_ends _ _ _ _ _ hok
  have h1 : EvT o dp dp z (fu + 1) c k 0 (M 21) M (enM M c k o fu) := EvT.start hS
  have hT1 := (hE.fr h1.1).tr hIv.1 hc hw
  rw [OK_6 _ _ _ _ _ hx] at hok
  simp only [Bool.and_eq_true, decide_eq_true_eq] at hok
  rw [EO_6 _ _ _ _ hx] at heo
  obtain ⟨ty1, ty2, ty3⟩ := TY_sub6 hx hty
  rw [EV_6 _ _ _ _ c d k lc fu hfu hx] at hR
  refine lp_go hI h0 hC hn h1.2.1.1 (by omega) h1.2.1.2.2.1 (m_Mo_goOn_60 (kl K) g hI _ hc ((hE.fr h1.1).tr hIv.1 hc hw) hk h1.2.1.1 (by omega) h1.2.2.1 h1.2.2.2.1 hx h1.2.2.2.2.1 h1.2.1.2.2.2.1 (by omega)) ?_
  have a1 := h1.stage 1
  refine ih _ c (k + 1) (o + 1) dp (fu + 1) b lc hc hdp (by omega) (hE.fr a1.1) a1.2.1 (by omega) hw hok.2.1 (by unfold edR; rw [a1.1.1 5 (by omega) (by omega)]; exact heo.2.1) ty1 (fun j hj hb => (a1.2.2.2.2.2.2 _ (by omega)).trans (hlc j hj hb)) _ rfl (fun y1 M2 q2 v2 f2 m2 => ?_) (fun n1 M9 e9 x9 m9 => bad (by rw [← hR, bd_e n1]; exact n1) M9 (a1.1.trans e9) (by rw [x9, ← hR, bd_e n1]) (by rw [m9, ← hR, bd_e n1]))
  obtain ⟨h2, w2⟩ := a1.ret (Nat.le_refl _) q2 f2 m2
  rw [bd_o y1] at hR
  have le1 := EV_le (cl := CL (fun d => β (20 + d)) (dfN β) (β 6) q) (CL_le q) c d (k + 1) lc (fu + 1) (tx := (fun d => β (20 + d))) (df := dfN β) (am := β 6) (by omega)
  generalize EV (fun d => β (20 + d)) (dfN β) (β 6) (CL (fun d => β (20 + d)) (dfN β) (β 6) q) c d (k + 1) lc (fu + 1) = r1 at *
  obtain ⟨r1e, r1v, r1m⟩ := r1
  simp only at hR y1 v2 f2 m2 h2 le1
  have e1 := OK_ends _ _ _ _ _ hok.2.1
  have e2 := OK_ends _ _ _ _ _ hok.2.2.2.1
  have e3 := OK_ends _ _ _ _ _ hok.2.2.2.2.2
  have a2 := h2.stage 2
  by_cases hv : r1v = β (20 + c) (EN (β (20 + c)) d (k + 1)) - 48
  · rw [if_pos hv] at hR
    refine lp_go hI h0 hC hn h2.2.1.1 (by omega) h2.2.1.2.2.1 (m_Mo_goOn_61a (kl K) g hI M2 hc ((hE.fr h2.1).tr hIv.1 hc hw) hk h2.2.1.1 (by omega) h2.2.2.1 h2.2.2.2.1 hx h2.2.2.2.2.1 h2.2.1.2.2.2.1 (le1) (show M2 5 (24 * c + k + 1) = nI (EN (β (20 + c)) d (k + 1)) from ed_hd hok.2.1 heo.2.1 h2.1) (by omega) (by omega) hok.2.2.1.1 (show M2 5 (24 * c + (EN (β (20 + c)) d (k + 1)) + 1) = nI (EN (β (20 + c)) d (EN (β (20 + c)) d (k + 1) + 1)) from ed_hd hok.2.2.2.1 heo.2.2.1 h2.1) hok.2.2.2.2.1.1 (by omega) (v2.trans hv)) ?_
    refine ih _ c (EN (β (20 + c)) d (k + 1) + 1) (o + 1) dp r1m b lc hc hdp (by omega) (hE.fr a2.1) a2.2.1 le1 hw hok.2.2.2.1 (by unfold edR; rw [a2.1.1 5 (by omega) (by omega)]; exact heo.2.2.1) ty2 (fun j hj hb => (a2.2.2.2.2.2.2 _ (by omega)).trans (hlc j hj hb)) _ rfl (fun y2 M3 q3 v3 f3 m3 => ?_) (fun n2 M9 e9 x9 m9 => bad (by rw [← hR, bd_e n2]; exact n2) M9 (a2.1.trans e9) (by rw [x9, ← hR, bd_e n2]) (by rw [m9, ← hR, bd_e n2]))
    obtain ⟨h3, w3⟩ := a2.ret (Nat.le_refl _) q3 f3 m3
    rw [bd_o y2] at hR
    refine lp_go hI h0 hC hn h3.2.1.1 (by omega) h3.2.1.2.2.1 (m_Mo_goOn_62 (kl K) g hI M3 hc ((hE.fr h3.1).tr hIv.1 hc hw) hk h3.2.1.1 (by omega) h3.2.2.1 h3.2.2.2.1 hx h3.2.2.2.2.1 ) ?_
    subst hR
    obtain ⟨l1, l2, l3, l4⟩ := (h3.stage 3).leave (M3 0 29) (fun _ _ => rfl)
    exact good rfl _ l1 (l2.trans v3) l3 l4
  rw [if_neg hv] at hR
  by_cases hu : r1v = β (20 + c) (EN (β (20 + c)) d (EN (β (20 + c)) d (k + 1) + 1)) - 48
  · rw [if_pos hu] at hR
    refine lp_go hI h0 hC hn h2.2.1.1 (by omega) h2.2.1.2.2.1 (m_Mo_goOn_61b (kl K) g hI M2 hc ((hE.fr h2.1).tr hIv.1 hc hw) hk h2.2.1.1 (by omega) h2.2.2.1 h2.2.2.2.1 hx h2.2.2.2.2.1 h2.2.1.2.2.2.1 (le1) (show M2 5 (24 * c + k + 1) = nI (EN (β (20 + c)) d (k + 1)) from ed_hd hok.2.1 heo.2.1 h2.1) (by omega) (by omega) hok.2.2.1.1 (show M2 5 (24 * c + (EN (β (20 + c)) d (k + 1)) + 1) = nI (EN (β (20 + c)) d (EN (β (20 + c)) d (k + 1) + 1)) from ed_hd hok.2.2.2.1 heo.2.2.1 h2.1) hok.2.2.2.2.1.1 (by omega) (fun y => hv (v2.symm.trans y)) (v2.trans hu)) ?_
    refine ih _ c (EN (β (20 + c)) d (EN (β (20 + c)) d (k + 1) + 1) + 1) (o + 1) dp r1m b lc hc hdp (by omega) (hE.fr a2.1) a2.2.1 le1 hw hok.2.2.2.2.2 (by unfold edR; rw [a2.1.1 5 (by omega) (by omega)]; exact heo.2.2.2) ty3 (fun j hj hb => (a2.2.2.2.2.2.2 _ (by omega)).trans (hlc j hj hb)) _ rfl (fun y2 M3 q3 v3 f3 m3 => ?_) (fun n2 M9 e9 x9 m9 => bad (by rw [← hR, bd_e n2]; exact n2) M9 (a2.1.trans e9) (by rw [x9, ← hR, bd_e n2]) (by rw [m9, ← hR, bd_e n2]))
    obtain ⟨h3, w3⟩ := a2.ret (Nat.le_refl _) q3 f3 m3
    rw [bd_o y2] at hR
    refine lp_go hI h0 hC hn h3.2.1.1 (by omega) h3.2.1.2.2.1 (m_Mo_goOn_62 (kl K) g hI M3 hc ((hE.fr h3.1).tr hIv.1 hc hw) hk h3.2.1.1 (by omega) h3.2.2.1 h3.2.2.2.1 hx h3.2.2.2.2.1 ) ?_
    subst hR
    obtain ⟨l1, l2, l3, l4⟩ := (h3.stage 3).leave (M3 0 29) (fun _ _ => rfl)
    exact good rfl _ l1 (l2.trans v3) l3 l4
  rw [if_neg hu] at hR
  subst hR
  refine lp_go hI h0 hC hn h2.2.1.1 (by omega) h2.2.1.2.2.1 (m_Mo_goOn_61c (kl K) g hI M2 hc ((hE.fr h2.1).tr hIv.1 hc hw) hk h2.2.1.1 (by omega) h2.2.2.1 h2.2.2.2.1 hx h2.2.2.2.2.1 h2.2.1.2.2.2.1 (le1) (show M2 5 (24 * c + k + 1) = nI (EN (β (20 + c)) d (k + 1)) from ed_hd hok.2.1 heo.2.1 h2.1) (by omega) (by omega) hok.2.2.1.1 (show M2 5 (24 * c + (EN (β (20 + c)) d (k + 1)) + 1) = nI (EN (β (20 + c)) d (EN (β (20 + c)) d (k + 1) + 1)) from ed_hd hok.2.2.2.1 heo.2.2.1 h2.1) hok.2.2.2.2.1.1 (by omega) (fun y => hv (v2.symm.trans y)) (fun y => hu (v2.symm.trans y))) ?_
  refine lp_err hI h0 hC hn (by rw [up2_s]; decide) ?_
  exact bad (by show ¬ (8 : Int32) = 0; decide) _ ((h2.stage 2).1.in0 (by omega) _) (up2_s _ _ _ _) ((up2_n _ _ (by omega)).trans (h2.stage 2).2.1.2.2.2.2)
end EVL
