section EVM
variable {K : Cf} {g : Gd} {c0 : Nat} {x0 : Int32}
set_option maxHeartbeats 4000000 in
theorem EvN_5 (hI : sI (sR g)) (h0 : C0 K c_Mo_evaluate) (hC : Cx (sR g) K gC_Mo 4) (hn : kn K = 3) {β : Me} {z : Int32} {q d : Nat} (hIv : Iv β) (ih : EvN K g c0 x0 β z q d) (hcl : ∀ q', q = q' + 1 → EvN K g c0 x0 β z q' 6) (M : Me) (c k o dp fu : Nat) (b : Nat → Bool) (lc : Nat → Int32) (hc : c < 10) (hdp : dp + q = 5) (hod : o + (d + 1) + 7 * q ≤ 60) (hE : ECR M β) (hS : EvS o dp z fu M) (hfu : fu < 2000) (hw : wlB β c = true) (hok : OK (β (20 + c)) (lenN β c) (d + 1) b k = true) (heo : EO (β (20 + c)) (edR M c) (d + 1) k) (hty : ¬ TY (β (20 + c)) (tnE β) (fnE β) (d + 1) k = 0) (hlc : ∀ j, j < 6 → b j = true → M 21 (6 * dp + j) = lc j) (R : Rs) (hR : EV (fun d => β (20 + d)) (dfN β) (β 6) (CL (fun d => β (20 + d)) (dfN β) (β 6) q) c (d + 1) k lc fu = R)
  (good : R.1 = 0 → ∀ M', EvQ o dp M M' → M' 0 29 = R.2.1 → M' 0 28 = nI R.2.2 → M' 0 14 = z + nI R.2.2 → V K (wp (sR g)) M' 36 [(0, .ref (ga g 0)), (1, .int (nI c0)), (2, .int x0)] [])
  (bad : ¬ R.1 = 0 → ∀ M', EFr M M' → M' 0 30 = R.1 → M' 0 14 = z + nI R.2.2 → V K (wp (sR g)) M' 57 [(0, .ref (ga g 0)), (1, .int (nI c0)), (2, .int x0)] []) (hx : kd (β (20 + c) k) = 5) : V K (wp (sR g)) (enM M c k o fu) 36 [(0, .ref (ga g 0)), (1, .int (nI c0)), (2, .int x0)] [] := by
  have hk := OK_k hok
  have hn24 := (hE.tr hIv.1 hc hw).2.1
  have hE0 := OK_ends _ _ _ _ _ hok
  have h1 : EvT o dp dp z (fu + 1) c k 0 (M 21) M (enM M c k o fu) := EvT.start hS
  have hT1 := (hE.fr h1.1).tr hIv.1 hc hw
  rw [OK_5 _ _ _ _ _ hx] at hok
  simp only [Bool.and_eq_true, decide_eq_true_eq] at hok
  rw [EO_5 _ _ _ _ hx] at heo
  obtain ⟨ty1, ty2⟩ := TY_sub5 hx hty
  rw [EV_5 _ _ _ _ c d k lc fu hfu hx] at hR
  refine lp_go hI h0 hC hn h1.2.1.1 (by omega) h1.2.1.2.2.1 (m_Mo_goOn_50 (kl K) g hI _ hc ((hE.fr h1.1).tr hIv.1 hc hw) hk h1.2.1.1 (by omega) h1.2.2.1 h1.2.2.2.1 hx h1.2.2.2.2.1 h1.2.1.2.2.2.1 (by omega)) ?_
  have a1 := h1.stage 1
  refine ih _ c (k + 2) (o + 1) dp (fu + 1) b lc hc hdp (by omega) (hE.fr a1.1) a1.2.1 (by omega) hw hok.2.2 (by unfold edR; rw [a1.1.1 5 (by omega) (by omega)]; exact heo.2) ty1 (fun j hj hb => (a1.2.2.2.2.2.2 _ (by omega)).trans (hlc j hj hb)) _ rfl (fun y1 M2 q2 v2 f2 m2 => ?_) (fun n1 M9 e9 x9 m9 => bad (by rw [← hR, bd_e n1]; exact n1) M9 (a1.1.trans e9) (by rw [x9, ← hR, bd_e n1]) (by rw [m9, ← hR, bd_e n1]))
  obtain ⟨h2, w2⟩ := a1.ret (Nat.le_refl _) q2 f2 m2
  rw [bd_o y1] at hR
  have le1 := EV_le (cl := CL (fun d => β (20 + d)) (dfN β) (β 6) q) (CL_le q) c d (k + 2) lc (fu + 1) (tx := (fun d => β (20 + d))) (df := dfN β) (am := β 6) (by omega)
  generalize EV (fun d => β (20 + d)) (dfN β) (β 6) (CL (fun d => β (20 + d)) (dfN β) (β 6) q) c d (k + 2) lc (fu + 1) = r1 at *
  obtain ⟨r1e, r1v, r1m⟩ := r1
  simp only at hR y1 v2 f2 m2 h2 le1
  cases q with
  | zero =>
    have e5 : dp = 5 := by omega
    have ee : bd (CL (fun d => β (20 + d)) (dfN β) (β 6) 0 (dfN β (nmI (β (20 + c) (k + 1)))) r1v r1m) (fun w m' => (0, w, m')) = (9, 0, r1m) := bd_e (r := (9, 0, r1m)) (by show ¬ (9 : Int32) = 0; decide)
    rw [ee] at hR
    subst hR
    refine lp_go hI h0 hC hn h2.2.1.1 (by omega) h2.2.1.2.2.1 (m_Mo_goOn_51x (kl K) g hI M2 hc ((hE.fr h2.1).tr hIv.1 hc hw) hk h2.2.1.1 (by omega) h2.2.2.1 h2.2.2.2.1 hx h2.2.2.2.2.1 (by rw [h2.2.1.2.1, e5])) ?_
    refine lp_err hI h0 hC hn (by rw [up2_s]; decide) ?_
    exact bad (by show ¬ (9 : Int32) = 0; decide) _ ((h2.stage 2).1.in0 (by omega) _) (up2_s _ _ _ _) ((up2_n _ _ (by omega)).trans (h2.stage 2).2.1.2.2.2.2)
  | succ q' =>
    obtain ⟨f1, f2, f3, f4, f5, f6, f7, f8⟩ := fn_0 hIv ty2
    have hT2 := (hE.fr h2.1).tr hIv.1 f2 f3
    refine lp_go hI h0 hC hn h2.2.1.1 (by omega) h2.2.1.2.2.1 (m_Mo_goOn_51 (kl K) g hI M2 hc ((hE.fr h2.1).tr hIv.1 hc hw) hk h2.2.1.1 (by omega) h2.2.2.1 h2.2.2.2.1 hx h2.2.2.2.2.1 (hE.fr h2.1).1 hok.2.1.1 hok.2.1.2 f1 hT2 f5 f6 h2.2.1.2.1 (by omega) h2.2.1.2.2.2.1 (le1)) ?_
    generalize hD : dfN β (nmI (β (20 + c) (k + 1))) = D at f2 f3 f4 f5 f6 f7 f8 hT2 hR ⊢
    have hl6 := (lc_of f6).1
    have a2 := ((h2.stage 2).deep (dp + 1)).row (i := 21) (j := 6 * (dp + 1) + lcI (β (20 + D) 1)) (M2 0 29) (Or.inr ⟨rfl, by omega⟩)
    have hlc2 : ∀ j, j < 6 → decide (j = lcI (β (20 + D) 1)) = true → up2 (up2 (up2 M2 19 o (nI 2)) 0 27 (nI (dp + 1))) 21 (6 * (dp + 1) + lcI (β (20 + D) 1)) (M2 0 29) 21 (6 * (dp + 1) + j) = (if j = lcI (β (20 + D) 1) then r1v else 0) := by
      intro j hj hb
      have hj2 := of_decide_eq_true hb
      rw [if_pos hj2, hj2, up2_s]; exact v2
    generalize hMx : up2 (up2 (up2 M2 19 o (nI 2)) 0 27 (nI (dp + 1))) 21 (6 * (dp + 1) + lcI (β (20 + D) 1)) (M2 0 29) = Mx at a2 hlc2 ⊢
    have heo2 : EO (β (20 + D)) (edR Mx D) 6 2 := by
      have e := (hE.fr a2.1).2.2 _ f2 f3
      rw [f4] at e
      exact e
    have hty2 : ¬ TY (β (20 + D)) (tnE β) (fnE β) 6 2 = 0 := by rw [f8]; decide
    rw [show CL (fun d => β (20 + d)) (dfN β) (β 6) (q' + 1) D r1v r1m = EV (fun d => β (20 + d)) (dfN β) (β 6) (CL (fun d => β (20 + d)) (dfN β) (β 6) q') D 6 2 (fun j => if j = lcI (β (20 + D) 1) then r1v else 0) r1m from rfl] at hR
    refine hcl q' rfl Mx D 2 (o + 1) (dp + 1) r1m (fun i => decide (i = lcI (β (20 + D) 1))) (fun j => if j = lcI (β (20 + D) 1) then r1v else 0) f2 (by omega) (by omega) (hE.fr a2.1) a2.2.1 le1 f3 f7 heo2 hty2 hlc2 _ rfl (fun y2 M3 q3 v3 f3 m3 => ?_) (fun n2 M9 e9 x9 m9 => bad (by rw [← hR, bd_e n2]; exact n2) M9 (a2.1.trans e9) (by rw [x9, ← hR, bd_e n2]) (by rw [m9, ← hR, bd_e n2]))
    obtain ⟨h3, w3⟩ := a2.ret (Nat.le_succ _) q3 f3 m3
    rw [bd_o y2] at hR
    refine lp_go hI h0 hC hn h3.2.1.1 (by omega) h3.2.1.2.2.1 (m_Mo_goOn_52 (kl K) g hI M3 hc ((hE.fr h3.1).tr hIv.1 hc hw) hk h3.2.1.1 (by omega) h3.2.2.1 h3.2.2.2.1 hx h3.2.2.2.2.1 h3.2.1.2.1) ?_
    subst hR
    obtain ⟨l1, l2, l3, l4⟩ := ((h3.stage 3).deep dp).leave (M3 0 29) (fun _ _ => rfl)
    exact good rfl _ l1 (l2.trans v3) l3 l4
theorem EvN_d (hI : sI (sR g)) (h0 : C0 K c_Mo_evaluate) (hC : Cx (sR g) K gC_Mo 4) (hn : kn K = 3) {β : Me} {z : Int32} {q : Nat} (hIv : Iv β) (hcl : ∀ q', q = q' + 1 → EvN K g c0 x0 β z q' 6) : ∀ d, EvN K g c0 x0 β z q d := by
  intro d
  induction d with
  | zero => intro M c k o dp fu b lc hc hdp hod hE hS hfu hw hok; simp [OK] at hok
  | succ d ih =>
    intro M c k o dp fu b lc hc hdp hod hE hS hfu hw hok heo hty hlc R hR good bad
    by_cases hf : fu = 2000
    · unfold enF
      rw [if_pos hf]
      rw [EV_f _ _ _ _ c d k lc fu (by omega)] at hR
      subst hR
      refine lp_err hI h0 hC hn (by rw [up2_s]; decide) ?_
      exact bad (by show ¬ (10 : Int32) = 0; decide) _ ((EFr.refl M).in0 (by omega) _) (up2_s _ _ _ _) ((up2_n _ _ (by omega)).trans hS.2.2.2.2)
    · unfold enF
      rw [if_neg hf]
      rcases OK_kd hok with x | x | x | x | x | x | x | x | x
      · exact EvN_2 hI h0 hC hn hIv ih hcl M c k o dp fu b lc hc hdp hod hE hS (by omega) hw hok heo hty hlc R hR good bad x
      · exact EvN_1 hI h0 hC hn hIv ih hcl M c k o dp fu b lc hc hdp hod hE hS (by omega) hw hok heo hty hlc R hR good bad x
      · exact EvN_3 hI h0 hC hn hIv ih hcl M c k o dp fu b lc hc hdp hod hE hS (by omega) hw hok heo hty hlc R hR good bad x
      · exact EvN_4 hI h0 hC hn hIv ih hcl M c k o dp fu b lc hc hdp hod hE hS (by omega) hw hok heo hty hlc R hR good bad x
      · exact EvN_5 hI h0 hC hn hIv ih hcl M c k o dp fu b lc hc hdp hod hE hS (by omega) hw hok heo hty hlc R hR good bad x
      · exact EvN_6 hI h0 hC hn hIv ih hcl M c k o dp fu b lc hc hdp hod hE hS (by omega) hw hok heo hty hlc R hR good bad x
      · exact EvN_7 hI h0 hC hn hIv ih hcl M c k o dp fu b lc hc hdp hod hE hS (by omega) hw hok heo hty hlc R hR good bad x
      · exact EvN_8 hI h0 hC hn hIv ih hcl M c k o dp fu b lc hc hdp hod hE hS (by omega) hw hok heo hty hlc R hR good bad x
      · exact EvN_9 hI h0 hC hn hIv ih hcl M c k o dp fu b lc hc hdp hod hE hS (by omega) hw hok heo hty hlc R hR good bad x
theorem EvN_all (hI : sI (sR g)) (h0 : C0 K c_Mo_evaluate) (hC : Cx (sR g) K gC_Mo 4) (hn : kn K = 3) {β : Me} {z : Int32} (hIv : Iv β) : ∀ q d, EvN K g c0 x0 β z q d := by
  intro q
  induction q with
  | zero => exact EvN_d hI h0 hC hn hIv (fun q' h => by omega)
  | succ q ih => exact EvN_d hI h0 hC hn hIv (fun q' h => by obtain rfl : q = q' := (by omega); exact ih 6)
end EVM
