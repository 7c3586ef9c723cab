/-! THE LAW FROM ITS ENTRY -/
theorem K5 {s : State} {c0 c1 c2 c3 c4 : ClassId} {i0 i1 i2 i3 i4 : Nat → Nat} (k0 : u_Kn s gC_B gT_B 6 c0 i0) (k1 : u_Kn s gC_Ce gT_Ce 8 c1 i1) (k2 : u_Kn s gC_Te gT_Te 6 c2 i2) (k3 : u_Kn s gC_Fr gT_Fr 3 c3 i3) (k4 : u_Kn s gC_Ev gT_Ev 5 c4 i4) : ∃ D : va_G, va_K D clB [] s := by
  refine ⟨(fun c => [c0, c1, c2, c3, c4].getD c c0, fun c => [i0, i1, i2, i3, i4].getD c i0), fun c q hq => ?_, fun k q hk => by simp at hk⟩
  have hc : c < 5 := (List.getElem?_eq_some_iff.mp hq).1
  have h9 : c = 0 ∨ c = 1 ∨ c = 2 ∨ c = 3 ∨ c = 4 := by omega
  rcases h9 with rfl | rfl | rfl | rfl | rfl
  · have e : (gC_B, gT_B, 6) = q := Option.some.inj hq
    subst e; exact k0
  · have e : (gC_Ce, gT_Ce, 8) = q := Option.some.inj hq
    subst e; exact k1
  · have e : (gC_Te, gT_Te, 6) = q := Option.some.inj hq
    subst e; exact k2
  · have e : (gC_Fr, gT_Fr, 3) = q := Option.some.inj hq
    subst e; exact k3
  · have e : (gC_Ev, gT_Ev, 5) = q := Option.some.inj hq
    subst e; exact k4
theorem K1 {s : State} {c0 : ClassId} {i0 : Nat → Nat} (k0 : u_Kn s gC_Mo gT_Mo 31 c0 i0) : ∃ D : va_G, va_K D clR [] s := by
  refine ⟨(fun _ => c0, fun _ => i0), fun c q hq => ?_, fun k q hk => by simp at hk⟩
  have hc : c < 1 := (List.getElem?_eq_some_iff.mp hq).1
  have h9 : c = 0 := by omega
  subst h9
  have e : (gC_Mo, gT_Mo, 31) = q := Option.some.inj hq
  subst e; exact k0
theorem wl_sI {S : Sd} {M : Me} {A : Nat → Prop} (h : va_D A (wl S M)) : sI S ∧ ∀ i, i < sN S → A (sa S i) := ⟨fun i j hi hj e => h.1 i j _ _ (wl_at S M hi) (wl_at S M hj) e, fun i hi => h.2 i _ (wl_at S M hi)⟩
set_option maxHeartbeats 4000000 in
set_option maxRecDepth 20000 in
theorem whole_start {p : Program} {e : Env} {s : State} {m : MethodId} {below : List Frame} {meth : Method} {c : Code} (l : Launch) {b L : Nat} {xs : Nat → Int32} (hL : L ≤ 2048) (hAt : lw_At p s m meth c b L xs) : W p l e room_1 s m #[Value.ref b] below meth c s.heap [] 0 0 (lw_Z below #[Value.ref b] s) (entryFrame m ([Value.ref b] : List Value).toArray 4) := by
  obtain ⟨hx, hb, hr, hml, hown, hts, hX, hbl, hlocks, -⟩ := hAt
  have htw : ∀ w ∈ wG, w.before #[Value.ref b] s = true := fun w h => hts w (List.mem_filter.mp h).1
  have hAO1 : va_AO gC_Ce s := va_AO.of (hts (Cond.arrayOver (.object gC_Ce)) (List.mem_append_right _ (List.mem_of_getElem? (i := 19) rfl)))
  have hAO2 : va_AO gC_Fr s := va_AO.of (hts (Cond.arrayOver (.object gC_Fr)) (List.mem_append_right _ (List.mem_of_getElem? (i := 103) rfl)))
  obtain ⟨k, hid⟩ := Kid_ex hAO1 hAO2 m.cls
  have hNw : ∀ w ∈ nestB, va_Nw w s := fun w h => va_tabs (nestW_tab (nestB_ok w h)) rfl (hts w (nestB_tb w h))
  obtain ⟨c0, i0, k0⟩ := u_known htw gW_B (htw _ wd_11)
  obtain ⟨c1, i1, k1⟩ := u_known htw gW_Ce (htw _ wd_20)
  obtain ⟨c2, i2, k2⟩ := u_known htw gW_Te (htw _ wd_26)
  obtain ⟨c3, i3, k3⟩ := u_known htw gW_Fr (htw _ wd_104)
  obtain ⟨c4, i4, k4⟩ := u_known htw gW_Ev (htw _ wd_97)
  obtain ⟨c5, i5, k5⟩ := u_known htw gW_Mo (htw _ wd_443)
  obtain ⟨D, hDB⟩ := K5 k0 k1 k2 k3 k4
  obtain ⟨D', hDR⟩ := K1 k5
  generalize hKe : ((p, l, e, room_1, s, m, #[Value.ref b], below, meth, c, 4, 0, 0, (fun q => s.heap.size ≤ q), lw_Z below #[Value.ref b] s) : Cf) = K
  have h0 : C0 K code := by rw [← hKe]; exact ⟨hx, hb⟩
  have hZ : Cz K R_law := by rw [← hKe]; exact ⟨hown, htw, rfl, hml⟩
  have hks : ks K = s := by rw [← hKe]
  have hkn : kn K = 4 := by rw [← hKe]
  have hkR : kR K = room_1 := by rw [← hKe]
  have hkl : kl K = l := by rw [← hKe]
  have hidK : Kid k (ks K) := by rw [hks]; exact hid
  have hDBK : va_K D clB [] (ks K) := by rw [hks]; exact hDB
  have hDRK : va_K D' clR [] (ks K) := by rw [hks]; exact hDR
  have main : V (kz K 0 0) (wF (fun H => H = s.heap)) () 0 [(0, .ref b)] [] := by
    refine w_make h0 hZ hidK hDBK gW_B gU_B gO_B wm_10 wd_11 wd_1 (ci := 0) rfl [.null, .null, .null, .null, .null, .int 0] (by decide) (fun q => n_B (kl K) D k q) wd_14 wm_12 wd_13 wd_1 rfl hd_B_init (by rw [hkR]; exact Nat.le_of_ble_eq_true rfl) (by rw [hkR]; exact Nat.le_of_ble_eq_true rfl) (Nat.zero_le _) 59 745 rfl rfl (by rw [hkR]; exact Nat.le_of_ble_eq_true rfl) (by rw [hkR]; exact Nat.le_of_ble_eq_true rfl) d_La_0 d_La_3 d_La_4 (fun q w hw => ?_)
    obtain ⟨ad, had, rfl⟩ := hw
    subst had
    refine v_pu (P := sI (sB (D, ad, kB k)) ∧ (∀ i, i < 59 → s.heap.size ≤ ad i) ∧ va_K (sD (sB (D, ad, kB k))) (sC (sB (D, ad, kB k))) (sT (sB (D, ad, kB k))) s) (fun H hw => ?_) (fun hP1 => ?_)
    · obtain ⟨⟨H0, hH0, -, -, hD⟩, -, hK⟩ := hw
      obtain ⟨w1, w2⟩ := wl_sI hD
      refine ⟨w1, fun i hi => ?_, by rw [hks] at hK; exact hK⟩
      have := w2 i hi
      rw [hH0] at this
      exact this
    obtain ⟨hIB, hgB, hKB⟩ := hP1
    refine v_astore_n (K := kz K 59 745) h0 d_La_7 (lv' := [(1, .ref (ad 0)), (0, .ref b)]) (lt_kn hkn (by decide)) rfl ?_
    refine w_make h0 hZ hidK hDRK gW_Mo gU_Mo gO_Mo wm_442 wd_443 wd_6 (ci := 0) rfl [.null, .int 0, .null, .null, .null, .null, .null, .null, .null, .null, .null, .null, .null, .null, .int 0, .null, .int 0, .int 0, .null, .null, .int 0, .null, .null, .null, .null, .int 0, .null, .int 0, .int 0, .int 0, .int 0] (by decide) (fun q => n_Mo (kl K) D' k q) wd_446 wm_444 wd_445 wd_6 rfl hd_Mo_init (by rw [hkR]; exact Nat.le_of_ble_eq_true rfl) (by rw [hkR]; exact Nat.le_of_ble_eq_true rfl) (Nat.zero_le _) 81 3122 rfl rfl (by rw [hkR]; exact Nat.le_of_ble_eq_true rfl) (by rw [hkR]; exact Nat.le_of_ble_eq_true rfl) d_La_8 d_La_11 d_La_12 (fun q w hw => ?_)
    obtain ⟨ad', r, had', hrr, rfl⟩ := hw
    subst had'
    refine v_pu (P := sI (sR (D', ad', kMo k)) ∧ (∀ i, i < 22 → s.heap.size ≤ ad' i) ∧ (∀ i, i < 59 → ∀ j, j < 22 → ad i ≠ ad' j) ∧ va_K (sD (sR (D', ad', kMo k))) (sC (sR (D', ad', kMo k))) (sT (sR (D', ad', kMo k))) s) (fun H hw => ?_) (fun hP2 => ?_)
    · obtain ⟨⟨H1, hF1, -, hle, hD⟩, -, hK⟩ := hw
      obtain ⟨w1, w2⟩ := wl_sI hD
      rw [hks] at hle hK
      refine ⟨w1, fun i hi => Nat.le_trans hle (w2 i hi), fun i hi j hj e => ?_, hK⟩
      have h1 : ad i < H1.size := (hF1.2.1 i _ (wl_at (sB (D, ad, kB k)) MB0 hi)).lt
      have h2 : H1.size ≤ ad' j := w2 j hj
      omega
    obtain ⟨hIR, hgR, hdis, hKR⟩ := hP2
    refine v_astore_n (K := kz K 81 3122) h0 d_La_15 (lv' := [(2, .ref (ad' 0)), (1, .ref (ad 0)), (0, .ref b)]) (lt_kn hkn (by decide)) rfl ?_
    refine v_iconst (K := kz K 81 3122) h0 d_La_16 (v := nI 0) (by decide) ?_
    refine v_istore_n (K := kz K 81 3122) h0 d_La_17 (lv' := [(3, .int (nI 0)), (2, .ref (ad' 0)), (1, .ref (ad 0)), (0, .ref b)]) (lt_kn hkn (by decide)) rfl ?_
    refine v_sub [0, 3, 2, 1] rfl ?_
    refine v_cv (wp' := wL (D, ad, kB k) (D', ad', kMo k)) (M' := (MB0, MR0 r)) (fun H hw => ?_) ?_
    · obtain ⟨⟨H1, hF1, hold, -, -⟩, hP, -⟩ := hw
      exact ⟨va_P.kept hF1.2.1 (fun i q hq => hold _ (hF1.2.1 i q hq).lt), hP⟩
    have hCL : CLw (kz K 81 3122) (D, ad, kB k) (D', ad', kMo k) b L xs R_law := by
      rw [← hKe]
      exact ⟨⟨hown, htw, rfl, hml⟩, hKB, hNw, hKR, hX, hbl, hIB, hIR, hgB, hgR, hdis, Nat.le_of_ble_eq_true rfl, Nat.le_of_ble_eq_true rfl, Nat.le_of_ble_eq_true rfl, Nat.le_of_ble_eq_true rfl⟩
    refine law_loop (K := kz K 81 3122) h0 hCL hkn hL (fun x lv => ?_) L 0 MB0 (MR0 r) β0 (by omega) (by omega) RB_0 (AbsR_0 hrr)
    refine v_iconst (K := kz K 81 3122) h0 d_La_391 (v := 1) (by decide) ?_
    intro H locs ls hw hS hl
    rw [← hKe] at hS ⊢
    exact va_forget (fun q hq => hS.2.2 q hq) (W.widen (k := 600000) (n := 7302250) (Nat.le_of_ble_eq_true rfl) (Nat.le_of_ble_eq_true rfl) (lw_ret hx hb hr hlocks d_La_392))
  rw [lg_entry_eq]
  have fin := main s.heap [] _ rfl (by rw [← hKe]; exact va_S.rf) (by rw [hkn]; exact lv_entry [.ref b] (n := 4) (Nat.le_of_ble_eq_true rfl))
  rw [← hKe] at fin
  exact fin
