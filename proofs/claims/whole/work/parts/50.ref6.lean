/-! THE REFERENCE FINDS ENDS -/
def pdI (e : Nat) : Int32 := nI e - nI 1
theorem pd_s (p : Nat) : pdI (p + 1) = nI p := pred1 p
theorem pd_inc (p : Nat) : nI p + Int32.ofInt (-1) = pdI p := by
  unfold pdI; rw [Int32.sub_eq_add_neg]; rfl
theorem opN_k {x : Int32} {q : Nat} (h : kd x = q) : opN x = if q = 2 ∨ q = 4 then 2 else if q = 1 ∨ q = 5 then 1 else if q = 3 ∨ q = 6 then 3 else 0 := by unfold opN; rw [h]
theorem EO_hd {s e : Nat → Int32} {n d : Nat} {b : Nat → Bool} {k : Nat} (ho : OK s n d b k = true) (h : EO s e d k) : e k = nI (EN s d k) := by
  cases d with
  | zero => simp [OK] at ho
  | succ d => unfold EO at h; exact h.1
def edR (M : Me) (c : Nat) : Nat → Int32 := fun p => M 5 (24 * c + p)
def FQ (c : Nat) (M M' : Me) (a e : Nat) : Prop := (∀ i, i ≠ 5 → M' i = M i) ∧ ∀ p, (p < 24 * c + a ∨ 24 * c + e ≤ p) → M' 5 p = M 5 p
theorem FQ.trans {c : Nat} {M M1 M2 : Me} {a e a' e' a2 e2 : Nat} (h : FQ c M M1 a e) (k : FQ c M1 M2 a' e') (h1 : a2 ≤ a) (h2 : a2 ≤ a') (h3 : e ≤ e2) (h4 : e' ≤ e2) : FQ c M M2 a2 e2 := ⟨fun i hi => (k.1 i hi).trans (h.1 i hi), fun p hp => (k.2 p (by omega)).trans (h.2 p (by omega))⟩
theorem FQ.one (c : Nat) (M : Me) (p : Nat) (x : Int32) : FQ c M (up2 M 5 (24 * c + p) x) p (p + 1) := ⟨fun i hi => up2_q _ _ hi, fun q hq => up2_n _ _ (by omega)⟩
theorem TR.fq {c : Nat} {M M1 : Me} {a e : Nat} {s : Nat → Int32} {n : Nat} (h : FQ c M M1 a e) (hT : TR M c s n) : TR M1 c s n := ⟨by rw [h.1 3 (by omega)]; exact hT.1, hT.2.1, fun k hk => by rw [h.1 2 (by omega)]; exact hT.2.2.1 k hk, hT.2.2.2⟩
set_option maxHeartbeats 4000000 in
theorem fe_lab {K : Cf} {g : Gd} (hI : sI (sR g)) (h0 : C0 K c_Mo_findEnds) (hC : Cx (sR g) K gC_Mo 3) (hn : kn K = 7) {M : Me} {c n p f : Nat} {s : Nat → Int32} (hc : c < 10) (hT : TR M c s n) (hp : p < n) (hf : f ≤ p) (hl : lbR M c p = 1) (kk : V K (wp (sR g)) M 23 [(3, .int (pdI p)), (2, .int (nI f)), (0, .ref (ga g 0)), (1, .int (nI c))] []) : V K (wp (sR g)) M 23 [(3, .int (pdI (p + 1))), (2, .int (nI f)), (0, .ref (ga g 0)), (1, .int (nI c))] [] := by
  have hn24 := hT.2.1
  refine v_eq (?_ : V K (wp (sR g)) M 23 [(3, .int (nI p)), (2, .int (nI f)), (0, .ref (ga g 0)), (1, .int (nI c))] []) rfl rfl (by rw [pd_s]) rfl
  refine v_iload_n h0 d_Mo_findEnds_23 0 rfl ?_
  refine v_iload_n h0 d_Mo_findEnds_24 1 rfl ?_
  refine n_icmp_lt h0 (by omega) (by omega) d_Mo_findEnds_25 rfl (fun h25 => absurd h25 (by omega)) (fun h25 => ?_)
  refine v_aload_n h0 d_Mo_findEnds_28 2 rfl ?_
  refine g_Mo_label_ h0 hC wd_454 d_Mo_findEnds_29 ?_
  refine v_bipush h0 d_Mo_findEnds_32 (v := nI 24) (by decide) ?_
  refine v_iload_n h0 d_Mo_findEnds_34 3 rfl ?_
  refine v_imul h0 d_Mo_findEnds_35 ?_
  refine v_int (nI (24 * c)) (pk_mul 24 c) ?_
  refine v_iload_n h0 d_Mo_findEnds_36 0 rfl ?_
  refine v_iadd h0 d_Mo_findEnds_37 ?_
  refine v_int (nI (24 * c + p)) (nI_add (24 * c) p) ?_
  refine a_Mo_label_ h0 hC (24 * c + p) (rfl) (by omega) d_Mo_findEnds_38 ?_
  refine v_int (1) (hl) ?_
  refine v_if_ne h0 d_Mo_findEnds_39 rfl (fun h39 => ?_) (fun h39 => absurd h39 (by decide))
  refine v_iinc h0 d_Mo_findEnds_142 (lv' := [(3, .int (pdI p)), (2, .int (nI f)), (0, .ref (ga g 0)), (1, .int (nI c))]) 0 rfl (pd_inc p) (lt_kn hn (by decide)) rfl ?_
  exact v_goto h0 d_Mo_findEnds_145 rfl kk
set_option maxHeartbeats 4000000 in
theorem fe_2 {K : Cf} {g : Gd} (hI : sI (sR g)) (h0 : C0 K c_Mo_findEnds) (hC : Cx (sR g) K gC_Mo 3) (hn : kn K = 7) {M : Me} {c n p f : Nat} {s : Nat → Int32} (hc : c < 10) (hT : TR M c s n) (hp : p < n) (hf : f ≤ p) (hl : lbR M c p = 0) (hx : kd (s p) = 2) {e0 : Nat} (r0 : M 5 (24 * c + (p + 1)) = nI e0) (l0 : p + 1 < n) {e1 : Nat} (r1 : M 5 (24 * c + (e0)) = nI e1) (l1 : e0 < n) (hfin : e1 ≤ n) (kk : V K (wp (sR g)) (up2 M 5 (24 * c + p) (nI (e1))) 23 [(3, .int (pdI p)), (2, .int (nI f)), (0, .ref (ga g 0)), (1, .int (nI c))] []) : V K (wp (sR g)) M 23 [(3, .int (pdI (p + 1))), (2, .int (nI f)), (0, .ref (ga g 0)), (1, .int (nI c))] [] := by
  have hn24 := hT.2.1
  refine v_eq (?_ : V K (wp (sR g)) M 23 [(3, .int (nI p)), (2, .int (nI f)), (0, .ref (ga g 0)), (1, .int (nI c))] []) rfl rfl (by rw [pd_s]) rfl
  refine v_iload_n h0 d_Mo_findEnds_23 0 rfl ?_
  refine v_iload_n h0 d_Mo_findEnds_24 1 rfl ?_
  refine n_icmp_lt h0 (by omega) (by omega) d_Mo_findEnds_25 rfl (fun h25 => absurd h25 (by omega)) (fun h25 => ?_)
  refine v_aload_n h0 d_Mo_findEnds_28 2 rfl ?_
  refine g_Mo_label_ h0 hC wd_454 d_Mo_findEnds_29 ?_
  refine v_bipush h0 d_Mo_findEnds_32 (v := nI 24) (by decide) ?_
  refine v_iload_n h0 d_Mo_findEnds_34 3 rfl ?_
  refine v_imul h0 d_Mo_findEnds_35 ?_
  refine v_int (nI (24 * c)) (pk_mul 24 c) ?_
  refine v_iload_n h0 d_Mo_findEnds_36 0 rfl ?_
  refine v_iadd h0 d_Mo_findEnds_37 ?_
  refine v_int (nI (24 * c + p)) (nI_add (24 * c) p) ?_
  refine a_Mo_label_ h0 hC (24 * c + p) (rfl) (by omega) d_Mo_findEnds_38 ?_
  refine v_int (0) (hl) ?_
  refine v_if_ne h0 d_Mo_findEnds_39 rfl (fun h39 => absurd h39 (fun z => z rfl)) (fun h39 => ?_)
  refine v_aload_n h0 d_Mo_findEnds_42 2 rfl ?_
  refine v_iload_n h0 d_Mo_findEnds_43 3 rfl ?_
  refine v_iload_n h0 d_Mo_findEnds_44 0 rfl ?_
  refine v_callV h0 hC (sR_N0 g) 0 (show 0 < 22 by omega) (show enR g 0 _ = _ from rfl) rfl (av := [.int (nI c), .int (nI p)]) (rest := []) (m_Mo_charAt (kl K) g hI M hc (by omega) hT) wd_564 wd_561 wd_563 ws_32 wd_6 hd_Mo_charAt (by omega) (by decide) rfl rfl (Nat.le_of_ble_eq_true rfl) d_Mo_findEnds_45 (fun r9 M9 hp9 => ?_)
  obtain ⟨rfl, rfl⟩ := hp9
  refine v_r1 ?_
  refine v_int (s p) (if_pos hp) ?_
  refine v_istore h0 d_Mo_findEnds_48 (lv' := [(4, .int (s p)), (3, .int (nI p)), (2, .int (nI f)), (0, .ref (ga g 0)), (1, .int (nI c))]) (lt_kn hn (by decide)) rfl ?_
  refine v_iload_n h0 d_Mo_findEnds_50 1 rfl ?_
  refine v_iload h0 d_Mo_findEnds_51 0 rfl ?_
  refine v_bipush h0 d_Mo_findEnds_53 (v := nI 36) (by decide) ?_
  refine v_icmp_eq h0 d_Mo_findEnds_55 rfl (fun h55 => absurd h55 (fun z => absurd (hx.symm.trans ((kd_4 _).mpr z)) (by decide))) (fun h55 => ?_)
  refine v_iload h0 d_Mo_findEnds_58 0 rfl ?_
  refine v_bipush h0 d_Mo_findEnds_60 (v := nI 33) (by decide) ?_
  refine v_icmp_ne h0 d_Mo_findEnds_62 rfl (fun h62 => ?_) (fun h62 => absurd h62 (fun z => absurd (hx.symm.trans ((kd_5 _).mpr z)) (by decide)))
  refine v_iconst h0 d_Mo_findEnds_69 (v := nI 1) (by decide) ?_
  refine v_iadd h0 d_Mo_findEnds_70 ?_
  refine v_int (nI (p + 1)) (nI_add p 1) ?_
  refine v_istore h0 d_Mo_findEnds_71 (lv' := [(5, .int (nI (p + 1))), (4, .int (s p)), (3, .int (nI p)), (2, .int (nI f)), (0, .ref (ga g 0)), (1, .int (nI c))]) (lt_kn hn (by decide)) rfl ?_
  refine v_iconst h0 d_Mo_findEnds_73 (v := nI 0) (by decide) ?_
  refine v_istore h0 d_Mo_findEnds_74 (lv' := [(6, .int (nI 0)), (5, .int (nI (p + 1))), (4, .int (s p)), (3, .int (nI p)), (2, .int (nI f)), (0, .ref (ga g 0)), (1, .int (nI c))]) (lt_kn hn (by decide)) rfl ?_
  refine v_iload h0 d_Mo_findEnds_76 0 rfl ?_
  refine v_iload h0 d_Mo_findEnds_78 2 rfl ?_
  refine v_callS h0 hC (sR_N0 g) (av := [.int (s p)]) (rest := [.int (nI 0)]) (m_Mo_operands (kl K) g hI M _) wd_595 wd_593 wd_594 wd_6 hd_Mo_operands (by omega) (by decide) rfl rfl (Nat.le_of_ble_eq_true rfl) d_Mo_findEnds_80 (fun r9 M9 hp9 => ?_)
  obtain ⟨rfl, rfl⟩ := hp9
  refine v_r1 ?_
  refine v_int (nI 2) (by rw [opN_k hx]; rfl) ?_
  refine n_icmp_ge h0 (by omega) (by omega) d_Mo_findEnds_83 rfl (fun h83 => absurd h83 (by omega)) (fun h83 => ?_)
  refine v_iload h0 d_Mo_findEnds_86 2 rfl ?_
  refine v_bipush h0 d_Mo_findEnds_88 (v := nI 35) (by decide) ?_
  refine v_icmp_ne h0 d_Mo_findEnds_90 rfl (fun h90 => ?_) (fun h90 => absurd h90 (fun z => absurd (hx.symm.trans ((kd_6 _).mpr z)) (by decide)))
  refine v_iload h0 d_Mo_findEnds_105 1 rfl ?_
  refine v_istore h0 d_Mo_findEnds_107 (lv' := [(5, .int (nI (p + 1))), (6, .int (nI 0)), (4, .int (s p)), (3, .int (nI p)), (2, .int (nI f)), (0, .ref (ga g 0)), (1, .int (nI c))]) (lt_kn hn (by decide)) rfl ?_
  refine v_aload_n h0 d_Mo_findEnds_109 5 rfl ?_
  refine g_Mo_end_ h0 hC wd_453 d_Mo_findEnds_110 ?_
  refine v_bipush h0 d_Mo_findEnds_113 (v := nI 24) (by decide) ?_
  refine v_iload_n h0 d_Mo_findEnds_115 6 rfl ?_
  refine v_imul h0 d_Mo_findEnds_116 ?_
  refine v_int (nI (24 * c)) (pk_mul 24 c) ?_
  refine v_iload h0 d_Mo_findEnds_117 0 rfl ?_
  refine v_iadd h0 d_Mo_findEnds_119 ?_
  refine v_int (nI (24 * c + (p + 1))) (nI_add (24 * c) (p + 1)) ?_
  refine a_Mo_end_ h0 hC (24 * c + (p + 1)) (rfl) (by omega) d_Mo_findEnds_120 ?_
  refine v_int (nI e0) (r0) ?_
  refine v_istore h0 d_Mo_findEnds_121 (lv' := [(5, .int (nI e0)), (6, .int (nI 0)), (4, .int (s p)), (3, .int (nI p)), (2, .int (nI f)), (0, .ref (ga g 0)), (1, .int (nI c))]) (lt_kn hn (by decide)) rfl ?_
  refine v_iinc h0 d_Mo_findEnds_123 (lv' := [(6, .int (nI (0 + 1))), (5, .int (nI e0)), (4, .int (s p)), (3, .int (nI p)), (2, .int (nI f)), (0, .ref (ga g 0)), (1, .int (nI c))]) 1 rfl (inc1 0) (lt_kn hn (by decide)) rfl ?_
  refine v_goto h0 d_Mo_findEnds_126 rfl ?_
  refine v_iload h0 d_Mo_findEnds_76 0 rfl ?_
  refine v_iload h0 d_Mo_findEnds_78 2 rfl ?_
  refine v_callS h0 hC (sR_N0 g) (av := [.int (s p)]) (rest := [.int (nI (0 + 1))]) (m_Mo_operands (kl K) g hI M _) wd_595 wd_593 wd_594 wd_6 hd_Mo_operands (by omega) (by decide) rfl rfl (Nat.le_of_ble_eq_true rfl) d_Mo_findEnds_80 (fun r9 M9 hp9 => ?_)
  obtain ⟨rfl, rfl⟩ := hp9
  refine v_r1 ?_
  refine v_int (nI 2) (by rw [opN_k hx]; rfl) ?_
  refine n_icmp_ge h0 (by omega) (by omega) d_Mo_findEnds_83 rfl (fun h83 => absurd h83 (by omega)) (fun h83 => ?_)
  refine v_iload h0 d_Mo_findEnds_86 2 rfl ?_
  refine v_bipush h0 d_Mo_findEnds_88 (v := nI 35) (by decide) ?_
  refine v_icmp_ne h0 d_Mo_findEnds_90 rfl (fun h90 => ?_) (fun h90 => absurd h90 (fun z => absurd (hx.symm.trans ((kd_6 _).mpr z)) (by decide)))
  refine v_iload h0 d_Mo_findEnds_105 1 rfl ?_
  refine v_istore h0 d_Mo_findEnds_107 (lv' := [(5, .int (nI e0)), (6, .int (nI (0 + 1))), (4, .int (s p)), (3, .int (nI p)), (2, .int (nI f)), (0, .ref (ga g 0)), (1, .int (nI c))]) (lt_kn hn (by decide)) rfl ?_
  refine v_aload_n h0 d_Mo_findEnds_109 5 rfl ?_
  refine g_Mo_end_ h0 hC wd_453 d_Mo_findEnds_110 ?_
  refine v_bipush h0 d_Mo_findEnds_113 (v := nI 24) (by decide) ?_
  refine v_iload_n h0 d_Mo_findEnds_115 6 rfl ?_
  refine v_imul h0 d_Mo_findEnds_116 ?_
  refine v_int (nI (24 * c)) (pk_mul 24 c) ?_
  refine v_iload h0 d_Mo_findEnds_117 0 rfl ?_
  refine v_iadd h0 d_Mo_findEnds_119 ?_
  refine v_int (nI (24 * c + e0)) (nI_add (24 * c) e0) ?_
  refine a_Mo_end_ h0 hC (24 * c + (e0)) (rfl) (by omega) d_Mo_findEnds_120 ?_
  refine v_int (nI e1) (r1) ?_
  refine v_istore h0 d_Mo_findEnds_121 (lv' := [(5, .int (nI e1)), (6, .int (nI (0 + 1))), (4, .int (s p)), (3, .int (nI p)), (2, .int (nI f)), (0, .ref (ga g 0)), (1, .int (nI c))]) (lt_kn hn (by decide)) rfl ?_
  refine v_iinc h0 d_Mo_findEnds_123 (lv' := [(6, .int (nI (0 + 1 + 1))), (5, .int (nI e1)), (4, .int (s p)), (3, .int (nI p)), (2, .int (nI f)), (0, .ref (ga g 0)), (1, .int (nI c))]) 1 rfl (inc1 (0 + 1)) (lt_kn hn (by decide)) rfl ?_
  refine v_goto h0 d_Mo_findEnds_126 rfl ?_
  refine v_iload h0 d_Mo_findEnds_76 0 rfl ?_
  refine v_iload h0 d_Mo_findEnds_78 2 rfl ?_
  refine v_callS h0 hC (sR_N0 g) (av := [.int (s p)]) (rest := [.int (nI (0 + 1 + 1))]) (m_Mo_operands (kl K) g hI M _) wd_595 wd_593 wd_594 wd_6 hd_Mo_operands (by omega) (by decide) rfl rfl (Nat.le_of_ble_eq_true rfl) d_Mo_findEnds_80 (fun r9 M9 hp9 => ?_)
  obtain ⟨rfl, rfl⟩ := hp9
  refine v_r1 ?_
  refine v_int (nI 2) (by rw [opN_k hx]; rfl) ?_
  refine n_icmp_ge h0 (by omega) (by omega) d_Mo_findEnds_83 rfl (fun h83 => ?_) (fun h83 => absurd h83 (by omega))
  refine v_aload_n h0 d_Mo_findEnds_129 5 rfl ?_
  refine g_Mo_end_ h0 hC wd_453 d_Mo_findEnds_130 ?_
  refine v_bipush h0 d_Mo_findEnds_133 (v := nI 24) (by decide) ?_
  refine v_iload_n h0 d_Mo_findEnds_135 6 rfl ?_
  refine v_imul h0 d_Mo_findEnds_136 ?_
  refine v_int (nI (24 * c)) (pk_mul 24 c) ?_
  refine v_iload_n h0 d_Mo_findEnds_137 3 rfl ?_
  refine v_iadd h0 d_Mo_findEnds_138 ?_
  refine v_int (nI (24 * c + p)) (nI_add (24 * c) p) ?_
  refine v_iload h0 d_Mo_findEnds_139 1 rfl ?_
  refine s_Mo_end_ h0 hC (24 * c + p) (rfl) (z := nI e1) (rfl) (by omega) d_Mo_findEnds_141 ?_
  refine v_iinc h0 d_Mo_findEnds_142 (lv' := [(3, .int (pdI p)), (6, .int (nI (0 + 1 + 1))), (5, .int (nI e1)), (4, .int (s p)), (2, .int (nI f)), (0, .ref (ga g 0)), (1, .int (nI c))]) 3 rfl (pd_inc p) (lt_kn hn (by decide)) rfl ?_
  refine v_goto h0 d_Mo_findEnds_145 rfl ?_
  refine v_sub [0, 4, 5, 6] rfl ?_
  exact kk
set_option maxHeartbeats 4000000 in
theorem fe_1 {K : Cf} {g : Gd} (hI : sI (sR g)) (h0 : C0 K c_Mo_findEnds) (hC : Cx (sR g) K gC_Mo 3) (hn : kn K = 7) {M : Me} {c n p f : Nat} {s : Nat → Int32} (hc : c < 10) (hT : TR M c s n) (hp : p < n) (hf : f ≤ p) (hl : lbR M c p = 0) (hx : kd (s p) = 1) {e0 : Nat} (r0 : M 5 (24 * c + (p + 1)) = nI e0) (l0 : p + 1 < n) (hfin : e0 ≤ n) (kk : V K (wp (sR g)) (up2 M 5 (24 * c + p) (nI (e0))) 23 [(3, .int (pdI p)), (2, .int (nI f)), (0, .ref (ga g 0)), (1, .int (nI c))] []) : V K (wp (sR g)) M 23 [(3, .int (pdI (p + 1))), (2, .int (nI f)), (0, .ref (ga g 0)), (1, .int (nI c))] [] := by
  have hn24 := hT.2.1
  refine v_eq (?_ : V K (wp (sR g)) M 23 [(3, .int (nI p)), (2, .int (nI f)), (0, .ref (ga g 0)), (1, .int (nI c))] []) rfl rfl (by rw [pd_s]) rfl
  refine v_iload_n h0 d_Mo_findEnds_23 0 rfl ?_
  refine v_iload_n h0 d_Mo_findEnds_24 1 rfl ?_
  refine n_icmp_lt h0 (by omega) (by omega) d_Mo_findEnds_25 rfl (fun h25 => absurd h25 (by omega)) (fun h25 => ?_)
  refine v_aload_n h0 d_Mo_findEnds_28 2 rfl ?_
  refine g_Mo_label_ h0 hC wd_454 d_Mo_findEnds_29 ?_
  refine v_bipush h0 d_Mo_findEnds_32 (v := nI 24) (by decide) ?_
  refine v_iload_n h0 d_Mo_findEnds_34 3 rfl ?_
  refine v_imul h0 d_Mo_findEnds_35 ?_
  refine v_int (nI (24 * c)) (pk_mul 24 c) ?_
  refine v_iload_n h0 d_Mo_findEnds_36 0 rfl ?_
  refine v_iadd h0 d_Mo_findEnds_37 ?_
  refine v_int (nI (24 * c + p)) (nI_add (24 * c) p) ?_
  refine a_Mo_label_ h0 hC (24 * c + p) (rfl) (by omega) d_Mo_findEnds_38 ?_
  refine v_int (0) (hl) ?_
  refine v_if_ne h0 d_Mo_findEnds_39 rfl (fun h39 => absurd h39 (fun z => z rfl)) (fun h39 => ?_)
  refine v_aload_n h0 d_Mo_findEnds_42 2 rfl ?_
  refine v_iload_n h0 d_Mo_findEnds_43 3 rfl ?_
  refine v_iload_n h0 d_Mo_findEnds_44 0 rfl ?_
  refine v_callV h0 hC (sR_N0 g) 0 (show 0 < 22 by omega) (show enR g 0 _ = _ from rfl) rfl (av := [.int (nI c), .int (nI p)]) (rest := []) (m_Mo_charAt (kl K) g hI M hc (by omega) hT) wd_564 wd_561 wd_563 ws_32 wd_6 hd_Mo_charAt (by omega) (by decide) rfl rfl (Nat.le_of_ble_eq_true rfl) d_Mo_findEnds_45 (fun r9 M9 hp9 => ?_)
  obtain ⟨rfl, rfl⟩ := hp9
  refine v_r1 ?_
  refine v_int (s p) (if_pos hp) ?_
  refine v_istore h0 d_Mo_findEnds_48 (lv' := [(4, .int (s p)), (3, .int (nI p)), (2, .int (nI f)), (0, .ref (ga g 0)), (1, .int (nI c))]) (lt_kn hn (by decide)) rfl ?_
  refine v_iload_n h0 d_Mo_findEnds_50 1 rfl ?_
  refine v_iload h0 d_Mo_findEnds_51 0 rfl ?_
  refine v_bipush h0 d_Mo_findEnds_53 (v := nI 36) (by decide) ?_
  refine v_icmp_eq h0 d_Mo_findEnds_55 rfl (fun h55 => absurd h55 (fun z => absurd (hx.symm.trans ((kd_4 _).mpr z)) (by decide))) (fun h55 => ?_)
  refine v_iload h0 d_Mo_findEnds_58 0 rfl ?_
  refine v_bipush h0 d_Mo_findEnds_60 (v := nI 33) (by decide) ?_
  refine v_icmp_ne h0 d_Mo_findEnds_62 rfl (fun h62 => ?_) (fun h62 => absurd h62 (fun z => absurd (hx.symm.trans ((kd_5 _).mpr z)) (by decide)))
  refine v_iconst h0 d_Mo_findEnds_69 (v := nI 1) (by decide) ?_
  refine v_iadd h0 d_Mo_findEnds_70 ?_
  refine v_int (nI (p + 1)) (nI_add p 1) ?_
  refine v_istore h0 d_Mo_findEnds_71 (lv' := [(5, .int (nI (p + 1))), (4, .int (s p)), (3, .int (nI p)), (2, .int (nI f)), (0, .ref (ga g 0)), (1, .int (nI c))]) (lt_kn hn (by decide)) rfl ?_
  refine v_iconst h0 d_Mo_findEnds_73 (v := nI 0) (by decide) ?_
  refine v_istore h0 d_Mo_findEnds_74 (lv' := [(6, .int (nI 0)), (5, .int (nI (p + 1))), (4, .int (s p)), (3, .int (nI p)), (2, .int (nI f)), (0, .ref (ga g 0)), (1, .int (nI c))]) (lt_kn hn (by decide)) rfl ?_
  refine v_iload h0 d_Mo_findEnds_76 0 rfl ?_
  refine v_iload h0 d_Mo_findEnds_78 2 rfl ?_
  refine v_callS h0 hC (sR_N0 g) (av := [.int (s p)]) (rest := [.int (nI 0)]) (m_Mo_operands (kl K) g hI M _) wd_595 wd_593 wd_594 wd_6 hd_Mo_operands (by omega) (by decide) rfl rfl (Nat.le_of_ble_eq_true rfl) d_Mo_findEnds_80 (fun r9 M9 hp9 => ?_)
  obtain ⟨rfl, rfl⟩ := hp9
  refine v_r1 ?_
  refine v_int (nI 1) (by rw [opN_k hx]; rfl) ?_
  refine n_icmp_ge h0 (by omega) (by omega) d_Mo_findEnds_83 rfl (fun h83 => absurd h83 (by omega)) (fun h83 => ?_)
  refine v_iload h0 d_Mo_findEnds_86 2 rfl ?_
  refine v_bipush h0 d_Mo_findEnds_88 (v := nI 35) (by decide) ?_
  refine v_icmp_ne h0 d_Mo_findEnds_90 rfl (fun h90 => ?_) (fun h90 => absurd h90 (fun z => absurd (hx.symm.trans ((kd_6 _).mpr z)) (by decide)))
  refine v_iload h0 d_Mo_findEnds_105 1 rfl ?_
  refine v_istore h0 d_Mo_findEnds_107 (lv' := [(5, .int (nI (p + 1))), (6, .int (nI 0)), (4, .int (s p)), (3, .int (nI p)), (2, .int (nI f)), (0, .ref (ga g 0)), (1, .int (nI c))]) (lt_kn hn (by decide)) rfl ?_
  refine v_aload_n h0 d_Mo_findEnds_109 5 rfl ?_
  refine g_Mo_end_ h0 hC wd_453 d_Mo_findEnds_110 ?_
  refine v_bipush h0 d_Mo_findEnds_113 (v := nI 24) (by decide) ?_
  refine v_iload_n h0 d_Mo_findEnds_115 6 rfl ?_
  refine v_imul h0 d_Mo_findEnds_116 ?_
  refine v_int (nI (24 * c)) (pk_mul 24 c) ?_
  refine v_iload h0 d_Mo_findEnds_117 0 rfl ?_
  refine v_iadd h0 d_Mo_findEnds_119 ?_
  refine v_int (nI (24 * c + (p + 1))) (nI_add (24 * c) (p + 1)) ?_
  refine a_Mo_end_ h0 hC (24 * c + (p + 1)) (rfl) (by omega) d_Mo_findEnds_120 ?_
  refine v_int (nI e0) (r0) ?_
  refine v_istore h0 d_Mo_findEnds_121 (lv' := [(5, .int (nI e0)), (6, .int (nI 0)), (4, .int (s p)), (3, .int (nI p)), (2, .int (nI f)), (0, .ref (ga g 0)), (1, .int (nI c))]) (lt_kn hn (by decide)) rfl ?_
  refine v_iinc h0 d_Mo_findEnds_123 (lv' := [(6, .int (nI (0 + 1))), (5, .int (nI e0)), (4, .int (s p)), (3, .int (nI p)), (2, .int (nI f)), (0, .ref (ga g 0)), (1, .int (nI c))]) 1 rfl (inc1 0) (lt_kn hn (by decide)) rfl ?_
  refine v_goto h0 d_Mo_findEnds_126 rfl ?_
  refine v_iload h0 d_Mo_findEnds_76 0 rfl ?_
  refine v_iload h0 d_Mo_findEnds_78 2 rfl ?_
  refine v_callS h0 hC (sR_N0 g) (av := [.int (s p)]) (rest := [.int (nI (0 + 1))]) (m_Mo_operands (kl K) g hI M _) wd_595 wd_593 wd_594 wd_6 hd_Mo_operands (by omega) (by decide) rfl rfl (Nat.le_of_ble_eq_true rfl) d_Mo_findEnds_80 (fun r9 M9 hp9 => ?_)
  obtain ⟨rfl, rfl⟩ := hp9
  refine v_r1 ?_
  refine v_int (nI 1) (by rw [opN_k hx]; rfl) ?_
  refine n_icmp_ge h0 (by omega) (by omega) d_Mo_findEnds_83 rfl (fun h83 => ?_) (fun h83 => absurd h83 (by omega))
  refine v_aload_n h0 d_Mo_findEnds_129 5 rfl ?_
  refine g_Mo_end_ h0 hC wd_453 d_Mo_findEnds_130 ?_
  refine v_bipush h0 d_Mo_findEnds_133 (v := nI 24) (by decide) ?_
  refine v_iload_n h0 d_Mo_findEnds_135 6 rfl ?_
  refine v_imul h0 d_Mo_findEnds_136 ?_
  refine v_int (nI (24 * c)) (pk_mul 24 c) ?_
  refine v_iload_n h0 d_Mo_findEnds_137 3 rfl ?_
  refine v_iadd h0 d_Mo_findEnds_138 ?_
  refine v_int (nI (24 * c + p)) (nI_add (24 * c) p) ?_
  refine v_iload h0 d_Mo_findEnds_139 1 rfl ?_
  refine s_Mo_end_ h0 hC (24 * c + p) (rfl) (z := nI e0) (rfl) (by omega) d_Mo_findEnds_141 ?_
  refine v_iinc h0 d_Mo_findEnds_142 (lv' := [(3, .int (pdI p)), (6, .int (nI (0 + 1))), (5, .int (nI e0)), (4, .int (s p)), (2, .int (nI f)), (0, .ref (ga g 0)), (1, .int (nI c))]) 3 rfl (pd_inc p) (lt_kn hn (by decide)) rfl ?_
  refine v_goto h0 d_Mo_findEnds_145 rfl ?_
  refine v_sub [0, 4, 5, 6] rfl ?_
  exact kk
set_option maxHeartbeats 4000000 in
theorem fe_3 {K : Cf} {g : Gd} (hI : sI (sR g)) (h0 : C0 K c_Mo_findEnds) (hC : Cx (sR g) K gC_Mo 3) (hn : kn K = 7) {M : Me} {c n p f : Nat} {s : Nat → Int32} (hc : c < 10) (hT : TR M c s n) (hp : p < n) (hf : f ≤ p) (hl : lbR M c p = 0) (hx : kd (s p) = 3) {e0 : Nat} (r0 : M 5 (24 * c + (p + 1)) = nI e0) (l0 : p + 1 < n) {e1 : Nat} (r1 : M 5 (24 * c + (e0)) = nI e1) (l1 : e0 < n) {e2 : Nat} (r2 : M 5 (24 * c + (e1)) = nI e2) (l2 : e1 < n) (hfin : e2 ≤ n) (kk : V K (wp (sR g)) (up2 M 5 (24 * c + p) (nI (e2))) 23 [(3, .int (pdI p)), (2, .int (nI f)), (0, .ref (ga g 0)), (1, .int (nI c))] []) : V K (wp (sR g)) M 23 [(3, .int (pdI (p + 1))), (2, .int (nI f)), (0, .ref (ga g 0)), (1, .int (nI c))] [] := by
  have hn24 := hT.2.1
  refine v_eq (?_ : V K (wp (sR g)) M 23 [(3, .int (nI p)), (2, .int (nI f)), (0, .ref (ga g 0)), (1, .int (nI c))] []) rfl rfl (by rw [pd_s]) rfl
  refine v_iload_n h0 d_Mo_findEnds_23 0 rfl ?_
  refine v_iload_n h0 d_Mo_findEnds_24 1 rfl ?_
  refine n_icmp_lt h0 (by omega) (by omega) d_Mo_findEnds_25 rfl (fun h25 => absurd h25 (by omega)) (fun h25 => ?_)
  refine v_aload_n h0 d_Mo_findEnds_28 2 rfl ?_
  refine g_Mo_label_ h0 hC wd_454 d_Mo_findEnds_29 ?_
  refine v_bipush h0 d_Mo_findEnds_32 (v := nI 24) (by decide) ?_
  refine v_iload_n h0 d_Mo_findEnds_34 3 rfl ?_
  refine v_imul h0 d_Mo_findEnds_35 ?_
  refine v_int (nI (24 * c)) (pk_mul 24 c) ?_
  refine v_iload_n h0 d_Mo_findEnds_36 0 rfl ?_
  refine v_iadd h0 d_Mo_findEnds_37 ?_
  refine v_int (nI (24 * c + p)) (nI_add (24 * c) p) ?_
  refine a_Mo_label_ h0 hC (24 * c + p) (rfl) (by omega) d_Mo_findEnds_38 ?_
  refine v_int (0) (hl) ?_
  refine v_if_ne h0 d_Mo_findEnds_39 rfl (fun h39 => absurd h39 (fun z => z rfl)) (fun h39 => ?_)
  refine v_aload_n h0 d_Mo_findEnds_42 2 rfl ?_
  refine v_iload_n h0 d_Mo_findEnds_43 3 rfl ?_
  refine v_iload_n h0 d_Mo_findEnds_44 0 rfl ?_
  refine v_callV h0 hC (sR_N0 g) 0 (show 0 < 22 by omega) (show enR g 0 _ = _ from rfl) rfl (av := [.int (nI c), .int (nI p)]) (rest := []) (m_Mo_charAt (kl K) g hI M hc (by omega) hT) wd_564 wd_561 wd_563 ws_32 wd_6 hd_Mo_charAt (by omega) (by decide) rfl rfl (Nat.le_of_ble_eq_true rfl) d_Mo_findEnds_45 (fun r9 M9 hp9 => ?_)
  obtain ⟨rfl, rfl⟩ := hp9
  refine v_r1 ?_
  refine v_int (s p) (if_pos hp) ?_
  refine v_istore h0 d_Mo_findEnds_48 (lv' := [(4, .int (s p)), (3, .int (nI p)), (2, .int (nI f)), (0, .ref (ga g 0)), (1, .int (nI c))]) (lt_kn hn (by decide)) rfl ?_
  refine v_iload_n h0 d_Mo_findEnds_50 1 rfl ?_
  refine v_iload h0 d_Mo_findEnds_51 0 rfl ?_
  refine v_bipush h0 d_Mo_findEnds_53 (v := nI 36) (by decide) ?_
  refine v_icmp_eq h0 d_Mo_findEnds_55 rfl (fun h55 => absurd h55 (fun z => absurd (hx.symm.trans ((kd_4 _).mpr z)) (by decide))) (fun h55 => ?_)
  refine v_iload h0 d_Mo_findEnds_58 0 rfl ?_
  refine v_bipush h0 d_Mo_findEnds_60 (v := nI 33) (by decide) ?_
  refine v_icmp_ne h0 d_Mo_findEnds_62 rfl (fun h62 => ?_) (fun h62 => absurd h62 (fun z => absurd (hx.symm.trans ((kd_5 _).mpr z)) (by decide)))
  refine v_iconst h0 d_Mo_findEnds_69 (v := nI 1) (by decide) ?_
  refine v_iadd h0 d_Mo_findEnds_70 ?_
  refine v_int (nI (p + 1)) (nI_add p 1) ?_
  refine v_istore h0 d_Mo_findEnds_71 (lv' := [(5, .int (nI (p + 1))), (4, .int (s p)), (3, .int (nI p)), (2, .int (nI f)), (0, .ref (ga g 0)), (1, .int (nI c))]) (lt_kn hn (by decide)) rfl ?_
  refine v_iconst h0 d_Mo_findEnds_73 (v := nI 0) (by decide) ?_
  refine v_istore h0 d_Mo_findEnds_74 (lv' := [(6, .int (nI 0)), (5, .int (nI (p + 1))), (4, .int (s p)), (3, .int (nI p)), (2, .int (nI f)), (0, .ref (ga g 0)), (1, .int (nI c))]) (lt_kn hn (by decide)) rfl ?_
  refine v_iload h0 d_Mo_findEnds_76 0 rfl ?_
  refine v_iload h0 d_Mo_findEnds_78 2 rfl ?_
  refine v_callS h0 hC (sR_N0 g) (av := [.int (s p)]) (rest := [.int (nI 0)]) (m_Mo_operands (kl K) g hI M _) wd_595 wd_593 wd_594 wd_6 hd_Mo_operands (by omega) (by decide) rfl rfl (Nat.le_of_ble_eq_true rfl) d_Mo_findEnds_80 (fun r9 M9 hp9 => ?_)
  obtain ⟨rfl, rfl⟩ := hp9
  refine v_r1 ?_
  refine v_int (nI 3) (by rw [opN_k hx]; rfl) ?_
  refine n_icmp_ge h0 (by omega) (by omega) d_Mo_findEnds_83 rfl (fun h83 => absurd h83 (by omega)) (fun h83 => ?_)
  refine v_iload h0 d_Mo_findEnds_86 2 rfl ?_
  refine v_bipush h0 d_Mo_findEnds_88 (v := nI 35) (by decide) ?_
  refine v_icmp_ne h0 d_Mo_findEnds_90 rfl (fun h90 => ?_) (fun h90 => absurd h90 (fun z => absurd (hx.symm.trans ((kd_6 _).mpr z)) (by decide)))
  refine v_iload h0 d_Mo_findEnds_105 1 rfl ?_
  refine v_istore h0 d_Mo_findEnds_107 (lv' := [(5, .int (nI (p + 1))), (6, .int (nI 0)), (4, .int (s p)), (3, .int (nI p)), (2, .int (nI f)), (0, .ref (ga g 0)), (1, .int (nI c))]) (lt_kn hn (by decide)) rfl ?_
  refine v_aload_n h0 d_Mo_findEnds_109 5 rfl ?_
  refine g_Mo_end_ h0 hC wd_453 d_Mo_findEnds_110 ?_
  refine v_bipush h0 d_Mo_findEnds_113 (v := nI 24) (by decide) ?_
  refine v_iload_n h0 d_Mo_findEnds_115 6 rfl ?_
  refine v_imul h0 d_Mo_findEnds_116 ?_
  refine v_int (nI (24 * c)) (pk_mul 24 c) ?_
  refine v_iload h0 d_Mo_findEnds_117 0 rfl ?_
  refine v_iadd h0 d_Mo_findEnds_119 ?_
  refine v_int (nI (24 * c + (p + 1))) (nI_add (24 * c) (p + 1)) ?_
  refine a_Mo_end_ h0 hC (24 * c + (p + 1)) (rfl) (by omega) d_Mo_findEnds_120 ?_
  refine v_int (nI e0) (r0) ?_
  refine v_istore h0 d_Mo_findEnds_121 (lv' := [(5, .int (nI e0)), (6, .int (nI 0)), (4, .int (s p)), (3, .int (nI p)), (2, .int (nI f)), (0, .ref (ga g 0)), (1, .int (nI c))]) (lt_kn hn (by decide)) rfl ?_
  refine v_iinc h0 d_Mo_findEnds_123 (lv' := [(6, .int (nI (0 + 1))), (5, .int (nI e0)), (4, .int (s p)), (3, .int (nI p)), (2, .int (nI f)), (0, .ref (ga g 0)), (1, .int (nI c))]) 1 rfl (inc1 0) (lt_kn hn (by decide)) rfl ?_
  refine v_goto h0 d_Mo_findEnds_126 rfl ?_
  refine v_iload h0 d_Mo_findEnds_76 0 rfl ?_
  refine v_iload h0 d_Mo_findEnds_78 2 rfl ?_
  refine v_callS h0 hC (sR_N0 g) (av := [.int (s p)]) (rest := [.int (nI (0 + 1))]) (m_Mo_operands (kl K) g hI M _) wd_595 wd_593 wd_594 wd_6 hd_Mo_operands (by omega) (by decide) rfl rfl (Nat.le_of_ble_eq_true rfl) d_Mo_findEnds_80 (fun r9 M9 hp9 => ?_)
  obtain ⟨rfl, rfl⟩ := hp9
  refine v_r1 ?_
  refine v_int (nI 3) (by rw [opN_k hx]; rfl) ?_
  refine n_icmp_ge h0 (by omega) (by omega) d_Mo_findEnds_83 rfl (fun h83 => absurd h83 (by omega)) (fun h83 => ?_)
  refine v_iload h0 d_Mo_findEnds_86 2 rfl ?_
  refine v_bipush h0 d_Mo_findEnds_88 (v := nI 35) (by decide) ?_
  refine v_icmp_ne h0 d_Mo_findEnds_90 rfl (fun h90 => ?_) (fun h90 => absurd h90 (fun z => absurd (hx.symm.trans ((kd_6 _).mpr z)) (by decide)))
  refine v_iload h0 d_Mo_findEnds_105 1 rfl ?_
  refine v_istore h0 d_Mo_findEnds_107 (lv' := [(5, .int (nI e0)), (6, .int (nI (0 + 1))), (4, .int (s p)), (3, .int (nI p)), (2, .int (nI f)), (0, .ref (ga g 0)), (1, .int (nI c))]) (lt_kn hn (by decide)) rfl ?_
  refine v_aload_n h0 d_Mo_findEnds_109 5 rfl ?_
  refine g_Mo_end_ h0 hC wd_453 d_Mo_findEnds_110 ?_
  refine v_bipush h0 d_Mo_findEnds_113 (v := nI 24) (by decide) ?_
  refine v_iload_n h0 d_Mo_findEnds_115 6 rfl ?_
  refine v_imul h0 d_Mo_findEnds_116 ?_
  refine v_int (nI (24 * c)) (pk_mul 24 c) ?_
  refine v_iload h0 d_Mo_findEnds_117 0 rfl ?_
  refine v_iadd h0 d_Mo_findEnds_119 ?_
  refine v_int (nI (24 * c + e0)) (nI_add (24 * c) e0) ?_
  refine a_Mo_end_ h0 hC (24 * c + (e0)) (rfl) (by omega) d_Mo_findEnds_120 ?_
  refine v_int (nI e1) (r1) ?_
  refine v_istore h0 d_Mo_findEnds_121 (lv' := [(5, .int (nI e1)), (6, .int (nI (0 + 1))), (4, .int (s p)), (3, .int (nI p)), (2, .int (nI f)), (0, .ref (ga g 0)), (1, .int (nI c))]) (lt_kn hn (by decide)) rfl ?_
  refine v_iinc h0 d_Mo_findEnds_123 (lv' := [(6, .int (nI (0 + 1 + 1))), (5, .int (nI e1)), (4, .int (s p)), (3, .int (nI p)), (2, .int (nI f)), (0, .ref (ga g 0)), (1, .int (nI c))]) 1 rfl (inc1 (0 + 1)) (lt_kn hn (by decide)) rfl ?_
  refine v_goto h0 d_Mo_findEnds_126 rfl ?_
  refine v_iload h0 d_Mo_findEnds_76 0 rfl ?_
  refine v_iload h0 d_Mo_findEnds_78 2 rfl ?_
  refine v_callS h0 hC (sR_N0 g) (av := [.int (s p)]) (rest := [.int (nI (0 + 1 + 1))]) (m_Mo_operands (kl K) g hI M _) wd_595 wd_593 wd_594 wd_6 hd_Mo_operands (by omega) (by decide) rfl rfl (Nat.le_of_ble_eq_true rfl) d_Mo_findEnds_80 (fun r9 M9 hp9 => ?_)
  obtain ⟨rfl, rfl⟩ := hp9
  refine v_r1 ?_
  refine v_int (nI 3) (by rw [opN_k hx]; rfl) ?_
  refine n_icmp_ge h0 (by omega) (by omega) d_Mo_findEnds_83 rfl (fun h83 => absurd h83 (by omega)) (fun h83 => ?_)
  refine v_iload h0 d_Mo_findEnds_86 2 rfl ?_
  refine v_bipush h0 d_Mo_findEnds_88 (v := nI 35) (by decide) ?_
  refine v_icmp_ne h0 d_Mo_findEnds_90 rfl (fun h90 => ?_) (fun h90 => absurd h90 (fun z => absurd (hx.symm.trans ((kd_6 _).mpr z)) (by decide)))
  refine v_iload h0 d_Mo_findEnds_105 1 rfl ?_
  refine v_istore h0 d_Mo_findEnds_107 (lv' := [(5, .int (nI e1)), (6, .int (nI (0 + 1 + 1))), (4, .int (s p)), (3, .int (nI p)), (2, .int (nI f)), (0, .ref (ga g 0)), (1, .int (nI c))]) (lt_kn hn (by decide)) rfl ?_
  refine v_aload_n h0 d_Mo_findEnds_109 5 rfl ?_
  refine g_Mo_end_ h0 hC wd_453 d_Mo_findEnds_110 ?_
  refine v_bipush h0 d_Mo_findEnds_113 (v := nI 24) (by decide) ?_
  refine v_iload_n h0 d_Mo_findEnds_115 6 rfl ?_
  refine v_imul h0 d_Mo_findEnds_116 ?_
  refine v_int (nI (24 * c)) (pk_mul 24 c) ?_
  refine v_iload h0 d_Mo_findEnds_117 0 rfl ?_
  refine v_iadd h0 d_Mo_findEnds_119 ?_
  refine v_int (nI (24 * c + e1)) (nI_add (24 * c) e1) ?_
  refine a_Mo_end_ h0 hC (24 * c + (e1)) (rfl) (by omega) d_Mo_findEnds_120 ?_
  refine v_int (nI e2) (r2) ?_
  refine v_istore h0 d_Mo_findEnds_121 (lv' := [(5, .int (nI e2)), (6, .int (nI (0 + 1 + 1))), (4, .int (s p)), (3, .int (nI p)), (2, .int (nI f)), (0, .ref (ga g 0)), (1, .int (nI c))]) (lt_kn hn (by decide)) rfl ?_
  refine v_iinc h0 d_Mo_findEnds_123 (lv' := [(6, .int (nI (0 + 1 + 1 + 1))), (5, .int (nI e2)), (4, .int (s p)), (3, .int (nI p)), (2, .int (nI f)), (0, .ref (ga g 0)), (1, .int (nI c))]) 1 rfl (inc1 (0 + 1 + 1)) (lt_kn hn (by decide)) rfl ?_
  refine v_goto h0 d_Mo_findEnds_126 rfl ?_
  refine v_iload h0 d_Mo_findEnds_76 0 rfl ?_
  refine v_iload h0 d_Mo_findEnds_78 2 rfl ?_
  refine v_callS h0 hC (sR_N0 g) (av := [.int (s p)]) (rest := [.int (nI (0 + 1 + 1 + 1))]) (m_Mo_operands (kl K) g hI M _) wd_595 wd_593 wd_594 wd_6 hd_Mo_operands (by omega) (by decide) rfl rfl (Nat.le_of_ble_eq_true rfl) d_Mo_findEnds_80 (fun r9 M9 hp9 => ?_)
  obtain ⟨rfl, rfl⟩ := hp9
  refine v_r1 ?_
  refine v_int (nI 3) (by rw [opN_k hx]; rfl) ?_
  refine n_icmp_ge h0 (by omega) (by omega) d_Mo_findEnds_83 rfl (fun h83 => ?_) (fun h83 => absurd h83 (by omega))
  refine v_aload_n h0 d_Mo_findEnds_129 5 rfl ?_
  refine g_Mo_end_ h0 hC wd_453 d_Mo_findEnds_130 ?_
  refine v_bipush h0 d_Mo_findEnds_133 (v := nI 24) (by decide) ?_
  refine v_iload_n h0 d_Mo_findEnds_135 6 rfl ?_
  refine v_imul h0 d_Mo_findEnds_136 ?_
  refine v_int (nI (24 * c)) (pk_mul 24 c) ?_
  refine v_iload_n h0 d_Mo_findEnds_137 3 rfl ?_
  refine v_iadd h0 d_Mo_findEnds_138 ?_
  refine v_int (nI (24 * c + p)) (nI_add (24 * c) p) ?_
  refine v_iload h0 d_Mo_findEnds_139 1 rfl ?_
  refine s_Mo_end_ h0 hC (24 * c + p) (rfl) (z := nI e2) (rfl) (by omega) d_Mo_findEnds_141 ?_
  refine v_iinc h0 d_Mo_findEnds_142 (lv' := [(3, .int (pdI p)), (6, .int (nI (0 + 1 + 1 + 1))), (5, .int (nI e2)), (4, .int (s p)), (2, .int (nI f)), (0, .ref (ga g 0)), (1, .int (nI c))]) 3 rfl (pd_inc p) (lt_kn hn (by decide)) rfl ?_
  refine v_goto h0 d_Mo_findEnds_145 rfl ?_
  refine v_sub [0, 4, 5, 6] rfl ?_
  exact kk
set_option maxHeartbeats 4000000 in
theorem fe_4 {K : Cf} {g : Gd} (hI : sI (sR g)) (h0 : C0 K c_Mo_findEnds) (hC : Cx (sR g) K gC_Mo 3) (hn : kn K = 7) {M : Me} {c n p f : Nat} {s : Nat → Int32} (hc : c < 10) (hT : TR M c s n) (hp : p < n) (hf : f ≤ p) (hl : lbR M c p = 0) (hx : kd (s p) = 4) {e0 : Nat} (r0 : M 5 (24 * c + (p + 2)) = nI e0) (l0 : p + 2 < n) {e1 : Nat} (r1 : M 5 (24 * c + (e0)) = nI e1) (l1 : e0 < n) (hfin : e1 ≤ n) (kk : V K (wp (sR g)) (up2 M 5 (24 * c + p) (nI (e1))) 23 [(3, .int (pdI p)), (2, .int (nI f)), (0, .ref (ga g 0)), (1, .int (nI c))] []) : V K (wp (sR g)) M 23 [(3, .int (pdI (p + 1))), (2, .int (nI f)), (0, .ref (ga g 0)), (1, .int (nI c))] [] := by
  have hn24 := hT.2.1
  refine v_eq (?_ : V K (wp (sR g)) M 23 [(3, .int (nI p)), (2, .int (nI f)), (0, .ref (ga g 0)), (1, .int (nI c))] []) rfl rfl (by rw [pd_s]) rfl
  refine v_iload_n h0 d_Mo_findEnds_23 0 rfl ?_
  refine v_iload_n h0 d_Mo_findEnds_24 1 rfl ?_
  refine n_icmp_lt h0 (by omega) (by omega) d_Mo_findEnds_25 rfl (fun h25 => absurd h25 (by omega)) (fun h25 => ?_)
  refine v_aload_n h0 d_Mo_findEnds_28 2 rfl ?_
  refine g_Mo_label_ h0 hC wd_454 d_Mo_findEnds_29 ?_
  refine v_bipush h0 d_Mo_findEnds_32 (v := nI 24) (by decide) ?_
  refine v_iload_n h0 d_Mo_findEnds_34 3 rfl ?_
  refine v_imul h0 d_Mo_findEnds_35 ?_
  refine v_int (nI (24 * c)) (pk_mul 24 c) ?_
  refine v_iload_n h0 d_Mo_findEnds_36 0 rfl ?_
  refine v_iadd h0 d_Mo_findEnds_37 ?_
  refine v_int (nI (24 * c + p)) (nI_add (24 * c) p) ?_
  refine a_Mo_label_ h0 hC (24 * c + p) (rfl) (by omega) d_Mo_findEnds_38 ?_
  refine v_int (0) (hl) ?_
  refine v_if_ne h0 d_Mo_findEnds_39 rfl (fun h39 => absurd h39 (fun z => z rfl)) (fun h39 => ?_)
  refine v_aload_n h0 d_Mo_findEnds_42 2 rfl ?_
  refine v_iload_n h0 d_Mo_findEnds_43 3 rfl ?_
  refine v_iload_n h0 d_Mo_findEnds_44 0 rfl ?_
  refine v_callV h0 hC (sR_N0 g) 0 (show 0 < 22 by omega) (show enR g 0 _ = _ from rfl) rfl (av := [.int (nI c), .int (nI p)]) (rest := []) (m_Mo_charAt (kl K) g hI M hc (by omega) hT) wd_564 wd_561 wd_563 ws_32 wd_6 hd_Mo_charAt (by omega) (by decide) rfl rfl (Nat.le_of_ble_eq_true rfl) d_Mo_findEnds_45 (fun r9 M9 hp9 => ?_)
  obtain ⟨rfl, rfl⟩ := hp9
  refine v_r1 ?_
  refine v_int (s p) (if_pos hp) ?_
  refine v_istore h0 d_Mo_findEnds_48 (lv' := [(4, .int (s p)), (3, .int (nI p)), (2, .int (nI f)), (0, .ref (ga g 0)), (1, .int (nI c))]) (lt_kn hn (by decide)) rfl ?_
  refine v_iload_n h0 d_Mo_findEnds_50 1 rfl ?_
  refine v_iload h0 d_Mo_findEnds_51 0 rfl ?_
  refine v_bipush h0 d_Mo_findEnds_53 (v := nI 36) (by decide) ?_
  refine v_icmp_eq h0 d_Mo_findEnds_55 rfl (fun h55 => ?_) (fun h55 => absurd h55 (fun z => z ((kd_4 _).mp hx)))
  refine v_iconst h0 d_Mo_findEnds_65 (v := nI 2) (by decide) ?_
  refine v_goto h0 d_Mo_findEnds_66 rfl ?_
  refine v_iadd h0 d_Mo_findEnds_70 ?_
  refine v_int (nI (p + 2)) (nI_add p 2) ?_
  refine v_istore h0 d_Mo_findEnds_71 (lv' := [(5, .int (nI (p + 2))), (4, .int (s p)), (3, .int (nI p)), (2, .int (nI f)), (0, .ref (ga g 0)), (1, .int (nI c))]) (lt_kn hn (by decide)) rfl ?_
  refine v_iconst h0 d_Mo_findEnds_73 (v := nI 0) (by decide) ?_
  refine v_istore h0 d_Mo_findEnds_74 (lv' := [(6, .int (nI 0)), (5, .int (nI (p + 2))), (4, .int (s p)), (3, .int (nI p)), (2, .int (nI f)), (0, .ref (ga g 0)), (1, .int (nI c))]) (lt_kn hn (by decide)) rfl ?_
  refine v_iload h0 d_Mo_findEnds_76 0 rfl ?_
  refine v_iload h0 d_Mo_findEnds_78 2 rfl ?_
  refine v_callS h0 hC (sR_N0 g) (av := [.int (s p)]) (rest := [.int (nI 0)]) (m_Mo_operands (kl K) g hI M _) wd_595 wd_593 wd_594 wd_6 hd_Mo_operands (by omega) (by decide) rfl rfl (Nat.le_of_ble_eq_true rfl) d_Mo_findEnds_80 (fun r9 M9 hp9 => ?_)
  obtain ⟨rfl, rfl⟩ := hp9
  refine v_r1 ?_
  refine v_int (nI 2) (by rw [opN_k hx]; rfl) ?_
  refine n_icmp_ge h0 (by omega) (by omega) d_Mo_findEnds_83 rfl (fun h83 => absurd h83 (by omega)) (fun h83 => ?_)
  refine v_iload h0 d_Mo_findEnds_86 2 rfl ?_
  refine v_bipush h0 d_Mo_findEnds_88 (v := nI 35) (by decide) ?_
  refine v_icmp_ne h0 d_Mo_findEnds_90 rfl (fun h90 => ?_) (fun h90 => absurd h90 (fun z => absurd (hx.symm.trans ((kd_6 _).mpr z)) (by decide)))
  refine v_iload h0 d_Mo_findEnds_105 1 rfl ?_
  refine v_istore h0 d_Mo_findEnds_107 (lv' := [(5, .int (nI (p + 2))), (6, .int (nI 0)), (4, .int (s p)), (3, .int (nI p)), (2, .int (nI f)), (0, .ref (ga g 0)), (1, .int (nI c))]) (lt_kn hn (by decide)) rfl ?_
  refine v_aload_n h0 d_Mo_findEnds_109 5 rfl ?_
  refine g_Mo_end_ h0 hC wd_453 d_Mo_findEnds_110 ?_
  refine v_bipush h0 d_Mo_findEnds_113 (v := nI 24) (by decide) ?_
  refine v_iload_n h0 d_Mo_findEnds_115 6 rfl ?_
  refine v_imul h0 d_Mo_findEnds_116 ?_
  refine v_int (nI (24 * c)) (pk_mul 24 c) ?_
  refine v_iload h0 d_Mo_findEnds_117 0 rfl ?_
  refine v_iadd h0 d_Mo_findEnds_119 ?_
  refine v_int (nI (24 * c + (p + 2))) (nI_add (24 * c) (p + 2)) ?_
  refine a_Mo_end_ h0 hC (24 * c + (p + 2)) (rfl) (by omega) d_Mo_findEnds_120 ?_
  refine v_int (nI e0) (r0) ?_
  refine v_istore h0 d_Mo_findEnds_121 (lv' := [(5, .int (nI e0)), (6, .int (nI 0)), (4, .int (s p)), (3, .int (nI p)), (2, .int (nI f)), (0, .ref (ga g 0)), (1, .int (nI c))]) (lt_kn hn (by decide)) rfl ?_
  refine v_iinc h0 d_Mo_findEnds_123 (lv' := [(6, .int (nI (0 + 1))), (5, .int (nI e0)), (4, .int (s p)), (3, .int (nI p)), (2, .int (nI f)), (0, .ref (ga g 0)), (1, .int (nI c))]) 1 rfl (inc1 0) (lt_kn hn (by decide)) rfl ?_
  refine v_goto h0 d_Mo_findEnds_126 rfl ?_
  refine v_iload h0 d_Mo_findEnds_76 0 rfl ?_
  refine v_iload h0 d_Mo_findEnds_78 2 rfl ?_
  refine v_callS h0 hC (sR_N0 g) (av := [.int (s p)]) (rest := [.int (nI (0 + 1))]) (m_Mo_operands (kl K) g hI M _) wd_595 wd_593 wd_594 wd_6 hd_Mo_operands (by omega) (by decide) rfl rfl (Nat.le_of_ble_eq_true rfl) d_Mo_findEnds_80 (fun r9 M9 hp9 => ?_)
  obtain ⟨rfl, rfl⟩ := hp9
  refine v_r1 ?_
  refine v_int (nI 2) (by rw [opN_k hx]; rfl) ?_
  refine n_icmp_ge h0 (by omega) (by omega) d_Mo_findEnds_83 rfl (fun h83 => absurd h83 (by omega)) (fun h83 => ?_)
  refine v_iload h0 d_Mo_findEnds_86 2 rfl ?_
  refine v_bipush h0 d_Mo_findEnds_88 (v := nI 35) (by decide) ?_
  refine v_icmp_ne h0 d_Mo_findEnds_90 rfl (fun h90 => ?_) (fun h90 => absurd h90 (fun z => absurd (hx.symm.trans ((kd_6 _).mpr z)) (by decide)))
  refine v_iload h0 d_Mo_findEnds_105 1 rfl ?_
  refine v_istore h0 d_Mo_findEnds_107 (lv' := [(5, .int (nI e0)), (6, .int (nI (0 + 1))), (4, .int (s p)), (3, .int (nI p)), (2, .int (nI f)), (0, .ref (ga g 0)), (1, .int (nI c))]) (lt_kn hn (by decide)) rfl ?_
  refine v_aload_n h0 d_Mo_findEnds_109 5 rfl ?_
  refine g_Mo_end_ h0 hC wd_453 d_Mo_findEnds_110 ?_
  refine v_bipush h0 d_Mo_findEnds_113 (v := nI 24) (by decide) ?_
  refine v_iload_n h0 d_Mo_findEnds_115 6 rfl ?_
  refine v_imul h0 d_Mo_findEnds_116 ?_
  refine v_int (nI (24 * c)) (pk_mul 24 c) ?_
  refine v_iload h0 d_Mo_findEnds_117 0 rfl ?_
  refine v_iadd h0 d_Mo_findEnds_119 ?_
  refine v_int (nI (24 * c + e0)) (nI_add (24 * c) e0) ?_
  refine a_Mo_end_ h0 hC (24 * c + (e0)) (rfl) (by omega) d_Mo_findEnds_120 ?_
  refine v_int (nI e1) (r1) ?_
  refine v_istore h0 d_Mo_findEnds_121 (lv' := [(5, .int (nI e1)), (6, .int (nI (0 + 1))), (4, .int (s p)), (3, .int (nI p)), (2, .int (nI f)), (0, .ref (ga g 0)), (1, .int (nI c))]) (lt_kn hn (by decide)) rfl ?_
  refine v_iinc h0 d_Mo_findEnds_123 (lv' := [(6, .int (nI (0 + 1 + 1))), (5, .int (nI e1)), (4, .int (s p)), (3, .int (nI p)), (2, .int (nI f)), (0, .ref (ga g 0)), (1, .int (nI c))]) 1 rfl (inc1 (0 + 1)) (lt_kn hn (by decide)) rfl ?_
  refine v_goto h0 d_Mo_findEnds_126 rfl ?_
  refine v_iload h0 d_Mo_findEnds_76 0 rfl ?_
  refine v_iload h0 d_Mo_findEnds_78 2 rfl ?_
  refine v_callS h0 hC (sR_N0 g) (av := [.int (s p)]) (rest := [.int (nI (0 + 1 + 1))]) (m_Mo_operands (kl K) g hI M _) wd_595 wd_593 wd_594 wd_6 hd_Mo_operands (by omega) (by decide) rfl rfl (Nat.le_of_ble_eq_true rfl) d_Mo_findEnds_80 (fun r9 M9 hp9 => ?_)
  obtain ⟨rfl, rfl⟩ := hp9
  refine v_r1 ?_
  refine v_int (nI 2) (by rw [opN_k hx]; rfl) ?_
  refine n_icmp_ge h0 (by omega) (by omega) d_Mo_findEnds_83 rfl (fun h83 => ?_) (fun h83 => absurd h83 (by omega))
  refine v_aload_n h0 d_Mo_findEnds_129 5 rfl ?_
  refine g_Mo_end_ h0 hC wd_453 d_Mo_findEnds_130 ?_
  refine v_bipush h0 d_Mo_findEnds_133 (v := nI 24) (by decide) ?_
  refine v_iload_n h0 d_Mo_findEnds_135 6 rfl ?_
  refine v_imul h0 d_Mo_findEnds_136 ?_
  refine v_int (nI (24 * c)) (pk_mul 24 c) ?_
  refine v_iload_n h0 d_Mo_findEnds_137 3 rfl ?_
  refine v_iadd h0 d_Mo_findEnds_138 ?_
  refine v_int (nI (24 * c + p)) (nI_add (24 * c) p) ?_
  refine v_iload h0 d_Mo_findEnds_139 1 rfl ?_
  refine s_Mo_end_ h0 hC (24 * c + p) (rfl) (z := nI e1) (rfl) (by omega) d_Mo_findEnds_141 ?_
  refine v_iinc h0 d_Mo_findEnds_142 (lv' := [(3, .int (pdI p)), (6, .int (nI (0 + 1 + 1))), (5, .int (nI e1)), (4, .int (s p)), (2, .int (nI f)), (0, .ref (ga g 0)), (1, .int (nI c))]) 3 rfl (pd_inc p) (lt_kn hn (by decide)) rfl ?_
  refine v_goto h0 d_Mo_findEnds_145 rfl ?_
  refine v_sub [0, 4, 5, 6] rfl ?_
  exact kk
set_option maxHeartbeats 4000000 in
theorem fe_5 {K : Cf} {g : Gd} (hI : sI (sR g)) (h0 : C0 K c_Mo_findEnds) (hC : Cx (sR g) K gC_Mo 3) (hn : kn K = 7) {M : Me} {c n p f : Nat} {s : Nat → Int32} (hc : c < 10) (hT : TR M c s n) (hp : p < n) (hf : f ≤ p) (hl : lbR M c p = 0) (hx : kd (s p) = 5) {e0 : Nat} (r0 : M 5 (24 * c + (p + 2)) = nI e0) (l0 : p + 2 < n) (hfin : e0 ≤ n) (kk : V K (wp (sR g)) (up2 M 5 (24 * c + p) (nI (e0))) 23 [(3, .int (pdI p)), (2, .int (nI f)), (0, .ref (ga g 0)), (1, .int (nI c))] []) : V K (wp (sR g)) M 23 [(3, .int (pdI (p + 1))), (2, .int (nI f)), (0, .ref (ga g 0)), (1, .int (nI c))] [] := by
  have hn24 := hT.2.1
  refine v_eq (?_ : V K (wp (sR g)) M 23 [(3, .int (nI p)), (2, .int (nI f)), (0, .ref (ga g 0)), (1, .int (nI c))] []) rfl rfl (by rw [pd_s]) rfl
  refine v_iload_n h0 d_Mo_findEnds_23 0 rfl ?_
  refine v_iload_n h0 d_Mo_findEnds_24 1 rfl ?_
  refine n_icmp_lt h0 (by omega) (by omega) d_Mo_findEnds_25 rfl (fun h25 => absurd h25 (by omega)) (fun h25 => ?_)
  refine v_aload_n h0 d_Mo_findEnds_28 2 rfl ?_
  refine g_Mo_label_ h0 hC wd_454 d_Mo_findEnds_29 ?_
  refine v_bipush h0 d_Mo_findEnds_32 (v := nI 24) (by decide) ?_
  refine v_iload_n h0 d_Mo_findEnds_34 3 rfl ?_
  refine v_imul h0 d_Mo_findEnds_35 ?_
  refine v_int (nI (24 * c)) (pk_mul 24 c) ?_
  refine v_iload_n h0 d_Mo_findEnds_36 0 rfl ?_
  refine v_iadd h0 d_Mo_findEnds_37 ?_
  refine v_int (nI (24 * c + p)) (nI_add (24 * c) p) ?_
  refine a_Mo_label_ h0 hC (24 * c + p) (rfl) (by omega) d_Mo_findEnds_38 ?_
  refine v_int (0) (hl) ?_
  refine v_if_ne h0 d_Mo_findEnds_39 rfl (fun h39 => absurd h39 (fun z => z rfl)) (fun h39 => ?_)
  refine v_aload_n h0 d_Mo_findEnds_42 2 rfl ?_
  refine v_iload_n h0 d_Mo_findEnds_43 3 rfl ?_
  refine v_iload_n h0 d_Mo_findEnds_44 0 rfl ?_
  refine v_callV h0 hC (sR_N0 g) 0 (show 0 < 22 by omega) (show enR g 0 _ = _ from rfl) rfl (av := [.int (nI c), .int (nI p)]) (rest := []) (m_Mo_charAt (kl K) g hI M hc (by omega) hT) wd_564 wd_561 wd_563 ws_32 wd_6 hd_Mo_charAt (by omega) (by decide) rfl rfl (Nat.le_of_ble_eq_true rfl) d_Mo_findEnds_45 (fun r9 M9 hp9 => ?_)
  obtain ⟨rfl, rfl⟩ := hp9
  refine v_r1 ?_
  refine v_int (s p) (if_pos hp) ?_
  refine v_istore h0 d_Mo_findEnds_48 (lv' := [(4, .int (s p)), (3, .int (nI p)), (2, .int (nI f)), (0, .ref (ga g 0)), (1, .int (nI c))]) (lt_kn hn (by decide)) rfl ?_
  refine v_iload_n h0 d_Mo_findEnds_50 1 rfl ?_
  refine v_iload h0 d_Mo_findEnds_51 0 rfl ?_
  refine v_bipush h0 d_Mo_findEnds_53 (v := nI 36) (by decide) ?_
  refine v_icmp_eq h0 d_Mo_findEnds_55 rfl (fun h55 => absurd h55 (fun z => absurd (hx.symm.trans ((kd_4 _).mpr z)) (by decide))) (fun h55 => ?_)
  refine v_iload h0 d_Mo_findEnds_58 0 rfl ?_
  refine v_bipush h0 d_Mo_findEnds_60 (v := nI 33) (by decide) ?_
  refine v_icmp_ne h0 d_Mo_findEnds_62 rfl (fun h62 => absurd h62 (fun z => z ((kd_5 _).mp hx))) (fun h62 => ?_)
  refine v_iconst h0 d_Mo_findEnds_65 (v := nI 2) (by decide) ?_
  refine v_goto h0 d_Mo_findEnds_66 rfl ?_
  refine v_iadd h0 d_Mo_findEnds_70 ?_
  refine v_int (nI (p + 2)) (nI_add p 2) ?_
  refine v_istore h0 d_Mo_findEnds_71 (lv' := [(5, .int (nI (p + 2))), (4, .int (s p)), (3, .int (nI p)), (2, .int (nI f)), (0, .ref (ga g 0)), (1, .int (nI c))]) (lt_kn hn (by decide)) rfl ?_
  refine v_iconst h0 d_Mo_findEnds_73 (v := nI 0) (by decide) ?_
  refine v_istore h0 d_Mo_findEnds_74 (lv' := [(6, .int (nI 0)), (5, .int (nI (p + 2))), (4, .int (s p)), (3, .int (nI p)), (2, .int (nI f)), (0, .ref (ga g 0)), (1, .int (nI c))]) (lt_kn hn (by decide)) rfl ?_
  refine v_iload h0 d_Mo_findEnds_76 0 rfl ?_
  refine v_iload h0 d_Mo_findEnds_78 2 rfl ?_
  refine v_callS h0 hC (sR_N0 g) (av := [.int (s p)]) (rest := [.int (nI 0)]) (m_Mo_operands (kl K) g hI M _) wd_595 wd_593 wd_594 wd_6 hd_Mo_operands (by omega) (by decide) rfl rfl (Nat.le_of_ble_eq_true rfl) d_Mo_findEnds_80 (fun r9 M9 hp9 => ?_)
  obtain ⟨rfl, rfl⟩ := hp9
  refine v_r1 ?_
  refine v_int (nI 1) (by rw [opN_k hx]; rfl) ?_
  refine n_icmp_ge h0 (by omega) (by omega) d_Mo_findEnds_83 rfl (fun h83 => absurd h83 (by omega)) (fun h83 => ?_)
  refine v_iload h0 d_Mo_findEnds_86 2 rfl ?_
  refine v_bipush h0 d_Mo_findEnds_88 (v := nI 35) (by decide) ?_
  refine v_icmp_ne h0 d_Mo_findEnds_90 rfl (fun h90 => ?_) (fun h90 => absurd h90 (fun z => absurd (hx.symm.trans ((kd_6 _).mpr z)) (by decide)))
  refine v_iload h0 d_Mo_findEnds_105 1 rfl ?_
  refine v_istore h0 d_Mo_findEnds_107 (lv' := [(5, .int (nI (p + 2))), (6, .int (nI 0)), (4, .int (s p)), (3, .int (nI p)), (2, .int (nI f)), (0, .ref (ga g 0)), (1, .int (nI c))]) (lt_kn hn (by decide)) rfl ?_
  refine v_aload_n h0 d_Mo_findEnds_109 5 rfl ?_
  refine g_Mo_end_ h0 hC wd_453 d_Mo_findEnds_110 ?_
  refine v_bipush h0 d_Mo_findEnds_113 (v := nI 24) (by decide) ?_
  refine v_iload_n h0 d_Mo_findEnds_115 6 rfl ?_
  refine v_imul h0 d_Mo_findEnds_116 ?_
  refine v_int (nI (24 * c)) (pk_mul 24 c) ?_
  refine v_iload h0 d_Mo_findEnds_117 0 rfl ?_
  refine v_iadd h0 d_Mo_findEnds_119 ?_
  refine v_int (nI (24 * c + (p + 2))) (nI_add (24 * c) (p + 2)) ?_
  refine a_Mo_end_ h0 hC (24 * c + (p + 2)) (rfl) (by omega) d_Mo_findEnds_120 ?_
  refine v_int (nI e0) (r0) ?_
  refine v_istore h0 d_Mo_findEnds_121 (lv' := [(5, .int (nI e0)), (6, .int (nI 0)), (4, .int (s p)), (3, .int (nI p)), (2, .int (nI f)), (0, .ref (ga g 0)), (1, .int (nI c))]) (lt_kn hn (by decide)) rfl ?_
  refine v_iinc h0 d_Mo_findEnds_123 (lv' := [(6, .int (nI (0 + 1))), (5, .int (nI e0)), (4, .int (s p)), (3, .int (nI p)), (2, .int (nI f)), (0, .ref (ga g 0)), (1, .int (nI c))]) 1 rfl (inc1 0) (lt_kn hn (by decide)) rfl ?_
  refine v_goto h0 d_Mo_findEnds_126 rfl ?_
  refine v_iload h0 d_Mo_findEnds_76 0 rfl ?_
  refine v_iload h0 d_Mo_findEnds_78 2 rfl ?_
  refine v_callS h0 hC (sR_N0 g) (av := [.int (s p)]) (rest := [.int (nI (0 + 1))]) (m_Mo_operands (kl K) g hI M _) wd_595 wd_593 wd_594 wd_6 hd_Mo_operands (by omega) (by decide) rfl rfl (Nat.le_of_ble_eq_true rfl) d_Mo_findEnds_80 (fun r9 M9 hp9 => ?_)
  obtain ⟨rfl, rfl⟩ := hp9
  refine v_r1 ?_
  refine v_int (nI 1) (by rw [opN_k hx]; rfl) ?_
  refine n_icmp_ge h0 (by omega) (by omega) d_Mo_findEnds_83 rfl (fun h83 => ?_) (fun h83 => absurd h83 (by omega))
  refine v_aload_n h0 d_Mo_findEnds_129 5 rfl ?_
  refine g_Mo_end_ h0 hC wd_453 d_Mo_findEnds_130 ?_
  refine v_bipush h0 d_Mo_findEnds_133 (v := nI 24) (by decide) ?_
  refine v_iload_n h0 d_Mo_findEnds_135 6 rfl ?_
  refine v_imul h0 d_Mo_findEnds_136 ?_
  refine v_int (nI (24 * c)) (pk_mul 24 c) ?_
  refine v_iload_n h0 d_Mo_findEnds_137 3 rfl ?_
  refine v_iadd h0 d_Mo_findEnds_138 ?_
  refine v_int (nI (24 * c + p)) (nI_add (24 * c) p) ?_
  refine v_iload h0 d_Mo_findEnds_139 1 rfl ?_
  refine s_Mo_end_ h0 hC (24 * c + p) (rfl) (z := nI e0) (rfl) (by omega) d_Mo_findEnds_141 ?_
  refine v_iinc h0 d_Mo_findEnds_142 (lv' := [(3, .int (pdI p)), (6, .int (nI (0 + 1))), (5, .int (nI e0)), (4, .int (s p)), (2, .int (nI f)), (0, .ref (ga g 0)), (1, .int (nI c))]) 3 rfl (pd_inc p) (lt_kn hn (by decide)) rfl ?_
  refine v_goto h0 d_Mo_findEnds_145 rfl ?_
  refine v_sub [0, 4, 5, 6] rfl ?_
  exact kk
set_option maxHeartbeats 4000000 in
theorem fe_6 {K : Cf} {g : Gd} (hI : sI (sR g)) (h0 : C0 K c_Mo_findEnds) (hC : Cx (sR g) K gC_Mo 3) (hn : kn K = 7) {M : Me} {c n p f : Nat} {s : Nat → Int32} (hc : c < 10) (hT : TR M c s n) (hp : p < n) (hf : f ≤ p) (hl : lbR M c p = 0) (hx : kd (s p) = 6) {e0 : Nat} (r0 : M 5 (24 * c + (p + 1)) = nI e0) (l0 : p + 1 < n) {e1 : Nat} (r1 : M 5 (24 * c + (e0 + 1)) = nI e1) (l1 : e0 + 1 < n) {e2 : Nat} (r2 : M 5 (24 * c + (e1 + 1)) = nI e2) (l2 : e1 + 1 < n) (hfin : e2 ≤ n) (kk : V K (wp (sR g)) (up2 M 5 (24 * c + p) (nI (e2))) 23 [(3, .int (pdI p)), (2, .int (nI f)), (0, .ref (ga g 0)), (1, .int (nI c))] []) : V K (wp (sR g)) M 23 [(3, .int (pdI (p + 1))), (2, .int (nI f)), (0, .ref (ga g 0)), (1, .int (nI c))] [] := by
  have hn24 := hT.2.1
  refine v_eq (?_ : V K (wp (sR g)) M 23 [(3, .int (nI p)), (2, .int (nI f)), (0, .ref (ga g 0)), (1, .int (nI c))] []) rfl rfl (by rw [pd_s]) rfl
  refine v_iload_n h0 d_Mo_findEnds_23 0 rfl ?_
  refine v_iload_n h0 d_Mo_findEnds_24 1 rfl ?_
  refine n_icmp_lt h0 (by omega) (by omega) d_Mo_findEnds_25 rfl (fun h25 => absurd h25 (by omega)) (fun h25 => ?_)
  refine v_aload_n h0 d_Mo_findEnds_28 2 rfl ?_
  refine g_Mo_label_ h0 hC wd_454 d_Mo_findEnds_29 ?_
  refine v_bipush h0 d_Mo_findEnds_32 (v := nI 24) (by decide) ?_
  refine v_iload_n h0 d_Mo_findEnds_34 3 rfl ?_
  refine v_imul h0 d_Mo_findEnds_35 ?_
  refine v_int (nI (24 * c)) (pk_mul 24 c) ?_
  refine v_iload_n h0 d_Mo_findEnds_36 0 rfl ?_
  refine v_iadd h0 d_Mo_findEnds_37 ?_
  refine v_int (nI (24 * c + p)) (nI_add (24 * c) p) ?_
  refine a_Mo_label_ h0 hC (24 * c + p) (rfl) (by omega) d_Mo_findEnds_38 ?_
  refine v_int (0) (hl) ?_
  refine v_if_ne h0 d_Mo_findEnds_39 rfl (fun h39 => absurd h39 (fun z => z rfl)) (fun h39 => ?_)
  refine v_aload_n h0 d_Mo_findEnds_42 2 rfl ?_
  refine v_iload_n h0 d_Mo_findEnds_43 3 rfl ?_
  refine v_iload_n h0 d_Mo_findEnds_44 0 rfl ?_
  refine v_callV h0 hC (sR_N0 g) 0 (show 0 < 22 by omega) (show enR g 0 _ = _ from rfl) rfl (av := [.int (nI c), .int (nI p)]) (rest := []) (m_Mo_charAt (kl K) g hI M hc (by omega) hT) wd_564 wd_561 wd_563 ws_32 wd_6 hd_Mo_charAt (by omega) (by decide) rfl rfl (Nat.le_of_ble_eq_true rfl) d_Mo_findEnds_45 (fun r9 M9 hp9 => ?_)
  obtain ⟨rfl, rfl⟩ := hp9
  refine v_r1 ?_
  refine v_int (s p) (if_pos hp) ?_
  refine v_istore h0 d_Mo_findEnds_48 (lv' := [(4, .int (s p)), (3, .int (nI p)), (2, .int (nI f)), (0, .ref (ga g 0)), (1, .int (nI c))]) (lt_kn hn (by decide)) rfl ?_
  refine v_iload_n h0 d_Mo_findEnds_50 1 rfl ?_
  refine v_iload h0 d_Mo_findEnds_51 0 rfl ?_
  refine v_bipush h0 d_Mo_findEnds_53 (v := nI 36) (by decide) ?_
  refine v_icmp_eq h0 d_Mo_findEnds_55 rfl (fun h55 => absurd h55 (fun z => absurd (hx.symm.trans ((kd_4 _).mpr z)) (by decide))) (fun h55 => ?_)
  refine v_iload h0 d_Mo_findEnds_58 0 rfl ?_
  refine v_bipush h0 d_Mo_findEnds_60 (v := nI 33) (by decide) ?_
  refine v_icmp_ne h0 d_Mo_findEnds_62 rfl (fun h62 => ?_) (fun h62 => absurd h62 (fun z => absurd (hx.symm.trans ((kd_5 _).mpr z)) (by decide)))
  refine v_iconst h0 d_Mo_findEnds_69 (v := nI 1) (by decide) ?_
  refine v_iadd h0 d_Mo_findEnds_70 ?_
  refine v_int (nI (p + 1)) (nI_add p 1) ?_
  refine v_istore h0 d_Mo_findEnds_71 (lv' := [(5, .int (nI (p + 1))), (4, .int (s p)), (3, .int (nI p)), (2, .int (nI f)), (0, .ref (ga g 0)), (1, .int (nI c))]) (lt_kn hn (by decide)) rfl ?_
  refine v_iconst h0 d_Mo_findEnds_73 (v := nI 0) (by decide) ?_
  refine v_istore h0 d_Mo_findEnds_74 (lv' := [(6, .int (nI 0)), (5, .int (nI (p + 1))), (4, .int (s p)), (3, .int (nI p)), (2, .int (nI f)), (0, .ref (ga g 0)), (1, .int (nI c))]) (lt_kn hn (by decide)) rfl ?_
  refine v_iload h0 d_Mo_findEnds_76 0 rfl ?_
  refine v_iload h0 d_Mo_findEnds_78 2 rfl ?_
  refine v_callS h0 hC (sR_N0 g) (av := [.int (s p)]) (rest := [.int (nI 0)]) (m_Mo_operands (kl K) g hI M _) wd_595 wd_593 wd_594 wd_6 hd_Mo_operands (by omega) (by decide) rfl rfl (Nat.le_of_ble_eq_true rfl) d_Mo_findEnds_80 (fun r9 M9 hp9 => ?_)
  obtain ⟨rfl, rfl⟩ := hp9
  refine v_r1 ?_
  refine v_int (nI 3) (by rw [opN_k hx]; rfl) ?_
  refine n_icmp_ge h0 (by omega) (by omega) d_Mo_findEnds_83 rfl (fun h83 => absurd h83 (by omega)) (fun h83 => ?_)
  refine v_iload h0 d_Mo_findEnds_86 2 rfl ?_
  refine v_bipush h0 d_Mo_findEnds_88 (v := nI 35) (by decide) ?_
  refine v_icmp_ne h0 d_Mo_findEnds_90 rfl (fun h90 => absurd h90 (fun z => z ((kd_6 _).mp hx))) (fun h90 => ?_)
  refine v_iload h0 d_Mo_findEnds_93 0 rfl ?_
  refine v_if_le h0 d_Mo_findEnds_95 rfl (fun h95 => ?_) (fun h95 => absurd h95 (fun z => z (by decide)))
  refine v_iload h0 d_Mo_findEnds_105 1 rfl ?_
  refine v_istore h0 d_Mo_findEnds_107 (lv' := [(5, .int (nI (p + 1))), (6, .int (nI 0)), (4, .int (s p)), (3, .int (nI p)), (2, .int (nI f)), (0, .ref (ga g 0)), (1, .int (nI c))]) (lt_kn hn (by decide)) rfl ?_
  refine v_aload_n h0 d_Mo_findEnds_109 5 rfl ?_
  refine g_Mo_end_ h0 hC wd_453 d_Mo_findEnds_110 ?_
  refine v_bipush h0 d_Mo_findEnds_113 (v := nI 24) (by decide) ?_
  refine v_iload_n h0 d_Mo_findEnds_115 6 rfl ?_
  refine v_imul h0 d_Mo_findEnds_116 ?_
  refine v_int (nI (24 * c)) (pk_mul 24 c) ?_
  refine v_iload h0 d_Mo_findEnds_117 0 rfl ?_
  refine v_iadd h0 d_Mo_findEnds_119 ?_
  refine v_int (nI (24 * c + (p + 1))) (nI_add (24 * c) (p + 1)) ?_
  refine a_Mo_end_ h0 hC (24 * c + (p + 1)) (rfl) (by omega) d_Mo_findEnds_120 ?_
  refine v_int (nI e0) (r0) ?_
  refine v_istore h0 d_Mo_findEnds_121 (lv' := [(5, .int (nI e0)), (6, .int (nI 0)), (4, .int (s p)), (3, .int (nI p)), (2, .int (nI f)), (0, .ref (ga g 0)), (1, .int (nI c))]) (lt_kn hn (by decide)) rfl ?_
  refine v_iinc h0 d_Mo_findEnds_123 (lv' := [(6, .int (nI (0 + 1))), (5, .int (nI e0)), (4, .int (s p)), (3, .int (nI p)), (2, .int (nI f)), (0, .ref (ga g 0)), (1, .int (nI c))]) 1 rfl (inc1 0) (lt_kn hn (by decide)) rfl ?_
  refine v_goto h0 d_Mo_findEnds_126 rfl ?_
  refine v_iload h0 d_Mo_findEnds_76 0 rfl ?_
  refine v_iload h0 d_Mo_findEnds_78 2 rfl ?_
  refine v_callS h0 hC (sR_N0 g) (av := [.int (s p)]) (rest := [.int (nI (0 + 1))]) (m_Mo_operands (kl K) g hI M _) wd_595 wd_593 wd_594 wd_6 hd_Mo_operands (by omega) (by decide) rfl rfl (Nat.le_of_ble_eq_true rfl) d_Mo_findEnds_80 (fun r9 M9 hp9 => ?_)
  obtain ⟨rfl, rfl⟩ := hp9
  refine v_r1 ?_
  refine v_int (nI 3) (by rw [opN_k hx]; rfl) ?_
  refine n_icmp_ge h0 (by omega) (by omega) d_Mo_findEnds_83 rfl (fun h83 => absurd h83 (by omega)) (fun h83 => ?_)
  refine v_iload h0 d_Mo_findEnds_86 2 rfl ?_
  refine v_bipush h0 d_Mo_findEnds_88 (v := nI 35) (by decide) ?_
  refine v_icmp_ne h0 d_Mo_findEnds_90 rfl (fun h90 => absurd h90 (fun z => z ((kd_6 _).mp hx))) (fun h90 => ?_)
  refine v_iload h0 d_Mo_findEnds_93 0 rfl ?_
  refine v_if_le h0 d_Mo_findEnds_95 rfl (fun h95 => absurd h95 (by decide)) (fun h95 => ?_)
  refine v_iload h0 d_Mo_findEnds_98 1 rfl ?_
  refine v_iconst h0 d_Mo_findEnds_100 (v := nI 1) (by decide) ?_
  refine v_iadd h0 d_Mo_findEnds_101 ?_
  refine v_int (nI (e0 + 1)) (nI_add e0 1) ?_
  refine v_goto h0 d_Mo_findEnds_102 rfl ?_
  refine v_istore h0 d_Mo_findEnds_107 (lv' := [(5, .int (nI (e0 + 1))), (6, .int (nI (0 + 1))), (4, .int (s p)), (3, .int (nI p)), (2, .int (nI f)), (0, .ref (ga g 0)), (1, .int (nI c))]) (lt_kn hn (by decide)) rfl ?_
  refine v_aload_n h0 d_Mo_findEnds_109 5 rfl ?_
  refine g_Mo_end_ h0 hC wd_453 d_Mo_findEnds_110 ?_
  refine v_bipush h0 d_Mo_findEnds_113 (v := nI 24) (by decide) ?_
  refine v_iload_n h0 d_Mo_findEnds_115 6 rfl ?_
  refine v_imul h0 d_Mo_findEnds_116 ?_
  refine v_int (nI (24 * c)) (pk_mul 24 c) ?_
  refine v_iload h0 d_Mo_findEnds_117 0 rfl ?_
  refine v_iadd h0 d_Mo_findEnds_119 ?_
  refine v_int (nI (24 * c + (e0 + 1))) (nI_add (24 * c) (e0 + 1)) ?_
  refine a_Mo_end_ h0 hC (24 * c + (e0 + 1)) (rfl) (by omega) d_Mo_findEnds_120 ?_
  refine v_int (nI e1) (r1) ?_
  refine v_istore h0 d_Mo_findEnds_121 (lv' := [(5, .int (nI e1)), (6, .int (nI (0 + 1))), (4, .int (s p)), (3, .int (nI p)), (2, .int (nI f)), (0, .ref (ga g 0)), (1, .int (nI c))]) (lt_kn hn (by decide)) rfl ?_
  refine v_iinc h0 d_Mo_findEnds_123 (lv' := [(6, .int (nI (0 + 1 + 1))), (5, .int (nI e1)), (4, .int (s p)), (3, .int (nI p)), (2, .int (nI f)), (0, .ref (ga g 0)), (1, .int (nI c))]) 1 rfl (inc1 (0 + 1)) (lt_kn hn (by decide)) rfl ?_
  refine v_goto h0 d_Mo_findEnds_126 rfl ?_
  refine v_iload h0 d_Mo_findEnds_76 0 rfl ?_
  refine v_iload h0 d_Mo_findEnds_78 2 rfl ?_
  refine v_callS h0 hC (sR_N0 g) (av := [.int (s p)]) (rest := [.int (nI (0 + 1 + 1))]) (m_Mo_operands (kl K) g hI M _) wd_595 wd_593 wd_594 wd_6 hd_Mo_operands (by omega) (by decide) rfl rfl (Nat.le_of_ble_eq_true rfl) d_Mo_findEnds_80 (fun r9 M9 hp9 => ?_)
  obtain ⟨rfl, rfl⟩ := hp9
  refine v_r1 ?_
  refine v_int (nI 3) (by rw [opN_k hx]; rfl) ?_
  refine n_icmp_ge h0 (by omega) (by omega) d_Mo_findEnds_83 rfl (fun h83 => absurd h83 (by omega)) (fun h83 => ?_)
  refine v_iload h0 d_Mo_findEnds_86 2 rfl ?_
  refine v_bipush h0 d_Mo_findEnds_88 (v := nI 35) (by decide) ?_
  refine v_icmp_ne h0 d_Mo_findEnds_90 rfl (fun h90 => absurd h90 (fun z => z ((kd_6 _).mp hx))) (fun h90 => ?_)
  refine v_iload h0 d_Mo_findEnds_93 0 rfl ?_
  refine v_if_le h0 d_Mo_findEnds_95 rfl (fun h95 => absurd h95 (by decide)) (fun h95 => ?_)
  refine v_iload h0 d_Mo_findEnds_98 1 rfl ?_
  refine v_iconst h0 d_Mo_findEnds_100 (v := nI 1) (by decide) ?_
  refine v_iadd h0 d_Mo_findEnds_101 ?_
  refine v_int (nI (e1 + 1)) (nI_add e1 1) ?_
  refine v_goto h0 d_Mo_findEnds_102 rfl ?_
  refine v_istore h0 d_Mo_findEnds_107 (lv' := [(5, .int (nI (e1 + 1))), (6, .int (nI (0 + 1 + 1))), (4, .int (s p)), (3, .int (nI p)), (2, .int (nI f)), (0, .ref (ga g 0)), (1, .int (nI c))]) (lt_kn hn (by decide)) rfl ?_
  refine v_aload_n h0 d_Mo_findEnds_109 5 rfl ?_
  refine g_Mo_end_ h0 hC wd_453 d_Mo_findEnds_110 ?_
  refine v_bipush h0 d_Mo_findEnds_113 (v := nI 24) (by decide) ?_
  refine v_iload_n h0 d_Mo_findEnds_115 6 rfl ?_
  refine v_imul h0 d_Mo_findEnds_116 ?_
  refine v_int (nI (24 * c)) (pk_mul 24 c) ?_
  refine v_iload h0 d_Mo_findEnds_117 0 rfl ?_
  refine v_iadd h0 d_Mo_findEnds_119 ?_
  refine v_int (nI (24 * c + (e1 + 1))) (nI_add (24 * c) (e1 + 1)) ?_
  refine a_Mo_end_ h0 hC (24 * c + (e1 + 1)) (rfl) (by omega) d_Mo_findEnds_120 ?_
  refine v_int (nI e2) (r2) ?_
  refine v_istore h0 d_Mo_findEnds_121 (lv' := [(5, .int (nI e2)), (6, .int (nI (0 + 1 + 1))), (4, .int (s p)), (3, .int (nI p)), (2, .int (nI f)), (0, .ref (ga g 0)), (1, .int (nI c))]) (lt_kn hn (by decide)) rfl ?_
  refine v_iinc h0 d_Mo_findEnds_123 (lv' := [(6, .int (nI (0 + 1 + 1 + 1))), (5, .int (nI e2)), (4, .int (s p)), (3, .int (nI p)), (2, .int (nI f)), (0, .ref (ga g 0)), (1, .int (nI c))]) 1 rfl (inc1 (0 + 1 + 1)) (lt_kn hn (by decide)) rfl ?_
  refine v_goto h0 d_Mo_findEnds_126 rfl ?_
  refine v_iload h0 d_Mo_findEnds_76 0 rfl ?_
  refine v_iload h0 d_Mo_findEnds_78 2 rfl ?_
  refine v_callS h0 hC (sR_N0 g) (av := [.int (s p)]) (rest := [.int (nI (0 + 1 + 1 + 1))]) (m_Mo_operands (kl K) g hI M _) wd_595 wd_593 wd_594 wd_6 hd_Mo_operands (by omega) (by decide) rfl rfl (Nat.le_of_ble_eq_true rfl) d_Mo_findEnds_80 (fun r9 M9 hp9 => ?_)
  obtain ⟨rfl, rfl⟩ := hp9
  refine v_r1 ?_
  refine v_int (nI 3) (by rw [opN_k hx]; rfl) ?_
  refine n_icmp_ge h0 (by omega) (by omega) d_Mo_findEnds_83 rfl (fun h83 => ?_) (fun h83 => absurd h83 (by omega))
  refine v_aload_n h0 d_Mo_findEnds_129 5 rfl ?_
  refine g_Mo_end_ h0 hC wd_453 d_Mo_findEnds_130 ?_
  refine v_bipush h0 d_Mo_findEnds_133 (v := nI 24) (by decide) ?_
  refine v_iload_n h0 d_Mo_findEnds_135 6 rfl ?_
  refine v_imul h0 d_Mo_findEnds_136 ?_
  refine v_int (nI (24 * c)) (pk_mul 24 c) ?_
  refine v_iload_n h0 d_Mo_findEnds_137 3 rfl ?_
  refine v_iadd h0 d_Mo_findEnds_138 ?_
  refine v_int (nI (24 * c + p)) (nI_add (24 * c) p) ?_
  refine v_iload h0 d_Mo_findEnds_139 1 rfl ?_
  refine s_Mo_end_ h0 hC (24 * c + p) (rfl) (z := nI e2) (rfl) (by omega) d_Mo_findEnds_141 ?_
  refine v_iinc h0 d_Mo_findEnds_142 (lv' := [(3, .int (pdI p)), (6, .int (nI (0 + 1 + 1 + 1))), (5, .int (nI e2)), (4, .int (s p)), (2, .int (nI f)), (0, .ref (ga g 0)), (1, .int (nI c))]) 3 rfl (pd_inc p) (lt_kn hn (by decide)) rfl ?_
  refine v_goto h0 d_Mo_findEnds_145 rfl ?_
  refine v_sub [0, 4, 5, 6] rfl ?_
  exact kk
set_option maxHeartbeats 4000000 in
theorem fe_7 {K : Cf} {g : Gd} (hI : sI (sR g)) (h0 : C0 K c_Mo_findEnds) (hC : Cx (sR g) K gC_Mo 3) (hn : kn K = 7) {M : Me} {c n p f : Nat} {s : Nat → Int32} (hc : c < 10) (hT : TR M c s n) (hp : p < n) (hf : f ≤ p) (hl : lbR M c p = 0) (hx : kd (s p) = 7) (hfin : p + 1 ≤ n) (kk : V K (wp (sR g)) (up2 M 5 (24 * c + p) (nI (p + 1))) 23 [(3, .int (pdI p)), (2, .int (nI f)), (0, .ref (ga g 0)), (1, .int (nI c))] []) : V K (wp (sR g)) M 23 [(3, .int (pdI (p + 1))), (2, .int (nI f)), (0, .ref (ga g 0)), (1, .int (nI c))] [] := by
  have hn24 := hT.2.1
  refine v_eq (?_ : V K (wp (sR g)) M 23 [(3, .int (nI p)), (2, .int (nI f)), (0, .ref (ga g 0)), (1, .int (nI c))] []) rfl rfl (by rw [pd_s]) rfl
  refine v_iload_n h0 d_Mo_findEnds_23 0 rfl ?_
  refine v_iload_n h0 d_Mo_findEnds_24 1 rfl ?_
  refine n_icmp_lt h0 (by omega) (by omega) d_Mo_findEnds_25 rfl (fun h25 => absurd h25 (by omega)) (fun h25 => ?_)
  refine v_aload_n h0 d_Mo_findEnds_28 2 rfl ?_
  refine g_Mo_label_ h0 hC wd_454 d_Mo_findEnds_29 ?_
  refine v_bipush h0 d_Mo_findEnds_32 (v := nI 24) (by decide) ?_
  refine v_iload_n h0 d_Mo_findEnds_34 3 rfl ?_
  refine v_imul h0 d_Mo_findEnds_35 ?_
  refine v_int (nI (24 * c)) (pk_mul 24 c) ?_
  refine v_iload_n h0 d_Mo_findEnds_36 0 rfl ?_
  refine v_iadd h0 d_Mo_findEnds_37 ?_
  refine v_int (nI (24 * c + p)) (nI_add (24 * c) p) ?_
  refine a_Mo_label_ h0 hC (24 * c + p) (rfl) (by omega) d_Mo_findEnds_38 ?_
  refine v_int (0) (hl) ?_
  refine v_if_ne h0 d_Mo_findEnds_39 rfl (fun h39 => absurd h39 (fun z => z rfl)) (fun h39 => ?_)
  refine v_aload_n h0 d_Mo_findEnds_42 2 rfl ?_
  refine v_iload_n h0 d_Mo_findEnds_43 3 rfl ?_
  refine v_iload_n h0 d_Mo_findEnds_44 0 rfl ?_
  refine v_callV h0 hC (sR_N0 g) 0 (show 0 < 22 by omega) (show enR g 0 _ = _ from rfl) rfl (av := [.int (nI c), .int (nI p)]) (rest := []) (m_Mo_charAt (kl K) g hI M hc (by omega) hT) wd_564 wd_561 wd_563 ws_32 wd_6 hd_Mo_charAt (by omega) (by decide) rfl rfl (Nat.le_of_ble_eq_true rfl) d_Mo_findEnds_45 (fun r9 M9 hp9 => ?_)
  obtain ⟨rfl, rfl⟩ := hp9
  refine v_r1 ?_
  refine v_int (s p) (if_pos hp) ?_
  refine v_istore h0 d_Mo_findEnds_48 (lv' := [(4, .int (s p)), (3, .int (nI p)), (2, .int (nI f)), (0, .ref (ga g 0)), (1, .int (nI c))]) (lt_kn hn (by decide)) rfl ?_
  refine v_iload_n h0 d_Mo_findEnds_50 1 rfl ?_
  refine v_iload h0 d_Mo_findEnds_51 0 rfl ?_
  refine v_bipush h0 d_Mo_findEnds_53 (v := nI 36) (by decide) ?_
  refine v_icmp_eq h0 d_Mo_findEnds_55 rfl (fun h55 => absurd h55 (fun z => absurd (hx.symm.trans ((kd_4 _).mpr z)) (by decide))) (fun h55 => ?_)
  refine v_iload h0 d_Mo_findEnds_58 0 rfl ?_
  refine v_bipush h0 d_Mo_findEnds_60 (v := nI 33) (by decide) ?_
  refine v_icmp_ne h0 d_Mo_findEnds_62 rfl (fun h62 => ?_) (fun h62 => absurd h62 (fun z => absurd (hx.symm.trans ((kd_5 _).mpr z)) (by decide)))
  refine v_iconst h0 d_Mo_findEnds_69 (v := nI 1) (by decide) ?_
  refine v_iadd h0 d_Mo_findEnds_70 ?_
  refine v_int (nI (p + 1)) (nI_add p 1) ?_
  refine v_istore h0 d_Mo_findEnds_71 (lv' := [(5, .int (nI (p + 1))), (4, .int (s p)), (3, .int (nI p)), (2, .int (nI f)), (0, .ref (ga g 0)), (1, .int (nI c))]) (lt_kn hn (by decide)) rfl ?_
  refine v_iconst h0 d_Mo_findEnds_73 (v := nI 0) (by decide) ?_
  refine v_istore h0 d_Mo_findEnds_74 (lv' := [(6, .int (nI 0)), (5, .int (nI (p + 1))), (4, .int (s p)), (3, .int (nI p)), (2, .int (nI f)), (0, .ref (ga g 0)), (1, .int (nI c))]) (lt_kn hn (by decide)) rfl ?_
  refine v_iload h0 d_Mo_findEnds_76 0 rfl ?_
  refine v_iload h0 d_Mo_findEnds_78 2 rfl ?_
  refine v_callS h0 hC (sR_N0 g) (av := [.int (s p)]) (rest := [.int (nI 0)]) (m_Mo_operands (kl K) g hI M _) wd_595 wd_593 wd_594 wd_6 hd_Mo_operands (by omega) (by decide) rfl rfl (Nat.le_of_ble_eq_true rfl) d_Mo_findEnds_80 (fun r9 M9 hp9 => ?_)
  obtain ⟨rfl, rfl⟩ := hp9
  refine v_r1 ?_
  refine v_int (nI 0) (by rw [opN_k hx]; rfl) ?_
  refine n_icmp_ge h0 (by omega) (by omega) d_Mo_findEnds_83 rfl (fun h83 => ?_) (fun h83 => absurd h83 (by omega))
  refine v_aload_n h0 d_Mo_findEnds_129 5 rfl ?_
  refine g_Mo_end_ h0 hC wd_453 d_Mo_findEnds_130 ?_
  refine v_bipush h0 d_Mo_findEnds_133 (v := nI 24) (by decide) ?_
  refine v_iload_n h0 d_Mo_findEnds_135 6 rfl ?_
  refine v_imul h0 d_Mo_findEnds_136 ?_
  refine v_int (nI (24 * c)) (pk_mul 24 c) ?_
  refine v_iload_n h0 d_Mo_findEnds_137 3 rfl ?_
  refine v_iadd h0 d_Mo_findEnds_138 ?_
  refine v_int (nI (24 * c + p)) (nI_add (24 * c) p) ?_
  refine v_iload h0 d_Mo_findEnds_139 1 rfl ?_
  refine s_Mo_end_ h0 hC (24 * c + p) (rfl) (z := nI (p + 1)) (rfl) (by omega) d_Mo_findEnds_141 ?_
  refine v_iinc h0 d_Mo_findEnds_142 (lv' := [(3, .int (pdI p)), (6, .int (nI 0)), (5, .int (nI (p + 1))), (4, .int (s p)), (2, .int (nI f)), (0, .ref (ga g 0)), (1, .int (nI c))]) 3 rfl (pd_inc p) (lt_kn hn (by decide)) rfl ?_
  refine v_goto h0 d_Mo_findEnds_145 rfl ?_
  refine v_sub [0, 4, 5, 6] rfl ?_
  exact kk
set_option maxHeartbeats 4000000 in
theorem fe_8 {K : Cf} {g : Gd} (hI : sI (sR g)) (h0 : C0 K c_Mo_findEnds) (hC : Cx (sR g) K gC_Mo 3) (hn : kn K = 7) {M : Me} {c n p f : Nat} {s : Nat → Int32} (hc : c < 10) (hT : TR M c s n) (hp : p < n) (hf : f ≤ p) (hl : lbR M c p = 0) (hx : kd (s p) = 8) (hfin : p + 1 ≤ n) (kk : V K (wp (sR g)) (up2 M 5 (24 * c + p) (nI (p + 1))) 23 [(3, .int (pdI p)), (2, .int (nI f)), (0, .ref (ga g 0)), (1, .int (nI c))] []) : V K (wp (sR g)) M 23 [(3, .int (pdI (p + 1))), (2, .int (nI f)), (0, .ref (ga g 0)), (1, .int (nI c))] [] := by
  have hn24 := hT.2.1
  refine v_eq (?_ : V K (wp (sR g)) M 23 [(3, .int (nI p)), (2, .int (nI f)), (0, .ref (ga g 0)), (1, .int (nI c))] []) rfl rfl (by rw [pd_s]) rfl
  refine v_iload_n h0 d_Mo_findEnds_23 0 rfl ?_
  refine v_iload_n h0 d_Mo_findEnds_24 1 rfl ?_
  refine n_icmp_lt h0 (by omega) (by omega) d_Mo_findEnds_25 rfl (fun h25 => absurd h25 (by omega)) (fun h25 => ?_)
  refine v_aload_n h0 d_Mo_findEnds_28 2 rfl ?_
  refine g_Mo_label_ h0 hC wd_454 d_Mo_findEnds_29 ?_
  refine v_bipush h0 d_Mo_findEnds_32 (v := nI 24) (by decide) ?_
  refine v_iload_n h0 d_Mo_findEnds_34 3 rfl ?_
  refine v_imul h0 d_Mo_findEnds_35 ?_
  refine v_int (nI (24 * c)) (pk_mul 24 c) ?_
  refine v_iload_n h0 d_Mo_findEnds_36 0 rfl ?_
  refine v_iadd h0 d_Mo_findEnds_37 ?_
  refine v_int (nI (24 * c + p)) (nI_add (24 * c) p) ?_
  refine a_Mo_label_ h0 hC (24 * c + p) (rfl) (by omega) d_Mo_findEnds_38 ?_
  refine v_int (0) (hl) ?_
  refine v_if_ne h0 d_Mo_findEnds_39 rfl (fun h39 => absurd h39 (fun z => z rfl)) (fun h39 => ?_)
  refine v_aload_n h0 d_Mo_findEnds_42 2 rfl ?_
  refine v_iload_n h0 d_Mo_findEnds_43 3 rfl ?_
  refine v_iload_n h0 d_Mo_findEnds_44 0 rfl ?_
  refine v_callV h0 hC (sR_N0 g) 0 (show 0 < 22 by omega) (show enR g 0 _ = _ from rfl) rfl (av := [.int (nI c), .int (nI p)]) (rest := []) (m_Mo_charAt (kl K) g hI M hc (by omega) hT) wd_564 wd_561 wd_563 ws_32 wd_6 hd_Mo_charAt (by omega) (by decide) rfl rfl (Nat.le_of_ble_eq_true rfl) d_Mo_findEnds_45 (fun r9 M9 hp9 => ?_)
  obtain ⟨rfl, rfl⟩ := hp9
  refine v_r1 ?_
  refine v_int (s p) (if_pos hp) ?_
  refine v_istore h0 d_Mo_findEnds_48 (lv' := [(4, .int (s p)), (3, .int (nI p)), (2, .int (nI f)), (0, .ref (ga g 0)), (1, .int (nI c))]) (lt_kn hn (by decide)) rfl ?_
  refine v_iload_n h0 d_Mo_findEnds_50 1 rfl ?_
  refine v_iload h0 d_Mo_findEnds_51 0 rfl ?_
  refine v_bipush h0 d_Mo_findEnds_53 (v := nI 36) (by decide) ?_
  refine v_icmp_eq h0 d_Mo_findEnds_55 rfl (fun h55 => absurd h55 (fun z => absurd (hx.symm.trans ((kd_4 _).mpr z)) (by decide))) (fun h55 => ?_)
  refine v_iload h0 d_Mo_findEnds_58 0 rfl ?_
  refine v_bipush h0 d_Mo_findEnds_60 (v := nI 33) (by decide) ?_
  refine v_icmp_ne h0 d_Mo_findEnds_62 rfl (fun h62 => ?_) (fun h62 => absurd h62 (fun z => absurd (hx.symm.trans ((kd_5 _).mpr z)) (by decide)))
  refine v_iconst h0 d_Mo_findEnds_69 (v := nI 1) (by decide) ?_
  refine v_iadd h0 d_Mo_findEnds_70 ?_
  refine v_int (nI (p + 1)) (nI_add p 1) ?_
  refine v_istore h0 d_Mo_findEnds_71 (lv' := [(5, .int (nI (p + 1))), (4, .int (s p)), (3, .int (nI p)), (2, .int (nI f)), (0, .ref (ga g 0)), (1, .int (nI c))]) (lt_kn hn (by decide)) rfl ?_
  refine v_iconst h0 d_Mo_findEnds_73 (v := nI 0) (by decide) ?_
  refine v_istore h0 d_Mo_findEnds_74 (lv' := [(6, .int (nI 0)), (5, .int (nI (p + 1))), (4, .int (s p)), (3, .int (nI p)), (2, .int (nI f)), (0, .ref (ga g 0)), (1, .int (nI c))]) (lt_kn hn (by decide)) rfl ?_
  refine v_iload h0 d_Mo_findEnds_76 0 rfl ?_
  refine v_iload h0 d_Mo_findEnds_78 2 rfl ?_
  refine v_callS h0 hC (sR_N0 g) (av := [.int (s p)]) (rest := [.int (nI 0)]) (m_Mo_operands (kl K) g hI M _) wd_595 wd_593 wd_594 wd_6 hd_Mo_operands (by omega) (by decide) rfl rfl (Nat.le_of_ble_eq_true rfl) d_Mo_findEnds_80 (fun r9 M9 hp9 => ?_)
  obtain ⟨rfl, rfl⟩ := hp9
  refine v_r1 ?_
  refine v_int (nI 0) (by rw [opN_k hx]; rfl) ?_
  refine n_icmp_ge h0 (by omega) (by omega) d_Mo_findEnds_83 rfl (fun h83 => ?_) (fun h83 => absurd h83 (by omega))
  refine v_aload_n h0 d_Mo_findEnds_129 5 rfl ?_
  refine g_Mo_end_ h0 hC wd_453 d_Mo_findEnds_130 ?_
  refine v_bipush h0 d_Mo_findEnds_133 (v := nI 24) (by decide) ?_
  refine v_iload_n h0 d_Mo_findEnds_135 6 rfl ?_
  refine v_imul h0 d_Mo_findEnds_136 ?_
  refine v_int (nI (24 * c)) (pk_mul 24 c) ?_
  refine v_iload_n h0 d_Mo_findEnds_137 3 rfl ?_
  refine v_iadd h0 d_Mo_findEnds_138 ?_
  refine v_int (nI (24 * c + p)) (nI_add (24 * c) p) ?_
  refine v_iload h0 d_Mo_findEnds_139 1 rfl ?_
  refine s_Mo_end_ h0 hC (24 * c + p) (rfl) (z := nI (p + 1)) (rfl) (by omega) d_Mo_findEnds_141 ?_
  refine v_iinc h0 d_Mo_findEnds_142 (lv' := [(3, .int (pdI p)), (6, .int (nI 0)), (5, .int (nI (p + 1))), (4, .int (s p)), (2, .int (nI f)), (0, .ref (ga g 0)), (1, .int (nI c))]) 3 rfl (pd_inc p) (lt_kn hn (by decide)) rfl ?_
  refine v_goto h0 d_Mo_findEnds_145 rfl ?_
  refine v_sub [0, 4, 5, 6] rfl ?_
  exact kk
set_option maxHeartbeats 4000000 in
theorem fe_9 {K : Cf} {g : Gd} (hI : sI (sR g)) (h0 : C0 K c_Mo_findEnds) (hC : Cx (sR g) K gC_Mo 3) (hn : kn K = 7) {M : Me} {c n p f : Nat} {s : Nat → Int32} (hc : c < 10) (hT : TR M c s n) (hp : p < n) (hf : f ≤ p) (hl : lbR M c p = 0) (hx : kd (s p) = 9) (hfin : p + 1 ≤ n) (kk : V K (wp (sR g)) (up2 M 5 (24 * c + p) (nI (p + 1))) 23 [(3, .int (pdI p)), (2, .int (nI f)), (0, .ref (ga g 0)), (1, .int (nI c))] []) : V K (wp (sR g)) M 23 [(3, .int (pdI (p + 1))), (2, .int (nI f)), (0, .ref (ga g 0)), (1, .int (nI c))] [] := by
  have hn24 := hT.2.1
  refine v_eq (?_ : V K (wp (sR g)) M 23 [(3, .int (nI p)), (2, .int (nI f)), (0, .ref (ga g 0)), (1, .int (nI c))] []) rfl rfl (by rw [pd_s]) rfl
  refine v_iload_n h0 d_Mo_findEnds_23 0 rfl ?_
  refine v_iload_n h0 d_Mo_findEnds_24 1 rfl ?_
  refine n_icmp_lt h0 (by omega) (by omega) d_Mo_findEnds_25 rfl (fun h25 => absurd h25 (by omega)) (fun h25 => ?_)
  refine v_aload_n h0 d_Mo_findEnds_28 2 rfl ?_
  refine g_Mo_label_ h0 hC wd_454 d_Mo_findEnds_29 ?_
  refine v_bipush h0 d_Mo_findEnds_32 (v := nI 24) (by decide) ?_
  refine v_iload_n h0 d_Mo_findEnds_34 3 rfl ?_
  refine v_imul h0 d_Mo_findEnds_35 ?_
  refine v_int (nI (24 * c)) (pk_mul 24 c) ?_
  refine v_iload_n h0 d_Mo_findEnds_36 0 rfl ?_
  refine v_iadd h0 d_Mo_findEnds_37 ?_
  refine v_int (nI (24 * c + p)) (nI_add (24 * c) p) ?_
  refine a_Mo_label_ h0 hC (24 * c + p) (rfl) (by omega) d_Mo_findEnds_38 ?_
  refine v_int (0) (hl) ?_
  refine v_if_ne h0 d_Mo_findEnds_39 rfl (fun h39 => absurd h39 (fun z => z rfl)) (fun h39 => ?_)
  refine v_aload_n h0 d_Mo_findEnds_42 2 rfl ?_
  refine v_iload_n h0 d_Mo_findEnds_43 3 rfl ?_
  refine v_iload_n h0 d_Mo_findEnds_44 0 rfl ?_
  refine v_callV h0 hC (sR_N0 g) 0 (show 0 < 22 by omega) (show enR g 0 _ = _ from rfl) rfl (av := [.int (nI c), .int (nI p)]) (rest := []) (m_Mo_charAt (kl K) g hI M hc (by omega) hT) wd_564 wd_561 wd_563 ws_32 wd_6 hd_Mo_charAt (by omega) (by decide) rfl rfl (Nat.le_of_ble_eq_true rfl) d_Mo_findEnds_45 (fun r9 M9 hp9 => ?_)
  obtain ⟨rfl, rfl⟩ := hp9
  refine v_r1 ?_
  refine v_int (s p) (if_pos hp) ?_
  refine v_istore h0 d_Mo_findEnds_48 (lv' := [(4, .int (s p)), (3, .int (nI p)), (2, .int (nI f)), (0, .ref (ga g 0)), (1, .int (nI c))]) (lt_kn hn (by decide)) rfl ?_
  refine v_iload_n h0 d_Mo_findEnds_50 1 rfl ?_
  refine v_iload h0 d_Mo_findEnds_51 0 rfl ?_
  refine v_bipush h0 d_Mo_findEnds_53 (v := nI 36) (by decide) ?_
  refine v_icmp_eq h0 d_Mo_findEnds_55 rfl (fun h55 => absurd h55 (fun z => absurd (hx.symm.trans ((kd_4 _).mpr z)) (by decide))) (fun h55 => ?_)
  refine v_iload h0 d_Mo_findEnds_58 0 rfl ?_
  refine v_bipush h0 d_Mo_findEnds_60 (v := nI 33) (by decide) ?_
  refine v_icmp_ne h0 d_Mo_findEnds_62 rfl (fun h62 => ?_) (fun h62 => absurd h62 (fun z => absurd (hx.symm.trans ((kd_5 _).mpr z)) (by decide)))
  refine v_iconst h0 d_Mo_findEnds_69 (v := nI 1) (by decide) ?_
  refine v_iadd h0 d_Mo_findEnds_70 ?_
  refine v_int (nI (p + 1)) (nI_add p 1) ?_
  refine v_istore h0 d_Mo_findEnds_71 (lv' := [(5, .int (nI (p + 1))), (4, .int (s p)), (3, .int (nI p)), (2, .int (nI f)), (0, .ref (ga g 0)), (1, .int (nI c))]) (lt_kn hn (by decide)) rfl ?_
  refine v_iconst h0 d_Mo_findEnds_73 (v := nI 0) (by decide) ?_
  refine v_istore h0 d_Mo_findEnds_74 (lv' := [(6, .int (nI 0)), (5, .int (nI (p + 1))), (4, .int (s p)), (3, .int (nI p)), (2, .int (nI f)), (0, .ref (ga g 0)), (1, .int (nI c))]) (lt_kn hn (by decide)) rfl ?_
  refine v_iload h0 d_Mo_findEnds_76 0 rfl ?_
  refine v_iload h0 d_Mo_findEnds_78 2 rfl ?_
  refine v_callS h0 hC (sR_N0 g) (av := [.int (s p)]) (rest := [.int (nI 0)]) (m_Mo_operands (kl K) g hI M _) wd_595 wd_593 wd_594 wd_6 hd_Mo_operands (by omega) (by decide) rfl rfl (Nat.le_of_ble_eq_true rfl) d_Mo_findEnds_80 (fun r9 M9 hp9 => ?_)
  obtain ⟨rfl, rfl⟩ := hp9
  refine v_r1 ?_
  refine v_int (nI 0) (by rw [opN_k hx]; rfl) ?_
  refine n_icmp_ge h0 (by omega) (by omega) d_Mo_findEnds_83 rfl (fun h83 => ?_) (fun h83 => absurd h83 (by omega))
  refine v_aload_n h0 d_Mo_findEnds_129 5 rfl ?_
  refine g_Mo_end_ h0 hC wd_453 d_Mo_findEnds_130 ?_
  refine v_bipush h0 d_Mo_findEnds_133 (v := nI 24) (by decide) ?_
  refine v_iload_n h0 d_Mo_findEnds_135 6 rfl ?_
  refine v_imul h0 d_Mo_findEnds_136 ?_
  refine v_int (nI (24 * c)) (pk_mul 24 c) ?_
  refine v_iload_n h0 d_Mo_findEnds_137 3 rfl ?_
  refine v_iadd h0 d_Mo_findEnds_138 ?_
  refine v_int (nI (24 * c + p)) (nI_add (24 * c) p) ?_
  refine v_iload h0 d_Mo_findEnds_139 1 rfl ?_
  refine s_Mo_end_ h0 hC (24 * c + p) (rfl) (z := nI (p + 1)) (rfl) (by omega) d_Mo_findEnds_141 ?_
  refine v_iinc h0 d_Mo_findEnds_142 (lv' := [(3, .int (pdI p)), (6, .int (nI 0)), (5, .int (nI (p + 1))), (4, .int (s p)), (2, .int (nI f)), (0, .ref (ga g 0)), (1, .int (nI c))]) 3 rfl (pd_inc p) (lt_kn hn (by decide)) rfl ?_
  refine v_goto h0 d_Mo_findEnds_145 rfl ?_
  refine v_sub [0, 4, 5, 6] rfl ?_
  exact kk
def FeE (K : Cf) (g : Gd) (c f : Nat) (s : Nat → Int32) (n d : Nat) : Prop := ∀ (M : Me) (b : Nat → Bool) (k : Nat), TR M c s n → f ≤ k → OK s n d b k = true → LO s (lbR M c) d k → (∀ M', FQ c M M' k (EN s d k) → EO s (edR M' c) d k → V K (wp (sR g)) M' 23 [(3, .int (pdI k)), (2, .int (nI f)), (0, .ref (ga g 0)), (1, .int (nI c))] []) → V K (wp (sR g)) M 23 [(3, .int (pdI (EN s d k))), (2, .int (nI f)), (0, .ref (ga g 0)), (1, .int (nI c))] []
section FX
variable {K : Cf} {g : Gd} {c n f : Nat} {s : Nat → Int32}
theorem FeE_all (hI : sI (sR g)) (h0 : C0 K c_Mo_findEnds) (hC : Cx (sR g) K gC_Mo 3) (hn : kn K = 7) (hc : c < 10) : ∀ d, FeE K g c f s n d := by
  intro d
  induction d with
  | zero => intro M b k hT hf h; simp [OK] at h
  | succ d ih =>
    intro M b k hT hf h hl kk
    have hk := OK_k h
    have hn24 := hT.2.1
    have hE := OK_ends s n (d + 1) b k h
    rcases OK_kd h with q | q | q | q | q | q | q | q | q
    · rw [LO_2 s (lbR M c) d k q] at hl
      rw [OK_2 s n d b k q] at h
      simp only [Bool.and_eq_true, decide_eq_true_eq] at h
      rw [EN_2 s d k q] at hE kk ⊢
      have e0 := OK_ends s n _ _ _ h.2.1
      have e1 := OK_ends s n _ _ _ h.2.2
      refine ih M _ (EN s d (k + 1)) hT (by omega) h.2.2 hl.2.2 (fun N1 f1 o1 => ?_)
      have a1 := f1
      refine ih N1 _ (k + 1) (hT.fq a1) (by omega) h.2.1 (show LO s (lbR N1 c) d (k + 1) from (by unfold lbR; rw [a1.1 6 (by omega)]; exact hl.2.1)) (fun N0 f0 o0 => ?_)
      have a0 : FQ c M N0 (k + 1) (EN s d (EN s d (k + 1))) := a1.trans f0 (by omega) (by omega) (by omega) (by omega)
      have w0 := o0
      have w1 : EO s (edR N0 c) d (EN s d (k + 1)) := EO_same d _ _ h.2.2 (fun j ja jb => (f0.2 _ (by omega))) o1
      refine fe_2 hI h0 hC hn hc (hT.fq a0) hk hf (by unfold lbR; rw [a0.1 6 (by omega)]; exact hl.1) q (show N0 5 (24 * c + (k + 1)) = nI (EN s d (k + 1)) from EO_hd h.2.1 w0) (by omega) (show N0 5 (24 * c + (EN s d (k + 1))) = nI (EN s d (EN s d (k + 1))) from EO_hd h.2.2 w1) (by omega) (by omega) ?_
      refine kk _ (a0.trans (FQ.one c N0 k _) (by omega) (by omega) (by omega) (by omega)) ?_
      rw [EO_2 s _ d k q, EN_2 s d k q]
      exact ⟨(show edR (up2 N0 5 (24 * c + k) (nI (EN s d (EN s d (k + 1))))) c k = _ from up2_s _ _ _ _), EO_same d _ _ h.2.1 (fun j ja jb => up2_n _ _ (by omega)) w0, EO_same d _ _ h.2.2 (fun j ja jb => up2_n _ _ (by omega)) w1⟩
    · rw [LO_1 s (lbR M c) d k q] at hl
      rw [OK_1 s n d b k q] at h
      simp only [Bool.and_eq_true, decide_eq_true_eq] at h
      rw [EN_1 s d k q] at hE kk ⊢
      have e0 := OK_ends s n _ _ _ h.2
      refine ih M _ (k + 1) hT (by omega) h.2 hl.2 (fun N0 f0 o0 => ?_)
      have a0 := f0
      have w0 := o0
      refine fe_1 hI h0 hC hn hc (hT.fq a0) hk hf (by unfold lbR; rw [a0.1 6 (by omega)]; exact hl.1) q (show N0 5 (24 * c + (k + 1)) = nI (EN s d (k + 1)) from EO_hd h.2 w0) (by omega) (by omega) ?_
      refine kk _ (a0.trans (FQ.one c N0 k _) (by omega) (by omega) (by omega) (by omega)) ?_
      rw [EO_1 s _ d k q, EN_1 s d k q]
      exact ⟨(show edR (up2 N0 5 (24 * c + k) (nI (EN s d (k + 1)))) c k = _ from up2_s _ _ _ _), EO_same d _ _ h.2 (fun j ja jb => up2_n _ _ (by omega)) w0⟩
    · rw [LO_3 s (lbR M c) d k q] at hl
      rw [OK_3 s n d b k q] at h
      simp only [Bool.and_eq_true, decide_eq_true_eq] at h
      rw [EN_3 s d k q] at hE kk ⊢
      have e0 := OK_ends s n _ _ _ h.2.1
      have e1 := OK_ends s n _ _ _ h.2.2.1
      have e2 := OK_ends s n _ _ _ h.2.2.2
      refine ih M _ (EN s d (EN s d (k + 1))) hT (by omega) h.2.2.2 hl.2.2.2 (fun N2 f2 o2 => ?_)
      have a2 := f2
      refine ih N2 _ (EN s d (k + 1)) (hT.fq a2) (by omega) h.2.2.1 (show LO s (lbR N2 c) d (EN s d (k + 1)) from (by unfold lbR; rw [a2.1 6 (by omega)]; exact hl.2.2.1)) (fun N1 f1 o1 => ?_)
      have a1 : FQ c M N1 (EN s d (k + 1)) (EN s d (EN s d (EN s d (k + 1)))) := a2.trans f1 (by omega) (by omega) (by omega) (by omega)
      refine ih N1 _ (k + 1) (hT.fq a1) (by omega) h.2.1 (show LO s (lbR N1 c) d (k + 1) from (by unfold lbR; rw [a1.1 6 (by omega)]; exact hl.2.1)) (fun N0 f0 o0 => ?_)
      have a0 : FQ c M N0 (k + 1) (EN s d (EN s d (EN s d (k + 1)))) := a1.trans f0 (by omega) (by omega) (by omega) (by omega)
      have w0 := o0
      have w1 : EO s (edR N0 c) d (EN s d (k + 1)) := EO_same d _ _ h.2.2.1 (fun j ja jb => (f0.2 _ (by omega))) o1
      have w2 : EO s (edR N0 c) d (EN s d (EN s d (k + 1))) := EO_same d _ _ h.2.2.2 (fun j ja jb => ((f0.2 _ (by omega)).trans (f1.2 _ (by omega)))) o2
      refine fe_3 hI h0 hC hn hc (hT.fq a0) hk hf (by unfold lbR; rw [a0.1 6 (by omega)]; exact hl.1) q (show N0 5 (24 * c + (k + 1)) = nI (EN s d (k + 1)) from EO_hd h.2.1 w0) (by omega) (show N0 5 (24 * c + (EN s d (k + 1))) = nI (EN s d (EN s d (k + 1))) from EO_hd h.2.2.1 w1) (by omega) (show N0 5 (24 * c + (EN s d (EN s d (k + 1)))) = nI (EN s d (EN s d (EN s d (k + 1)))) from EO_hd h.2.2.2 w2) (by omega) (by omega) ?_
      refine kk _ (a0.trans (FQ.one c N0 k _) (by omega) (by omega) (by omega) (by omega)) ?_
      rw [EO_3 s _ d k q, EN_3 s d k q]
      exact ⟨(show edR (up2 N0 5 (24 * c + k) (nI (EN s d (EN s d (EN s d (k + 1)))))) c k = _ from up2_s _ _ _ _), EO_same d _ _ h.2.1 (fun j ja jb => up2_n _ _ (by omega)) w0, EO_same d _ _ h.2.2.1 (fun j ja jb => up2_n _ _ (by omega)) w1, EO_same d _ _ h.2.2.2 (fun j ja jb => up2_n _ _ (by omega)) w2⟩
    · rw [LO_4 s (lbR M c) d k q] at hl
      rw [OK_4 s n d b k q] at h
      simp only [Bool.and_eq_true, decide_eq_true_eq] at h
      rw [EN_4 s d k q] at hE kk ⊢
      have e0 := OK_ends s n _ _ _ h.2.2.1
      have e1 := OK_ends s n _ _ _ h.2.2.2
      refine ih M _ (EN s d (k + 2)) hT (by omega) h.2.2.2 hl.2.2.2 (fun N1 f1 o1 => ?_)
      have a1 := f1
      refine ih N1 _ (k + 2) (hT.fq a1) (by omega) h.2.2.1 (show LO s (lbR N1 c) d (k + 2) from (by unfold lbR; rw [a1.1 6 (by omega)]; exact hl.2.2.1)) (fun N0 f0 o0 => ?_)
      have a0 : FQ c M N0 (k + 2) (EN s d (EN s d (k + 2))) := a1.trans f0 (by omega) (by omega) (by omega) (by omega)
      refine fe_lab hI h0 hC hn hc (hT.fq a0) (p := k + 1) (by omega) (by omega) (by unfold lbR; rw [a0.1 6 (by omega)]; exact hl.2.1) ?_
      have w0 := o0
      have w1 : EO s (edR N0 c) d (EN s d (k + 2)) := EO_same d _ _ h.2.2.2 (fun j ja jb => (f0.2 _ (by omega))) o1
      refine fe_4 hI h0 hC hn hc (hT.fq a0) hk hf (by unfold lbR; rw [a0.1 6 (by omega)]; exact hl.1) q (show N0 5 (24 * c + (k + 2)) = nI (EN s d (k + 2)) from EO_hd h.2.2.1 w0) (by omega) (show N0 5 (24 * c + (EN s d (k + 2))) = nI (EN s d (EN s d (k + 2))) from EO_hd h.2.2.2 w1) (by omega) (by omega) ?_
      refine kk _ (a0.trans (FQ.one c N0 k _) (by omega) (by omega) (by omega) (by omega)) ?_
      rw [EO_4 s _ d k q, EN_4 s d k q]
      exact ⟨(show edR (up2 N0 5 (24 * c + k) (nI (EN s d (EN s d (k + 2))))) c k = _ from up2_s _ _ _ _), EO_same d _ _ h.2.2.1 (fun j ja jb => up2_n _ _ (by omega)) w0, EO_same d _ _ h.2.2.2 (fun j ja jb => up2_n _ _ (by omega)) w1⟩
    · rw [LO_5 s (lbR M c) d k q] at hl
      rw [OK_5 s n d b k q] at h
      simp only [Bool.and_eq_true, decide_eq_true_eq] at h
      rw [EN_5 s d k q] at hE kk ⊢
      have e0 := OK_ends s n _ _ _ h.2.2
      refine ih M _ (k + 2) hT (by omega) h.2.2 hl.2.2 (fun N0 f0 o0 => ?_)
      have a0 := f0
      refine fe_lab hI h0 hC hn hc (hT.fq a0) (p := k + 1) (by omega) (by omega) (by unfold lbR; rw [a0.1 6 (by omega)]; exact hl.2.1) ?_
      have w0 := o0
      refine fe_5 hI h0 hC hn hc (hT.fq a0) hk hf (by unfold lbR; rw [a0.1 6 (by omega)]; exact hl.1) q (show N0 5 (24 * c + (k + 2)) = nI (EN s d (k + 2)) from EO_hd h.2.2 w0) (by omega) (by omega) ?_
      refine kk _ (a0.trans (FQ.one c N0 k _) (by omega) (by omega) (by omega) (by omega)) ?_
      rw [EO_5 s _ d k q, EN_5 s d k q]
      exact ⟨(show edR (up2 N0 5 (24 * c + k) (nI (EN s d (k + 2)))) c k = _ from up2_s _ _ _ _), EO_same d _ _ h.2.2 (fun j ja jb => up2_n _ _ (by omega)) w0⟩
    · rw [LO_6 s (lbR M c) d k q] at hl
      rw [OK_6 s n d b k q] at h
      simp only [Bool.and_eq_true, decide_eq_true_eq] at h
      rw [EN_6 s d k q] at hE kk ⊢
      have e0 := OK_ends s n _ _ _ h.2.1
      have e1 := OK_ends s n _ _ _ h.2.2.2.1
      have e2 := OK_ends s n _ _ _ h.2.2.2.2.2
      refine ih M _ (EN s d (EN s d (k + 1) + 1) + 1) hT (by omega) h.2.2.2.2.2 hl.2.2.2.2.2 (fun N2 f2 o2 => ?_)
      have a2 := f2
      refine fe_lab hI h0 hC hn hc (hT.fq a2) (p := EN s d (EN s d (k + 1) + 1)) (by omega) (by omega) (by unfold lbR; rw [a2.1 6 (by omega)]; exact hl.2.2.2.2.1) ?_
      refine ih N2 _ (EN s d (k + 1) + 1) (hT.fq a2) (by omega) h.2.2.2.1 (show LO s (lbR N2 c) d (EN s d (k + 1) + 1) from (by unfold lbR; rw [a2.1 6 (by omega)]; exact hl.2.2.2.1)) (fun N1 f1 o1 => ?_)
      have a1 : FQ c M N1 (EN s d (k + 1) + 1) (EN s d (EN s d (EN s d (k + 1) + 1) + 1)) := a2.trans f1 (by omega) (by omega) (by omega) (by omega)
      refine fe_lab hI h0 hC hn hc (hT.fq a1) (p := EN s d (k + 1)) (by omega) (by omega) (by unfold lbR; rw [a1.1 6 (by omega)]; exact hl.2.2.1) ?_
      refine ih N1 _ (k + 1) (hT.fq a1) (by omega) h.2.1 (show LO s (lbR N1 c) d (k + 1) from (by unfold lbR; rw [a1.1 6 (by omega)]; exact hl.2.1)) (fun N0 f0 o0 => ?_)
      have a0 : FQ c M N0 (k + 1) (EN s d (EN s d (EN s d (k + 1) + 1) + 1)) := a1.trans f0 (by omega) (by omega) (by omega) (by omega)
      have w0 := o0
      have w1 : EO s (edR N0 c) d (EN s d (k + 1) + 1) := EO_same d _ _ h.2.2.2.1 (fun j ja jb => (f0.2 _ (by omega))) o1
      have w2 : EO s (edR N0 c) d (EN s d (EN s d (k + 1) + 1) + 1) := EO_same d _ _ h.2.2.2.2.2 (fun j ja jb => ((f0.2 _ (by omega)).trans (f1.2 _ (by omega)))) o2
      refine fe_6 hI h0 hC hn hc (hT.fq a0) hk hf (by unfold lbR; rw [a0.1 6 (by omega)]; exact hl.1) q (show N0 5 (24 * c + (k + 1)) = nI (EN s d (k + 1)) from EO_hd h.2.1 w0) (by omega) (show N0 5 (24 * c + (EN s d (k + 1) + 1)) = nI (EN s d (EN s d (k + 1) + 1)) from EO_hd h.2.2.2.1 w1) (by omega) (show N0 5 (24 * c + (EN s d (EN s d (k + 1) + 1) + 1)) = nI (EN s d (EN s d (EN s d (k + 1) + 1) + 1)) from EO_hd h.2.2.2.2.2 w2) (by omega) (by omega) ?_
      refine kk _ (a0.trans (FQ.one c N0 k _) (by omega) (by omega) (by omega) (by omega)) ?_
      rw [EO_6 s _ d k q, EN_6 s d k q]
      exact ⟨(show edR (up2 N0 5 (24 * c + k) (nI (EN s d (EN s d (EN s d (k + 1) + 1) + 1)))) c k = _ from up2_s _ _ _ _), EO_same d _ _ h.2.1 (fun j ja jb => up2_n _ _ (by omega)) w0, EO_same d _ _ h.2.2.2.1 (fun j ja jb => up2_n _ _ (by omega)) w1, EO_same d _ _ h.2.2.2.2.2 (fun j ja jb => up2_n _ _ (by omega)) w2⟩
    · rw [LO_7 s (lbR M c) d k q] at hl
      rw [EN_7 s d k q] at hE kk ⊢
      refine fe_7 hI h0 hC hn hc hT hk hf hl.1 q (by omega) ?_
      refine kk _ (FQ.one c M k _) ?_
      rw [EO_7 s _ d k q, EN_7 s d k q]
      exact ⟨(show edR (up2 M 5 (24 * c + k) (nI (k + 1))) c k = _ from up2_s _ _ _ _), trivial⟩
    · rw [LO_8 s (lbR M c) d k q] at hl
      rw [EN_8 s d k q] at hE kk ⊢
      refine fe_8 hI h0 hC hn hc hT hk hf hl.1 q (by omega) ?_
      refine kk _ (FQ.one c M k _) ?_
      rw [EO_8 s _ d k q, EN_8 s d k q]
      exact ⟨(show edR (up2 M 5 (24 * c + k) (nI (k + 1))) c k = _ from up2_s _ _ _ _), trivial⟩
    · rw [LO_9 s (lbR M c) d k q] at hl
      rw [EN_9 s d k q] at hE kk ⊢
      refine fe_9 hI h0 hC hn hc hT hk hf hl.1 q (by omega) ?_
      refine kk _ (FQ.one c M k _) ?_
      rw [EO_9 s _ d k q, EN_9 s d k q]
      exact ⟨(show edR (up2 M 5 (24 * c + k) (nI (k + 1))) c k = _ from up2_s _ _ _ _), trivial⟩
end FX
theorem fn_hd {β : Me} {c : Nat} (hw : wlB β c = true) : fnB β c = hdB β c := by unfold fnB; rw [hw, Bool.true_and]
theorem pd_lt {f : Nat} (h : f < 1000) : pdI f < nI f := by
  cases f with
  | zero => decide
  | succ f => rw [pd_s]; exact (nI_ltI (by omega) (by omega)).mpr (by omega)
def FeP (M β : Me) (c : Nat) (r : Option Value) (M' : Me) : Prop := r = none ∧ (∀ i, i ≠ 5 → M' i = M i) ∧ (∀ p, (p < 24 * c ∨ 24 * c + 24 ≤ p) → M' 5 p = M 5 p) ∧ EO (β (20 + c)) (edR M' c) 6 (stN β c)
set_option maxHeartbeats 4000000 in
theorem m_Mo_findEnds (l : Launch) (g : Gd) (hI : sI (sR g)) (M : Me) {β : Me} {c : Nat} (hc : c < 10) (hT : TxR M β) (hw : wlB β c = true) (hlen : ∃ n, 0 < n ∧ n ≤ 24 ∧ β 3 c = nI n) (hlo : LO (β (20 + c)) (lbR M c) 6 (stN β c)) : CR l g y_Mo_findEnds c_Mo_findEnds 7 none 3 [.ref (ga g 0), .int (nI c)] M (FeP M β c) := by
  refine Ct.of hI (sR_N0 g) rfl (Nat.le_of_ble_eq_true rfl) (fun K h0 hC hR hkl hn => ?_)
  have hC : Cx (sR g) K gC_Mo _ := hC
  show V K (wp (sR g)) M 0 [(0, .ref (ga g 0)), (1, .int (nI c))] []
  obtain ⟨L, hL0, hL24, hL3⟩ := hlen
  have hTR : TR M c (β (20 + c)) L := hT.tr hc hL24 hL3
  have hLn : lenN β c = L := by unfold lenN; rw [hL3]; exact nI_clamp (by omega)
  obtain ⟨hok, hen⟩ := wl_ok hw
  rw [hLn] at hok hen
  have hFin : ∀ (M1 : Me) (f : Nat), FQ c M M1 f (EN (β (20 + c)) 6 f) → EO (β (20 + c)) (edR M1 c) 6 (stN β c) → EN (β (20 + c)) 6 f ≤ 24 → f ≤ 2 → V K (wp (sR g)) M1 23 [(3, .int (pdI f)), (2, .int (nI f)), (0, .ref (ga g 0)), (1, .int (nI c))] [] := by
    intro M1 f f1 o1 he hf
    refine v_iload_n h0 d_Mo_findEnds_23 0 rfl ?_
    refine v_iload_n h0 d_Mo_findEnds_24 1 rfl ?_
    refine v_icmp_lt h0 d_Mo_findEnds_25 rfl (fun h25 => ?_) (fun h25 => absurd h25 (fun z => z (pd_lt (by omega))))
    exact v_vret h0 hC hR d_Mo_findEnds_148 (⟨rfl, f1.1, fun p hp => f1.2 p (by omega), o1⟩)
  refine v_aload_n h0 d_Mo_findEnds_0 0 rfl ?_
  refine v_iload_n h0 d_Mo_findEnds_1 1 rfl ?_
  refine v_callV h0 hC (sR_N0 g) 0 (show 0 < 22 by omega) (show enR g 0 _ = _ from rfl) rfl (av := [.int (nI c)]) (rest := []) (m_Mo_isFunction (kl K) g hI M hc hT) wd_592 wd_589 wd_591 ws_36 wd_6 hd_Mo_isFunction (by omega) (by decide) rfl rfl (Nat.le_of_ble_eq_true rfl) d_Mo_findEnds_2 (fun r9 M9 hp9 => ?_)
  obtain ⟨rfl, rfl⟩ := hp9
  refine v_r1 ?_
  refine b_if_eq h0 d_Mo_findEnds_5 rfl (fun h5 => ?_) (fun h5 => ?_)
  · skip
    refine v_iconst h0 d_Mo_findEnds_12 (v := nI 0) (by decide) ?_
    refine v_istore_n h0 d_Mo_findEnds_13 (lv' := [(2, .int (nI 0)), (0, .ref (ga g 0)), (1, .int (nI c))]) (lt_kn hn (by decide)) rfl ?_
    refine v_aload_n h0 d_Mo_findEnds_14 1 rfl ?_
    refine g_Mo_length_ h0 hC wd_451 d_Mo_findEnds_15 ?_
    refine v_iload_n h0 d_Mo_findEnds_18 2 rfl ?_
    refine a_Mo_length_ h0 hC c (rfl) (by omega) d_Mo_findEnds_19 ?_
    refine v_int (nI L) (hTR.1) ?_
    refine v_iconst h0 d_Mo_findEnds_20 (v := nI 1) (by decide) ?_
    refine v_isub h0 d_Mo_findEnds_21 ?_
    refine v_istore_n h0 d_Mo_findEnds_22 (lv' := [(3, .int ((nI L) - (nI 1))), (2, .int (nI 0)), (0, .ref (ga g 0)), (1, .int (nI c))]) (lt_kn hn (by decide)) rfl ?_
    have hst : stN β c = 0 := by unfold stN; rw [← fn_hd hw, h5]; rfl
    rw [hst] at hok hen hlo
    refine v_eq (?_ : V K (wp (sR g)) M 23 [(3, .int (pdI (EN (β (20 + c)) 6 0))), (2, .int (nI 0)), (0, .ref (ga g 0)), (1, .int (nI c))] []) rfl rfl (by rw [hen]; rfl) rfl
    refine FeE_all hI h0 hC hn hc 6 M _ 0 hTR (Nat.le_refl _) hok hlo (fun M1 f1 o1 => ?_)
    refine hFin M1 0 f1 (by rw [hst]; exact o1) (by omega) (by omega)
  · skip
    refine v_iconst h0 d_Mo_findEnds_8 (v := nI 2) (by decide) ?_
    refine v_goto h0 d_Mo_findEnds_9 rfl ?_
    refine v_istore_n h0 d_Mo_findEnds_13 (lv' := [(2, .int (nI 2)), (0, .ref (ga g 0)), (1, .int (nI c))]) (lt_kn hn (by decide)) rfl ?_
    refine v_aload_n h0 d_Mo_findEnds_14 1 rfl ?_
    refine g_Mo_length_ h0 hC wd_451 d_Mo_findEnds_15 ?_
    refine v_iload_n h0 d_Mo_findEnds_18 2 rfl ?_
    refine a_Mo_length_ h0 hC c (rfl) (by omega) d_Mo_findEnds_19 ?_
    refine v_int (nI L) (hTR.1) ?_
    refine v_iconst h0 d_Mo_findEnds_20 (v := nI 1) (by decide) ?_
    refine v_isub h0 d_Mo_findEnds_21 ?_
    refine v_istore_n h0 d_Mo_findEnds_22 (lv' := [(3, .int ((nI L) - (nI 1))), (2, .int (nI 2)), (0, .ref (ga g 0)), (1, .int (nI c))]) (lt_kn hn (by decide)) rfl ?_
    have hst : stN β c = 2 := by unfold stN; rw [← fn_hd hw, h5]; rfl
    rw [hst] at hok hen hlo
    refine v_eq (?_ : V K (wp (sR g)) M 23 [(3, .int (pdI (EN (β (20 + c)) 6 2))), (2, .int (nI 2)), (0, .ref (ga g 0)), (1, .int (nI c))] []) rfl rfl (by rw [hen]; rfl) rfl
    refine FeE_all hI h0 hC hn hc 6 M _ 2 hTR (Nat.le_refl _) hok hlo (fun M1 f1 o1 => ?_)
    refine hFin M1 2 f1 (by rw [hst]; exact o1) (by omega) (by omega)
