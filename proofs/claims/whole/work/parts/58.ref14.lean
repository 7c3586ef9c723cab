/-! THE REFERENCE: what becomes stale -/
theorem ng_th {β : Me} {a b : Nat} (h : ngB β a b = true) : thB β b = true := by unfold ngB ndB at h; simp only [Bool.and_eq_true] at h; exact h.2.1
theorem tg_th {β : Me} {d b : Nat} (h : Relation.TransGen (fun a a' => ngB β a a' = true) d b) : b < 10 ∧ thB β b = true := by
  cases h with
  | single q => exact ⟨ng_lt q, ng_th q⟩
  | tail _ q => exact ⟨ng_lt q, ng_th q⟩
def teB (β : Me) (d e : Nat) : Bool := thB β e && ndB β e d
theorem tc_fin {β : Me} {nms y : Int32} (h : Gr (teB β) (nrB β nms) 10 y) {d : Nat} (hd : d < 10) : bt y d = tcB β nms d := by
  have hcl := Gr_fin h
  have hR : tcB β nms d = true → bt y d = true := by
    intro ht
    obtain ⟨h1, h2⟩ := tc_iff.mp ht
    rcases h2 with h2 | ⟨z, hz, h3, h4⟩
    · exact h.1.1 d hd h2
    · have hz1 := h.1.1 z hz h3
      have key : ∀ z, Relation.TransGen (fun a a' => ngB β a a' = true) d z → bt y z = true → bt y d = true := by
        intro z hz
        have lt : ∀ a b, ngB β a b = true → thB β a = true → teB β b a = true := fun a b q t => by
          unfold teB; rw [t, Bool.true_and]; unfold ngB at q; simp only [Bool.and_eq_true] at q; exact q.2
        induction hz with
        | single q => intro hb; exact hcl _ (ng_lt q) hb d hd (lt _ _ q h1)
        | tail p q ih =>
          intro hb
          obtain ⟨w1, w2⟩ := tg_th p
          exact ih (hcl _ (ng_lt q) hb _ w1 (lt _ _ q w2))
      exact key z h4 hz1
  have hL : bt y d = true → tcB β nms d = true := by
    refine h.1.2 (tcB β nms) (fun e he hj => tc_iff.mpr ⟨nr_th hj, Or.inl hj⟩) (fun a ha hs e he q => ?_) d hd
    unfold teB at q
    simp only [Bool.and_eq_true] at q
    exact tc_up ha q.1 (by unfold ngB; rw [decide_eq_true ha, q.2]; rfl) hs
  cases hb : bt y d with
  | true => exact (hL hb).symm
  | false =>
    cases ht : tcB β nms d with
    | false => rfl
    | true => rw [hR ht] at hb; cases hb
section SP
variable {β : Me} {x : Int32} {d : Nat}
theorem sp_v0 (hd : d < 10) (h : thB β d = false) (h4 : β 4 d = 0) : (0 : Int32) = spβ β x 4 d := by
  rw [sp_4 β x hd, if_neg (fun z => by rw [tc_th z] at h; cases h), h4]
theorem sp_v1 (hd : d < 10) (h4 : β 4 d = 1) : (1 : Int32) = spβ β x 4 d := by
  rw [sp_4 β x hd]; split
  · rfl
  · exact h4.symm
theorem sp_v2 (hd : d < 10) (h : tcB β x d = false) (h4 : β 4 d = 0) : (0 : Int32) = spβ β x 4 d := by
  rw [sp_4 β x hd, if_neg (by rw [h]; decide), h4]
theorem sp_v3 (hd : d < 10) (h : tcB β x d = true) : (1 : Int32) = spβ β x 4 d := by rw [sp_4 β x hd, if_pos h]
end SP
theorem nb_lt {v : Int32} (h : v < 0) (hv : v = -1 ∨ ∃ j, j < 10 ∧ v = nI j) : nbI v = 0 := by
  unfold nbI
  rcases hv with e | ⟨j, hj, e⟩
  · rw [if_pos e]
  · rw [e] at h; exact absurd h (Int32.not_lt.mpr (nI_pos' (by omega)))
theorem nb_ge {v : Int32} (h : ¬ v < 0) : nbI v = nI 1 <<< (v &&& 31) := by
  unfold nbI
  rw [if_neg (fun e => h (by rw [e]; decide))]; rfl
def bcJ (β : Me) (x : Int32) (c i : Nat) (d : Nat) : Bool := (decide (d < i) && nrB β x d) || (decide (d = c) && thB β c)
theorem bcJ_f {β : Me} {x y : Int32} {c i : Nat} (hi : i < 10) (h : ∀ d, d < 10 → bt y d = bcJ β x c i d) (hn : nrB β x i = false) : ∀ d, d < 10 → bt y d = bcJ β x c (i + 1) d := by
  intro d hd
  rw [h d hd]; unfold bcJ
  by_cases e : d = i
  · subst e; rw [hn, Bool.and_false, Bool.and_false]
  · rw [show decide (d < i + 1) = decide (d < i) from decide_eq_decide.mpr (by omega)]
theorem bcJ_t {β : Me} {x y : Int32} {c i : Nat} (hi : i < 10) (h : ∀ d, d < 10 → bt y d = bcJ β x c i d) (hn : nrB β x i = true) : ∀ d, d < 10 → bt (y ||| (nI 1 <<< (nI i &&& 31))) d = bcJ β x c (i + 1) d := by
  intro d hd
  rw [bt_or i hi hd, h d hd]; unfold bcJ
  by_cases e : d = i
  · subst e; rw [hn, decide_eq_true (show d < d + 1 by omega), decide_eq_true rfl, Bool.or_true, Bool.and_self, Bool.true_or]
  · rw [show decide (d < i + 1) = decide (d < i) from decide_eq_decide.mpr (by omega), decide_eq_false e, Bool.or_false]
theorem nr_0 {β : Me} {x : Int32} {d : Nat} (h : thB β d = false) : nrB β x d = false := by unfold nrB; rw [h]; rfl
theorem nr_1 {β : Me} {x : Int32} {d : Nat} (h : thB β d = true) (h2 : bt x (nmN β d) = true) : nrB β x d = true := by unfold nrB; rw [h, h2]; rfl
theorem nr_2 {β : Me} {x : Int32} {d : Nat} (h2 : bt x (nmN β d) = false) (h3 : usI β d &&& x = 0) : nrB β x d = false := by unfold nrB; rw [h2, decide_eq_false (fun z => z h3), Bool.or_self, Bool.and_false]
theorem nr_3 {β : Me} {x : Int32} {d : Nat} (h : thB β d = true) (h3 : ¬ usI β d &&& x = 0) : nrB β x d = true := by unfold nrB; rw [h, decide_eq_true h3, Bool.or_true, Bool.and_self]
set_option maxHeartbeats 4000000 in
theorem m_Mo_becomes (l : Launch) (g : Gd) (hI : sI (sR g)) (M : Me) {β : Me} {c : Nat} (hc : c < 10) (hT : TxR M β) (hSt : ∀ d, d < 10 → thB β d = true → M 9 d = β 4 d) (hN : Nmb β) (hz : ∀ d, d < 10 → z1 (β 4 d)) (h40 : ∀ d, d < 10 → thB β d = false → β 4 d = 0) {old x : Int32} (hold : old = -1 ∨ ∃ j, j < 10 ∧ old = nI j) (hx : x = nbI old ||| nbI (β 2 c)) (hxc : thB β c = true → bt x (nmN β c) = true) : CR l g y_Mo_becomes c_Mo_becomes 8 none 3 [.ref (ga g 0), .int (nI c), .int old] M (fun r M' => r = none ∧ (∀ k, k ≠ 9 → M' k = M k) ∧ ∀ d, d < 10 → M' 9 d = spβ β x 4 d) := by
  refine Ct.of hI (sR_N0 g) rfl (Nat.le_of_ble_eq_true rfl) (fun K h0 hC hR hkl hn => ?_)
  have hC : Cx (sR g) K gC_Mo _ := hC
  show V K (wp (sR g)) M 0 [(0, .ref (ga g 0)), (1, .int (nI c)), (2, .int old)] []
  have hLa : ∀ (y : Int32), (∀ d, d < 10 → bt y d = tcB β x d) → ∀ (t i : Nat) (M1 : Me), i + t = 10 → (∀ k, k ≠ 9 → M1 k = M k) → (∀ d, d < i → M1 9 d = spβ β x 4 d) → (∀ d, i ≤ d → M1 9 d = M 9 d) → V K (wp (sR g)) M1 224 [(5, .int (nI i)), (4, .int y), (3, .int x), (0, .ref (ga g 0)), (1, .int (nI c)), (2, .int old)] [] := by
    intro y hy t
    induction t with
    | zero =>
      intro i M1 hi q1 q2 q3
      refine v_iload h0 d_Mo_becomes_224 0 rfl ?_
      refine v_bipush h0 d_Mo_becomes_226 (v := nI 10) (by decide) ?_
      refine n_icmp_ge h0 (by omega) (by omega) d_Mo_becomes_228 rfl (fun h228 => ?_) (fun h228 => absurd h228 (by omega))
      exact v_vret h0 hC hR d_Mo_becomes_279 (⟨rfl, q1, fun d hd => q2 d (by omega)⟩)
    | succ t ih =>
      intro i M1 hi q1 q2 q3
      refine v_iload h0 d_Mo_becomes_224 0 rfl ?_
      refine v_bipush h0 d_Mo_becomes_226 (v := nI 10) (by decide) ?_
      refine n_icmp_ge h0 (by omega) (by omega) d_Mo_becomes_228 rfl (fun h228 => absurd h228 (by omega)) (fun h228 => ?_)
      refine v_aload_n h0 d_Mo_becomes_231 3 rfl ?_
      refine g_Mo_stale_ h0 hC wd_457 d_Mo_becomes_232 ?_
      refine v_iload h0 d_Mo_becomes_235 0 rfl ?_
      refine v_aload_n h0 d_Mo_becomes_237 3 rfl ?_
      refine v_iload h0 d_Mo_becomes_238 0 rfl ?_
      refine v_callV h0 hC (sR_N0 g) 0 (show 0 < 22 by omega) (show enR g 0 _ = _ from rfl) rfl (av := [.int (nI i)]) (rest := [.int (nI i), .ref (ga g 9)]) (m_Mo_isThere (kl K) g hI M1 (β := β) (by omega) (by rw [q1 4 (by omega)]; exact (hT i (by omega)).1)) wd_603 wd_600 wd_602 ws_38 wd_6 hd_Mo_isThere (by omega) (by decide) rfl rfl (Nat.le_of_ble_eq_true rfl) d_Mo_becomes_240 (fun r9 M9 hp9 => ?_)
      obtain ⟨rfl, rfl⟩ := hp9
      refine v_r1 ?_
      refine b_if_eq h0 d_Mo_becomes_243 rfl (fun h243 => ?_) (fun h243 => ?_)
      · skip
        refine v_iconst h0 d_Mo_becomes_271 (v := nI 0) (by decide) ?_
        refine s_Mo_stale_ h0 hC i (rfl) (z := 0) (by decide) (by omega) d_Mo_becomes_272 ?_
        refine v_iinc h0 d_Mo_becomes_273 (lv' := [(5, .int (nI (i + 1))), (4, .int y), (3, .int x), (0, .ref (ga g 0)), (1, .int (nI c)), (2, .int old)]) 0 rfl (inc1 i) (lt_kn hn (by decide)) rfl ?_
        refine v_goto h0 d_Mo_becomes_276 rfl ?_
        refine ih (i + 1) _ (by omega) (fun k hk => by rw [up2_q _ _ hk]; exact q1 k hk) (fun d hd => ?_) (fun d hd => by rw [up2_n _ _ (by omega)]; exact q3 d (by omega))
        by_cases e : d = i
        · rw [e, up2_s]; exact sp_v0 (by omega) h243 (h40 i (by omega) h243)
        · rw [up2_n _ _ (by omega)]; exact q2 d (by omega)
      · skip
        refine v_aload_n h0 d_Mo_becomes_246 3 rfl ?_
        refine g_Mo_stale_ h0 hC wd_457 d_Mo_becomes_247 ?_
        refine v_iload h0 d_Mo_becomes_250 0 rfl ?_
        refine a_Mo_stale_ h0 hC i (rfl) (by omega) d_Mo_becomes_252 ?_
        refine v_int (β 4 i) ((q3 i (Nat.le_refl _)).trans (hSt i (by omega) h243)) ?_
        refine v_if_ne h0 d_Mo_becomes_253 rfl (fun h253 => ?_) (fun h253 => ?_)
        · skip
          refine v_iconst h0 d_Mo_becomes_267 (v := nI 1) (by decide) ?_
          refine v_goto h0 d_Mo_becomes_268 rfl ?_
          refine s_Mo_stale_ h0 hC i (rfl) (z := 1) (by decide) (by omega) d_Mo_becomes_272 ?_
          refine v_iinc h0 d_Mo_becomes_273 (lv' := [(5, .int (nI (i + 1))), (4, .int y), (3, .int x), (0, .ref (ga g 0)), (1, .int (nI c)), (2, .int old)]) 0 rfl (inc1 i) (lt_kn hn (by decide)) rfl ?_
          refine v_goto h0 d_Mo_becomes_276 rfl ?_
          refine ih (i + 1) _ (by omega) (fun k hk => by rw [up2_q _ _ hk]; exact q1 k hk) (fun d hd => ?_) (fun d hd => by rw [up2_n _ _ (by omega)]; exact q3 d (by omega))
          by_cases e : d = i
          · rw [e, up2_s]; exact sp_v1 (by omega) ((hz i (by omega)).resolve_left h253)
          · rw [up2_n _ _ (by omega)]; exact q2 d (by omega)
        · skip
          refine v_iload h0 d_Mo_becomes_256 1 rfl ?_
          refine v_iload h0 d_Mo_becomes_258 0 rfl ?_
          refine v_ishr h0 d_Mo_becomes_260 ?_
          refine v_iconst h0 d_Mo_becomes_261 (v := nI 1) (by decide) ?_
          refine v_iand h0 d_Mo_becomes_262 ?_
          refine v_int (bI (bt y i)) (b_top (by omega) rfl) ?_
          refine v_iconst h0 d_Mo_becomes_263 (v := nI 1) (by decide) ?_
          refine v_icmp_ne h0 d_Mo_becomes_264 rfl (fun h264 => ?_) (fun h264 => ?_)
          · skip
            refine v_iconst h0 d_Mo_becomes_271 (v := nI 0) (by decide) ?_
            refine s_Mo_stale_ h0 hC i (rfl) (z := 0) (by decide) (by omega) d_Mo_becomes_272 ?_
            refine v_iinc h0 d_Mo_becomes_273 (lv' := [(5, .int (nI (i + 1))), (4, .int y), (3, .int x), (0, .ref (ga g 0)), (1, .int (nI c)), (2, .int old)]) 0 rfl (inc1 i) (lt_kn hn (by decide)) rfl ?_
            refine v_goto h0 d_Mo_becomes_276 rfl ?_
            refine ih (i + 1) _ (by omega) (fun k hk => by rw [up2_q _ _ hk]; exact q1 k hk) (fun d hd => ?_) (fun d hd => by rw [up2_n _ _ (by omega)]; exact q3 d (by omega))
            by_cases e : d = i
            · rw [e, up2_s]; exact sp_v2 (by omega) (by rw [← hy i (by omega)]; exact bI_n1 h264) h253
            · rw [up2_n _ _ (by omega)]; exact q2 d (by omega)
          · skip
            refine v_iconst h0 d_Mo_becomes_267 (v := nI 1) (by decide) ?_
            refine v_goto h0 d_Mo_becomes_268 rfl ?_
            refine s_Mo_stale_ h0 hC i (rfl) (z := 1) (by decide) (by omega) d_Mo_becomes_272 ?_
            refine v_iinc h0 d_Mo_becomes_273 (lv' := [(5, .int (nI (i + 1))), (4, .int y), (3, .int x), (0, .ref (ga g 0)), (1, .int (nI c)), (2, .int old)]) 0 rfl (inc1 i) (lt_kn hn (by decide)) rfl ?_
            refine v_goto h0 d_Mo_becomes_276 rfl ?_
            refine ih (i + 1) _ (by omega) (fun k hk => by rw [up2_q _ _ hk]; exact q1 k hk) (fun d hd => ?_) (fun d hd => by rw [up2_n _ _ (by omega)]; exact q3 d (by omega))
            by_cases e : d = i
            · rw [e, up2_s]; exact sp_v3 (by omega) (by rw [← hy i (by omega)]; exact bI_e1 h264)
            · rw [up2_n _ _ (by omega)]; exact q2 d (by omega)
  have hIn : ∀ (n : Nat) (x0 : Int32) (a : Nat), n < 10 → a < 10 → (∀ y, Gm (teB β) (nrB β x) x0 (a + 1) y → V K (wp (sR g)) M 141 [(6, .int (nI (a + 1))), (5, .int (nI n)), (4, .int y), (3, .int x), (0, .ref (ga g 0)), (1, .int (nI c)), (2, .int old)] []) → ∀ (t d : Nat) (y : Int32), d + t = 10 → Gi (teB β) (nrB β x) x0 a d y → V K (wp (sR g)) M 151 [(7, .int (nI d)), (6, .int (nI a)), (5, .int (nI n)), (4, .int y), (3, .int x), (0, .ref (ga g 0)), (1, .int (nI c)), (2, .int old)] [] := by
    intro n x0 a hn0 ha kk t
    induction t with
    | zero =>
      intro d y hd hG
      refine v_iload h0 d_Mo_becomes_151 0 rfl ?_
      refine v_bipush h0 d_Mo_becomes_153 (v := nI 10) (by decide) ?_
      refine n_icmp_ge h0 (by omega) (by omega) d_Mo_becomes_155 rfl (fun h155 => ?_) (fun h155 => absurd h155 (by omega))
      refine v_iinc h0 d_Mo_becomes_209 (lv' := [(6, .int (nI (a + 1))), (7, .int (nI d)), (5, .int (nI n)), (4, .int y), (3, .int x), (0, .ref (ga g 0)), (1, .int (nI c)), (2, .int old)]) 1 rfl (inc1 a) (lt_kn hn (by decide)) rfl ?_
      refine v_goto h0 d_Mo_becomes_212 rfl ?_
      refine v_sub [0, 2, 3, 4, 5, 6, 7] rfl ?_
      exact kk y (Gi_end ha hG (Or.inl (by omega)))
    | succ t ih =>
      intro d y hd hG
      refine v_iload h0 d_Mo_becomes_151 0 rfl ?_
      refine v_bipush h0 d_Mo_becomes_153 (v := nI 10) (by decide) ?_
      refine n_icmp_ge h0 (by omega) (by omega) d_Mo_becomes_155 rfl (fun h155 => absurd h155 (by omega)) (fun h155 => ?_)
      refine v_iload h0 d_Mo_becomes_158 3 rfl ?_
      refine v_iload h0 d_Mo_becomes_160 1 rfl ?_
      refine v_ishr h0 d_Mo_becomes_162 ?_
      refine v_iconst h0 d_Mo_becomes_163 (v := nI 1) (by decide) ?_
      refine v_iand h0 d_Mo_becomes_164 ?_
      refine v_int (bI (bt y a)) (b_top (by omega) rfl) ?_
      refine v_iconst h0 d_Mo_becomes_165 (v := nI 1) (by decide) ?_
      refine v_icmp_ne h0 d_Mo_becomes_166 rfl (fun h166 => ?_) (fun h166 => ?_)
      · skip
        refine v_iinc h0 d_Mo_becomes_209 (lv' := [(6, .int (nI (a + 1))), (7, .int (nI d)), (5, .int (nI n)), (4, .int y), (3, .int x), (0, .ref (ga g 0)), (1, .int (nI c)), (2, .int old)]) 1 rfl (inc1 a) (lt_kn hn (by decide)) rfl ?_
        refine v_goto h0 d_Mo_becomes_212 rfl ?_
        refine v_sub [0, 2, 3, 4, 5, 6, 7] rfl ?_
        exact kk y (Gi_end ha hG (Or.inr (bI_n1 h166)))
      · skip
        refine v_aload_n h0 d_Mo_becomes_169 5 rfl ?_
        refine v_iload h0 d_Mo_becomes_170 0 rfl ?_
        refine v_callV h0 hC (sR_N0 g) 0 (show 0 < 22 by omega) (show enR g 0 _ = _ from rfl) rfl (av := [.int (nI d)]) (rest := []) (m_Mo_isThere (kl K) g hI M (by omega) (hT d (by omega)).1) wd_603 wd_600 wd_602 ws_38 wd_6 hd_Mo_isThere (by omega) (by decide) rfl rfl (Nat.le_of_ble_eq_true rfl) d_Mo_becomes_172 (fun r9 M9 hp9 => ?_)
        obtain ⟨rfl, rfl⟩ := hp9
        refine v_r1 ?_
        refine b_if_eq h0 d_Mo_becomes_175 rfl (fun h175 => ?_) (fun h175 => ?_)
        · skip
          refine v_iload h0 d_Mo_becomes_199 3 rfl ?_
          refine v_istore h0 d_Mo_becomes_201 (lv' := [(4, .int y), (7, .int (nI d)), (6, .int (nI a)), (5, .int (nI n)), (3, .int x), (0, .ref (ga g 0)), (1, .int (nI c)), (2, .int old)]) (lt_kn hn (by decide)) rfl ?_
          refine v_iinc h0 d_Mo_becomes_203 (lv' := [(7, .int (nI (d + 1))), (4, .int y), (6, .int (nI a)), (5, .int (nI n)), (3, .int x), (0, .ref (ga g 0)), (1, .int (nI c)), (2, .int old)]) 1 rfl (inc1 d) (lt_kn hn (by decide)) rfl ?_
          refine v_goto h0 d_Mo_becomes_206 rfl ?_
          refine v_sub [0, 2, 3, 1, 4, 5, 6, 7] rfl ?_
          exact ih (d + 1) y (by omega) (Gi_skip hG (by unfold teB; rw [h175]; rfl))
        · skip
          refine v_aload_n h0 d_Mo_becomes_178 5 rfl ?_
          refine v_iload h0 d_Mo_becomes_179 0 rfl ?_
          refine v_iload h0 d_Mo_becomes_181 1 rfl ?_
          refine v_callV h0 hC (sR_N0 g) 0 (show 0 < 22 by omega) (show enR g 0 _ = _ from rfl) rfl (av := [.int (nI d), .int (nI a)]) (rest := []) (m_Mo_needs (kl K) g hI M (by omega) (by omega) hT hN) wd_607 wd_604 wd_606 ws_39 wd_6 hd_Mo_needs (by omega) (by decide) rfl rfl (Nat.le_of_ble_eq_true rfl) d_Mo_becomes_183 (fun r9 M9 hp9 => ?_)
          obtain ⟨rfl, rfl⟩ := hp9
          refine v_r1 ?_
          refine b_if_eq h0 d_Mo_becomes_186 rfl (fun h186 => ?_) (fun h186 => ?_)
          · skip
            refine v_iload h0 d_Mo_becomes_199 3 rfl ?_
            refine v_istore h0 d_Mo_becomes_201 (lv' := [(4, .int y), (7, .int (nI d)), (6, .int (nI a)), (5, .int (nI n)), (3, .int x), (0, .ref (ga g 0)), (1, .int (nI c)), (2, .int old)]) (lt_kn hn (by decide)) rfl ?_
            refine v_iinc h0 d_Mo_becomes_203 (lv' := [(7, .int (nI (d + 1))), (4, .int y), (6, .int (nI a)), (5, .int (nI n)), (3, .int x), (0, .ref (ga g 0)), (1, .int (nI c)), (2, .int old)]) 1 rfl (inc1 d) (lt_kn hn (by decide)) rfl ?_
            refine v_goto h0 d_Mo_becomes_206 rfl ?_
            refine v_sub [0, 2, 3, 1, 4, 5, 6, 7] rfl ?_
            exact ih (d + 1) y (by omega) (Gi_skip hG (by unfold teB; rw [h186, Bool.and_false]))
          · skip
            refine v_iload h0 d_Mo_becomes_189 3 rfl ?_
            refine v_iconst h0 d_Mo_becomes_191 (v := nI 1) (by decide) ?_
            refine v_iload h0 d_Mo_becomes_192 0 rfl ?_
            refine v_ishl h0 d_Mo_becomes_194 ?_
            refine v_ior h0 d_Mo_becomes_195 ?_
            refine v_goto h0 d_Mo_becomes_196 rfl ?_
            refine v_istore h0 d_Mo_becomes_201 (lv' := [(4, .int (y ||| ((nI 1) <<< ((nI d) &&& 31)))), (7, .int (nI d)), (6, .int (nI a)), (5, .int (nI n)), (3, .int x), (0, .ref (ga g 0)), (1, .int (nI c)), (2, .int old)]) (lt_kn hn (by decide)) rfl ?_
            refine v_iinc h0 d_Mo_becomes_203 (lv' := [(7, .int (nI (d + 1))), (4, .int (y ||| ((nI 1) <<< ((nI d) &&& 31)))), (6, .int (nI a)), (5, .int (nI n)), (3, .int x), (0, .ref (ga g 0)), (1, .int (nI c)), (2, .int old)]) 1 rfl (inc1 d) (lt_kn hn (by decide)) rfl ?_
            refine v_goto h0 d_Mo_becomes_206 rfl ?_
            refine v_sub [0, 2, 3, 1, 4, 5, 6, 7] rfl ?_
            exact ih (d + 1) _ (by omega) (Gi_add (by omega) ha hG (bI_e1 h166) (by unfold teB; rw [h175, h186]; rfl))
  have hMi : ∀ (n : Nat) (x0 : Int32), n < 10 → (∀ y, Gm (teB β) (nrB β x) x0 10 y → V K (wp (sR g)) M 131 [(5, .int (nI (n + 1))), (4, .int y), (3, .int x), (0, .ref (ga g 0)), (1, .int (nI c)), (2, .int old)] []) → ∀ (t a : Nat) (y : Int32), a + t = 10 → Gm (teB β) (nrB β x) x0 a y → V K (wp (sR g)) M 141 [(6, .int (nI a)), (5, .int (nI n)), (4, .int y), (3, .int x), (0, .ref (ga g 0)), (1, .int (nI c)), (2, .int old)] [] := by
    intro n x0 hn0 kk t
    induction t with
    | zero =>
      intro a y ha hG
      refine v_iload h0 d_Mo_becomes_141 0 rfl ?_
      refine v_bipush h0 d_Mo_becomes_143 (v := nI 10) (by decide) ?_
      refine n_icmp_ge h0 (by omega) (by omega) d_Mo_becomes_145 rfl (fun h145 => ?_) (fun h145 => absurd h145 (by omega))
      refine v_iinc h0 d_Mo_becomes_215 (lv' := [(5, .int (nI (n + 1))), (6, .int (nI a)), (4, .int y), (3, .int x), (0, .ref (ga g 0)), (1, .int (nI c)), (2, .int old)]) 1 rfl (inc1 n) (lt_kn hn (by decide)) rfl ?_
      refine v_goto h0 d_Mo_becomes_218 rfl ?_
      refine v_sub [0, 2, 3, 4, 5, 6] rfl ?_
      exact kk y (by rw [show (10 : Nat) = a by omega]; exact hG)
    | succ t ih =>
      intro a y ha hG
      refine v_iload h0 d_Mo_becomes_141 0 rfl ?_
      refine v_bipush h0 d_Mo_becomes_143 (v := nI 10) (by decide) ?_
      refine n_icmp_ge h0 (by omega) (by omega) d_Mo_becomes_145 rfl (fun h145 => absurd h145 (by omega)) (fun h145 => ?_)
      refine v_iconst h0 d_Mo_becomes_148 (v := nI 0) (by decide) ?_
      refine v_istore h0 d_Mo_becomes_149 (lv' := [(7, .int (nI 0)), (6, .int (nI a)), (5, .int (nI n)), (4, .int y), (3, .int x), (0, .ref (ga g 0)), (1, .int (nI c)), (2, .int old)]) (lt_kn hn (by decide)) rfl ?_
      exact hIn n x0 a hn0 (by omega) (fun y hy => ih (a + 1) y (by omega) hy) 10 0 y rfl (Gi_start hG)
  have hOu : ∀ (t n : Nat) (y : Int32), n + t = 10 → Gr (teB β) (nrB β x) n y → V K (wp (sR g)) M 131 [(5, .int (nI n)), (4, .int y), (3, .int x), (0, .ref (ga g 0)), (1, .int (nI c)), (2, .int old)] [] := by
    intro t
    induction t with
    | zero =>
      intro n y hn1 hG
      refine v_iload h0 d_Mo_becomes_131 0 rfl ?_
      refine v_bipush h0 d_Mo_becomes_133 (v := nI 10) (by decide) ?_
      refine n_icmp_ge h0 (by omega) (by omega) d_Mo_becomes_135 rfl (fun h135 => ?_) (fun h135 => absurd h135 (by omega))
      refine v_iconst h0 d_Mo_becomes_221 (v := nI 0) (by decide) ?_
      refine v_istore h0 d_Mo_becomes_222 (lv' := [(5, .int (nI 0)), (4, .int y), (3, .int x), (0, .ref (ga g 0)), (1, .int (nI c)), (2, .int old)]) (lt_kn hn (by decide)) rfl ?_
      exact hLa y (fun d hd => tc_fin (by rw [show (10 : Nat) = n by omega]; exact hG) hd) 10 0 M rfl (fun _ _ => rfl) (fun d hd => by omega) (fun _ _ => rfl)
    | succ t ih =>
      intro n y hn1 hG
      refine v_iload h0 d_Mo_becomes_131 0 rfl ?_
      refine v_bipush h0 d_Mo_becomes_133 (v := nI 10) (by decide) ?_
      refine n_icmp_ge h0 (by omega) (by omega) d_Mo_becomes_135 rfl (fun h135 => absurd h135 (by omega)) (fun h135 => ?_)
      refine v_iconst h0 d_Mo_becomes_138 (v := nI 0) (by decide) ?_
      refine v_istore h0 d_Mo_becomes_139 (lv' := [(6, .int (nI 0)), (5, .int (nI n)), (4, .int y), (3, .int x), (0, .ref (ga g 0)), (1, .int (nI c)), (2, .int old)]) (lt_kn hn (by decide)) rfl ?_
      exact hMi n y (by omega) (fun y hy => ih (n + 1) y (by omega) (Gm_end hG hy)) 10 0 y rfl (Gm_start hG)
  have hFi : ∀ (t i : Nat) (y : Int32), i + t = 10 → (∀ d, d < 10 → bt y d = bcJ β x c i d) → V K (wp (sR g)) M 53 [(5, .int (nI i)), (4, .int y), (3, .int x), (0, .ref (ga g 0)), (1, .int (nI c)), (2, .int old)] [] := by
    intro t
    induction t with
    | zero =>
      intro i y hi hy
      obtain rfl : i = 10 := by omega
      refine v_iload h0 d_Mo_becomes_53 0 rfl ?_
      refine v_bipush h0 d_Mo_becomes_55 (v := nI 10) (by decide) ?_
      refine n_icmp_ge h0 (by omega) (by omega) d_Mo_becomes_57 rfl (fun h57 => ?_) (fun h57 => absurd h57 (by omega))
      refine v_iconst h0 d_Mo_becomes_128 (v := nI 0) (by decide) ?_
      refine v_istore h0 d_Mo_becomes_129 (lv' := [(5, .int (nI 0)), (4, .int y), (3, .int x), (0, .ref (ga g 0)), (1, .int (nI c)), (2, .int old)]) (lt_kn hn (by decide)) rfl ?_
      refine hOu 10 0 _ rfl (Gs_start (fun d hd => ?_))
      rw [hy d hd]; unfold bcJ; rw [decide_eq_true hd, Bool.true_and]
      by_cases e : d = c
      · subst e
        cases ht : thB β d with
        | false => rw [Bool.and_false, Bool.or_false]
        | true => rw [nr_1 ht (hxc ht), Bool.true_or]
      · rw [decide_eq_false e, Bool.false_and, Bool.or_false]
    | succ t ih =>
      intro i y hi hy
      refine v_iload h0 d_Mo_becomes_53 0 rfl ?_
      refine v_bipush h0 d_Mo_becomes_55 (v := nI 10) (by decide) ?_
      refine n_icmp_ge h0 (by omega) (by omega) d_Mo_becomes_57 rfl (fun h57 => absurd h57 (by omega)) (fun h57 => ?_)
      refine v_aload_n h0 d_Mo_becomes_60 3 rfl ?_
      refine v_iload h0 d_Mo_becomes_61 0 rfl ?_
      refine v_callV h0 hC (sR_N0 g) 0 (show 0 < 22 by omega) (show enR g 0 _ = _ from rfl) rfl (av := [.int (nI i)]) (rest := []) (m_Mo_isThere (kl K) g hI M (by omega) (hT i (by omega)).1) wd_603 wd_600 wd_602 ws_38 wd_6 hd_Mo_isThere (by omega) (by decide) rfl rfl (Nat.le_of_ble_eq_true rfl) d_Mo_becomes_63 (fun r9 M9 hp9 => ?_)
      obtain ⟨rfl, rfl⟩ := hp9
      refine v_r1 ?_
      refine b_if_eq h0 d_Mo_becomes_66 rfl (fun h66 => ?_) (fun h66 => ?_)
      · skip
        refine v_iconst h0 d_Mo_becomes_100 (v := nI 0) (by decide) ?_
        refine v_istore h0 d_Mo_becomes_101 (lv' := [(6, .int (nI 0)), (5, .int (nI i)), (4, .int y), (3, .int x), (0, .ref (ga g 0)), (1, .int (nI c)), (2, .int old)]) (lt_kn hn (by decide)) rfl ?_
        refine v_iload h0 d_Mo_becomes_103 0 rfl ?_
        refine v_if_eq h0 d_Mo_becomes_105 rfl (fun h105 => ?_) (fun h105 => absurd h105 (fun z => z rfl))
        refine v_iload h0 d_Mo_becomes_118 2 rfl ?_
        refine v_istore h0 d_Mo_becomes_120 (lv' := [(4, .int y), (6, .int (nI 0)), (5, .int (nI i)), (3, .int x), (0, .ref (ga g 0)), (1, .int (nI c)), (2, .int old)]) (lt_kn hn (by decide)) rfl ?_
        refine v_iinc h0 d_Mo_becomes_122 (lv' := [(5, .int (nI (i + 1))), (4, .int y), (6, .int (nI 0)), (3, .int x), (0, .ref (ga g 0)), (1, .int (nI c)), (2, .int old)]) 2 rfl (inc1 i) (lt_kn hn (by decide)) rfl ?_
        refine v_goto h0 d_Mo_becomes_125 rfl ?_
        refine v_sub [0, 1, 3, 4, 5, 6] rfl ?_
        exact ih (i + 1) _ (by omega) (bcJ_f (by omega) hy (nr_0 h66))
      · skip
        refine v_iload_n h0 d_Mo_becomes_69 2 rfl ?_
        refine v_aload_n h0 d_Mo_becomes_70 3 rfl ?_
        refine g_Mo_named_ h0 hC wd_452 d_Mo_becomes_71 ?_
        refine v_iload h0 d_Mo_becomes_74 0 rfl ?_
        refine a_Mo_named_ h0 hC i (rfl) (by omega) d_Mo_becomes_76 ?_
        refine v_int (nI (nmN β i)) ((hT i (by omega)).1.trans (th_t hN (by omega) h66).2) ?_
        refine v_ishr h0 d_Mo_becomes_77 ?_
        refine v_iconst h0 d_Mo_becomes_78 (v := nI 1) (by decide) ?_
        refine v_iand h0 d_Mo_becomes_79 ?_
        refine v_int (bI (bt x (nmN β i))) (b_top (by have := (th_t hN (show i < 10 by omega) h66).1; omega) rfl) ?_
        refine v_iconst h0 d_Mo_becomes_80 (v := nI 1) (by decide) ?_
        refine v_icmp_eq h0 d_Mo_becomes_81 rfl (fun h81 => ?_) (fun h81 => ?_)
        · skip
          refine v_iconst h0 d_Mo_becomes_96 (v := nI 1) (by decide) ?_
          refine v_goto h0 d_Mo_becomes_97 rfl ?_
          refine v_istore h0 d_Mo_becomes_101 (lv' := [(6, .int (nI 1)), (5, .int (nI i)), (4, .int y), (3, .int x), (0, .ref (ga g 0)), (1, .int (nI c)), (2, .int old)]) (lt_kn hn (by decide)) rfl ?_
          refine v_iload h0 d_Mo_becomes_103 0 rfl ?_
          refine v_if_eq h0 d_Mo_becomes_105 rfl (fun h105 => absurd h105 (by decide)) (fun h105 => ?_)
          refine v_iload h0 d_Mo_becomes_108 2 rfl ?_
          refine v_iconst h0 d_Mo_becomes_110 (v := nI 1) (by decide) ?_
          refine v_iload h0 d_Mo_becomes_111 1 rfl ?_
          refine v_ishl h0 d_Mo_becomes_113 ?_
          refine v_ior h0 d_Mo_becomes_114 ?_
          refine v_goto h0 d_Mo_becomes_115 rfl ?_
          refine v_istore h0 d_Mo_becomes_120 (lv' := [(4, .int (y ||| ((nI 1) <<< ((nI i) &&& 31)))), (6, .int (nI 1)), (5, .int (nI i)), (3, .int x), (0, .ref (ga g 0)), (1, .int (nI c)), (2, .int old)]) (lt_kn hn (by decide)) rfl ?_
          refine v_iinc h0 d_Mo_becomes_122 (lv' := [(5, .int (nI (i + 1))), (4, .int (y ||| ((nI 1) <<< ((nI i) &&& 31)))), (6, .int (nI 1)), (3, .int x), (0, .ref (ga g 0)), (1, .int (nI c)), (2, .int old)]) 2 rfl (inc1 i) (lt_kn hn (by decide)) rfl ?_
          refine v_goto h0 d_Mo_becomes_125 rfl ?_
          refine v_sub [0, 1, 3, 4, 5, 6] rfl ?_
          exact ih (i + 1) _ (by omega) (bcJ_t (by omega) hy (nr_1 h66 (bI_e1 h81)))
        · skip
          refine v_aload_n h0 d_Mo_becomes_84 3 rfl ?_
          refine g_Mo_used_ h0 hC wd_456 d_Mo_becomes_85 ?_
          refine v_iload h0 d_Mo_becomes_88 0 rfl ?_
          refine a_Mo_used_ h0 hC i (rfl) (by omega) d_Mo_becomes_90 ?_
          refine v_int (usI β i) ((hT i (by omega)).2.2.2.2.2) ?_
          refine v_iload_n h0 d_Mo_becomes_91 2 rfl ?_
          refine v_iand h0 d_Mo_becomes_92 ?_
          refine v_if_eq h0 d_Mo_becomes_93 rfl (fun h93 => ?_) (fun h93 => ?_)
          · skip
            refine v_iconst h0 d_Mo_becomes_100 (v := nI 0) (by decide) ?_
            refine v_istore h0 d_Mo_becomes_101 (lv' := [(6, .int (nI 0)), (5, .int (nI i)), (4, .int y), (3, .int x), (0, .ref (ga g 0)), (1, .int (nI c)), (2, .int old)]) (lt_kn hn (by decide)) rfl ?_
            refine v_iload h0 d_Mo_becomes_103 0 rfl ?_
            refine v_if_eq h0 d_Mo_becomes_105 rfl (fun h105 => ?_) (fun h105 => absurd h105 (fun z => z rfl))
            refine v_iload h0 d_Mo_becomes_118 2 rfl ?_
            refine v_istore h0 d_Mo_becomes_120 (lv' := [(4, .int y), (6, .int (nI 0)), (5, .int (nI i)), (3, .int x), (0, .ref (ga g 0)), (1, .int (nI c)), (2, .int old)]) (lt_kn hn (by decide)) rfl ?_
            refine v_iinc h0 d_Mo_becomes_122 (lv' := [(5, .int (nI (i + 1))), (4, .int y), (6, .int (nI 0)), (3, .int x), (0, .ref (ga g 0)), (1, .int (nI c)), (2, .int old)]) 2 rfl (inc1 i) (lt_kn hn (by decide)) rfl ?_
            refine v_goto h0 d_Mo_becomes_125 rfl ?_
            refine v_sub [0, 1, 3, 4, 5, 6] rfl ?_
            exact ih (i + 1) _ (by omega) (bcJ_f (by omega) hy (nr_2 (bI_n1 h81) h93))
          · skip
            refine v_iconst h0 d_Mo_becomes_96 (v := nI 1) (by decide) ?_
            refine v_goto h0 d_Mo_becomes_97 rfl ?_
            refine v_istore h0 d_Mo_becomes_101 (lv' := [(6, .int (nI 1)), (5, .int (nI i)), (4, .int y), (3, .int x), (0, .ref (ga g 0)), (1, .int (nI c)), (2, .int old)]) (lt_kn hn (by decide)) rfl ?_
            refine v_iload h0 d_Mo_becomes_103 0 rfl ?_
            refine v_if_eq h0 d_Mo_becomes_105 rfl (fun h105 => absurd h105 (by decide)) (fun h105 => ?_)
            refine v_iload h0 d_Mo_becomes_108 2 rfl ?_
            refine v_iconst h0 d_Mo_becomes_110 (v := nI 1) (by decide) ?_
            refine v_iload h0 d_Mo_becomes_111 1 rfl ?_
            refine v_ishl h0 d_Mo_becomes_113 ?_
            refine v_ior h0 d_Mo_becomes_114 ?_
            refine v_goto h0 d_Mo_becomes_115 rfl ?_
            refine v_istore h0 d_Mo_becomes_120 (lv' := [(4, .int (y ||| ((nI 1) <<< ((nI i) &&& 31)))), (6, .int (nI 1)), (5, .int (nI i)), (3, .int x), (0, .ref (ga g 0)), (1, .int (nI c)), (2, .int old)]) (lt_kn hn (by decide)) rfl ?_
            refine v_iinc h0 d_Mo_becomes_122 (lv' := [(5, .int (nI (i + 1))), (4, .int (y ||| ((nI 1) <<< ((nI i) &&& 31)))), (6, .int (nI 1)), (3, .int x), (0, .ref (ga g 0)), (1, .int (nI c)), (2, .int old)]) 2 rfl (inc1 i) (lt_kn hn (by decide)) rfl ?_
            refine v_goto h0 d_Mo_becomes_125 rfl ?_
            refine v_sub [0, 1, 3, 4, 5, 6] rfl ?_
            exact ih (i + 1) _ (by omega) (bcJ_t (by omega) hy (nr_3 h66 h93))
  have h48 : V K (wp (sR g)) M 48 [(3, .int x), (0, .ref (ga g 0)), (1, .int (nI c)), (2, .int old)] [.int (if thB β c = true then nI 1 <<< (nI c &&& 31) else nI 0)] := by
    refine v_istore h0 d_Mo_becomes_48 (lv' := [(4, .int (if thB β c = true then nI 1 <<< (nI c &&& 31) else nI 0)), (3, .int x), (0, .ref (ga g 0)), (1, .int (nI c)), (2, .int old)]) (lt_kn hn (by decide)) rfl ?_
    refine v_iconst h0 d_Mo_becomes_50 (v := nI 0) (by decide) ?_
    refine v_istore h0 d_Mo_becomes_51 (lv' := [(5, .int (nI 0)), (4, .int (if thB β c = true then nI 1 <<< (nI c &&& 31) else nI 0)), (3, .int x), (0, .ref (ga g 0)), (1, .int (nI c)), (2, .int old)]) (lt_kn hn (by decide)) rfl ?_
    refine hFi 10 0 _ rfl (fun d hd => ?_)
    unfold bcJ
    cases ht : thB β c with
    | true => rw [if_pos rfl, show bt (nI 1 <<< (nI c &&& 31)) d = decide (d = c) from b_bit (by omega) (by omega)]; simp
    | false => rw [if_neg (by decide)]; simp [show nI 0 = (0 : Int32) from rfl, b_0]
  have h31 : V K (wp (sR g)) M 31 [(0, .ref (ga g 0)), (1, .int (nI c)), (2, .int old)] [.int (nbI (β 2 c)), .int (nbI old)] := by
    refine v_ior h0 d_Mo_becomes_31 ?_
    refine v_int (x) (hx.symm) ?_
    refine v_istore_n h0 d_Mo_becomes_32 (lv' := [(3, .int x), (0, .ref (ga g 0)), (1, .int (nI c)), (2, .int old)]) (lt_kn hn (by decide)) rfl ?_
    refine v_aload_n h0 d_Mo_becomes_33 1 rfl ?_
    refine v_iload_n h0 d_Mo_becomes_34 2 rfl ?_
    refine v_callV h0 hC (sR_N0 g) 0 (show 0 < 22 by omega) (show enR g 0 _ = _ from rfl) rfl (av := [.int (nI c)]) (rest := []) (m_Mo_isThere (kl K) g hI M hc (hT c hc).1) wd_603 wd_600 wd_602 ws_38 wd_6 hd_Mo_isThere (by omega) (by decide) rfl rfl (Nat.le_of_ble_eq_true rfl) d_Mo_becomes_35 (fun r9 M9 hp9 => ?_)
    obtain ⟨rfl, rfl⟩ := hp9
    refine v_r1 ?_
    refine b_if_eq h0 d_Mo_becomes_38 rfl (fun h38 => ?_) (fun h38 => ?_)
    · skip
      refine v_iconst h0 d_Mo_becomes_47 (v := nI 0) (by decide) ?_
      exact v_eq h48 rfl rfl rfl (by rw [if_neg (by rw [h38]; decide)])
    · skip
      refine v_iconst h0 d_Mo_becomes_41 (v := nI 1) (by decide) ?_
      refine v_iload_n h0 d_Mo_becomes_42 2 rfl ?_
      refine v_ishl h0 d_Mo_becomes_43 ?_
      refine v_goto h0 d_Mo_becomes_44 rfl ?_
      exact v_eq h48 rfl rfl rfl (by rw [if_pos h38])
  have h11 : V K (wp (sR g)) M 11 [(0, .ref (ga g 0)), (1, .int (nI c)), (2, .int old)] [.int (nbI old)] := by
    refine v_aload_n h0 d_Mo_becomes_11 0 rfl ?_
    refine v_iload_n h0 d_Mo_becomes_12 1 rfl ?_
    refine v_callV h0 hC (sR_N0 g) 0 (show 0 < 22 by omega) (show enR g 0 _ = _ from rfl) rfl (av := [.int (nI c)]) (rest := [.int (nbI old)]) (m_Mo_isThere (kl K) g hI M hc (hT c hc).1) wd_603 wd_600 wd_602 ws_38 wd_6 hd_Mo_isThere (by omega) (by decide) rfl rfl (Nat.le_of_ble_eq_true rfl) d_Mo_becomes_13 (fun r9 M9 hp9 => ?_)
    obtain ⟨rfl, rfl⟩ := hp9
    refine v_r1 ?_
    refine b_if_eq h0 d_Mo_becomes_16 rfl (fun h16 => ?_) (fun h16 => ?_)
    · skip
      refine v_iconst h0 d_Mo_becomes_30 (v := nI 0) (by decide) ?_
      exact v_eq h31 rfl rfl rfl (by rw [th_f hN hc h16]; rfl)
    · skip
      refine v_iconst h0 d_Mo_becomes_19 (v := nI 1) (by decide) ?_
      refine v_aload_n h0 d_Mo_becomes_20 0 rfl ?_
      refine g_Mo_named_ h0 hC wd_452 d_Mo_becomes_21 ?_
      refine v_iload_n h0 d_Mo_becomes_24 1 rfl ?_
      refine a_Mo_named_ h0 hC c (rfl) (by omega) d_Mo_becomes_25 ?_
      refine v_int (β 2 c) ((hT c hc).1) ?_
      refine v_ishl h0 d_Mo_becomes_26 ?_
      refine v_goto h0 d_Mo_becomes_27 rfl ?_
      exact v_eq h31 rfl rfl rfl (by rw [nb_ge (Int32.not_lt.mpr (of_decide_eq_true h16))])
  refine v_iload_n h0 d_Mo_becomes_0 2 rfl ?_
  refine v_if_lt h0 d_Mo_becomes_1 rfl (fun h1 => ?_) (fun h1 => ?_)
  · skip
    refine v_iconst h0 d_Mo_becomes_10 (v := nI 0) (by decide) ?_
    exact v_eq h11 rfl rfl rfl (by rw [nb_lt h1 hold]; rfl)
  · skip
    refine v_iconst h0 d_Mo_becomes_4 (v := nI 1) (by decide) ?_
    refine v_iload_n h0 d_Mo_becomes_5 2 rfl ?_
    refine v_ishl h0 d_Mo_becomes_6 ?_
    refine v_goto h0 d_Mo_becomes_7 rfl ?_
    exact v_eq h11 rfl rfl rfl (by rw [nb_ge h1])
