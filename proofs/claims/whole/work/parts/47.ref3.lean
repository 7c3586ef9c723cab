/-! THE REFERENCE READS: the loop -/
theorem pred1 (t : Nat) : nI (t + 1) - nI 1 = nI t := by
  rw [← nI_add]
  show nI t + nI 1 - nI 1 = nI t
  rw [Int32.sub_eq_add_neg, Int32.add_assoc, ← Int32.sub_eq_add_neg, Int32.sub_self, Int32.add_zero]
theorem subk (q l : Nat) : nI (q + l) - nI q = nI l := by
  rw [Nat.add_comm, ← nI_add, Int32.sub_eq_add_neg, Int32.add_assoc, ← Int32.sub_eq_add_neg, Int32.sub_self, Int32.add_zero]
set_option maxHeartbeats 4000000 in
theorem rs_free {K : Cf} {g : Gd} (hI : sI (sR g)) (h0 : C0 K c_Mo_reads) (hC : Cx (sR g) K gC_Mo 3) (hn : kn K = 4) {M : Me} {c k t : Nat} (hc : c < 10) (hk : k < 100) (ht : M 0 17 = nI (t + 1)) (ht2 : t ≤ 100) {l q : Nat} (hl : l < 6) (hw : M 14 t = nI (20 + l)) (hb : M 15 l = nI (q + 1)) (kk : V K (wp (sR g)) (up2 (up2 M 0 17 (nI t)) 15 l (nI q)) 116 [(2, .int (nI k)), (0, .ref (ga g 0)), (1, .int (nI c))] []) : V K (wp (sR g)) M 116 [(2, .int (nI k)), (0, .ref (ga g 0)), (1, .int (nI c))] [] := by
  refine v_aload_n h0 d_Mo_reads_116 1 rfl ?_
  refine g_Mo_todoCount_ h0 hC wd_465 d_Mo_reads_117 ?_
  refine v_int (nI (t + 1)) (ht) ?_
  refine v_if_le h0 d_Mo_reads_120 rfl (fun h120 => absurd h120 (Int32.not_le.mpr ((nI_ltI (a := 0) (by omega) (by omega)).mpr (by omega)))) (fun h120 => ?_)
  refine v_iload_n h0 d_Mo_reads_123 0 rfl ?_
  refine v_if_lt h0 d_Mo_reads_124 rfl (fun h124 => absurd h124 (nI_pos (by omega))) (fun h124 => ?_)
  refine v_aload_n h0 d_Mo_reads_127 1 rfl ?_
  refine v_dup h0 d_Mo_reads_128 rfl ?_
  refine g_Mo_todoCount_ h0 hC wd_465 d_Mo_reads_129 ?_
  refine v_iconst h0 d_Mo_reads_132 (v := nI 1) (by decide) ?_
  refine v_isub h0 d_Mo_reads_133 ?_
  refine v_int (nI t) (by rw [ht]; exact pred1 t) ?_
  refine p_Mo_todoCount_ h0 hC wd_465 d_Mo_reads_134 ?_
  refine v_aload_n h0 d_Mo_reads_137 1 rfl ?_
  refine g_Mo_todo_ h0 hC wd_463 d_Mo_reads_138 ?_
  refine v_aload_n h0 d_Mo_reads_141 1 rfl ?_
  refine g_Mo_todoCount_ h0 hC wd_465 d_Mo_reads_142 ?_
  refine v_int (nI t) (up2_s _ _ _ _) ?_
  refine a_Mo_todo_ h0 hC t (rfl) (by omega) d_Mo_reads_145 ?_
  refine v_int (nI (20 + l)) (by rw [up2_n _ _ (by omega)]; exact hw) ?_
  refine v_istore_n h0 d_Mo_reads_146 (lv' := [(3, .int (nI (20 + l))), (2, .int (nI k)), (0, .ref (ga g 0)), (1, .int (nI c))]) (lt_kn hn (by decide)) rfl ?_
  refine v_iload_n h0 d_Mo_reads_147 0 rfl ?_
  refine v_bipush h0 d_Mo_reads_148 (v := nI 20) (by decide) ?_
  refine n_icmp_lt h0 (by omega) (by omega) d_Mo_reads_150 rfl (fun h150 => absurd h150 (by omega)) (fun h150 => ?_)
  refine v_aload_n h0 d_Mo_reads_153 2 rfl ?_
  refine g_Mo_bound_ h0 hC wd_466 d_Mo_reads_154 ?_
  refine v_iload_n h0 d_Mo_reads_157 0 rfl ?_
  refine v_bipush h0 d_Mo_reads_158 (v := nI 20) (by decide) ?_
  refine v_isub h0 d_Mo_reads_160 ?_
  refine v_int (nI l) (subk 20 l) ?_
  refine v_dup2 h0 d_Mo_reads_161 rfl rfl ?_
  refine a_Mo_bound_ h0 hC l (rfl) (by omega) d_Mo_reads_162 ?_
  refine v_iconst h0 d_Mo_reads_163 (v := nI 1) (by decide) ?_
  refine v_isub h0 d_Mo_reads_164 ?_
  refine v_int (nI q) (by rw [up2_n _ _ (by omega), hb]; exact pred1 q) ?_
  refine s_Mo_bound_ h0 hC l (rfl) (z := nI q) (rfl) (by omega) d_Mo_reads_165 ?_
  refine v_goto h0 d_Mo_reads_166 rfl ?_
  refine v_goto h0 d_Mo_reads_281 rfl ?_
  refine v_sub [1, 2, 3] rfl ?_
  exact kk
set_option maxHeartbeats 4000000 in
theorem rs_bind {K : Cf} {g : Gd} (hI : sI (sR g)) (h0 : C0 K c_Mo_reads) (hC : Cx (sR g) K gC_Mo 3) (hn : kn K = 4) {M : Me} {c k t : Nat} (hc : c < 10) (hk : k < 100) (ht : M 0 17 = nI (t + 1)) (ht2 : t ≤ 100) {l q : Nat} (hl : l < 6) (hw : M 14 t = nI (10 + l)) (hb : M 15 l = nI q) (kk : V K (wp (sR g)) (up2 (up2 M 0 17 (nI t)) 15 l (nI (q + 1))) 116 [(2, .int (nI k)), (0, .ref (ga g 0)), (1, .int (nI c))] []) : V K (wp (sR g)) M 116 [(2, .int (nI k)), (0, .ref (ga g 0)), (1, .int (nI c))] [] := by
  refine v_aload_n h0 d_Mo_reads_116 1 rfl ?_
  refine g_Mo_todoCount_ h0 hC wd_465 d_Mo_reads_117 ?_
  refine v_int (nI (t + 1)) (ht) ?_
  refine v_if_le h0 d_Mo_reads_120 rfl (fun h120 => absurd h120 (Int32.not_le.mpr ((nI_ltI (a := 0) (by omega) (by omega)).mpr (by omega)))) (fun h120 => ?_)
  refine v_iload_n h0 d_Mo_reads_123 0 rfl ?_
  refine v_if_lt h0 d_Mo_reads_124 rfl (fun h124 => absurd h124 (nI_pos (by omega))) (fun h124 => ?_)
  refine v_aload_n h0 d_Mo_reads_127 1 rfl ?_
  refine v_dup h0 d_Mo_reads_128 rfl ?_
  refine g_Mo_todoCount_ h0 hC wd_465 d_Mo_reads_129 ?_
  refine v_iconst h0 d_Mo_reads_132 (v := nI 1) (by decide) ?_
  refine v_isub h0 d_Mo_reads_133 ?_
  refine v_int (nI t) (by rw [ht]; exact pred1 t) ?_
  refine p_Mo_todoCount_ h0 hC wd_465 d_Mo_reads_134 ?_
  refine v_aload_n h0 d_Mo_reads_137 1 rfl ?_
  refine g_Mo_todo_ h0 hC wd_463 d_Mo_reads_138 ?_
  refine v_aload_n h0 d_Mo_reads_141 1 rfl ?_
  refine g_Mo_todoCount_ h0 hC wd_465 d_Mo_reads_142 ?_
  refine v_int (nI t) (up2_s _ _ _ _) ?_
  refine a_Mo_todo_ h0 hC t (rfl) (by omega) d_Mo_reads_145 ?_
  refine v_int (nI (10 + l)) (by rw [up2_n _ _ (by omega)]; exact hw) ?_
  refine v_istore_n h0 d_Mo_reads_146 (lv' := [(3, .int (nI (10 + l))), (2, .int (nI k)), (0, .ref (ga g 0)), (1, .int (nI c))]) (lt_kn hn (by decide)) rfl ?_
  refine v_iload_n h0 d_Mo_reads_147 0 rfl ?_
  refine v_bipush h0 d_Mo_reads_148 (v := nI 20) (by decide) ?_
  refine n_icmp_lt h0 (by omega) (by omega) d_Mo_reads_150 rfl (fun h150 => ?_) (fun h150 => absurd h150 (by omega))
  refine v_iload_n h0 d_Mo_reads_169 0 rfl ?_
  refine v_bipush h0 d_Mo_reads_170 (v := nI 10) (by decide) ?_
  refine n_icmp_lt h0 (by omega) (by omega) d_Mo_reads_172 rfl (fun h172 => absurd h172 (by omega)) (fun h172 => ?_)
  refine v_aload_n h0 d_Mo_reads_175 2 rfl ?_
  refine g_Mo_bound_ h0 hC wd_466 d_Mo_reads_176 ?_
  refine v_iload_n h0 d_Mo_reads_179 0 rfl ?_
  refine v_bipush h0 d_Mo_reads_180 (v := nI 10) (by decide) ?_
  refine v_isub h0 d_Mo_reads_182 ?_
  refine v_int (nI l) (subk 10 l) ?_
  refine v_dup2 h0 d_Mo_reads_183 rfl rfl ?_
  refine a_Mo_bound_ h0 hC l (rfl) (by omega) d_Mo_reads_184 ?_
  refine v_iconst h0 d_Mo_reads_185 (v := nI 1) (by decide) ?_
  refine v_iadd h0 d_Mo_reads_186 ?_
  refine v_int (nI (q + 1)) (by rw [up2_n _ _ (by omega), hb]; exact nI_add q 1) ?_
  refine s_Mo_bound_ h0 hC l (rfl) (z := nI (q + 1)) (rfl) (by omega) d_Mo_reads_187 ?_
  refine v_goto h0 d_Mo_reads_188 rfl ?_
  refine v_goto h0 d_Mo_reads_281 rfl ?_
  refine v_sub [1, 2, 3] rfl ?_
  exact kk
set_option maxHeartbeats 4000000 in
theorem rs_close {K : Cf} {g : Gd} (hI : sI (sR g)) (h0 : C0 K c_Mo_reads) (hC : Cx (sR g) K gC_Mo 3) (hn : kn K = 4) {M : Me} {c k t : Nat} (hc : c < 10) (hk : k < 100) (ht : M 0 17 = nI (t + 1)) (ht2 : t ≤ 100) {q : Nat} (hw : M 14 t = nI 3) (hb : M 0 16 = nI (q + 1)) (kk : V K (wp (sR g)) (up2 (up2 M 0 17 (nI t)) 0 16 (nI q)) 116 [(2, .int (nI k)), (0, .ref (ga g 0)), (1, .int (nI c))] []) : V K (wp (sR g)) M 116 [(2, .int (nI k)), (0, .ref (ga g 0)), (1, .int (nI c))] [] := by
  refine v_aload_n h0 d_Mo_reads_116 1 rfl ?_
  refine g_Mo_todoCount_ h0 hC wd_465 d_Mo_reads_117 ?_
  refine v_int (nI (t + 1)) (ht) ?_
  refine v_if_le h0 d_Mo_reads_120 rfl (fun h120 => absurd h120 (Int32.not_le.mpr ((nI_ltI (a := 0) (by omega) (by omega)).mpr (by omega)))) (fun h120 => ?_)
  refine v_iload_n h0 d_Mo_reads_123 0 rfl ?_
  refine v_if_lt h0 d_Mo_reads_124 rfl (fun h124 => absurd h124 (nI_pos (by omega))) (fun h124 => ?_)
  refine v_aload_n h0 d_Mo_reads_127 1 rfl ?_
  refine v_dup h0 d_Mo_reads_128 rfl ?_
  refine g_Mo_todoCount_ h0 hC wd_465 d_Mo_reads_129 ?_
  refine v_iconst h0 d_Mo_reads_132 (v := nI 1) (by decide) ?_
  refine v_isub h0 d_Mo_reads_133 ?_
  refine v_int (nI t) (by rw [ht]; exact pred1 t) ?_
  refine p_Mo_todoCount_ h0 hC wd_465 d_Mo_reads_134 ?_
  refine v_aload_n h0 d_Mo_reads_137 1 rfl ?_
  refine g_Mo_todo_ h0 hC wd_463 d_Mo_reads_138 ?_
  refine v_aload_n h0 d_Mo_reads_141 1 rfl ?_
  refine g_Mo_todoCount_ h0 hC wd_465 d_Mo_reads_142 ?_
  refine v_int (nI t) (up2_s _ _ _ _) ?_
  refine a_Mo_todo_ h0 hC t (rfl) (by omega) d_Mo_reads_145 ?_
  refine v_int (nI 3) (by rw [up2_n _ _ (by omega)]; exact hw) ?_
  refine v_istore_n h0 d_Mo_reads_146 (lv' := [(3, .int (nI 3)), (2, .int (nI k)), (0, .ref (ga g 0)), (1, .int (nI c))]) (lt_kn hn (by decide)) rfl ?_
  refine v_iload_n h0 d_Mo_reads_147 0 rfl ?_
  refine v_bipush h0 d_Mo_reads_148 (v := nI 20) (by decide) ?_
  refine n_icmp_lt h0 (by omega) (by omega) d_Mo_reads_150 rfl (fun h150 => ?_) (fun h150 => absurd h150 (by omega))
  refine v_iload_n h0 d_Mo_reads_169 0 rfl ?_
  refine v_bipush h0 d_Mo_reads_170 (v := nI 10) (by decide) ?_
  refine n_icmp_lt h0 (by omega) (by omega) d_Mo_reads_172 rfl (fun h172 => ?_) (fun h172 => absurd h172 (by omega))
  refine v_iload_n h0 d_Mo_reads_191 0 rfl ?_
  refine v_iconst h0 d_Mo_reads_192 (v := nI 3) (by decide) ?_
  refine n_icmp_ne h0 (by omega) (by omega) d_Mo_reads_193 rfl (fun h193 => absurd h193 (fun z => z rfl)) (fun h193 => ?_)
  refine v_aload_n h0 d_Mo_reads_196 2 rfl ?_
  refine v_dup h0 d_Mo_reads_197 rfl ?_
  refine g_Mo_nested_ h0 hC wd_464 d_Mo_reads_198 ?_
  refine v_iconst h0 d_Mo_reads_201 (v := nI 1) (by decide) ?_
  refine v_isub h0 d_Mo_reads_202 ?_
  refine v_int (nI q) (by rw [up2_n _ _ (by omega), hb]; exact pred1 q) ?_
  refine p_Mo_nested_ h0 hC wd_464 d_Mo_reads_203 ?_
  refine v_goto h0 d_Mo_reads_206 rfl ?_
  refine v_goto h0 d_Mo_reads_281 rfl ?_
  refine v_sub [1, 2, 3] rfl ?_
  exact kk
set_option maxHeartbeats 4000000 in
theorem rs_digit {K : Cf} {g : Gd} (hI : sI (sR g)) (h0 : C0 K c_Mo_reads) (hC : Cx (sR g) K gC_Mo 3) (hn : kn K = 4) {M : Me} {c k t : Nat} (hc : c < 10) (hk : k < 100) (ht : M 0 17 = nI (t + 1)) (ht2 : t ≤ 100) {s : Nat → Int32} {n : Nat} (hT : TR M c s n) (hw : M 14 t = nI 2) (hkn : k < n) (hx : kd (s k) = 7) (kk : V K (wp (sR g)) (up2 (up2 M 0 17 (nI t)) 6 (24 * c + k) 1) 116 [(2, .int (nI (k + 1))), (0, .ref (ga g 0)), (1, .int (nI c))] []) : V K (wp (sR g)) M 116 [(2, .int (nI k)), (0, .ref (ga g 0)), (1, .int (nI c))] [] := by
  refine v_aload_n h0 d_Mo_reads_116 1 rfl ?_
  refine g_Mo_todoCount_ h0 hC wd_465 d_Mo_reads_117 ?_
  refine v_int (nI (t + 1)) (ht) ?_
  refine v_if_le h0 d_Mo_reads_120 rfl (fun h120 => absurd h120 (Int32.not_le.mpr ((nI_ltI (a := 0) (by omega) (by omega)).mpr (by omega)))) (fun h120 => ?_)
  refine v_iload_n h0 d_Mo_reads_123 0 rfl ?_
  refine v_if_lt h0 d_Mo_reads_124 rfl (fun h124 => absurd h124 (nI_pos (by omega))) (fun h124 => ?_)
  refine v_aload_n h0 d_Mo_reads_127 1 rfl ?_
  refine v_dup h0 d_Mo_reads_128 rfl ?_
  refine g_Mo_todoCount_ h0 hC wd_465 d_Mo_reads_129 ?_
  refine v_iconst h0 d_Mo_reads_132 (v := nI 1) (by decide) ?_
  refine v_isub h0 d_Mo_reads_133 ?_
  refine v_int (nI t) (by rw [ht]; exact pred1 t) ?_
  refine p_Mo_todoCount_ h0 hC wd_465 d_Mo_reads_134 ?_
  refine v_aload_n h0 d_Mo_reads_137 1 rfl ?_
  refine g_Mo_todo_ h0 hC wd_463 d_Mo_reads_138 ?_
  refine v_aload_n h0 d_Mo_reads_141 1 rfl ?_
  refine g_Mo_todoCount_ h0 hC wd_465 d_Mo_reads_142 ?_
  refine v_int (nI t) (up2_s _ _ _ _) ?_
  refine a_Mo_todo_ h0 hC t (rfl) (by omega) d_Mo_reads_145 ?_
  refine v_int (nI 2) (by rw [up2_n _ _ (by omega)]; exact hw) ?_
  refine v_istore_n h0 d_Mo_reads_146 (lv' := [(3, .int (nI 2)), (2, .int (nI k)), (0, .ref (ga g 0)), (1, .int (nI c))]) (lt_kn hn (by decide)) rfl ?_
  refine v_iload_n h0 d_Mo_reads_147 0 rfl ?_
  refine v_bipush h0 d_Mo_reads_148 (v := nI 20) (by decide) ?_
  refine n_icmp_lt h0 (by omega) (by omega) d_Mo_reads_150 rfl (fun h150 => ?_) (fun h150 => absurd h150 (by omega))
  refine v_iload_n h0 d_Mo_reads_169 0 rfl ?_
  refine v_bipush h0 d_Mo_reads_170 (v := nI 10) (by decide) ?_
  refine n_icmp_lt h0 (by omega) (by omega) d_Mo_reads_172 rfl (fun h172 => ?_) (fun h172 => absurd h172 (by omega))
  refine v_iload_n h0 d_Mo_reads_191 0 rfl ?_
  refine v_iconst h0 d_Mo_reads_192 (v := nI 3) (by decide) ?_
  refine n_icmp_ne h0 (by omega) (by omega) d_Mo_reads_193 rfl (fun h193 => ?_) (fun h193 => absurd h193 (by omega))
  refine v_iload_n h0 d_Mo_reads_209 0 rfl ?_
  refine v_iconst h0 d_Mo_reads_210 (v := nI 2) (by decide) ?_
  refine n_icmp_ne h0 (by omega) (by omega) d_Mo_reads_211 rfl (fun h211 => absurd h211 (fun z => z rfl)) (fun h211 => ?_)
  refine v_aload_n h0 d_Mo_reads_214 2 rfl ?_
  refine g_Mo_label_ h0 hC wd_454 d_Mo_reads_215 ?_
  refine v_bipush h0 d_Mo_reads_218 (v := nI 24) (by decide) ?_
  refine v_iload_n h0 d_Mo_reads_220 3 rfl ?_
  refine v_imul h0 d_Mo_reads_221 ?_
  refine v_int (nI (24 * c)) (pk_mul 24 c) ?_
  refine v_iload_n h0 d_Mo_reads_222 1 rfl ?_
  refine v_bipush h0 d_Mo_reads_223 (v := nI 24) (by decide) ?_
  have hn24 := hT.2.1
  refine n_icmp_ge h0 (by omega) (by omega) d_Mo_reads_225 rfl (fun h225 => absurd h225 (by omega)) (fun h225 => ?_)
  refine v_iload_n h0 d_Mo_reads_228 1 rfl ?_
  refine v_goto h0 d_Mo_reads_229 rfl ?_
  refine v_iadd h0 d_Mo_reads_234 ?_
  refine v_int (nI (24 * c + k)) (nI_add (24 * c) k) ?_
  refine v_iload_n h0 d_Mo_reads_235 1 rfl ?_
  refine v_aload_n h0 d_Mo_reads_236 2 rfl ?_
  refine g_Mo_length_ h0 hC wd_451 d_Mo_reads_237 ?_
  refine v_iload_n h0 d_Mo_reads_240 3 rfl ?_
  refine a_Mo_length_ h0 hC c (rfl) (by omega) d_Mo_reads_241 ?_
  refine v_int (nI n) (by rw [up2_n _ _ (by omega)]; exact hT.1) ?_
  refine n_icmp_ge h0 (by omega) (by omega) d_Mo_reads_242 rfl (fun h242 => absurd h242 (by omega)) (fun h242 => ?_)
  refine v_iconst h0 d_Mo_reads_245 (v := nI 1) (by decide) ?_
  refine v_goto h0 d_Mo_reads_246 rfl ?_
  refine s_Mo_label_ h0 hC (24 * c + k) (rfl) (z := 1) (by decide) (by omega) d_Mo_reads_250 ?_
  refine v_aload_n h0 d_Mo_reads_251 2 rfl ?_
  refine v_iload_n h0 d_Mo_reads_252 3 rfl ?_
  refine v_iload_n h0 d_Mo_reads_253 1 rfl ?_
  refine v_callV h0 hC (sR_N0 g) 0 (show 0 < 22 by omega) (show enR g 0 _ = _ from rfl) rfl (av := [.int (nI c), .int (nI k)]) (rest := []) (m_Mo_charAt (kl K) g hI _ hc (by omega) (show TR (up2 (up2 M 0 17 (nI t)) 6 (24 * c + k) 1) c s n from ⟨by rw [up2_n _ _ (by omega), up2_n _ _ (by omega)]; exact hT.1, hT.2.1, fun j hj => by rw [up2_n _ _ (by omega), up2_n _ _ (by omega)]; exact hT.2.2.1 j hj, hT.2.2.2⟩)) wd_564 wd_561 wd_563 ws_32 wd_6 hd_Mo_charAt (by omega) (by decide) rfl rfl (Nat.le_of_ble_eq_true rfl) d_Mo_reads_254 (fun r9 M9 hp9 => ?_)
  obtain ⟨rfl, rfl⟩ := hp9
  refine v_r1 ?_
  refine v_callS h0 hC (sR_N0 g) (av := [.int (chR s n k)]) (rest := []) (m_Mo_isDigit (kl K) g hI _ _) wd_574 wd_572 wd_573 wd_6 hd_Mo_isDigit (by omega) (by decide) rfl rfl (Nat.le_of_ble_eq_true rfl) d_Mo_reads_257 (fun r9 M9 hp9 => ?_)
  obtain ⟨rfl, rfl⟩ := hp9
  refine v_r1 ?_
  refine b_if_eq h0 d_Mo_reads_260 rfl (fun h260 => absurd h260 (by unfold kdB chR; rw [if_pos hkn, hx]; decide)) (fun h260 => ?_)
  refine v_iload_n h0 d_Mo_reads_263 1 rfl ?_
  refine v_iconst h0 d_Mo_reads_264 (v := nI 1) (by decide) ?_
  refine v_iadd h0 d_Mo_reads_265 ?_
  refine v_int (nI (k + 1)) (nI_add k 1) ?_
  refine v_goto h0 d_Mo_reads_266 rfl ?_
  refine v_istore_n h0 d_Mo_reads_270 (lv' := [(2, .int (nI (k + 1))), (3, .int (nI 2)), (0, .ref (ga g 0)), (1, .int (nI c))]) (lt_kn hn (by decide)) rfl ?_
  refine v_goto h0 d_Mo_reads_271 rfl ?_
  refine v_goto h0 d_Mo_reads_281 rfl ?_
  refine v_sub [0, 2, 3] rfl ?_
  exact kk
theorem rs_end {K : Cf} {g : Gd} (h0 : C0 K c_Mo_reads) (hC : Cx (sR g) K gC_Mo 3) (hn : kn K = 4) {M : Me} {c : Nat} (kk : V K (wp (sR g)) M 284 [(2, .int (-1)), (0, .ref (ga g 0)), (1, .int (nI c))] []) : V K (wp (sR g)) M 116 [(2, .int (-1)), (0, .ref (ga g 0)), (1, .int (nI c))] [] := by
  refine v_aload_n h0 d_Mo_reads_116 1 rfl ?_
  refine g_Mo_todoCount_ h0 hC wd_465 d_Mo_reads_117 ?_
  refine v_if_le h0 d_Mo_reads_120 rfl (fun h120 => ?_) (fun h120 => ?_)
  · skip
    exact kk
  · skip
    refine v_iload_n h0 d_Mo_reads_123 0 rfl ?_
    refine v_if_lt h0 d_Mo_reads_124 rfl (fun h124 => ?_) (fun h124 => absurd h124 (by decide))
    exact kk
set_option maxHeartbeats 4000000 in
theorem rs_digitx {K : Cf} {g : Gd} (hI : sI (sR g)) (h0 : C0 K c_Mo_reads) (hC : Cx (sR g) K gC_Mo 3) (hn : kn K = 4) {M : Me} {c k t : Nat} (hc : c < 10) (hk : k < 100) (ht : M 0 17 = nI (t + 1)) (ht2 : t ≤ 100) {s : Nat → Int32} {n : Nat} (hT : TR M c s n) (hw : M 14 t = nI 2) (hx : ¬ kd (chR s n k) = 7) (kk : ∀ x p, p < 24 → V K (wp (sR g)) (up2 (up2 M 0 17 (nI t)) 6 (24 * c + p) x) 284 [(2, .int (-1)), (0, .ref (ga g 0)), (1, .int (nI c))] []) : V K (wp (sR g)) M 116 [(2, .int (nI k)), (0, .ref (ga g 0)), (1, .int (nI c))] [] := by
  refine v_aload_n h0 d_Mo_reads_116 1 rfl ?_
  refine g_Mo_todoCount_ h0 hC wd_465 d_Mo_reads_117 ?_
  refine v_int (nI (t + 1)) (ht) ?_
  refine v_if_le h0 d_Mo_reads_120 rfl (fun h120 => absurd h120 (Int32.not_le.mpr ((nI_ltI (a := 0) (by omega) (by omega)).mpr (by omega)))) (fun h120 => ?_)
  refine v_iload_n h0 d_Mo_reads_123 0 rfl ?_
  refine v_if_lt h0 d_Mo_reads_124 rfl (fun h124 => absurd h124 (nI_pos (by omega))) (fun h124 => ?_)
  refine v_aload_n h0 d_Mo_reads_127 1 rfl ?_
  refine v_dup h0 d_Mo_reads_128 rfl ?_
  refine g_Mo_todoCount_ h0 hC wd_465 d_Mo_reads_129 ?_
  refine v_iconst h0 d_Mo_reads_132 (v := nI 1) (by decide) ?_
  refine v_isub h0 d_Mo_reads_133 ?_
  refine v_int (nI t) (by rw [ht]; exact pred1 t) ?_
  refine p_Mo_todoCount_ h0 hC wd_465 d_Mo_reads_134 ?_
  refine v_aload_n h0 d_Mo_reads_137 1 rfl ?_
  refine g_Mo_todo_ h0 hC wd_463 d_Mo_reads_138 ?_
  refine v_aload_n h0 d_Mo_reads_141 1 rfl ?_
  refine g_Mo_todoCount_ h0 hC wd_465 d_Mo_reads_142 ?_
  refine v_int (nI t) (up2_s _ _ _ _) ?_
  refine a_Mo_todo_ h0 hC t (rfl) (by omega) d_Mo_reads_145 ?_
  refine v_int (nI 2) (by rw [up2_n _ _ (by omega)]; exact hw) ?_
  refine v_istore_n h0 d_Mo_reads_146 (lv' := [(3, .int (nI 2)), (2, .int (nI k)), (0, .ref (ga g 0)), (1, .int (nI c))]) (lt_kn hn (by decide)) rfl ?_
  refine v_iload_n h0 d_Mo_reads_147 0 rfl ?_
  refine v_bipush h0 d_Mo_reads_148 (v := nI 20) (by decide) ?_
  refine n_icmp_lt h0 (by omega) (by omega) d_Mo_reads_150 rfl (fun h150 => ?_) (fun h150 => absurd h150 (by omega))
  refine v_iload_n h0 d_Mo_reads_169 0 rfl ?_
  refine v_bipush h0 d_Mo_reads_170 (v := nI 10) (by decide) ?_
  refine n_icmp_lt h0 (by omega) (by omega) d_Mo_reads_172 rfl (fun h172 => ?_) (fun h172 => absurd h172 (by omega))
  refine v_iload_n h0 d_Mo_reads_191 0 rfl ?_
  refine v_iconst h0 d_Mo_reads_192 (v := nI 3) (by decide) ?_
  refine n_icmp_ne h0 (by omega) (by omega) d_Mo_reads_193 rfl (fun h193 => ?_) (fun h193 => absurd h193 (by omega))
  refine v_iload_n h0 d_Mo_reads_209 0 rfl ?_
  refine v_iconst h0 d_Mo_reads_210 (v := nI 2) (by decide) ?_
  refine n_icmp_ne h0 (by omega) (by omega) d_Mo_reads_211 rfl (fun h211 => absurd h211 (fun z => z rfl)) (fun h211 => ?_)
  refine v_aload_n h0 d_Mo_reads_214 2 rfl ?_
  refine g_Mo_label_ h0 hC wd_454 d_Mo_reads_215 ?_
  refine v_bipush h0 d_Mo_reads_218 (v := nI 24) (by decide) ?_
  refine v_iload_n h0 d_Mo_reads_220 3 rfl ?_
  refine v_imul h0 d_Mo_reads_221 ?_
  refine v_int (nI (24 * c)) (pk_mul 24 c) ?_
  refine v_iload_n h0 d_Mo_reads_222 1 rfl ?_
  refine v_bipush h0 d_Mo_reads_223 (v := nI 24) (by decide) ?_
  have hn24 := hT.2.1
  refine n_icmp_ge h0 (by omega) (by omega) d_Mo_reads_225 rfl (fun h225 => ?_) (fun h225 => ?_)
  · skip
    refine v_bipush h0 d_Mo_reads_232 (v := nI 23) (by decide) ?_
    refine v_iadd h0 d_Mo_reads_234 ?_
    refine v_int (nI (24 * c + 23)) (nI_add (24 * c) 23) ?_
    refine v_iload_n h0 d_Mo_reads_235 1 rfl ?_
    refine v_aload_n h0 d_Mo_reads_236 2 rfl ?_
    refine g_Mo_length_ h0 hC wd_451 d_Mo_reads_237 ?_
    refine v_iload_n h0 d_Mo_reads_240 3 rfl ?_
    refine a_Mo_length_ h0 hC c (rfl) (by omega) d_Mo_reads_241 ?_
    refine v_int (nI n) (by rw [up2_n _ _ (by omega)]; exact hT.1) ?_
    refine n_icmp_ge h0 (by omega) (by omega) d_Mo_reads_242 rfl (fun h242 => ?_) (fun h242 => ?_)
    · skip
      refine v_iconst h0 d_Mo_reads_249 (v := nI 0) (by decide) ?_
      refine s_Mo_label_ h0 hC (24 * c + 23) (rfl) (z := 0) (by decide) (by omega) d_Mo_reads_250 ?_
      refine v_aload_n h0 d_Mo_reads_251 2 rfl ?_
      refine v_iload_n h0 d_Mo_reads_252 3 rfl ?_
      refine v_iload_n h0 d_Mo_reads_253 1 rfl ?_
      refine v_callV h0 hC (sR_N0 g) 0 (show 0 < 22 by omega) (show enR g 0 _ = _ from rfl) rfl (av := [.int (nI c), .int (nI k)]) (rest := []) (m_Mo_charAt (kl K) g hI _ hc (by omega) (show TR (up2 (up2 M 0 17 (nI t)) 6 (24 * c + 23) 0) c s n from ⟨by rw [up2_n _ _ (by omega), up2_n _ _ (by omega)]; exact hT.1, hT.2.1, fun j hj => by rw [up2_n _ _ (by omega), up2_n _ _ (by omega)]; exact hT.2.2.1 j hj, hT.2.2.2⟩)) wd_564 wd_561 wd_563 ws_32 wd_6 hd_Mo_charAt (by omega) (by decide) rfl rfl (Nat.le_of_ble_eq_true rfl) d_Mo_reads_254 (fun r9 M9 hp9 => ?_)
      obtain ⟨rfl, rfl⟩ := hp9
      refine v_r1 ?_
      refine v_callS h0 hC (sR_N0 g) (av := [.int (chR s n k)]) (rest := []) (m_Mo_isDigit (kl K) g hI _ _) wd_574 wd_572 wd_573 wd_6 hd_Mo_isDigit (by omega) (by decide) rfl rfl (Nat.le_of_ble_eq_true rfl) d_Mo_reads_257 (fun r9 M9 hp9 => ?_)
      obtain ⟨rfl, rfl⟩ := hp9
      refine v_r1 ?_
      refine b_if_eq h0 d_Mo_reads_260 rfl (fun h260 => ?_) (fun h260 => absurd h260 (by rw [show kdB 7 (chR s n k) = false from decide_eq_false hx]; decide))
      refine v_iconst h0 d_Mo_reads_269 (v := -1) (by decide) ?_
      refine v_istore_n h0 d_Mo_reads_270 (lv' := [(2, .int (-1)), (3, .int (nI 2)), (0, .ref (ga g 0)), (1, .int (nI c))]) (lt_kn hn (by decide)) rfl ?_
      refine v_goto h0 d_Mo_reads_271 rfl ?_
      refine v_goto h0 d_Mo_reads_281 rfl ?_
      refine v_sub [0, 2, 3] rfl ?_
      exact rs_end h0 hC hn (kk _ _ (by omega))
    · skip
      refine v_iconst h0 d_Mo_reads_245 (v := nI 1) (by decide) ?_
      refine v_goto h0 d_Mo_reads_246 rfl ?_
      refine s_Mo_label_ h0 hC (24 * c + 23) (rfl) (z := 1) (by decide) (by omega) d_Mo_reads_250 ?_
      refine v_aload_n h0 d_Mo_reads_251 2 rfl ?_
      refine v_iload_n h0 d_Mo_reads_252 3 rfl ?_
      refine v_iload_n h0 d_Mo_reads_253 1 rfl ?_
      refine v_callV h0 hC (sR_N0 g) 0 (show 0 < 22 by omega) (show enR g 0 _ = _ from rfl) rfl (av := [.int (nI c), .int (nI k)]) (rest := []) (m_Mo_charAt (kl K) g hI _ hc (by omega) (show TR (up2 (up2 M 0 17 (nI t)) 6 (24 * c + 23) 1) c s n from ⟨by rw [up2_n _ _ (by omega), up2_n _ _ (by omega)]; exact hT.1, hT.2.1, fun j hj => by rw [up2_n _ _ (by omega), up2_n _ _ (by omega)]; exact hT.2.2.1 j hj, hT.2.2.2⟩)) wd_564 wd_561 wd_563 ws_32 wd_6 hd_Mo_charAt (by omega) (by decide) rfl rfl (Nat.le_of_ble_eq_true rfl) d_Mo_reads_254 (fun r9 M9 hp9 => ?_)
      obtain ⟨rfl, rfl⟩ := hp9
      refine v_r1 ?_
      refine v_callS h0 hC (sR_N0 g) (av := [.int (chR s n k)]) (rest := []) (m_Mo_isDigit (kl K) g hI _ _) wd_574 wd_572 wd_573 wd_6 hd_Mo_isDigit (by omega) (by decide) rfl rfl (Nat.le_of_ble_eq_true rfl) d_Mo_reads_257 (fun r9 M9 hp9 => ?_)
      obtain ⟨rfl, rfl⟩ := hp9
      refine v_r1 ?_
      refine b_if_eq h0 d_Mo_reads_260 rfl (fun h260 => ?_) (fun h260 => absurd h260 (by rw [show kdB 7 (chR s n k) = false from decide_eq_false hx]; decide))
      refine v_iconst h0 d_Mo_reads_269 (v := -1) (by decide) ?_
      refine v_istore_n h0 d_Mo_reads_270 (lv' := [(2, .int (-1)), (3, .int (nI 2)), (0, .ref (ga g 0)), (1, .int (nI c))]) (lt_kn hn (by decide)) rfl ?_
      refine v_goto h0 d_Mo_reads_271 rfl ?_
      refine v_goto h0 d_Mo_reads_281 rfl ?_
      refine v_sub [0, 2, 3] rfl ?_
      exact rs_end h0 hC hn (kk _ _ (by omega))
  · skip
    refine v_iload_n h0 d_Mo_reads_228 1 rfl ?_
    refine v_goto h0 d_Mo_reads_229 rfl ?_
    refine v_iadd h0 d_Mo_reads_234 ?_
    refine v_int (nI (24 * c + k)) (nI_add (24 * c) k) ?_
    refine v_iload_n h0 d_Mo_reads_235 1 rfl ?_
    refine v_aload_n h0 d_Mo_reads_236 2 rfl ?_
    refine g_Mo_length_ h0 hC wd_451 d_Mo_reads_237 ?_
    refine v_iload_n h0 d_Mo_reads_240 3 rfl ?_
    refine a_Mo_length_ h0 hC c (rfl) (by omega) d_Mo_reads_241 ?_
    refine v_int (nI n) (by rw [up2_n _ _ (by omega)]; exact hT.1) ?_
    refine n_icmp_ge h0 (by omega) (by omega) d_Mo_reads_242 rfl (fun h242 => ?_) (fun h242 => ?_)
    · skip
      refine v_iconst h0 d_Mo_reads_249 (v := nI 0) (by decide) ?_
      refine s_Mo_label_ h0 hC (24 * c + k) (rfl) (z := 0) (by decide) (by omega) d_Mo_reads_250 ?_
      refine v_aload_n h0 d_Mo_reads_251 2 rfl ?_
      refine v_iload_n h0 d_Mo_reads_252 3 rfl ?_
      refine v_iload_n h0 d_Mo_reads_253 1 rfl ?_
      refine v_callV h0 hC (sR_N0 g) 0 (show 0 < 22 by omega) (show enR g 0 _ = _ from rfl) rfl (av := [.int (nI c), .int (nI k)]) (rest := []) (m_Mo_charAt (kl K) g hI _ hc (by omega) (show TR (up2 (up2 M 0 17 (nI t)) 6 (24 * c + k) 0) c s n from ⟨by rw [up2_n _ _ (by omega), up2_n _ _ (by omega)]; exact hT.1, hT.2.1, fun j hj => by rw [up2_n _ _ (by omega), up2_n _ _ (by omega)]; exact hT.2.2.1 j hj, hT.2.2.2⟩)) wd_564 wd_561 wd_563 ws_32 wd_6 hd_Mo_charAt (by omega) (by decide) rfl rfl (Nat.le_of_ble_eq_true rfl) d_Mo_reads_254 (fun r9 M9 hp9 => ?_)
      obtain ⟨rfl, rfl⟩ := hp9
      refine v_r1 ?_
      refine v_callS h0 hC (sR_N0 g) (av := [.int (chR s n k)]) (rest := []) (m_Mo_isDigit (kl K) g hI _ _) wd_574 wd_572 wd_573 wd_6 hd_Mo_isDigit (by omega) (by decide) rfl rfl (Nat.le_of_ble_eq_true rfl) d_Mo_reads_257 (fun r9 M9 hp9 => ?_)
      obtain ⟨rfl, rfl⟩ := hp9
      refine v_r1 ?_
      refine b_if_eq h0 d_Mo_reads_260 rfl (fun h260 => ?_) (fun h260 => absurd h260 (by rw [show kdB 7 (chR s n k) = false from decide_eq_false hx]; decide))
      refine v_iconst h0 d_Mo_reads_269 (v := -1) (by decide) ?_
      refine v_istore_n h0 d_Mo_reads_270 (lv' := [(2, .int (-1)), (3, .int (nI 2)), (0, .ref (ga g 0)), (1, .int (nI c))]) (lt_kn hn (by decide)) rfl ?_
      refine v_goto h0 d_Mo_reads_271 rfl ?_
      refine v_goto h0 d_Mo_reads_281 rfl ?_
      refine v_sub [0, 2, 3] rfl ?_
      exact rs_end h0 hC hn (kk _ _ (by omega))
    · skip
      refine v_iconst h0 d_Mo_reads_245 (v := nI 1) (by decide) ?_
      refine v_goto h0 d_Mo_reads_246 rfl ?_
      refine s_Mo_label_ h0 hC (24 * c + k) (rfl) (z := 1) (by decide) (by omega) d_Mo_reads_250 ?_
      refine v_aload_n h0 d_Mo_reads_251 2 rfl ?_
      refine v_iload_n h0 d_Mo_reads_252 3 rfl ?_
      refine v_iload_n h0 d_Mo_reads_253 1 rfl ?_
      refine v_callV h0 hC (sR_N0 g) 0 (show 0 < 22 by omega) (show enR g 0 _ = _ from rfl) rfl (av := [.int (nI c), .int (nI k)]) (rest := []) (m_Mo_charAt (kl K) g hI _ hc (by omega) (show TR (up2 (up2 M 0 17 (nI t)) 6 (24 * c + k) 1) c s n from ⟨by rw [up2_n _ _ (by omega), up2_n _ _ (by omega)]; exact hT.1, hT.2.1, fun j hj => by rw [up2_n _ _ (by omega), up2_n _ _ (by omega)]; exact hT.2.2.1 j hj, hT.2.2.2⟩)) wd_564 wd_561 wd_563 ws_32 wd_6 hd_Mo_charAt (by omega) (by decide) rfl rfl (Nat.le_of_ble_eq_true rfl) d_Mo_reads_254 (fun r9 M9 hp9 => ?_)
      obtain ⟨rfl, rfl⟩ := hp9
      refine v_r1 ?_
      refine v_callS h0 hC (sR_N0 g) (av := [.int (chR s n k)]) (rest := []) (m_Mo_isDigit (kl K) g hI _ _) wd_574 wd_572 wd_573 wd_6 hd_Mo_isDigit (by omega) (by decide) rfl rfl (Nat.le_of_ble_eq_true rfl) d_Mo_reads_257 (fun r9 M9 hp9 => ?_)
      obtain ⟨rfl, rfl⟩ := hp9
      refine v_r1 ?_
      refine b_if_eq h0 d_Mo_reads_260 rfl (fun h260 => ?_) (fun h260 => absurd h260 (by rw [show kdB 7 (chR s n k) = false from decide_eq_false hx]; decide))
      refine v_iconst h0 d_Mo_reads_269 (v := -1) (by decide) ?_
      refine v_istore_n h0 d_Mo_reads_270 (lv' := [(2, .int (-1)), (3, .int (nI 2)), (0, .ref (ga g 0)), (1, .int (nI c))]) (lt_kn hn (by decide)) rfl ?_
      refine v_goto h0 d_Mo_reads_271 rfl ?_
      refine v_goto h0 d_Mo_reads_281 rfl ?_
      refine v_sub [0, 2, 3] rfl ?_
      exact rs_end h0 hC hn (kk _ _ (by omega))
set_option maxHeartbeats 4000000 in
theorem rs_E {K : Cf} {g : Gd} (hI : sI (sR g)) (h0 : C0 K c_Mo_reads) (hC : Cx (sR g) K gC_Mo 3) (hn : kn K = 4) {M M2 : Me} {x : Int32} {c k t : Nat} (hc : c < 10) (hk : k < 100) (ht : M 0 17 = nI (t + 1)) (ht2 : t ≤ 100) (hw : M 14 t = nI 1) (hR : CR (kl K) g y_Mo_readOne c_Mo_readOne 7 (some .int) 2 [.ref (ga g 0), .int (nI c), .int (nI k)] (up2 M 0 17 (nI t)) (fun r M' => r = some (.int x) ∧ M' = M2)) (kk : V K (wp (sR g)) M2 116 [(2, .int x), (0, .ref (ga g 0)), (1, .int (nI c))] []) : V K (wp (sR g)) M 116 [(2, .int (nI k)), (0, .ref (ga g 0)), (1, .int (nI c))] [] := by
  refine v_aload_n h0 d_Mo_reads_116 1 rfl ?_
  refine g_Mo_todoCount_ h0 hC wd_465 d_Mo_reads_117 ?_
  refine v_int (nI (t + 1)) (ht) ?_
  refine v_if_le h0 d_Mo_reads_120 rfl (fun h120 => absurd h120 (Int32.not_le.mpr ((nI_ltI (a := 0) (by omega) (by omega)).mpr (by omega)))) (fun h120 => ?_)
  refine v_iload_n h0 d_Mo_reads_123 0 rfl ?_
  refine v_if_lt h0 d_Mo_reads_124 rfl (fun h124 => absurd h124 (nI_pos (by omega))) (fun h124 => ?_)
  refine v_aload_n h0 d_Mo_reads_127 1 rfl ?_
  refine v_dup h0 d_Mo_reads_128 rfl ?_
  refine g_Mo_todoCount_ h0 hC wd_465 d_Mo_reads_129 ?_
  refine v_iconst h0 d_Mo_reads_132 (v := nI 1) (by decide) ?_
  refine v_isub h0 d_Mo_reads_133 ?_
  refine v_int (nI t) (by rw [ht]; exact pred1 t) ?_
  refine p_Mo_todoCount_ h0 hC wd_465 d_Mo_reads_134 ?_
  refine v_aload_n h0 d_Mo_reads_137 1 rfl ?_
  refine g_Mo_todo_ h0 hC wd_463 d_Mo_reads_138 ?_
  refine v_aload_n h0 d_Mo_reads_141 1 rfl ?_
  refine g_Mo_todoCount_ h0 hC wd_465 d_Mo_reads_142 ?_
  refine v_int (nI t) (up2_s _ _ _ _) ?_
  refine a_Mo_todo_ h0 hC t (rfl) (by omega) d_Mo_reads_145 ?_
  refine v_int (nI 1) (by rw [up2_n _ _ (by omega)]; exact hw) ?_
  refine v_istore_n h0 d_Mo_reads_146 (lv' := [(3, .int (nI 1)), (2, .int (nI k)), (0, .ref (ga g 0)), (1, .int (nI c))]) (lt_kn hn (by decide)) rfl ?_
  refine v_iload_n h0 d_Mo_reads_147 0 rfl ?_
  refine v_bipush h0 d_Mo_reads_148 (v := nI 20) (by decide) ?_
  refine n_icmp_lt h0 (by omega) (by omega) d_Mo_reads_150 rfl (fun h150 => ?_) (fun h150 => absurd h150 (by omega))
  refine v_iload_n h0 d_Mo_reads_169 0 rfl ?_
  refine v_bipush h0 d_Mo_reads_170 (v := nI 10) (by decide) ?_
  refine n_icmp_lt h0 (by omega) (by omega) d_Mo_reads_172 rfl (fun h172 => ?_) (fun h172 => absurd h172 (by omega))
  refine v_iload_n h0 d_Mo_reads_191 0 rfl ?_
  refine v_iconst h0 d_Mo_reads_192 (v := nI 3) (by decide) ?_
  refine n_icmp_ne h0 (by omega) (by omega) d_Mo_reads_193 rfl (fun h193 => ?_) (fun h193 => absurd h193 (by omega))
  refine v_iload_n h0 d_Mo_reads_209 0 rfl ?_
  refine v_iconst h0 d_Mo_reads_210 (v := nI 2) (by decide) ?_
  refine n_icmp_ne h0 (by omega) (by omega) d_Mo_reads_211 rfl (fun h211 => ?_) (fun h211 => absurd h211 (by omega))
  refine v_aload_n h0 d_Mo_reads_274 2 rfl ?_
  refine v_iload_n h0 d_Mo_reads_275 3 rfl ?_
  refine v_iload_n h0 d_Mo_reads_276 1 rfl ?_
  refine v_callV h0 hC (sR_N0 g) 0 (show 0 < 22 by omega) (show enR g 0 _ = _ from rfl) rfl (av := [.int (nI c), .int (nI k)]) (rest := []) (hR) wd_578 wd_575 wd_577 ws_34 wd_6 hd_Mo_readOne (by omega) (by decide) rfl rfl (Nat.le_of_ble_eq_true rfl) d_Mo_reads_277 (fun r9 M9 hp9 => ?_)
  obtain ⟨rfl, rfl⟩ := hp9
  refine v_r1 ?_
  refine v_istore_n h0 d_Mo_reads_280 (lv' := [(2, .int x), (3, .int (nI 1)), (0, .ref (ga g 0)), (1, .int (nI c))]) (lt_kn hn (by decide)) rfl ?_
  refine v_goto h0 d_Mo_reads_281 rfl ?_
  refine v_sub [0, 2, 3] rfl ?_
  exact kk
