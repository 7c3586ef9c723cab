/-! A TEXT IS READ (the book) -/
theorem wd_min1 : Cond.methodLink gC_Te 33 Lib.Math.min.name ∈ wG := wG_tb 188 rfl rfl
theorem wd_min2 : Cond.static Lib.Math.min.name ∈ wG := wG_tb 189 rfl rfl
theorem wd_min3 : Cond.code Lib.Math.min.name Lib.Math.min.code 2 (some .int) ∈ wG := wG_tb 190 rfl rfl
theorem wd_min4 : Cond.initialized "java/lang/Math" ∈ wG := wG_tb 7 rfl rfl
theorem wd_cp1 : Cond.methodLink gC_Te 39 arraycopyName ∈ wG := wG_tb 191 rfl rfl
theorem wd_cp2 : Cond.static arraycopyName ∈ wG := wG_tb 192 rfl rfl
theorem wd_cp3 : Cond.native arraycopyName ∈ wG := wG_tb 193 rfl rfl
theorem wd_cp4 : Cond.initialized "java/lang/System" ∈ wG := wG_tb 8 rfl rfl
section MC
variable {g : Gd} {K : Cf} {own : String} {h : Nat} {M : Me} {cc : ByteArray} {pc ix : Nat} {lv : List (Nat × Value)} {rest : List Value}
theorem v_mmin (h0 : C0 K cc) (hC : Cx (sB g) K own h) (hlk : Cond.methodLink own ix Lib.Math.min.name ∈ wG) (hh : 1 ≤ h) (hr : (rest.map fun v => v.category).sum ≤ 8) {a b : Nat} (hab : a ≤ b) (hb : b < 2 ^ 31) (hdg : decode cc pc = .ok (.invokestatic ix, 3)) (kk : V K (wp (sB g)) M (pc + 3) lv (.int (nI a) :: rest)) : V K (wp (sB g)) M pc lv (.int (nI b) :: .int (nI a) :: rest) := fun H locs ls hw hS hl => by
  obtain ⟨hcs, hsl⟩ := room_0 hC
  have r1 : 1 ≤ (kR K).frames := by rw [hC.r]; exact hh
  have r2 : (rest.map fun v => v.category).sum + 13 ≤ (kR K).locals := by
    have e : (kR K).locals = 64 * h := by rw [hC.r]
    omega
  refine va_mmin h0.1 h0.2 (hC.ml.trans hl.1.symm) hC.own (hC.ts _ hlk) (hC.ts _ wd_min2) (hC.ts _ wd_min4) (hC.ts _ wd_min3) r1 r2 hcs hsl hdg ?_
  rw [if_neg (nI_nlt hab hb)]
  exact kk H locs ls hw hS hl
theorem v_copyc (h0 : C0 K cc) (hC : Cx (sB g) K own h) (hlk : Cond.methodLink own ix arraycopyName ∈ wG) (hh : 1 ≤ h) (hr : (rest.map fun v => v.category).sum ≤ 8) {c n : Nat} (hc : c < 10) (hn : n ≤ 24) (hf : ∀ j, j < n → fits .char (.int (M 5 j)) = true) (hdg : decode cc pc = .ok (.invokestatic ix, 3)) (kk : V K (wp (sB g)) (upR M (27 + c) (va_cpy (M 5) (M (27 + c)) 0 0 n)) (pc + 3) lv rest) : V K (wp (sB g)) M pc lv (.int (nI n) :: .int (nI 0) :: .ref (ga g (27 + c)) :: .int (nI 0) :: .ref (ga g 5) :: rest) := fun H locs ls hw hS hl => by
  have e0 : (nI 0).toNatClampNeg = 0 := nI_clamp (by omega)
  have e1 : (nI n).toNatClampNeg = n := nI_clamp (by omega)
  have ha0 : (wl (sB g) M)[5]? = some (ga g 5, .inl (gk g 2, 24, .inl (M 5))) := by rw [wl_at (sB g) M (show 5 < 59 by decide), eB_typed]; rfl
  have ha1 : (wl (sB g) M)[27 + c]? = some (ga g (27 + c), .inl (gk g 2, 24, .inl (M (27 + c)))) := by rw [wl_at (sB g) M (show 27 + c < 59 by omega), eB_signs g hc]; rfl
  have r1 : 1 ≤ (kR K).frames := by rw [hC.r]; exact hh
  have r2 : (rest.map fun v => v.category).sum + (nativeFrameWords "java/lang/System" "arraycopy" 5 + 11) ≤ (kR K).locals := by
    have e : (kR K).locals = 64 * h := by rw [hC.r]
    have e2 : nativeFrameWords "java/lang/System" "arraycopy" 5 + 11 ≤ 40 := by decide
    omega
  refine va_copyi h0.1 h0.2 (hC.ml.trans hl.1.symm) hC.own (hC.ts _ hlk) (hC.ts _ wd_cp3) (hC.ts _ wd_cp2) (hC.ts _ wd_cp4) hC.k hw (hC.d M) hS 5 (27 + c) 2 2 (ty := .char) ha0 ha1 rfl rfl rfl (nI_pos (by omega)) (nI_pos (by omega)) (nI_pos (by omega)) (by omega) (by omega) (fun i hi => by rw [e0, Nat.zero_add]; exact hf i (by omega)) r1 r2 hdg (fun H1 locs1 hP1 _ hS1 => ?_)
  rw [e0, e1] at hP1
  exact kk H1 locs1 ls (wp_set (show 27 + c < sN (sB g) from (show 27 + c < 59 by omega)) (eB_signs g hc _) hP1) hS1 hl
end MC
theorem up2_r (M : Me) {i a : Nat} (k : Nat) (v : Int32) (h : a ≠ i) : up2 M i k v a = M a := upR_n _ _ h
def chF (s : Nat → Int32) : Prop := ∀ j, j < 24 → fits .char (.int (s j)) = true
theorem fits_nar {x : Int32} (h : fits .char (.int x) = true) : narrow .char (.int x) = .int x := by
  simp only [fits, Bool.and_eq_true, decide_eq_true_eq] at h
  obtain ⟨j, hj, rfl⟩ := nI_of2 (M := 65535) (n := 65535) (by decide) (Int32.not_lt.mpr h.1) h.2
  exact (pk_charN (by omega)).1
theorem chF.s {s : Nat → Int32} (h : chF s) : chS s := fun j hj => fits_nar (h j hj)
theorem chF.cpy {t s : Nat → Int32} {n : Nat} (ht : ∀ j, j < n → fits .char (.int (t j)) = true) (hs : chF s) : chF (va_cpy t s 0 0 n) := by
  intro j hj
  unfold va_cpy
  by_cases q : 0 ≤ j ∧ j < 0 + n
  · rw [if_pos q, Nat.zero_add, Nat.sub_zero]; exact ht j (by omega)
  · rw [if_neg q]; exact hs j hj
/-- a text's head, start, what is bound in it, whether it is well formed, its names -/
def tHd (s : Nat → Int32) (n : Nat) : Bool := decide (s 0 = 92) && (decide (1 < n) && decide (kd (s 1) = 9))
def tSt (s : Nat → Int32) (n : Nat) : Nat := if tHd s n = true then 2 else 0
def tB0 (s : Nat → Int32) (n : Nat) : Nat → Bool := fun j => tHd s n && decide (j = lcI (s 1))
def tWl (s : Nat → Int32) (n : Nat) : Bool := OK s n 6 (tB0 s n) (tSt s n) && decide (EN s 6 (tSt s n) = n)
def tNm (s : Nat → Int32) (n : Nat) : Int32 := if tWl s n = true then NM s 6 (tSt s n) else 0
/-- what a reading leaves -/
def ReP (M : Me) (c n : Nat) (s : Nat → Int32) (r : Option Value) (M' : Me) : Prop :=
  r = none ∧ (∀ i, i ≠ 17 + c → i ≠ 27 + c → i ≠ 37 + c → M' i = M i) ∧ M' (27 + c) = s ∧ M' (17 + c) 2 = nI n ∧ M' (17 + c) 3 = nI (tSt s n) ∧ M' (17 + c) 4 = bI (tWl s n) ∧ M' (17 + c) 5 = tNm s n ∧ (tWl s n = true → EO s (M' (37 + c)) 6 (tSt s n))
theorem BM_0 : BM 0 (fun _ => false) := fun j _ => b_0 j
set_option maxHeartbeats 4000000 in
theorem m_Te_read (l : Launch) (g : Gd) (hI : sI (sB g)) (M : Me) {c n : Nat} (hc : c < 10) (hn24 : n ≤ 24) (hn1 : 0 < n) (hf : ∀ j, j < n → fits .char (.int (M 5 j)) = true) (hch : chF (M (27 + c))) : CB l g y_Te_read c_Te_read 4 none 26 [.ref (ga g (17 + c)), .ref (ga g 5), .int (nI n)] M (ReP M c n (va_cpy (M 5) (M (27 + c)) 0 0 n)) := by
  have hs0 := (chF.cpy hf hch).s
  generalize hse : va_cpy (M 5) (M (27 + c)) 0 0 n = s
  have hs : chS s := by rw [← hse]; exact hs0
  refine Ct.of hI (sB_N0 g) rfl (Nat.le_of_ble_eq_true rfl) (fun K h0 hC hR hkl hn => ?_)
  have hC : Cx (sB g) K gC_Te _ := hC
  show V K (wp (sB g)) M 0 [(0, .ref (ga g (17 + c))), (1, .ref (ga g 5)), (2, .int (nI n))] []
  subst hkl
  have hX2 : TX (upR (up2 M (17 + c) 2 (nI n)) (27 + c) s) c s n (M (17 + c) 5) (M (37 + c)) := ⟨upR_s _ _ _, by rw [upR_n _ _ (by omega), up2_s], by rw [upR_n _ _ (by omega), up2_n _ _ (by omega)], by rw [upR_n _ _ (by omega), up2_r _ _ _ (by omega)], hs, hn24⟩
  have hX3_0 : TX (up2 (up2 (upR (up2 M (17 + c) 2 (nI n)) (27 + c) s) (17 + c) 3 (nI 0)) (17 + c) 5 (nI 0)) c s n 0 (M (37 + c)) := ⟨by rw [show (up2 (up2 (upR (up2 M (17 + c) 2 (nI n)) (27 + c) s) (17 + c) 3 (nI 0)) (17 + c) 5 (nI 0)) (27 + c) = (upR (up2 M (17 + c) 2 (nI n)) (27 + c) s) (27 + c) from by rw [up2_r _ _ _ (by omega), up2_r _ _ _ (by omega)]]; exact hX2.1, by rw [up2_n _ _ (by omega), up2_n _ _ (by omega)]; exact hX2.2.1, up2_s _ _ _ _, by rw [show (up2 (up2 (upR (up2 M (17 + c) 2 (nI n)) (27 + c) s) (17 + c) 3 (nI 0)) (17 + c) 5 (nI 0)) (37 + c) = (upR (up2 M (17 + c) 2 (nI n)) (27 + c) s) (37 + c) from by rw [up2_r _ _ _ (by omega), up2_r _ _ _ (by omega)]]; exact hX2.2.2.2.1, hs, hn24⟩
  have hX3_2 : TX (up2 (up2 (upR (up2 M (17 + c) 2 (nI n)) (27 + c) s) (17 + c) 3 (nI 2)) (17 + c) 5 (nI 0)) c s n 0 (M (37 + c)) := ⟨by rw [show (up2 (up2 (upR (up2 M (17 + c) 2 (nI n)) (27 + c) s) (17 + c) 3 (nI 2)) (17 + c) 5 (nI 0)) (27 + c) = (upR (up2 M (17 + c) 2 (nI n)) (27 + c) s) (27 + c) from by rw [up2_r _ _ _ (by omega), up2_r _ _ _ (by omega)]]; exact hX2.1, by rw [up2_n _ _ (by omega), up2_n _ _ (by omega)]; exact hX2.2.1, up2_s _ _ _ _, by rw [show (up2 (up2 (upR (up2 M (17 + c) 2 (nI n)) (27 + c) s) (17 + c) 3 (nI 2)) (17 + c) 5 (nI 0)) (37 + c) = (upR (up2 M (17 + c) 2 (nI n)) (27 + c) s) (37 + c) from by rw [up2_r _ _ _ (by omega), up2_r _ _ _ (by omega)]]; exact hX2.2.2.2.1, hs, hn24⟩
  refine v_aload_n h0 d_Te_read_0 0 rfl ?_
  refine v_iload_n h0 d_Te_read_1 2 rfl ?_
  refine v_bipush h0 d_Te_read_2 (v := nI 24) (by decide) ?_
  refine v_mmin h0 hC wd_min1 (by omega) (Nat.le_of_ble_eq_true rfl) hn24 (by decide) d_Te_read_4 ?_
  refine p_Te_length h0 hC (by omega) wd_33 d_Te_read_7 ?_
  refine v_aload_n h0 d_Te_read_10 1 rfl ?_
  refine v_iconst h0 d_Te_read_11 (v := nI 0) (by decide) ?_
  refine v_aload_n h0 d_Te_read_12 0 rfl ?_
  refine g_Te_signs h0 hC (by omega) wd_31 d_Te_read_13 ?_
  refine v_iconst h0 d_Te_read_16 (v := nI 0) (by decide) ?_
  refine v_aload_n h0 d_Te_read_17 0 rfl ?_
  refine g_Te_length h0 hC (by omega) wd_33 d_Te_read_18 ?_
  refine v_int (nI n) (up2_s _ _ _ _) ?_
  refine v_copyc h0 hC wd_cp1 (by omega) (Nat.le_of_ble_eq_true rfl) hc hn24 (fun j hj => by rw [show up2 M (17 + c) 2 (nI n) 5 j = M 5 j from up2_n _ _ (by omega)]; exact hf j hj) d_Te_read_21 ?_
  rw [show va_cpy ((up2 M (17 + c) 2 (nI n)) 5) ((up2 M (17 + c) 2 (nI n)) (27 + c)) 0 0 n = s from by rw [← hse, up2_r _ _ _ (by omega), up2_r _ _ _ (by omega)]]
  refine v_aload_n h0 d_Te_read_24 0 rfl ?_
  refine v_iconst h0 d_Te_read_25 (v := nI 0) (by decide) ?_
  refine v_callV h0 hC (sB_N0 g) (17 + c) (show (17 + c) < 59 by omega) (eB_Te g (by omega) _) rfl (av := [.int (nI 0)]) (rest := []) (m_Te_sign (kl K) g hI (upR (up2 M (17 + c) 2 (nI n)) (27 + c) s) hc (by omega) hX2) wd_197 wd_194 wd_195 wd_196 wd_3 hd_Te_signAt (by omega) (by decide) rfl rfl (Nat.le_of_ble_eq_true rfl) d_Te_read_26 (fun r9 M9 hp9 => ?_)
  obtain ⟨rfl, rfl⟩ := hp9
  refine v_r1 ?_
  refine v_bipush h0 d_Te_read_29 (v := nI 92) (by decide) ?_
  refine v_icmp_ne h0 d_Te_read_31 rfl (fun h31 => ?_) (fun h31 => ?_)
  · skip
    have hT0 : tHd s n = false := by unfold tHd; rw [decide_eq_false (fun z => h31 (by unfold sgA; rw [if_pos (by omega)]; exact z)), Bool.false_and]
    refine v_iconst h0 d_Te_read_49 (v := nI 0) (by decide) ?_
    refine v_istore_n h0 d_Te_read_50 (lv' := [(3, .int (nI 0)), (0, .ref (ga g (17 + c))), (1, .ref (ga g 5)), (2, .int (nI n))]) (lt_kn hn (by decide)) rfl ?_
    refine v_aload_n h0 d_Te_read_51 1 rfl ?_
    refine v_iload_n h0 d_Te_read_52 0 rfl ?_
    refine v_if_eq h0 d_Te_read_53 rfl (fun h53 => ?_) (fun h53 => absurd h53 (by decide))
    refine v_iconst h0 d_Te_read_60 (v := nI 0) (by decide) ?_
    refine p_Te_start h0 hC (by omega) wd_34 d_Te_read_61 ?_
    refine v_aload_n h0 d_Te_read_64 1 rfl ?_
    refine v_iconst h0 d_Te_read_65 (v := nI 0) (by decide) ?_
    refine p_Te_names h0 hC (by omega) wd_39 d_Te_read_66 ?_
    refine v_aload_n h0 d_Te_read_69 1 rfl ?_
    refine v_aload_n h0 d_Te_read_70 1 rfl ?_
    refine v_aload_n h0 d_Te_read_71 1 rfl ?_
    refine g_Te_start h0 hC (by omega) wd_34 d_Te_read_72 ?_
    refine v_int (nI 0) (by rw [up2_n _ _ (by omega), up2_s]) ?_
    refine v_iconst h0 d_Te_read_75 (v := nI 0) (by decide) ?_
    refine v_iload_n h0 d_Te_read_76 0 rfl ?_
    refine v_if_eq h0 d_Te_read_77 rfl (fun h77 => ?_) (fun h77 => absurd h77 (by decide))
    refine v_iconst h0 d_Te_read_90 (v := nI 0) (by decide) ?_
    refine v_callV h0 hC (sB_N0 g) (17 + c) (show (17 + c) < 59 by omega) (eB_Te g (by omega) _) rfl (av := [.int (nI 0), .int (nI 0), .int (nI 0)]) (rest := [.ref (ga g (17 + c))]) (rd_all (kl K) g hI 6 (by decide) (up2 (up2 (upR (up2 M (17 + c) 2 (nI n)) (27 + c) s) (17 + c) 3 (nI 0)) (17 + c) 5 (nI 0)) c n 0 s (M (37 + c)) 0 _ (fun _ => false) hc (by omega) hX3_0 BM_0) wd_208 wd_205 wd_207 ws_0 wd_3 hd_Te_readExpression (by omega) (by decide) rfl rfl (Nat.le_of_ble_eq_true rfl) d_Te_read_91 (fun r9 M9 hp9 => ?_)
    obtain ⟨a1, e1, rfl, hq9⟩ := hp9
    rcases hq9 with ⟨q1, rfl, rfl, q4, q5⟩ | ⟨q1, rfl⟩
    · skip
      refine v_r1 ?_
      refine v_aload_n h0 d_Te_read_94 1 rfl ?_
      refine g_Te_length h0 hC (by omega) wd_33 d_Te_read_95 ?_
      refine v_int (nI n) (by rw [rdM_t]; exact hX3_0.2.1) ?_
      refine n_icmp_ne h0 (by have := (OK_ends s n 6 _ _ q1).2; omega) (by omega) d_Te_read_98 rfl (fun h98 => ?_) (fun h98 => ?_)
      · skip
        refine v_iconst h0 d_Te_read_105 (v := nI 0) (by decide) ?_
        refine p_Te_wellFormed h0 hC (by omega) (by decide) wd_37 d_Te_read_106 ?_
        refine v_aload_n h0 d_Te_read_109 1 rfl ?_
        refine g_Te_wellFormed h0 hC (by omega) wd_37 d_Te_read_110 ?_
        refine v_int (nI 0) (up2_s _ _ _ _) ?_
        refine v_if_ne h0 d_Te_read_113 rfl (fun h113 => absurd h113 (by decide)) (fun h113 => ?_)
        refine v_aload_n h0 d_Te_read_116 1 rfl ?_
        refine v_iconst h0 d_Te_read_117 (v := nI 0) (by decide) ?_
        refine p_Te_names h0 hC (by omega) wd_39 d_Te_read_118 ?_
        have hst : tSt s n = 0 := by unfold tSt; rw [hT0]; rfl
        have hb0 : tB0 s n = (fun _ => false) := by funext j; unfold tB0; rw [hT0]; rfl
        have hwl : tWl s n = false := by unfold tWl; rw [hst, hb0, q1]; exact decide_eq_false h98
        refine v_vret h0 hC hR d_Te_read_121 ⟨rfl, fun i w1 w2 w3 => by simp only [upR, up2, rdM, w1, w2, w3, if_false], ?_, ?_, ?_, ?_, ?_, ?_⟩
        · rw [up2_r _ _ _ (by omega), up2_r _ _ _ (by omega), rdM_o _ _ _ _ (by omega) (by omega)]; exact hX3_0.1
        · rw [up2_n _ _ (by omega), up2_n _ _ (by omega), rdM_t]; exact hX3_0.2.1
        · rw [up2_n _ _ (by omega), up2_n _ _ (by omega), rdM_t, pk_un (by omega), up2_n _ _ (by omega), up2_s, hst]
        · rw [up2_n _ _ (by omega), up2_s, hwl]; rfl
        · rw [up2_s]; unfold tNm; rw [hwl]; rfl
        · intro z; rw [hwl] at z; cases z
      · skip
        refine v_iconst h0 d_Te_read_101 (v := nI 1) (by decide) ?_
        refine v_goto h0 d_Te_read_102 rfl ?_
        refine p_Te_wellFormed h0 hC (by omega) (by decide) wd_37 d_Te_read_106 ?_
        refine v_aload_n h0 d_Te_read_109 1 rfl ?_
        refine g_Te_wellFormed h0 hC (by omega) wd_37 d_Te_read_110 ?_
        refine v_int (nI 1) (up2_s _ _ _ _) ?_
        refine v_if_ne h0 d_Te_read_113 rfl (fun h113 => ?_) (fun h113 => absurd h113 (by decide))
        have hst : tSt s n = 0 := by unfold tSt; rw [hT0]; rfl
        have hb0 : tB0 s n = (fun _ => false) := by funext j; unfold tB0; rw [hT0]; rfl
        have hwl : tWl s n = true := by unfold tWl; rw [hst, hb0, q1]; exact decide_eq_true h98
        refine v_vret h0 hC hR d_Te_read_121 ⟨rfl, fun i w1 w2 w3 => by simp only [upR, up2, rdM, w1, w2, w3, if_false], ?_, ?_, ?_, ?_, ?_, ?_⟩
        · rw [up2_r _ _ _ (by omega), rdM_o _ _ _ _ (by omega) (by omega)]; exact hX3_0.1
        · rw [up2_n _ _ (by omega), rdM_t]; exact hX3_0.2.1
        · rw [up2_n _ _ (by omega), rdM_t, pk_un (by omega), up2_n _ _ (by omega), up2_s, hst]
        · rw [up2_s, hwl]; rfl
        · rw [up2_n _ _ (by omega), rdM_t, pk_us]; unfold tNm; rw [if_pos hwl, hst]; exact b_ext (fun i _ => by rw [b_or, b_0, Bool.false_or])
        · intro _; rw [hst, up2_r _ _ _ (by omega), rdM_e]; exact q4
    · skip
      refine v_r1 ?_
      refine v_aload_n h0 d_Te_read_94 1 rfl ?_
      refine g_Te_length h0 hC (by omega) wd_33 d_Te_read_95 ?_
      refine v_int (nI n) (by rw [rdM_t]; exact hX3_0.2.1) ?_
      refine v_icmp_ne h0 d_Te_read_98 rfl (fun h98 => ?_) (fun h98 => absurd h98 (fun z => nI_m1 (by omega) z.symm))
      refine v_iconst h0 d_Te_read_105 (v := nI 0) (by decide) ?_
      refine p_Te_wellFormed h0 hC (by omega) (by decide) wd_37 d_Te_read_106 ?_
      refine v_aload_n h0 d_Te_read_109 1 rfl ?_
      refine g_Te_wellFormed h0 hC (by omega) wd_37 d_Te_read_110 ?_
      refine v_int (nI 0) (up2_s _ _ _ _) ?_
      refine v_if_ne h0 d_Te_read_113 rfl (fun h113 => absurd h113 (by decide)) (fun h113 => ?_)
      refine v_aload_n h0 d_Te_read_116 1 rfl ?_
      refine v_iconst h0 d_Te_read_117 (v := nI 0) (by decide) ?_
      refine p_Te_names h0 hC (by omega) wd_39 d_Te_read_118 ?_
      have hst : tSt s n = 0 := by unfold tSt; rw [hT0]; rfl
      have hb0 : tB0 s n = (fun _ => false) := by funext j; unfold tB0; rw [hT0]; rfl
      have hwl : tWl s n = false := by unfold tWl; rw [hst, hb0, q1]; rfl
      refine v_vret h0 hC hR d_Te_read_121 ⟨rfl, fun i w1 w2 w3 => by simp only [upR, up2, rdM, w1, w2, w3, if_false], ?_, ?_, ?_, ?_, ?_, ?_⟩
      · rw [up2_r _ _ _ (by omega), up2_r _ _ _ (by omega), rdM_o _ _ _ _ (by omega) (by omega)]; exact hX3_0.1
      · rw [up2_n _ _ (by omega), up2_n _ _ (by omega), rdM_t]; exact hX3_0.2.1
      · rw [up2_n _ _ (by omega), up2_n _ _ (by omega), rdM_t, pk_un (by omega), up2_n _ _ (by omega), up2_s, hst]
      · rw [up2_n _ _ (by omega), up2_s, hwl]; rfl
      · rw [up2_s]; unfold tNm; rw [hwl]; rfl
      · intro z; rw [hwl] at z; cases z
  · skip
    have h92 : s 0 = 92 := by unfold sgA at h31; rw [if_pos (by omega)] at h31; exact h31
    refine v_aload_n h0 d_Te_read_34 0 rfl ?_
    refine v_iconst h0 d_Te_read_35 (v := nI 1) (by decide) ?_
    refine v_callV h0 hC (sB_N0 g) (17 + c) (show (17 + c) < 59 by omega) (eB_Te g (by omega) _) rfl (av := [.int (nI 1)]) (rest := []) (m_Te_sign (kl K) g hI (upR (up2 M (17 + c) 2 (nI n)) (27 + c) s) hc (by omega) hX2) wd_197 wd_194 wd_195 wd_196 wd_3 hd_Te_signAt (by omega) (by decide) rfl rfl (Nat.le_of_ble_eq_true rfl) d_Te_read_36 (fun r9 M9 hp9 => ?_)
    obtain ⟨rfl, rfl⟩ := hp9
    refine v_r1 ?_
    refine v_callSN h0 hC (sB_N0 g) (av := [.int (sgA s n 1)]) (rest := []) (m_B_isLocal (kl K) g hI (upR (up2 M (17 + c) 2 (nI n)) (27 + c) s) _) wd_200 wn_23 wd_199 wd_1 hd_B_isLocal (by omega) (by decide) rfl rfl (Nat.le_of_ble_eq_true rfl) d_Te_read_39 (fun r9 M9 hp9 => ?_)
    obtain ⟨rfl, rfl⟩ := hp9
    refine v_r1 ?_
    refine b_if_eq h0 d_Te_read_42 rfl (fun h42 => ?_) (fun h42 => ?_)
    · skip
      have hT0 : tHd s n = false := by unfold tHd; rw [dec_no h42, Bool.and_false]
      refine v_iconst h0 d_Te_read_49 (v := nI 0) (by decide) ?_
      refine v_istore_n h0 d_Te_read_50 (lv' := [(3, .int (nI 0)), (0, .ref (ga g (17 + c))), (1, .ref (ga g 5)), (2, .int (nI n))]) (lt_kn hn (by decide)) rfl ?_
      refine v_aload_n h0 d_Te_read_51 1 rfl ?_
      refine v_iload_n h0 d_Te_read_52 0 rfl ?_
      refine v_if_eq h0 d_Te_read_53 rfl (fun h53 => ?_) (fun h53 => absurd h53 (by decide))
      refine v_iconst h0 d_Te_read_60 (v := nI 0) (by decide) ?_
      refine p_Te_start h0 hC (by omega) wd_34 d_Te_read_61 ?_
      refine v_aload_n h0 d_Te_read_64 1 rfl ?_
      refine v_iconst h0 d_Te_read_65 (v := nI 0) (by decide) ?_
      refine p_Te_names h0 hC (by omega) wd_39 d_Te_read_66 ?_
      refine v_aload_n h0 d_Te_read_69 1 rfl ?_
      refine v_aload_n h0 d_Te_read_70 1 rfl ?_
      refine v_aload_n h0 d_Te_read_71 1 rfl ?_
      refine g_Te_start h0 hC (by omega) wd_34 d_Te_read_72 ?_
      refine v_int (nI 0) (by rw [up2_n _ _ (by omega), up2_s]) ?_
      refine v_iconst h0 d_Te_read_75 (v := nI 0) (by decide) ?_
      refine v_iload_n h0 d_Te_read_76 0 rfl ?_
      refine v_if_eq h0 d_Te_read_77 rfl (fun h77 => ?_) (fun h77 => absurd h77 (by decide))
      refine v_iconst h0 d_Te_read_90 (v := nI 0) (by decide) ?_
      refine v_callV h0 hC (sB_N0 g) (17 + c) (show (17 + c) < 59 by omega) (eB_Te g (by omega) _) rfl (av := [.int (nI 0), .int (nI 0), .int (nI 0)]) (rest := [.ref (ga g (17 + c))]) (rd_all (kl K) g hI 6 (by decide) (up2 (up2 (upR (up2 M (17 + c) 2 (nI n)) (27 + c) s) (17 + c) 3 (nI 0)) (17 + c) 5 (nI 0)) c n 0 s (M (37 + c)) 0 _ (fun _ => false) hc (by omega) hX3_0 BM_0) wd_208 wd_205 wd_207 ws_0 wd_3 hd_Te_readExpression (by omega) (by decide) rfl rfl (Nat.le_of_ble_eq_true rfl) d_Te_read_91 (fun r9 M9 hp9 => ?_)
      obtain ⟨a1, e1, rfl, hq9⟩ := hp9
      rcases hq9 with ⟨q1, rfl, rfl, q4, q5⟩ | ⟨q1, rfl⟩
      · skip
        refine v_r1 ?_
        refine v_aload_n h0 d_Te_read_94 1 rfl ?_
        refine g_Te_length h0 hC (by omega) wd_33 d_Te_read_95 ?_
        refine v_int (nI n) (by rw [rdM_t]; exact hX3_0.2.1) ?_
        refine n_icmp_ne h0 (by have := (OK_ends s n 6 _ _ q1).2; omega) (by omega) d_Te_read_98 rfl (fun h98 => ?_) (fun h98 => ?_)
        · skip
          refine v_iconst h0 d_Te_read_105 (v := nI 0) (by decide) ?_
          refine p_Te_wellFormed h0 hC (by omega) (by decide) wd_37 d_Te_read_106 ?_
          refine v_aload_n h0 d_Te_read_109 1 rfl ?_
          refine g_Te_wellFormed h0 hC (by omega) wd_37 d_Te_read_110 ?_
          refine v_int (nI 0) (up2_s _ _ _ _) ?_
          refine v_if_ne h0 d_Te_read_113 rfl (fun h113 => absurd h113 (by decide)) (fun h113 => ?_)
          refine v_aload_n h0 d_Te_read_116 1 rfl ?_
          refine v_iconst h0 d_Te_read_117 (v := nI 0) (by decide) ?_
          refine p_Te_names h0 hC (by omega) wd_39 d_Te_read_118 ?_
          have hst : tSt s n = 0 := by unfold tSt; rw [hT0]; rfl
          have hb0 : tB0 s n = (fun _ => false) := by funext j; unfold tB0; rw [hT0]; rfl
          have hwl : tWl s n = false := by unfold tWl; rw [hst, hb0, q1]; exact decide_eq_false h98
          refine v_vret h0 hC hR d_Te_read_121 ⟨rfl, fun i w1 w2 w3 => by simp only [upR, up2, rdM, w1, w2, w3, if_false], ?_, ?_, ?_, ?_, ?_, ?_⟩
          · rw [up2_r _ _ _ (by omega), up2_r _ _ _ (by omega), rdM_o _ _ _ _ (by omega) (by omega)]; exact hX3_0.1
          · rw [up2_n _ _ (by omega), up2_n _ _ (by omega), rdM_t]; exact hX3_0.2.1
          · rw [up2_n _ _ (by omega), up2_n _ _ (by omega), rdM_t, pk_un (by omega), up2_n _ _ (by omega), up2_s, hst]
          · rw [up2_n _ _ (by omega), up2_s, hwl]; rfl
          · rw [up2_s]; unfold tNm; rw [hwl]; rfl
          · intro z; rw [hwl] at z; cases z
        · skip
          refine v_iconst h0 d_Te_read_101 (v := nI 1) (by decide) ?_
          refine v_goto h0 d_Te_read_102 rfl ?_
          refine p_Te_wellFormed h0 hC (by omega) (by decide) wd_37 d_Te_read_106 ?_
          refine v_aload_n h0 d_Te_read_109 1 rfl ?_
          refine g_Te_wellFormed h0 hC (by omega) wd_37 d_Te_read_110 ?_
          refine v_int (nI 1) (up2_s _ _ _ _) ?_
          refine v_if_ne h0 d_Te_read_113 rfl (fun h113 => ?_) (fun h113 => absurd h113 (by decide))
          have hst : tSt s n = 0 := by unfold tSt; rw [hT0]; rfl
          have hb0 : tB0 s n = (fun _ => false) := by funext j; unfold tB0; rw [hT0]; rfl
          have hwl : tWl s n = true := by unfold tWl; rw [hst, hb0, q1]; exact decide_eq_true h98
          refine v_vret h0 hC hR d_Te_read_121 ⟨rfl, fun i w1 w2 w3 => by simp only [upR, up2, rdM, w1, w2, w3, if_false], ?_, ?_, ?_, ?_, ?_, ?_⟩
          · rw [up2_r _ _ _ (by omega), rdM_o _ _ _ _ (by omega) (by omega)]; exact hX3_0.1
          · rw [up2_n _ _ (by omega), rdM_t]; exact hX3_0.2.1
          · rw [up2_n _ _ (by omega), rdM_t, pk_un (by omega), up2_n _ _ (by omega), up2_s, hst]
          · rw [up2_s, hwl]; rfl
          · rw [up2_n _ _ (by omega), rdM_t, pk_us]; unfold tNm; rw [if_pos hwl, hst]; exact b_ext (fun i _ => by rw [b_or, b_0, Bool.false_or])
          · intro _; rw [hst, up2_r _ _ _ (by omega), rdM_e]; exact q4
      · skip
        refine v_r1 ?_
        refine v_aload_n h0 d_Te_read_94 1 rfl ?_
        refine g_Te_length h0 hC (by omega) wd_33 d_Te_read_95 ?_
        refine v_int (nI n) (by rw [rdM_t]; exact hX3_0.2.1) ?_
        refine v_icmp_ne h0 d_Te_read_98 rfl (fun h98 => ?_) (fun h98 => absurd h98 (fun z => nI_m1 (by omega) z.symm))
        refine v_iconst h0 d_Te_read_105 (v := nI 0) (by decide) ?_
        refine p_Te_wellFormed h0 hC (by omega) (by decide) wd_37 d_Te_read_106 ?_
        refine v_aload_n h0 d_Te_read_109 1 rfl ?_
        refine g_Te_wellFormed h0 hC (by omega) wd_37 d_Te_read_110 ?_
        refine v_int (nI 0) (up2_s _ _ _ _) ?_
        refine v_if_ne h0 d_Te_read_113 rfl (fun h113 => absurd h113 (by decide)) (fun h113 => ?_)
        refine v_aload_n h0 d_Te_read_116 1 rfl ?_
        refine v_iconst h0 d_Te_read_117 (v := nI 0) (by decide) ?_
        refine p_Te_names h0 hC (by omega) wd_39 d_Te_read_118 ?_
        have hst : tSt s n = 0 := by unfold tSt; rw [hT0]; rfl
        have hb0 : tB0 s n = (fun _ => false) := by funext j; unfold tB0; rw [hT0]; rfl
        have hwl : tWl s n = false := by unfold tWl; rw [hst, hb0, q1]; rfl
        refine v_vret h0 hC hR d_Te_read_121 ⟨rfl, fun i w1 w2 w3 => by simp only [upR, up2, rdM, w1, w2, w3, if_false], ?_, ?_, ?_, ?_, ?_, ?_⟩
        · rw [up2_r _ _ _ (by omega), up2_r _ _ _ (by omega), rdM_o _ _ _ _ (by omega) (by omega)]; exact hX3_0.1
        · rw [up2_n _ _ (by omega), up2_n _ _ (by omega), rdM_t]; exact hX3_0.2.1
        · rw [up2_n _ _ (by omega), up2_n _ _ (by omega), rdM_t, pk_un (by omega), up2_n _ _ (by omega), up2_s, hst]
        · rw [up2_n _ _ (by omega), up2_s, hwl]; rfl
        · rw [up2_s]; unfold tNm; rw [hwl]; rfl
        · intro z; rw [hwl] at z; cases z
    · skip
      obtain ⟨h1n, hse1⟩ := kd_sg (by decide) (kdB_t h42)
      have h9 : kd (s 1) = 9 := by rw [← hse1]; exact kdB_t h42
      have hT1 : tHd s n = true := by unfold tHd; rw [decide_eq_true h92, decide_eq_true h1n, decide_eq_true h9]; rfl
      have hl6 := lc_of h9
      have hbm : BM (nI 1 <<< (nI (lcI (s 1)) &&& 31)) (fun j => decide (j = lcI (s 1))) := fun j hj => b_bit (by omega) (by omega)
      refine v_iconst h0 d_Te_read_45 (v := nI 1) (by decide) ?_
      refine v_goto h0 d_Te_read_46 rfl ?_
      refine v_istore_n h0 d_Te_read_50 (lv' := [(3, .int (nI 1)), (0, .ref (ga g (17 + c))), (1, .ref (ga g 5)), (2, .int (nI n))]) (lt_kn hn (by decide)) rfl ?_
      refine v_aload_n h0 d_Te_read_51 1 rfl ?_
      refine v_iload_n h0 d_Te_read_52 0 rfl ?_
      refine v_if_eq h0 d_Te_read_53 rfl (fun h53 => absurd h53 (by decide)) (fun h53 => ?_)
      refine v_iconst h0 d_Te_read_56 (v := nI 2) (by decide) ?_
      refine v_goto h0 d_Te_read_57 rfl ?_
      refine p_Te_start h0 hC (by omega) wd_34 d_Te_read_61 ?_
      refine v_aload_n h0 d_Te_read_64 1 rfl ?_
      refine v_iconst h0 d_Te_read_65 (v := nI 0) (by decide) ?_
      refine p_Te_names h0 hC (by omega) wd_39 d_Te_read_66 ?_
      refine v_aload_n h0 d_Te_read_69 1 rfl ?_
      refine v_aload_n h0 d_Te_read_70 1 rfl ?_
      refine v_aload_n h0 d_Te_read_71 1 rfl ?_
      refine g_Te_start h0 hC (by omega) wd_34 d_Te_read_72 ?_
      refine v_int (nI 2) (by rw [up2_n _ _ (by omega), up2_s]) ?_
      refine v_iconst h0 d_Te_read_75 (v := nI 0) (by decide) ?_
      refine v_iload_n h0 d_Te_read_76 0 rfl ?_
      refine v_if_eq h0 d_Te_read_77 rfl (fun h77 => absurd h77 (by decide)) (fun h77 => ?_)
      refine v_iconst h0 d_Te_read_80 (v := nI 1) (by decide) ?_
      refine v_aload_n h0 d_Te_read_81 1 rfl ?_
      refine v_iconst h0 d_Te_read_82 (v := nI 1) (by decide) ?_
      refine v_callV h0 hC (sB_N0 g) (17 + c) (show (17 + c) < 59 by omega) (eB_Te g (by omega) _) rfl (av := [.int (nI 1)]) (rest := [.int (nI 1), .int (nI 0), .int (nI 2), .ref (ga g (17 + c)), .ref (ga g (17 + c))]) (m_Te_localAt (kl K) g hI (up2 (up2 (upR (up2 M (17 + c) 2 (nI n)) (27 + c) s) (17 + c) 3 (nI 2)) (17 + c) 5 (nI 0)) hc hn24 h1n hX3_2.2.1 (by rw [hX3_2.1]; exact hs) (by rw [hX3_2.1]; exact h9)) wd_204 wd_201 wd_202 wd_203 wd_3 hd_Te_localAt (by omega) (by decide) rfl rfl (Nat.le_of_ble_eq_true rfl) d_Te_read_83 (fun r9 M9 hp9 => ?_)
      obtain ⟨rfl, rfl⟩ := hp9
      refine v_r1 ?_
      refine v_int (nI (lcI (s 1))) (by rw [hX3_2.1]) ?_
      refine v_ishl h0 d_Te_read_86 ?_
      refine v_goto h0 d_Te_read_87 rfl ?_
      refine v_callV h0 hC (sB_N0 g) (17 + c) (show (17 + c) < 59 by omega) (eB_Te g (by omega) _) rfl (av := [.int (nI 2), .int (nI 0), .int ((nI 1) <<< ((nI (lcI (s 1))) &&& 31))]) (rest := [.ref (ga g (17 + c))]) (rd_all (kl K) g hI 6 (by decide) (up2 (up2 (upR (up2 M (17 + c) 2 (nI n)) (27 + c) s) (17 + c) 3 (nI 2)) (17 + c) 5 (nI 0)) c n 2 s (M (37 + c)) 0 _ (fun j => decide (j = lcI (s 1))) hc (by omega) hX3_2 hbm) wd_208 wd_205 wd_207 ws_0 wd_3 hd_Te_readExpression (by omega) (by decide) rfl rfl (Nat.le_of_ble_eq_true rfl) d_Te_read_91 (fun r9 M9 hp9 => ?_)
      obtain ⟨a1, e1, rfl, hq9⟩ := hp9
      rcases hq9 with ⟨q1, rfl, rfl, q4, q5⟩ | ⟨q1, rfl⟩
      · skip
        refine v_r1 ?_
        refine v_aload_n h0 d_Te_read_94 1 rfl ?_
        refine g_Te_length h0 hC (by omega) wd_33 d_Te_read_95 ?_
        refine v_int (nI n) (by rw [rdM_t]; exact hX3_2.2.1) ?_
        refine n_icmp_ne h0 (by have := (OK_ends s n 6 _ _ q1).2; omega) (by omega) d_Te_read_98 rfl (fun h98 => ?_) (fun h98 => ?_)
        · skip
          refine v_iconst h0 d_Te_read_105 (v := nI 0) (by decide) ?_
          refine p_Te_wellFormed h0 hC (by omega) (by decide) wd_37 d_Te_read_106 ?_
          refine v_aload_n h0 d_Te_read_109 1 rfl ?_
          refine g_Te_wellFormed h0 hC (by omega) wd_37 d_Te_read_110 ?_
          refine v_int (nI 0) (up2_s _ _ _ _) ?_
          refine v_if_ne h0 d_Te_read_113 rfl (fun h113 => absurd h113 (by decide)) (fun h113 => ?_)
          refine v_aload_n h0 d_Te_read_116 1 rfl ?_
          refine v_iconst h0 d_Te_read_117 (v := nI 0) (by decide) ?_
          refine p_Te_names h0 hC (by omega) wd_39 d_Te_read_118 ?_
          have hst : tSt s n = 2 := by unfold tSt; rw [hT1]; rfl
          have hb0 : tB0 s n = (fun j => decide (j = lcI (s 1))) := by funext j; unfold tB0; rw [hT1]; rfl
          have hwl : tWl s n = false := by unfold tWl; rw [hst, hb0, q1]; exact decide_eq_false h98
          refine v_vret h0 hC hR d_Te_read_121 ⟨rfl, fun i w1 w2 w3 => by simp only [upR, up2, rdM, w1, w2, w3, if_false], ?_, ?_, ?_, ?_, ?_, ?_⟩
          · rw [up2_r _ _ _ (by omega), up2_r _ _ _ (by omega), rdM_o _ _ _ _ (by omega) (by omega)]; exact hX3_2.1
          · rw [up2_n _ _ (by omega), up2_n _ _ (by omega), rdM_t]; exact hX3_2.2.1
          · rw [up2_n _ _ (by omega), up2_n _ _ (by omega), rdM_t, pk_un (by omega), up2_n _ _ (by omega), up2_s, hst]
          · rw [up2_n _ _ (by omega), up2_s, hwl]; rfl
          · rw [up2_s]; unfold tNm; rw [hwl]; rfl
          · intro z; rw [hwl] at z; cases z
        · skip
          refine v_iconst h0 d_Te_read_101 (v := nI 1) (by decide) ?_
          refine v_goto h0 d_Te_read_102 rfl ?_
          refine p_Te_wellFormed h0 hC (by omega) (by decide) wd_37 d_Te_read_106 ?_
          refine v_aload_n h0 d_Te_read_109 1 rfl ?_
          refine g_Te_wellFormed h0 hC (by omega) wd_37 d_Te_read_110 ?_
          refine v_int (nI 1) (up2_s _ _ _ _) ?_
          refine v_if_ne h0 d_Te_read_113 rfl (fun h113 => ?_) (fun h113 => absurd h113 (by decide))
          have hst : tSt s n = 2 := by unfold tSt; rw [hT1]; rfl
          have hb0 : tB0 s n = (fun j => decide (j = lcI (s 1))) := by funext j; unfold tB0; rw [hT1]; rfl
          have hwl : tWl s n = true := by unfold tWl; rw [hst, hb0, q1]; exact decide_eq_true h98
          refine v_vret h0 hC hR d_Te_read_121 ⟨rfl, fun i w1 w2 w3 => by simp only [upR, up2, rdM, w1, w2, w3, if_false], ?_, ?_, ?_, ?_, ?_, ?_⟩
          · rw [up2_r _ _ _ (by omega), rdM_o _ _ _ _ (by omega) (by omega)]; exact hX3_2.1
          · rw [up2_n _ _ (by omega), rdM_t]; exact hX3_2.2.1
          · rw [up2_n _ _ (by omega), rdM_t, pk_un (by omega), up2_n _ _ (by omega), up2_s, hst]
          · rw [up2_s, hwl]; rfl
          · rw [up2_n _ _ (by omega), rdM_t, pk_us]; unfold tNm; rw [if_pos hwl, hst]; exact b_ext (fun i _ => by rw [b_or, b_0, Bool.false_or])
          · intro _; rw [hst, up2_r _ _ _ (by omega), rdM_e]; exact q4
      · skip
        refine v_r1 ?_
        refine v_aload_n h0 d_Te_read_94 1 rfl ?_
        refine g_Te_length h0 hC (by omega) wd_33 d_Te_read_95 ?_
        refine v_int (nI n) (by rw [rdM_t]; exact hX3_2.2.1) ?_
        refine v_icmp_ne h0 d_Te_read_98 rfl (fun h98 => ?_) (fun h98 => absurd h98 (fun z => nI_m1 (by omega) z.symm))
        refine v_iconst h0 d_Te_read_105 (v := nI 0) (by decide) ?_
        refine p_Te_wellFormed h0 hC (by omega) (by decide) wd_37 d_Te_read_106 ?_
        refine v_aload_n h0 d_Te_read_109 1 rfl ?_
        refine g_Te_wellFormed h0 hC (by omega) wd_37 d_Te_read_110 ?_
        refine v_int (nI 0) (up2_s _ _ _ _) ?_
        refine v_if_ne h0 d_Te_read_113 rfl (fun h113 => absurd h113 (by decide)) (fun h113 => ?_)
        refine v_aload_n h0 d_Te_read_116 1 rfl ?_
        refine v_iconst h0 d_Te_read_117 (v := nI 0) (by decide) ?_
        refine p_Te_names h0 hC (by omega) wd_39 d_Te_read_118 ?_
        have hst : tSt s n = 2 := by unfold tSt; rw [hT1]; rfl
        have hb0 : tB0 s n = (fun j => decide (j = lcI (s 1))) := by funext j; unfold tB0; rw [hT1]; rfl
        have hwl : tWl s n = false := by unfold tWl; rw [hst, hb0, q1]; rfl
        refine v_vret h0 hC hR d_Te_read_121 ⟨rfl, fun i w1 w2 w3 => by simp only [upR, up2, rdM, w1, w2, w3, if_false], ?_, ?_, ?_, ?_, ?_, ?_⟩
        · rw [up2_r _ _ _ (by omega), up2_r _ _ _ (by omega), rdM_o _ _ _ _ (by omega) (by omega)]; exact hX3_2.1
        · rw [up2_n _ _ (by omega), up2_n _ _ (by omega), rdM_t]; exact hX3_2.2.1
        · rw [up2_n _ _ (by omega), up2_n _ _ (by omega), rdM_t, pk_un (by omega), up2_n _ _ (by omega), up2_s, hst]
        · rw [up2_n _ _ (by omega), up2_s, hwl]; rfl
        · rw [up2_s]; unfold tNm; rw [hwl]; rfl
        · intro z; rw [hwl] at z; cases z
