/-! THE BOOK'S CALLS, each by the abstract book -/
theorem Ct.mono {σ : Type} {l : Launch} {y : MethodName} {ts : List Cond} {h : Nat} {ws : σ → State → Prop} {A : Nat → Prop} {av : List Value} {M : σ} {post post' : Option Value → σ → Prop} (hC : Ct l y ts h ws A av M post) (hp : ∀ r M', post r M' → post' r M') : Ct l y ts h ws A av M post' := by
  unfold Ct Met at hC ⊢
  refine MetFree.mono hC (fun _ _ q => q) (fun _ _ _ _ _ q => q) (fun _ _ _ _ _ q => ?_)
  obtain ⟨⟨⟨r, M', e1, e2, e3⟩, hF⟩, hL⟩ := q
  exact ⟨⟨⟨r, M', e1, hp r M' e2, e3⟩, hF⟩, hL⟩
def RB (M β : Me) : Prop := AbsB M β ∧ Iv β ∧ Iv2 β
/-- the first cell to be worked on, 10 none -/
def nxt (β : Me) : Nat → Nat
  | 0 => 10
  | i + 1 => if rdB β (9 - i) = true then 9 - i else nxt β i
theorem nxt_c {β : Me} {c : Nat} (hc : c < 10) (h : rdB β c = true) (hn : ∀ q, q < c → rdB β q = false) : ∀ i, 10 - c ≤ i → i ≤ 10 → nxt β i = c := by
  intro i
  induction i with
  | zero => intro h1; omega
  | succ i ih =>
    intro h1 h2
    simp only [nxt]
    by_cases e : 9 - i = c
    · rw [e, if_pos h]
    · rw [if_neg (by rw [hn (9 - i) (by omega)]; decide)]; exact ih (by omega) (by omega)
theorem nxt_n {β : Me} (hn : ∀ q, q < 10 → rdB β q = false) : ∀ i, nxt β i = 10 := by
  intro i
  induction i with
  | zero => rfl
  | succ i ih => simp only [nxt]; rw [if_neg (by rw [hn (9 - i) (by omega)]; decide)]; exact ih
def wkN : Nat → Me → Nat × Me
  | 0, β => (0, β)
  | n + 1, β => if nxt β 10 < 10 then ((wkN n (wkβ β (nxt β 10))).1 + 1, (wkN n (wkβ β (nxt β 10))).2) else (0, β)
theorem wkN_le : ∀ n β, (wkN n β).1 ≤ n := by
  intro n
  induction n with
  | zero => intro β; exact Nat.le_refl _
  | succ n ih =>
    intro β
    simp only [wkN]
    split
    · have := ih (wkβ β (nxt β 10)); exact Nat.succ_le_succ this
    · exact Nat.zero_le _
theorem wkN_t {n : Nat} {β : Me} {c : Nat} (h : nxt β 10 = c) (hc : c < 10) : wkN (n + 1) β = ((wkN n (wkβ β c)).1 + 1, (wkN n (wkβ β c)).2) := by
  simp only [wkN]; rw [if_pos (by rw [h]; exact hc), h]
theorem wkN_f {n : Nat} {β : Me} (h : nxt β 10 = 10) : wkN n β = (0, β) := by
  cases n with
  | zero => rfl
  | succ n => simp only [wkN]; rw [if_neg (by omega)]
/-- the calls: answer and next book -/
def cI (x : Int32) : Nat := x.toNatClampNeg
def opTy (β : Me) (x : Int64) (y : Int32) : Int32 × Me := if 1 ≤ cI y ∧ cI y ≤ 8 ∧ y = nI (cI y) ∧ cI (β 0 0) + cI y ≤ 24 ∧ tpB x (cI y) = true then (nI (cI (β 0 0) + cI y), tyβ β x (cI (β 0 0)) (cI y)) else (-1, β)
def opSe (β : Me) (x y : Int32) : Int32 × Me := if inB x = true ∧ inB y = true ∧ ¬ β 0 0 = 0 then (1, seβ β (cI x) (cI y) (cI (β 0 0))) else (0, β)
def opRm (β : Me) (x : Int32) : Int32 × Me := if inB x = true ∧ thB β (cI x) = true then (1, rmβ β (cI x)) else (0, β)
def opWk (β : Me) (y : Int32) : Int32 × Me := if 0 ≤ y ∧ y ≤ 20 then (nI (wkN (cI y) β).1, (wkN (cI y) β).2) else (-1, β)
def opCa (β : Me) (x : Int32) : Int32 × Me := if inB x = true ∧ shβ β (cI x) = 12 then (1, caβ β (cI x)) else (0, β)
def opSt (β : Me) (x : Int32) : Int32 := if inB x = true then shβ β (cI x) else 0
def opVa (β : Me) (x : Int32) : Int32 := if inB x = true then (if shβ β (cI x) = 14 then β 6 (cI x) else 0) else 0
def opKi (β : Me) (x : Int32) : Int32 := if inB x = true then (if shβ β (cI x) = 14 then β 7 (cI x) else 0) else 0
def opUs (β : Me) (x : Int32) : Int32 := if inB x = true then usI β (cI x) else 0
def opRu (β : Me) (x : Int32) : Int32 := if inB x = true then β 8 (cI x) else 0
theorem inB_c {c : Nat} (hc : c < 10) : inB (nI c) = true ∧ cI (nI c) = c := ⟨decide_eq_true ⟨nI_pos' (by omega), (nI_ltI (by omega) (by decide)).mpr hc⟩, nI_clamp (by omega)⟩
theorem RB.len {M β : Me} (h : RB M β) : ∃ L, L ≤ 24 ∧ M 0 5 = nI L ∧ β 0 0 = nI L ∧ cI (β 0 0) = L := by
  obtain ⟨L, h1, h2⟩ := h.2.1.1.2.1
  exact ⟨L, h1, h.1.2.1.1.trans h2, h2, by rw [h2]; exact nI_clamp (by omega)⟩
theorem RB.nm {M β : Me} (h : RB M β) : NMo M := h.1.1.nm h.2.1.1.1
theorem sh_14 {β : Me} {c : Nat} (h : shβ β c = 14) : β 5 c = 14 := by
  unfold shβ at h
  cases ht : thB β c with
  | false => rw [ht, if_neg (by decide)] at h; exact absurd h (by decide)
  | true =>
    rw [ht, if_pos rfl] at h
    by_cases hf : ftI β c = 0
    · rw [if_pos hf] at h
      by_cases h4 : β 4 c = 1
      · rw [if_pos h4] at h; exact absurd h (by decide)
      · rw [if_neg h4] at h; exact h
    · rw [if_neg hf] at h
      rcases ft_range β c with w | w | w | w | w <;> (rw [w] at h; exact absurd h (by decide))
theorem k_type (l : Launch) (g : Gd) (hI0 : sI (sB g)) {M β : Me} (h : RB M β) (x : Int64) (y : Int32) : CB l g y_B_type c_B_type 5 (some .int) 3 [.ref (ga g 0), .long x, .int y] M (fun r M' => r = some (.int (opTy β x y).1) ∧ RB M' (opTy β x y).2) := by
  obtain ⟨L, hL, hM, hB, hc⟩ := h.len
  refine (m_B_type l g hI0 M x y hM hL).mono (fun r M' hp => ?_)
  unfold opTy
  rcases hp with ⟨m, hm, rfl, rfl⟩ | ⟨hno, rfl, rfl⟩
  · obtain ⟨w1, w2, rfl, w4, w5⟩ := hm
    have e : cI (nI m) = m := nI_clamp (by omega)
    rw [e, hc, if_pos ⟨w1, w2, rfl, w4, w5⟩]
    obtain ⟨q1, q2⟩ := ty_abs h.1 h.2.1 (x := x) (L := L) (m := m) hB w4
    exact ⟨rfl, q1, q2, ty_Iv2 h.2.2 x L m⟩
  · rw [hc, if_neg (show ¬ (1 ≤ cI y ∧ cI y ≤ 8 ∧ y = nI (cI y) ∧ L + cI y ≤ 24 ∧ tpB x (cI y) = true) from hno (cI y))]
    exact ⟨rfl, h⟩
theorem k_set (l : Launch) (g : Gd) (hI0 : sI (sB g)) {M β : Me} (h : RB M β) (x y : Int32) : CB l g y_B_set c_B_set 5 (some .boolean) 27 [.ref (ga g 0), .int x, .int y] M (fun r M' => r = some (.int (opSe β x y).1) ∧ RB M' (opSe β x y).2) := by
  obtain ⟨L, hL, hM, hB, hc⟩ := h.len
  refine (m_B_set l g hI0 M x y hM hL h.nm h.1.2.1.2.2.2.1 h.1.2.1.2.2.2.2).mono (fun r M' hp => ?_)
  unfold opSe
  rcases hp with ⟨rfl, rfl, hno⟩ | ⟨c, j, M2, ⟨w1, w2, rfl, rfl, w5⟩, rfl, hR, hF⟩
  · rw [if_neg (fun w => ?_)]
    · exact ⟨rfl, h⟩
    · obtain ⟨c, hc1, rfl⟩ := in_c w.1
      obtain ⟨j, hj1, rfl⟩ := in_c w.2.1
      refine hno c j ⟨hc1, hj1, rfl, rfl, Nat.pos_of_ne_zero (fun z => w.2.2 (by rw [hB, z]; rfl))⟩
  · rw [if_pos ⟨(inB_c w1).1, (inB_c w2).1, by rw [hB]; exact nI_ne0 w5 (by omega)⟩, (inB_c w1).2, (inB_c w2).2, hc]
    obtain ⟨q1, q2⟩ := set_abs h.1 h.2.1 w1 w2 hL w5 hR hF
    exact ⟨rfl, q1, q2, se_Iv2 h.2.2 _ _ _⟩
theorem k_remove (l : Launch) (g : Gd) (hI0 : sI (sB g)) {M β : Me} (h : RB M β) (x : Int32) : CB l g y_B_remove c_B_remove 3 (some .boolean) 7 [.ref (ga g 0), .int x] M (fun r M' => r = some (.int (opRm β x).1) ∧ RB M' (opRm β x).2) := by
  refine (m_B_remove l g hI0 M x h.nm).mono (fun r M' hp => ?_)
  unfold opRm
  rcases hp with ⟨rfl, rfl, hno⟩ | ⟨c, w1, rfl, w3, rfl, hF⟩
  · rw [if_neg (fun w => ?_)]
    · exact ⟨rfl, h⟩
    · rcases hno with z | ⟨c, hc, rfl, z⟩
      · rw [w.1] at z; cases z
      · rw [(inB_c hc).2, th_m ((h.1.1 c hc).1.symm.trans z)] at w; cases w.2
  · have ht : thB β c = true := by
      cases q : thB β c with
      | true => rfl
      | false => exact absurd ((h.1.1 c w1).1.trans (th_f h.2.1.1.1 w1 q)) w3
    rw [(inB_c w1).2, if_pos ⟨(inB_c w1).1, ht⟩]
    obtain ⟨q1, q2⟩ := rm_abs h.1 h.2.1 w1 hF
    exact ⟨rfl, q1, q2, rm_Iv2 h.2.2 _⟩
theorem k_cancel (l : Launch) (g : Gd) (hI0 : sI (sB g)) {M β : Me} (h : RB M β) (x : Int32) : CB l g y_B_cancel c_B_cancel 2 (some .boolean) 3 [.ref (ga g 0), .int x] M (fun r M' => r = some (.int (opCa β x).1) ∧ RB M' (opCa β x).2) := by
  refine (m_B_cancel l g hI0 M x).mono (fun r M' hp => ?_)
  unfold opCa
  rcases hp with ⟨rfl, rfl, hno⟩ | ⟨c, w1, rfl, w3, rfl, rfl⟩
  · rw [if_neg (fun w => ?_)]
    · exact ⟨rfl, h⟩
    · rcases hno with z | ⟨c, hc, rfl, z⟩
      · rw [w.1] at z; cases z
      · rw [(inB_c hc).2] at w; exact z ((sh_eq h.1 h.2.1.1 hc).trans w.2)
  · have e : shβ β c = 12 := (sh_eq h.1 h.2.1.1 w1).symm.trans w3
    rw [(inB_c w1).2, if_pos ⟨(inB_c w1).1, e⟩]
    have h4 : β 4 c = 1 := ((sh_12 h.2.1 w1 e).2.2).resolve_right (h.2.2 c w1)
    exact ⟨rfl, ca_abs h.1 w1, ca_Iv h.2.1 w1 h4, ca_Iv2 h.2.2 _⟩
theorem k_status (l : Launch) (g : Gd) (hI0 : sI (sB g)) {M β : Me} (h : RB M β) (x : Int32) : CB l g y_B_status c_B_status 2 (some .int) 3 [.ref (ga g 0), .int x] M (fun r M' => r = some (.int (opSt β x)) ∧ RB M' β) := by
  refine (m_B_status l g hI0 M x).mono (fun r M' hp => ?_)
  unfold opSt
  obtain ⟨rfl, ⟨z, rfl⟩ | ⟨c, hc, rfl, rfl⟩⟩ := hp
  · rw [if_neg (by rw [z]; decide)]; exact ⟨rfl, h⟩
  · rw [if_pos (inB_c hc).1, (inB_c hc).2]; exact ⟨by rw [sh_eq h.1 h.2.1.1 hc]; rfl, h⟩
theorem k_value (l : Launch) (g : Gd) (hI0 : sI (sB g)) {M β : Me} (h : RB M β) (x : Int32) : CB l g y_B_value c_B_value 2 (some .int) 3 [.ref (ga g 0), .int x] M (fun r M' => r = some (.int (opVa β x)) ∧ RB M' β) := by
  refine (m_B_value l g hI0 M x).mono (fun r M' hp => ?_)
  unfold opVa
  obtain ⟨rfl, ⟨z, rfl⟩ | ⟨c, hc, rfl, rfl⟩⟩ := hp
  · rw [if_neg (by rw [z]; decide)]; exact ⟨rfl, h⟩
  · have e : shI M c = shβ β c := sh_eq h.1 h.2.1.1 hc
    rw [if_pos (inB_c hc).1, (inB_c hc).2, e]
    refine ⟨?_, h⟩
    by_cases z : shβ β c = 14
    · rw [if_pos z, if_pos z, ((h.1.2.2.1 c hc).2.2.2.1 (sh_14 z)).1]
    · rw [if_neg z, if_neg z]
theorem k_kind (l : Launch) (g : Gd) (hI0 : sI (sB g)) {M β : Me} (h : RB M β) (x : Int32) : CB l g y_B_kind c_B_kind 2 (some .int) 3 [.ref (ga g 0), .int x] M (fun r M' => r = some (.int (opKi β x)) ∧ RB M' β) := by
  refine (m_B_kind l g hI0 M x).mono (fun r M' hp => ?_)
  unfold opKi
  obtain ⟨rfl, ⟨z, rfl⟩ | ⟨c, hc, rfl, rfl⟩⟩ := hp
  · rw [if_neg (by rw [z]; decide)]; exact ⟨rfl, h⟩
  · have e : shI M c = shβ β c := sh_eq h.1 h.2.1.1 hc
    rw [if_pos (inB_c hc).1, (inB_c hc).2, e]
    refine ⟨?_, h⟩
    by_cases z : shβ β c = 14
    · rw [if_pos z, if_pos z, ((h.1.2.2.1 c hc).2.2.2.1 (sh_14 z)).2]
    · rw [if_neg z, if_neg z]
theorem k_uses (l : Launch) (g : Gd) (hI0 : sI (sB g)) {M β : Me} (h : RB M β) (x : Int32) : CB l g y_B_uses c_B_uses 2 (some .int) 2 [.ref (ga g 0), .int x] M (fun r M' => r = some (.int (opUs β x)) ∧ RB M' β) := by
  refine (m_B_uses l g hI0 M x).mono (fun r M' hp => ?_)
  unfold opUs
  obtain ⟨rfl, ⟨z, rfl⟩ | ⟨c, hc, rfl, rfl⟩⟩ := hp
  · rw [if_neg (by rw [z]; decide)]; exact ⟨rfl, h⟩
  · rw [if_pos (inB_c hc).1, (inB_c hc).2, (h.1.1 c hc).2.2.2.1]; exact ⟨rfl, h⟩
theorem k_runs (l : Launch) (g : Gd) (hI0 : sI (sB g)) {M β : Me} (h : RB M β) (x : Int32) : CB l g y_B_runs c_B_runs 2 (some .int) 2 [.ref (ga g 0), .int x] M (fun r M' => r = some (.int (opRu β x)) ∧ RB M' β) := by
  refine (m_B_runs l g hI0 M x).mono (fun r M' hp => ?_)
  unfold opRu
  obtain ⟨rfl, ⟨z, rfl⟩ | ⟨c, hc, rfl, rfl⟩⟩ := hp
  · rw [if_neg (by rw [z]; decide)]; exact ⟨rfl, h⟩
  · rw [if_pos (inB_c hc).1, (inB_c hc).2, (h.1.2.2.1 c hc).2.2.1]; exact ⟨rfl, h⟩
theorem k_steps (l : Launch) (g : Gd) (hI0 : sI (sB g)) {M β : Me} (h : RB M β) : CB l g y_B_steps c_B_steps 1 (some .int) 1 [.ref (ga g 0)] M (fun r M' => r = some (.int (β 0 1)) ∧ RB M' β) := by
  refine (m_B_steps l g hI0 M).mono (fun r M' hp => ?_)
  obtain ⟨rfl, rfl⟩ := hp
  rw [h.1.2.1.2.2.1]; exact ⟨rfl, h⟩
set_option maxHeartbeats 4000000 in
theorem k_work (l : Launch) (g : Gd) (hI0 : sI (sB g)) (M : Me) {β : Me} (h : RB M β) (y : Int32) : CB l g y_B_work c_B_work 4 (some .int) 92 [.ref (ga g 0), .int y] M (fun r M' => r = some (.int (opWk β y).1) ∧ RB M' (opWk β y).2) := by
  refine Ct.of hI0 (sB_N0 g) rfl (Nat.le_of_ble_eq_true rfl) (fun K h0 hC hR hkl hn => ?_)
  have hC : Cx (sB g) K gC_B _ := hC
  show V K (wp (sB g)) M 0 [(0, .ref (ga g 0)), (1, .int y)] []
  have loop : ∀ (n : Nat), n ≤ 20 → y = nI n → ∀ (t i : Nat) (M1 β1 : Me), i + t = n → RB M1 β1 → (wkN n β).1 = i + (wkN t β1).1 → (wkN n β).2 = (wkN t β1).2 → V K (wp (sB g)) M1 14 [(2, .int (nI i)), (0, .ref (ga g 0)), (1, .int (nI n))] [] := by
    intro n hn20 hy t
    have hop : opWk β y = (nI (wkN n β).1, (wkN n β).2) := by unfold opWk; rw [hy, if_pos ⟨nI_pos' (by omega), (nI_leI (by omega) (by decide)).mpr hn20⟩, show cI (nI n) = n from nI_clamp (by omega)]
    induction t with
    | zero =>
      intro i M1 β1 hi h1 e1 e2
      refine v_iload_n h0 d_B_work_14 0 rfl ?_
      refine v_iload_n h0 d_B_work_15 2 rfl ?_
      refine n_icmp_ge h0 (by omega) (by omega) d_B_work_16 rfl (fun h16 => ?_) (fun h16 => absurd h16 (by omega))
      refine v_iload_n h0 d_B_work_42 2 rfl ?_
      exact v_iret h0 hC hR d_B_work_43 (by rw [hop, e1, e2]; exact ⟨by rw [show i + (wkN 0 β1).1 = n from hi], h1⟩)
    | succ t ih =>
      intro i M1 β1 hi h1 e1 e2
      refine v_iload_n h0 d_B_work_14 0 rfl ?_
      refine v_iload_n h0 d_B_work_15 2 rfl ?_
      refine n_icmp_ge h0 (by omega) (by omega) d_B_work_16 rfl (fun h16 => absurd h16 (by omega)) (fun h16 => ?_)
      refine v_aload_n h0 d_B_work_19 1 rfl ?_
      refine v_callV h0 hC (sB_N0 g) 0 (show 0 < 59 by omega) (eB_B g _) rfl (av := []) (rest := []) (m_B_nextToWorkOn (kl K) g hI0 M1) wd_303 wd_300 wd_302 ws_16 wd_1 hd_B_nextToWorkOn (by omega) (by decide) rfl rfl (Nat.le_of_ble_eq_true rfl) d_B_work_20 (fun r9 M9 hp9 => ?_)
      obtain ⟨rfl, hq9⟩ := hp9
      rcases hq9 with ⟨c, hc, rfl, hr, hnr⟩ | ⟨rfl, hnr⟩
      · skip
        have hr1 : rdB β1 c = true := by rw [← rd_eq h1.1 h1.2.1.1 hc]; exact hr
        have hx : nxt β1 10 = c := nxt_c hc hr1 (fun q hq => by rw [← rd_eq h1.1 h1.2.1.1 (by omega)]; exact hnr q hq) 10 (by omega) (by omega)
        refine v_r1 ?_
        refine v_istore_n h0 d_B_work_23 (lv' := [(3, .int (nI c)), (2, .int (nI i)), (0, .ref (ga g 0)), (1, .int (nI n))]) (lt_kn hn (by decide)) rfl ?_
        refine v_iload_n h0 d_B_work_24 0 rfl ?_
        refine v_iconst h0 d_B_work_25 (v := -1) (by decide) ?_
        refine v_icmp_ne h0 d_B_work_26 rfl (fun h26 => ?_) (fun h26 => absurd h26 (nI_m1 (by omega)))
        refine v_aload_n h0 d_B_work_31 2 rfl ?_
        refine v_iload_n h0 d_B_work_32 0 rfl ?_
        refine v_callV h0 hC (sB_N0 g) 0 (show 0 < 59 by omega) (eB_B g _) rfl (av := [.int (nI c)]) (rest := []) (m_B_workOn (kl K) g hI0 M1 hc h1.1 h1.2.1 hr1) wd_311 wd_308 wd_310 ws_18 wd_1 hd_B_workOn (by omega) (by decide) rfl rfl (Nat.le_of_ble_eq_true rfl) d_B_work_33 (fun r9 M2 hp9 => ?_)
        obtain ⟨rfl, hA2⟩ := hp9
        refine v_r0 ?_
        refine v_iinc h0 d_B_work_36 (lv' := [(2, .int (nI (i + 1))), (3, .int (nI c)), (0, .ref (ga g 0)), (1, .int (nI n))]) 1 rfl (inc1 i) (lt_kn hn (by decide)) rfl ?_
        refine v_goto h0 d_B_work_39 rfl ?_
        refine v_sub [0, 2, 3] rfl ?_
        exact ih (i + 1) M2 (wkβ β1 c) (by omega) ⟨hA2, wk_Iv h1.2.1 hc hr1, wk_Iv2 h1.2.2 c⟩ (by rw [e1, wkN_t hx hc]; show i + ((wkN t (wkβ β1 c)).1 + 1) = _; omega) (by rw [e2, wkN_t hx hc])
      · skip
        have hx : nxt β1 10 = 10 := nxt_n (fun q hq => by rw [← rd_eq h1.1 h1.2.1.1 hq]; exact hnr q hq) 10
        refine v_r1 ?_
        refine v_istore_n h0 d_B_work_23 (lv' := [(3, .int (-1)), (2, .int (nI i)), (0, .ref (ga g 0)), (1, .int (nI n))]) (lt_kn hn (by decide)) rfl ?_
        refine v_iload_n h0 d_B_work_24 0 rfl ?_
        refine v_iconst h0 d_B_work_25 (v := -1) (by decide) ?_
        refine v_icmp_ne h0 d_B_work_26 rfl (fun h26 => absurd h26 (fun z => z rfl)) (fun h26 => ?_)
        refine v_iload_n h0 d_B_work_29 1 rfl ?_
        exact v_iret h0 hC hR d_B_work_30 (by rw [hop, e1, e2, wkN_f hx]; exact ⟨rfl, h1⟩)
  refine v_iload_n h0 d_B_work_0 1 rfl ?_
  refine v_if_lt h0 d_B_work_1 rfl (fun h1 => ?_) (fun h1 => ?_)
  · skip
    have hno : opWk β y = (-1, β) := by unfold opWk; rw [if_neg (fun q => absurd h1 (Int32.not_lt.mpr q.1))]
    refine v_iconst h0 d_B_work_10 (v := -1) (by decide) ?_
    exact v_iret h0 hC hR d_B_work_11 (by rw [hno]; exact ⟨rfl, h⟩)
  · skip
    refine v_iload_n h0 d_B_work_4 1 rfl ?_
    refine v_bipush h0 d_B_work_5 (v := nI 20) (by decide) ?_
    refine v_icmp_le h0 d_B_work_7 rfl (fun h7 => ?_) (fun h7 => ?_)
    · skip
      obtain ⟨n, hn20, hy⟩ := nI_of2 (M := nI 20) (n := 20) (by decide) h1 h7
      subst hy
      refine v_iconst h0 d_B_work_12 (v := nI 0) (by decide) ?_
      refine v_istore_n h0 d_B_work_13 (lv' := [(2, .int (nI 0)), (0, .ref (ga g 0)), (1, .int (nI n))]) (lt_kn hn (by decide)) rfl ?_
      exact loop n hn20 rfl n 0 M β (by omega) h (by omega) rfl
    · skip
      have hno : opWk β y = (-1, β) := by unfold opWk; rw [if_neg (fun q => h7 q.2)]
      refine v_iconst h0 d_B_work_10 (v := -1) (by decide) ?_
      exact v_iret h0 hC hR d_B_work_11 (by rw [hno]; exact ⟨rfl, h⟩)
