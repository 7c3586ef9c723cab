/-! A CHANGE OF ONE CELL'S TEXT: who isn't touched stays as it was -/
theorem any_cong {α : Type} {p q : α → Bool} : ∀ {l : List α}, (∀ a, a ∈ l → p a = q a) → l.any p = l.any q := by
  intro l
  induction l with
  | nil => intro _; rfl
  | cons a l ih => intro h; rw [List.any_cons, List.any_cons, h a List.mem_cons_self, ih (fun b hb => h b (List.mem_cons_of_mem _ hb))]
def Chg (β β1 : Me) (x : Nat) (nms : Int32) : Prop := x < 10 ∧ Nmb β ∧ Nmb β1 ∧ (∀ d, d ≠ x → β1 2 d = β 2 d ∧ β1 3 d = β 3 d ∧ β1 (20 + d) = β (20 + d) ∧ β1 4 d = β 4 d ∧ β1 5 d = β 5 d ∧ β1 6 d = β 6 d ∧ β1 7 d = β 7 d) ∧ (thB β x = true → bt nms (nmN β x) = true) ∧ (thB β1 x = true → bt nms (nmN β1 x) = true)
section CH
variable {β β1 : Me} {x : Nat} {nms : Int32}
theorem ch_th (h : Chg β β1 x nms) {d : Nat} (hne : d ≠ x) : thB β1 d = thB β d := cs_th (h.2.2.2.1 d hne).1
theorem ch_nm (h : Chg β β1 x nms) {d : Nat} (hne : d ≠ x) : nmN β1 d = nmN β d := cs_nm (h.2.2.2.1 d hne).1
theorem ch_wl (h : Chg β β1 x nms) {d : Nat} (hne : d ≠ x) : wlB β1 d = wlB β d := cs_wl (h.2.2.2.1 d hne).1 (h.2.2.2.1 d hne).2.1 (h.2.2.2.1 d hne).2.2.1
theorem ch_us (h : Chg β β1 x nms) {d : Nat} (hne : d ≠ x) : usI β1 d = usI β d := cs_us (h.2.2.2.1 d hne).1 (h.2.2.2.1 d hne).2.1 (h.2.2.2.1 d hne).2.2.1
theorem ch_fn (h : Chg β β1 x nms) {d : Nat} (hne : d ≠ x) : fnB β1 d = fnB β d := cs_fn (h.2.2.2.1 d hne).1 (h.2.2.2.1 d hne).2.1 (h.2.2.2.1 d hne).2.2.1
/-- a cell that isn't touched -/
def Unt (β1 : Me) (x : Nat) (nms : Int32) (d : Nat) : Prop := d ≠ x ∧ d < 10 ∧ thB β1 d = true ∧ tcB β1 nms d = false
theorem un_nr {d : Nat} (h : Unt β1 x nms d) : bt nms (nmN β1 d) = false ∧ ∀ j, j < 32 → bt (usI β1 d) j = true → bt nms j = false := by
  have hn : nrB β1 nms d = false := by
    cases hq : nrB β1 nms d with
    | false => rfl
    | true => have := tc_iff.mpr ⟨h.2.2.1, Or.inl hq⟩; rw [h.2.2.2] at this; cases this
  unfold nrB at hn
  rw [h.2.2.1, Bool.true_and, Bool.or_eq_false_iff] at hn
  refine ⟨hn.1, fun j hj hu => ?_⟩
  cases hb : bt nms j with
  | false => rfl
  | true => have := and_nz.mpr ⟨j, hj, hu, hb⟩; rw [hn.2] at this; cases this
theorem un_x (h : Chg β β1 x nms) {d : Nat} (hu : Unt β1 x nms d) : ndB β d x = false ∧ ndB β1 d x = false := by
  obtain ⟨h1, h2⟩ := un_nr hu
  have hx := h.1
  constructor
  · cases hq : ndB β d x with
    | false => rfl
    | true =>
      unfold ndB at hq
      rw [Bool.and_eq_true, ← ch_us h hu.1] at hq
      have hn := (th_t h.2.1 hx hq.1).1
      have := h2 _ (by omega) hq.2
      rw [h.2.2.2.2.1 hq.1] at this; cases this
  · cases hq : ndB β1 d x with
    | false => rfl
    | true =>
      unfold ndB at hq
      rw [Bool.and_eq_true] at hq
      have hn := (th_t h.2.2.1 hx hq.1).1
      have := h2 _ (by omega) hq.2
      rw [h.2.2.2.2.2 hq.1] at this; cases this
theorem un_nd (h : Chg β β1 x nms) {d : Nat} (hu : Unt β1 x nms d) (e : Nat) : ndB β1 d e = ndB β d e := by
  by_cases he : e = x
  · subst he; rw [(un_x h hu).1, (un_x h hu).2]
  · unfold ndB; rw [ch_th h he, ch_us h hu.1, ch_nm h he]
theorem un_next (h : Chg β β1 x nms) {d e : Nat} (hu : Unt β1 x nms d) (he : e < 10) (hn : ndB β1 d e = true) : Unt β1 x nms e := by
  have hne : e ≠ x := fun z => by rw [z, (un_x h hu).2] at hn; cases hn
  have ht : thB β1 e = true := by unfold ndB at hn; rw [Bool.and_eq_true] at hn; exact hn.1
  refine ⟨hne, he, ht, ?_⟩
  cases hq : tcB β1 nms e with
  | false => rfl
  | true =>
    have := tc_up (x := nms) he hu.2.2.1 (by unfold ngB; rw [decide_eq_true he, hn]; rfl) hq
    rw [hu.2.2.2] at this; cases this
theorem un_eg (h : Chg β β1 x nms) {d : Nat} (hu : Unt β1 x nms d) (e : Nat) : egB β1 d e = egB β d e := by
  unfold egB; rw [un_nd h hu, ch_fn h hu.1]
theorem un_way (h : Chg β β1 x nms) {c e : Nat} (hu : Unt β1 x nms c) (hp : Relation.TransGen (fun a a' => egB β a a' = true) c e) : Unt β1 x nms e ∧ Relation.TransGen (fun a a' => egB β1 a a' = true) c e := by
  induction hp with
  | single q =>
    have q2 := q
    rw [← un_eg h hu] at q2
    have q3 := q2
    unfold egB at q3
    simp only [Bool.and_eq_true, decide_eq_true_eq] at q3
    exact ⟨un_next h hu q3.1 q3.2.1, .single q2⟩
  | tail _ q ih =>
    have q2 := q
    rw [← un_eg h ih.1] at q2
    have q3 := q2
    unfold egB at q3
    simp only [Bool.and_eq_true, decide_eq_true_eq] at q3
    exact ⟨un_next h ih.1 q3.1 q3.2.1, .tail ih.2 q2⟩
theorem un_way1 (h : Chg β β1 x nms) {c e : Nat} (hu : Unt β1 x nms c) (hp : Relation.TransGen (fun a a' => egB β1 a a' = true) c e) : Unt β1 x nms e ∧ Relation.TransGen (fun a a' => egB β a a' = true) c e := by
  induction hp with
  | single q =>
    have q2 := q
    rw [un_eg h hu] at q2
    have q3 := q
    unfold egB at q3
    simp only [Bool.and_eq_true, decide_eq_true_eq] at q3
    exact ⟨un_next h hu q3.1 q3.2.1, .single q2⟩
  | tail _ q ih =>
    have q2 := q
    rw [un_eg h ih.1] at q2
    have q3 := q
    unfold egB at q3
    simp only [Bool.and_eq_true, decide_eq_true_eq] at q3
    exact ⟨un_next h ih.1 q3.1 q3.2.1, .tail ih.2 q2⟩
theorem eg_lt {a b : Nat} (h : egB β a b = true) : b < 10 := by unfold egB at h; simp only [Bool.and_eq_true, decide_eq_true_eq] at h; exact h.1
theorem cy_iff {c : Nat} : cyB β c = true ↔ Relation.TransGen (fun a a' => egB β a a' = true) c c := ⟨fun h => Wb_sound _ _ _ _ h, fun h => (Wb_full (fun a b => eg_lt) h).2⟩
/-- who defines a name that an untouched cell uses -/
theorem un_2 (h : Chg β β1 x nms) {j : Nat} (hj : j < 10) (hb : bt nms j = false) (e : Nat) : β1 2 e = nI j ↔ β 2 e = nI j := by
  by_cases he : e = x
  · subst he
    constructor
    · intro z
      have := th_j hj z
      have w := h.2.2.2.2.2 this.1
      rw [this.2, hb] at w; cases w
    · intro z
      have := th_j hj z
      have w := h.2.2.2.2.1 this.1
      rw [this.2, hb] at w; cases w
  · rw [(h.2.2.2.1 e he).1]
theorem un_df (h : Chg β β1 x nms) {j : Nat} (hj : j < 10) (hb : bt nms j = false) : ∀ i, dfL β1 j i = dfL β j i := by
  intro i
  induction i with
  | zero => rfl
  | succ i ih =>
    simp only [dfL, ih]
    by_cases z : β 2 i = nI j
    · rw [if_pos z, if_pos ((un_2 h hj hb i).mpr z)]
    · rw [if_neg z, if_neg (fun q => z ((un_2 h hj hb i).mp q))]
theorem un_dp (h : Chg β β1 x nms) {c : Nat} (hu : Unt β1 x nms c) : dpB β1 c = dpB β c := by
  obtain ⟨n1, n2⟩ := un_nr hu
  have ht : thB β c = true := by rw [← ch_th h hu.1]; exact hu.2.2.1
  obtain ⟨t1, t2⟩ := th_t h.2.1 hu.2.1 ht
  have e2 : β1 2 c = β 2 c := (h.2.2.2.1 c hu.1).1
  unfold dpB
  refine any_cong (fun d _ => ?_)
  have e : decide (β1 2 d = β1 2 c) = decide (β 2 d = β 2 c) := by
    apply decide_eq_decide.mpr
    rw [e2, t2]
    exact un_2 h t1 (by rw [← ch_nm h hu.1]; exact n1) d
  rw [e]
theorem un_ms (h : Chg β β1 x nms) {c : Nat} (hu : Unt β1 x nms c) : msB β1 c = msB β c := by
  obtain ⟨n1, n2⟩ := un_nr hu
  unfold msB
  refine any_cong (fun j hj => ?_)
  have hj := List.mem_range.mp hj
  rw [ch_us h hu.1]
  cases hq : bt (usI β c) j with
  | false => rw [Bool.false_and, Bool.false_and]
  | true =>
    have := un_df h hj (n2 j (by omega) (by rw [ch_us h hu.1]; exact hq)) 10
    have e : decide (dfL β1 j 10 < 0) = decide (dfL β j 10 < 0) := decide_eq_decide.mpr (by rw [this])
    rw [e]
theorem un_cy (h : Chg β β1 x nms) {c : Nat} (hu : Unt β1 x nms c) : cyB β1 c = cyB β c := by
  cases hq : cyB β c with
  | true => exact cy_iff.mpr (un_way h hu (cy_iff.mp hq)).2
  | false =>
    cases hz : cyB β1 c with
    | false => rfl
    | true => have := cy_iff.mpr (un_way1 h hu (cy_iff.mp hz)).2; rw [hq] at this; cases this
theorem un_ft (h : Chg β β1 x nms) {c : Nat} (hu : Unt β1 x nms c) : ftI β1 c = ftI β c := by
  unfold ftI
  rw [ch_wl h hu.1, un_dp h hu, un_ms h hu, un_cy h hu]
theorem sp_Iv (h : Chg β β1 x nms) (hI : Iv β) (hx4 : thB β1 x = false → β1 4 x = 0) (h00 : ∃ L, L ≤ 24 ∧ β1 0 0 = nI L) (hlen : ∀ c, c < 10 → thB β1 c = true → ∃ n, 0 < n ∧ n ≤ 24 ∧ β1 3 c = nI n) (hxz : z1 (β1 4 x)) : Iv (spβ β1 nms) := by
  have hs := sp_same β1 nms
  have hx := h.1
  have z4 : ∀ c, c < 10 → z1 (β1 4 c) := fun c hc => by
    by_cases e : c = x
    · rw [e]; exact hxz
    · rw [(h.2.2.2.1 c e).2.2.2.1]; exact hI.1.2.2.2.1 c hc
  refine ⟨⟨hs.mb h.2.2.1, by rw [sp_n _ _ (by omega)]; exact h00, fun c hc ht => by rw [hs.th] at ht; rw [hs.2.1]; exact hlen c hc ht, fun c hc => ?_, fun c hc ht => ?_⟩, ?_⟩
  · rw [sp_4 _ _ hc]
    split
    · exact Or.inr rfl
    · exact z4 c hc
  · rw [hs.th] at ht
    rw [sp_4 _ _ hc, if_neg (fun q => by have := tc_th q; rw [ht] at this; cases this)]
    by_cases e : c = x
    · subst e; exact hx4 ht
    · rw [(h.2.2.2.1 c e).2.2.2.1]; rw [ch_th h e] at ht; exact hI.1.2.2.2.2 c hc ht
  · -- who stands behind the change stood before it
    have key : ∀ d, d < 10 → gdB (spβ β1 nms) d = true → Unt β1 x nms d ∧ gdB β d = true := by
      intro d hd g
      obtain ⟨g1, g2, g3, g4⟩ := gd_iff.mp g
      rw [hs.th] at g1
      rw [sp_4 _ _ hd] at g2
      rw [hs.ft] at g3
      rw [sp_n _ _ (by omega)] at g4
      have tc : tcB β1 nms d = false := by
        cases hq : tcB β1 nms d with
        | false => rfl
        | true => rw [hq, if_pos rfl] at g2; exact absurd g2 (by decide)
      rw [tc, if_neg (by decide)] at g2
      have hne : d ≠ x := fun e => by
        subst e
        have hb := h.2.2.2.2.2 g1
        have : nrB β1 nms d = true := by unfold nrB; rw [g1, hb]; rfl
        rw [tc_iff.mpr ⟨g1, Or.inl this⟩] at tc; cases tc
      have hu : Unt β1 x nms d := ⟨hne, hd, g1, tc⟩
      obtain ⟨k1, k2, k3, k4, k5, k6, k7⟩ := h.2.2.2.1 d hne
      refine ⟨hu, gd_iff.mpr ⟨by rw [← ch_th h hne]; exact g1, by rw [← k4]; exact g2, by rw [← un_ft h hu]; exact g3, by rw [← k5]; exact g4⟩⟩
    have back : ∀ d, d < 10 → Unt β1 x nms d → gdB β d = true → gdB (spβ β1 nms) d = true := by
      intro d hd hu g
      obtain ⟨g1, g2, g3, g4⟩ := gd_iff.mp g
      obtain ⟨k1, k2, k3, k4, k5, k6, k7⟩ := h.2.2.2.1 d hu.1
      refine gd_iff.mpr ⟨by rw [hs.th]; exact hu.2.2.1, ?_, by rw [hs.ft, un_ft h hu]; exact g3, by rw [sp_n _ _ (by omega), k5]; exact g4⟩
      rw [sp_4 _ _ hd, hu.2.2.2, if_neg (by decide), k4]; exact g2
    intro d hd g
    obtain ⟨hu, gb⟩ := key d hd g
    obtain ⟨i1, i2, i3⟩ := hI.2 d hd gb
    obtain ⟨k1, k2, k3, k4, k5, k6, k7⟩ := h.2.2.2.1 d hu.1
    have hf : ftI β d = 0 := (gd_iff.mp gb).2.2.1
    obtain ⟨n1, n2⟩ := un_nr hu
    have ty : tyI (spβ β1 nms) d = tyI β d := by
      refine ty_same hd hf (by rw [hs.1]; exact k1) (by rw [hs.2.1]; exact k2) (by rw [hs.2.2]; exact k3) (fun j hj hb => ?_)
      obtain ⟨d1, d2, d3, d4, d5, -, -⟩ := us_def hd hf hj hb
      have e := un_df h hj (n2 j (by omega) (by rw [ch_us h hu.1]; exact hb)) 10
      refine ⟨by rw [hs.dn]; unfold dfN; rw [e], fun hne => ?_⟩
      have nex : dfN β j ≠ x := fun z => by rw [z, (un_x h hu).1] at d5; cases d5
      obtain ⟨-, -, -, -, q5, -, q7⟩ := h.2.2.2.1 _ nex
      rw [sp_n _ _ (by omega), sp_n _ _ (by omega), q5, q7]
      exact ⟨rfl, fun _ => rfl⟩
    rw [ty, hs.fn, ch_fn h hu.1, sp_n _ _ (by omega), sp_n _ _ (by omega), sp_n _ _ (by omega), k5, k6, k7]
    refine ⟨fun e he hne hn => ?_, i2, i3⟩
    rw [hs.nd] at hn
    have hue := un_next h hu he hn
    rw [un_nd h hu] at hn
    exact back e he hue (i1 e he hne hn)
end CH
