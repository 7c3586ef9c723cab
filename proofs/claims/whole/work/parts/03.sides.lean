/-! SIDES: a world of a fixed number of cells, each by a row of Int32 -/
abbrev Me : Type := Nat → Nat → Int32
def upR (M : Me) (i : Nat) (r : Nat → Int32) : Me := fun a => if a = i then r else M a
def up2 (M : Me) (i k : Nat) (v : Int32) : Me := upR M i (upd (M i) k v)
theorem upR_s (M : Me) (i : Nat) (r : Nat → Int32) : upR M i r i = r := if_pos rfl
theorem upR_n (M : Me) {i j : Nat} (r : Nat → Int32) (h : j ≠ i) : upR M i r j = M j := if_neg h
theorem up2_s (M : Me) (i k : Nat) (v : Int32) : up2 M i k v i k = v := by simp [up2, upR, upd]
theorem up2_n (M : Me) {i k a b : Nat} (v : Int32) (h : ¬ (a = i ∧ b = k)) : up2 M i k v a b = M a b := by
  unfold up2 upR upd
  by_cases ha : a = i
  · subst ha
    rw [if_pos rfl, if_neg (fun q => h ⟨rfl, q⟩)]
  · rw [if_neg ha]
theorem up2_if (M : Me) (i k : Nat) (v : Int32) (a b : Nat) : up2 M i k v a b = if a = i ∧ b = k then v else M a b := by
  by_cases h : a = i ∧ b = k
  · rw [if_pos h, h.1, h.2, up2_s]
  · rw [if_neg h, up2_n M v h]
abbrev Sd : Type := va_G × List vw_C × List (ClassId × FieldType) × Nat × (Nat → Nat) × (Nat → (Nat → Int32) → va_E) × List Cond
abbrev sD (S : Sd) : va_G := S.1
abbrev sC (S : Sd) : List vw_C := S.2.1
abbrev sT (S : Sd) : List (ClassId × FieldType) := S.2.2.1
abbrev sN (S : Sd) : Nat := S.2.2.2.1
abbrev sa (S : Sd) : Nat → Nat := S.2.2.2.2.1
abbrev sE (S : Sd) : Nat → (Nat → Int32) → va_E := S.2.2.2.2.2.1
abbrev sW (S : Sd) : List Cond := S.2.2.2.2.2.2
def wl (S : Sd) (M : Me) : va_W := (List.range (sN S)).map (fun i => (sa S i, sE S i (M i)))
def wp (S : Sd) (M : Me) (H : Heap) : Prop := va_P (sD S) (sC S) (wl S M) H
def wS (S : Sd) (M : Me) (U : State) : Prop := wp S M U.heap ∧ va_K (sD S) (sC S) (sT S) U ∧ ∀ w ∈ sW S, va_Nw w U
def sA (S : Sd) : Nat → Prop := fun q => ∃ i, i < sN S ∧ q = sa S i
def sI (S : Sd) : Prop := ∀ i j, i < sN S → j < sN S → sa S i = sa S j → i = j
theorem wl_len (S : Sd) (M : Me) : (wl S M).length = sN S := by simp [wl]
theorem wl_at (S : Sd) (M : Me) {i : Nat} (h : i < sN S) : (wl S M)[i]? = some (sa S i, sE S i (M i)) := by
  simp only [wl, List.getElem?_map, List.getElem?_range h, Option.map_some]
theorem wl_of {S : Sd} {M : Me} {i : Nat} {q : Nat × va_E} (h : (wl S M)[i]? = some q) : i < sN S ∧ q = (sa S i, sE S i (M i)) := by
  have hl : i < (wl S M).length := (List.getElem?_eq_some_iff.mp h).1
  rw [wl_len] at hl
  rw [wl_at S M hl] at h
  exact ⟨hl, (Option.some.inj h).symm⟩
theorem wl_set (S : Sd) (M : Me) {i : Nat} (h : i < sN S) (r : Nat → Int32) : (wl S M).set i (sa S i, sE S i r) = wl S (upR M i r) := by
  apply List.ext_getElem?
  intro j
  by_cases hj : j = i
  · subst hj
    rw [List.getElem?_set_self (by rw [wl_len]; exact h), wl_at S _ h, upR_s]
  · rw [List.getElem?_set_ne (Ne.symm hj)]
    by_cases hN : j < sN S
    · rw [wl_at S _ hN, wl_at S _ hN, upR_n M r hj]
    · rw [List.getElem?_eq_none (by rw [wl_len]; omega), List.getElem?_eq_none (by rw [wl_len]; omega)]
theorem wl_D {S : Sd} (M : Me) (hI : sI S) : va_D (sA S) (wl S M) := by
  refine ⟨fun i j p q hi hj hpq => ?_, fun k q hk => ?_⟩
  · obtain ⟨h1, rfl⟩ := wl_of hi
    obtain ⟨h2, rfl⟩ := wl_of hj
    exact hI i j h1 h2 hpq
  · obtain ⟨h1, rfl⟩ := wl_of hk
    exact ⟨k, h1, rfl⟩
/-- a method's end: an answer and a new memory; nothing else has changed -/
def QC {σ : Type} (ws : σ → State → Prop) (A : Nat → Prop) (post : Option Value → σ → Prop) : Array Value → State → Outcome → State → Prop := fun _ st oc t => (∃ (r : Option Value) (M : σ), oc = .returned r ∧ post r M ∧ ws M t) ∧ va_F A st t
abbrev rm (h : Nat) : Room := { frames := h, cells := 0, slots := 0, locals := 64 * h }
def Ct {σ : Type} (l : Launch) (y : MethodName) (ts : List Cond) (h : Nat) (ws : σ → State → Prop) (A : Nat → Prop) (av : List Value) (M : σ) (post : Option Value → σ → Prop) : Prop :=
  Met l y ts (rm h) (va_Pc av (ws M)) (QC ws A post) 0 0 A
/-- the words that hold everywhere, and stay -/
def wG : List Cond := lw_tbl.filter goodWord
theorem wG_good {w : Cond} (h : w ∈ wG) : (w.onTables && w.keeps) = true ∨ ∃ ty, w = .arrayClass ty := good_of_word (List.mem_filter.mp h).2
theorem wG_in {w : Cond} (h : w ∈ lw_tbl) (hg : goodWord w = true) : w ∈ wG := List.mem_filter.mpr ⟨h, hg⟩
theorem wG_tb {w : Cond} (i : Nat) (h : tables_1[i]? = some w) (hg : goodWord w = true) : w ∈ wG := wG_in (List.mem_append_right _ (List.mem_of_getElem? h)) hg
theorem wG_goodIn {y : MethodName} {cc : ByteArray} {maxL : Nat} {ret : Option FieldType} (h : Cond.code y cc maxL ret ∈ wG) : GoodIn wG (.code y cc maxL ret :: wG) := by
  intro w hw
  rcases List.mem_cons.mp hw with rfl | hw
  · exact ⟨h, wG_good h⟩
  · exact ⟨hw, wG_good hw⟩
/-- where a method of a side stands -/
def Cx (S : Sd) (K : Cf) (own : String) (h : Nat) : Prop :=
  (ks K).vm.findClass own = some (km K).cls ∧ (∀ w ∈ wG, w.before (ka K) (ks K) = true) ∧ va_K (sD S) (sC S) (sT S) (ks K) ∧ (∀ w ∈ sW S, va_Nw w (ks K)) ∧ kA K = sA S ∧ sI S ∧ (kc K).maxLocals = kn K ∧ kR K = rm h ∧ kcs K = 0 ∧ ksl K = 0
theorem Cx.own {S : Sd} {K : Cf} {own : String} {h : Nat} (c : Cx S K own h) : (ks K).vm.findClass own = some (km K).cls := c.1
theorem Cx.ts {S : Sd} {K : Cf} {own : String} {h : Nat} (c : Cx S K own h) : ∀ w ∈ wG, w.before (ka K) (ks K) = true := c.2.1
theorem Cx.k {S : Sd} {K : Cf} {own : String} {h : Nat} (c : Cx S K own h) : va_K (sD S) (sC S) (sT S) (ks K) := c.2.2.1
theorem Cx.nw {S : Sd} {K : Cf} {own : String} {h : Nat} (c : Cx S K own h) : ∀ w ∈ sW S, va_Nw w (ks K) := c.2.2.2.1
theorem Cx.d {S : Sd} {K : Cf} {own : String} {h : Nat} (c : Cx S K own h) (M : Me) : va_D (kA K) (wl S M) := by
  rw [c.2.2.2.2.1]
  exact wl_D M c.2.2.2.2.2.1
theorem Cx.ml {S : Sd} {K : Cf} {own : String} {h : Nat} (c : Cx S K own h) : (kc K).maxLocals = kn K := c.2.2.2.2.2.2.1
theorem Cx.r {S : Sd} {K : Cf} {own : String} {h : Nat} (c : Cx S K own h) : kR K = rm h := c.2.2.2.2.2.2.2.1
section HR
variable {S : Sd} {K : Cf} {own : String} {h : Nat} {M : Me} {cc : ByteArray} {pc : Nat} {lv : List (Nat × Value)} {rest : List Value}
theorem v_get (h0 : C0 K cc) (hC : Cx S K own h) {C : String} {T : u_T} {N ci index : Nat} (hin : ∀ w ∈ u_ws C T N, w ∈ wG) (i : Nat) (hi : i < sN S) {fs : List Value} (he : sE S i (M i) = .inr (ci, fs)) (hc : (sC S)[ci]? = some (C, T, N)) (k : Nat) (hk : k < N) (hlink : Cond.fieldLink own index (T k).1 (T k).2.1 (T k).2.2.1 ∈ wG) {v : Value} (hv : fs[k]? = some v) (hdg : decode cc pc = .ok (.getfield index, 3))
    (kk : V K (wp S) M (pc + 3) lv (v :: rest)) : V K (wp S) M pc lv (.ref (sa S i) :: rest) := fun H locs ls hw hS hl =>
  va_get h0.1 h0.2 hC.ts hin hC.own hC.k hw i (by rw [wl_at S M hi, he]) hc k hk (hC.ts _ hlink) (fun _ h9 => h9) hv hdg (kk H locs ls hw hS hl)
theorem v_getN (h0 : C0 K cc) (hC : Cx S K own h) {C host : String} {T : u_T} {N ci index : Nat} (hin : ∀ w ∈ u_ws C T N, w ∈ wG) (i : Nat) (hi : i < sN S) {fs : List Value} (he : sE S i (M i) = .inr (ci, fs)) (hc : (sC S)[ci]? = some (C, T, N)) (k : Nat) (hk : k < N) (hlink : Cond.fieldLinkNest own index (T k).1 (T k).2.1 (T k).2.2.1 host ∈ sW S) {v : Value} (hv : fs[k]? = some v) (hdg : decode cc pc = .ok (.getfield index, 3))
    (kk : V K (wp S) M (pc + 3) lv (v :: rest)) : V K (wp S) M pc lv (.ref (sa S i) :: rest) := fun H locs ls hw hS hl =>
  va_getN h0.1 h0.2 hC.ts hin hC.own hC.k hw i (by rw [wl_at S M hi, he]) hc k hk (va_Nw.use rfl (hC.nw _ hlink)) (fun _ h9 => h9) hv hdg (kk H locs ls hw hS hl)
theorem wp_set {i : Nat} (hi : i < sN S) {r : Nat → Int32} {e : va_E} (hr : sE S i r = e) {H : Heap} (hP : va_P (sD S) (sC S) ((wl S M).set i (sa S i, e)) H) : wp S (upR M i r) H := by
  unfold wp
  rw [← wl_set S M hi r, hr]
  exact hP
theorem v_put (h0 : C0 K cc) (hC : Cx S K own h) {C : String} {T : u_T} {N ci index : Nat} (hin : ∀ w ∈ u_ws C T N, w ∈ wG) (ty0 : Nat → FieldType) (hty : ∀ k, k < N → parseFieldDescriptor (T k).2.2.1 = some (ty0 k)) (hnm : ∀ a, a < N → ∀ b, b < N → a ≠ b → (T a).2.1 ≠ (T b).2.1) (i : Nat) (hi : i < sN S) {fs : List Value} (he : sE S i (M i) = .inr (ci, fs)) (hc : (sC S)[ci]? = some (C, T, N)) (k : Nat) (hk : k < N) (hlink : Cond.fieldLink own index (T k).1 (T k).2.1 (T k).2.2.1 ∈ wG) (hfin : (T k).2.2.2 = false) {v : Value} (hn : narrow (ty0 k) v = v) (hfit : fits (ty0 k) v = true) (hl0 : k < fs.length) (r : Nat → Int32) (hr : sE S i r = .inr (ci, fs.set k v)) (hdg : decode cc pc = .ok (.putfield index, 3))
    (kk : V K (wp S) (upR M i r) (pc + 3) lv rest) : V K (wp S) M pc lv (v :: .ref (sa S i) :: rest) := fun H locs ls hw hS hl =>
  va_put h0.1 h0.2 hC.ts hin ty0 hty hnm hC.own hC.k hw (hC.d M) hS i (by rw [wl_at S M hi, he]) hc k hk (hC.ts _ hlink) (fun _ h9 => h9) hfin (hty k hk) hn hfit hl0 hdg (fun H1 locs1 hP1 _ hS1 => kk H1 locs1 ls (wp_set hi hr hP1) hS1 hl)
theorem v_putN (h0 : C0 K cc) (hC : Cx S K own h) {C host : String} {T : u_T} {N ci index : Nat} (hin : ∀ w ∈ u_ws C T N, w ∈ wG) (ty0 : Nat → FieldType) (hty : ∀ k, k < N → parseFieldDescriptor (T k).2.2.1 = some (ty0 k)) (hnm : ∀ a, a < N → ∀ b, b < N → a ≠ b → (T a).2.1 ≠ (T b).2.1) (i : Nat) (hi : i < sN S) {fs : List Value} (he : sE S i (M i) = .inr (ci, fs)) (hc : (sC S)[ci]? = some (C, T, N)) (k : Nat) (hk : k < N) (hlink : Cond.fieldLinkNest own index (T k).1 (T k).2.1 (T k).2.2.1 host ∈ sW S) (hfin : (T k).2.2.2 = false) {v : Value} (hn : narrow (ty0 k) v = v) (hfit : fits (ty0 k) v = true) (hl0 : k < fs.length) (r : Nat → Int32) (hr : sE S i r = .inr (ci, fs.set k v)) (hdg : decode cc pc = .ok (.putfield index, 3))
    (kk : V K (wp S) (upR M i r) (pc + 3) lv rest) : V K (wp S) M pc lv (v :: .ref (sa S i) :: rest) := fun H locs ls hw hS hl =>
  va_putN h0.1 h0.2 hC.ts hin ty0 hty hnm hC.own hC.k hw (hC.d M) hS i (by rw [wl_at S M hi, he]) hc k hk (va_Nw.use rfl (hC.nw _ hlink)) (fun _ h9 => h9) hfin (hty k hk) hn hfit hl0 hdg (fun H1 locs1 hP1 _ hS1 => kk H1 locs1 ls (wp_set hi hr hP1) hS1 hl)
theorem v_iald (h0 : C0 K cc) (hC : Cx S K own h) (i : Nat) (hi : i < sN S) {cA : ClassId} {n : Nat} (he : sE S i (M i) = .inl (cA, n, .inl (M i))) (t0 : Nat) (ht : (sT S)[t0]? = some (cA, .int)) {x : Int32} (j : Nat) (hx : x = nI j) (hj : j < n) (hn : n < 2 ^ 31) (hdg : decode cc pc = .ok (.iaload, 1))
    (kk : V K (wp S) M (pc + 1) lv (.int (M i j) :: rest)) : V K (wp S) M pc lv (.int x :: .ref (sa S i) :: rest) := by
  subst hx
  intro H locs ls hw hS hl
  refine va_iald h0.1 h0.2 hC.k hw i t0 (by rw [wl_at S M hi, he]) ht (vp_in_nI hj hn) hdg ?_
  rw [nI_clamp (by omega)]
  exact kk H locs ls hw hS hl
theorem v_cald (h0 : C0 K cc) (hC : Cx S K own h) (i : Nat) (hi : i < sN S) {cA : ClassId} {n : Nat} (he : sE S i (M i) = .inl (cA, n, .inl (M i))) (t0 : Nat) (ht : (sT S)[t0]? = some (cA, .char)) {x : Int32} (j : Nat) (hx : x = nI j) (hj : j < n) (hn : n < 2 ^ 31) (hdg : decode cc pc = .ok (.caload, 1))
    (kk : V K (wp S) M (pc + 1) lv (.int (M i j) :: rest)) : V K (wp S) M pc lv (.int x :: .ref (sa S i) :: rest) := by
  subst hx
  intro H locs ls hw hS hl
  refine va_cald h0.1 h0.2 hC.k hw i t0 (by rw [wl_at S M hi, he]) ht (vp_in_nI hj hn) hdg ?_
  rw [nI_clamp (by omega)]
  exact kk H locs ls hw hS hl
theorem v_zald (h0 : C0 K cc) (hC : Cx S K own h) (i : Nat) (hi : i < sN S) {cA : ClassId} {n : Nat} (he : sE S i (M i) = .inl (cA, n, .inl (M i))) (t0 : Nat) (ht : (sT S)[t0]? = some (cA, .boolean)) {x : Int32} (j : Nat) (hx : x = nI j) (hj : j < n) (hn : n < 2 ^ 31) (hdg : decode cc pc = .ok (.baload, 1))
    (kk : V K (wp S) M (pc + 1) lv (.int (M i j) :: rest)) : V K (wp S) M pc lv (.int x :: .ref (sa S i) :: rest) := by
  subst hx
  intro H locs ls hw hS hl
  refine va_zald h0.1 h0.2 hC.k hw i t0 (by rw [wl_at S M hi, he]) ht (vp_in_nI hj hn) hdg ?_
  rw [nI_clamp (by omega)]
  exact kk H locs ls hw hS hl
theorem v_iast (h0 : C0 K cc) (hC : Cx S K own h) (i : Nat) (hi : i < sN S) {cA : ClassId} {n : Nat} (he : ∀ r, sE S i r = .inl (cA, n, .inl r)) (t0 : Nat) (ht : (sT S)[t0]? = some (cA, .int)) {x y z : Int32} (j : Nat) (hy : y = nI j) (hz : x = z) (hj : j < n) (hn : n < 2 ^ 31) (hdg : decode cc pc = .ok (.iastore, 1))
    (kk : V K (wp S) (up2 M i j z) (pc + 1) lv rest) : V K (wp S) M pc lv (.int x :: .int y :: .ref (sa S i) :: rest) := by
  subst hy
  subst hz
  intro H locs ls hw hS hl
  refine va_iast h0.1 h0.2 hC.k hw (hC.d M) hS i t0 (by rw [wl_at S M hi, he]) ht (vp_in_nI hj hn) hdg (fun H1 locs1 hP1 _ hS1 => ?_)
  rw [nI_clamp (by omega)] at hP1
  exact kk H1 locs1 ls (wp_set hi (he _) hP1) hS1 hl
theorem v_cast (h0 : C0 K cc) (hC : Cx S K own h) (i : Nat) (hi : i < sN S) {cA : ClassId} {n : Nat} (he : ∀ r, sE S i r = .inl (cA, n, .inl r)) (t0 : Nat) (ht : (sT S)[t0]? = some (cA, .char)) {x y z : Int32} (j : Nat) (hy : y = nI j) (hz : (vp_nar .char x) = z) (hj : j < n) (hn : n < 2 ^ 31) (hdg : decode cc pc = .ok (.castore, 1))
    (kk : V K (wp S) (up2 M i j z) (pc + 1) lv rest) : V K (wp S) M pc lv (.int x :: .int y :: .ref (sa S i) :: rest) := by
  subst hy
  subst hz
  intro H locs ls hw hS hl
  refine va_cast h0.1 h0.2 hC.k hw (hC.d M) hS i t0 (by rw [wl_at S M hi, he]) ht (vp_in_nI hj hn) hdg (fun H1 locs1 hP1 _ hS1 => ?_)
  rw [nI_clamp (by omega)] at hP1
  exact kk H1 locs1 ls (wp_set hi (he _) hP1) hS1 hl
theorem v_zast (h0 : C0 K cc) (hC : Cx S K own h) (i : Nat) (hi : i < sN S) {cA : ClassId} {n : Nat} (he : ∀ r, sE S i r = .inl (cA, n, .inl r)) (t0 : Nat) (ht : (sT S)[t0]? = some (cA, .boolean)) {x y z : Int32} (j : Nat) (hy : y = nI j) (hz : (vp_nar .boolean x) = z) (hj : j < n) (hn : n < 2 ^ 31) (hdg : decode cc pc = .ok (.bastore, 1))
    (kk : V K (wp S) (up2 M i j z) (pc + 1) lv rest) : V K (wp S) M pc lv (.int x :: .int y :: .ref (sa S i) :: rest) := by
  subst hy
  subst hz
  intro H locs ls hw hS hl
  refine va_zast h0.1 h0.2 hC.k hw (hC.d M) hS i t0 (by rw [wl_at S M hi, he]) ht (vp_in_nI hj hn) hdg (fun H1 locs1 hP1 _ hS1 => ?_)
  rw [nI_clamp (by omega)] at hP1
  exact kk H1 locs1 ls (wp_set hi (he _) hP1) hS1 hl
theorem v_ald (h0 : C0 K cc) (hC : Cx S K own h) (i : Nat) (hi : i < sN S) {cA : ClassId} {n : Nat} {f : Nat → Option Nat} (he : sE S i (M i) = .inl (cA, n, .inr (.inr (.inr (.inr f))))) (t0 : Nat) {C : String} (ht : (sT S)[t0]? = some (cA, .object C)) {x : Int32} (j : Nat) (hx : x = nI j) (hj : j < n) (hn : n < 2 ^ 31) {v : Value} (hv : va_rf (f j) = v) (hdg : decode cc pc = .ok (.aaload, 1))
    (kk : V K (wp S) M (pc + 1) lv (v :: rest)) : V K (wp S) M pc lv (.int x :: .ref (sa S i) :: rest) := by
  subst hx
  subst hv
  intro H locs ls hw hS hl
  refine va_aldq h0.1 h0.2 hC.k hw i t0 (by rw [wl_at S M hi, he]) ht (vp_in_nI hj hn) hdg ?_
  rw [nI_clamp (by omega)]
  exact kk H locs ls hw hS hl
theorem v_ast (h0 : C0 K cc) (hC : Cx S K own h) (i : Nat) (hi : i < sN S) {cA : ClassId} {n : Nat} {f : Nat → Option Nat} (he : sE S i (M i) = .inl (cA, n, .inr (.inr (.inr (.inr f))))) (t0 : Nat) {q : vw_C} (ht : (sT S)[t0]? = some (cA, .object q.1)) (iv : Nat) (hiv : iv < sN S) {ci : Nat} {vs : List Value} (hev : sE S iv (M iv) = .inr (ci, vs)) (hc : (sC S)[ci]? = some q) {x : Int32} (j : Nat) (hx : x = nI j) (hj : j < n) (hn : n < 2 ^ 31) (r : Nat → Int32) (hr : sE S i r = .inl (cA, n, .inr (.inr (.inr (.inr (va_up f j (some (sa S iv)))))))) (hdg : decode cc pc = .ok (.aastore, 1))
    (kk : V K (wp S) (upR M i r) (pc + 1) lv rest) : V K (wp S) M pc lv (.ref (sa S iv) :: .int x :: .ref (sa S i) :: rest) := by
  subst hx
  intro H locs ls hw hS hl
  refine va_astq h0.1 h0.2 hC.k hw (hC.d M) hS i t0 iv ci (by rw [wl_at S M hi, he]) ht (by rw [wl_at S M hiv, hev]) hc (vp_in_nI hj hn) hdg (fun H1 locs1 hP1 _ hS1 => ?_)
  rw [nI_clamp (by omega)] at hP1
  exact kk H1 locs1 ls (wp_set hi hr hP1) hS1 hl
theorem v_astN (h0 : C0 K cc) (hC : Cx S K own h) (i : Nat) (hi : i < sN S) {cA : ClassId} {n : Nat} {f : Nat → Option Nat} (he : sE S i (M i) = .inl (cA, n, .inr (.inr (.inr (.inr f))))) (t0 : Nat) {C : String} (ht : (sT S)[t0]? = some (cA, .object C)) {x : Int32} (j : Nat) (hx : x = nI j) (hj : j < n) (hn : n < 2 ^ 31) (r : Nat → Int32) (hr : sE S i r = .inl (cA, n, .inr (.inr (.inr (.inr (va_up f j none)))))) (hdg : decode cc pc = .ok (.aastore, 1))
    (kk : V K (wp S) (upR M i r) (pc + 1) lv rest) : V K (wp S) M pc lv (.null :: .int x :: .ref (sa S i) :: rest) := by
  subst hx
  intro H locs ls hw hS hl
  refine va_astqN h0.1 h0.2 hC.k hw (hC.d M) hS i t0 (by rw [wl_at S M hi, he]) ht (vp_in_nI hj hn) hdg (fun H1 locs1 hP1 _ hS1 => ?_)
  rw [nI_clamp (by omega)] at hP1
  exact kk H1 locs1 ls (wp_set hi hr hP1) hS1 hl
end HR
