/-! THE REFERENCE READS: an expression -/
theorem LO_2 (s l : Nat → Int32) (d k : Nat) (h : kd (s k) = 2) : LO s l (d + 1) k = (l k = 0 ∧ (LO s l d (k + 1) ∧ LO s l d (EN s d (k + 1)))) := by simp only [LO, h]
theorem LO_1 (s l : Nat → Int32) (d k : Nat) (h : kd (s k) = 1) : LO s l (d + 1) k = (l k = 0 ∧ (LO s l d (k + 1))) := by simp only [LO, h]
theorem LO_3 (s l : Nat → Int32) (d k : Nat) (h : kd (s k) = 3) : LO s l (d + 1) k = (l k = 0 ∧ (LO s l d (k + 1) ∧ LO s l d (EN s d (k + 1)) ∧ LO s l d (EN s d (EN s d (k + 1))))) := by simp only [LO, h]
theorem LO_4 (s l : Nat → Int32) (d k : Nat) (h : kd (s k) = 4) : LO s l (d + 1) k = (l k = 0 ∧ (l (k + 1) = 1 ∧ LO s l d (k + 2) ∧ LO s l d (EN s d (k + 2)))) := by simp only [LO, h]
theorem LO_5 (s l : Nat → Int32) (d k : Nat) (h : kd (s k) = 5) : LO s l (d + 1) k = (l k = 0 ∧ (l (k + 1) = 1 ∧ LO s l d (k + 2))) := by simp only [LO, h]
theorem LO_6 (s l : Nat → Int32) (d k : Nat) (h : kd (s k) = 6) : LO s l (d + 1) k = (l k = 0 ∧ (LO s l d (k + 1) ∧ l (EN s d (k + 1)) = 1 ∧ LO s l d (EN s d (k + 1) + 1) ∧ l (EN s d (EN s d (k + 1) + 1)) = 1 ∧ LO s l d (EN s d (EN s d (k + 1) + 1) + 1))) := by simp only [LO, h]
theorem LO_7 (s l : Nat → Int32) (d k : Nat) (h : kd (s k) = 7) : LO s l (d + 1) k = (l k = 0 ∧ (True)) := by simp only [LO, h]
theorem LO_8 (s l : Nat → Int32) (d k : Nat) (h : kd (s k) = 8) : LO s l (d + 1) k = (l k = 0 ∧ (True)) := by simp only [LO, h]
theorem LO_9 (s l : Nat → Int32) (d k : Nat) (h : kd (s k) = 9) : LO s l (d + 1) k = (l k = 0 ∧ (True)) := by simp only [LO, h]
theorem LO_same {s l l' : Nat → Int32} {n : Nat} : ∀ (d : Nat) (b : Nat → Bool) (k : Nat), OK s n d b k = true → (∀ j, k ≤ j → j < EN s d k → l' j = l j) → LO s l d k → LO s l' d k := by
  intro d
  induction d with
  | zero => intro b k h; simp [OK] at h
  | succ d ih =>
    intro b k h hj ho
    have hE := OK_ends s n (d + 1) b k h
    rcases OK_kd h with q | q | q | q | q | q | q | q | q
    · rw [OK_2 s n d b k q] at h
      simp only [Bool.and_eq_true] at h
      rw [LO_2 s l d k q] at ho
      rw [LO_2 s l' d k q, hj k (Nat.le_refl _) hE.1]
      rw [EN_2 s d k q] at hj hE
      have e0 := OK_ends s n _ _ _ h.2.1
      have e1 := OK_ends s n _ _ _ h.2.2
      exact ⟨ho.1, ih _ _ h.2.1 (fun j a b => hj j (by omega) (by omega)) ho.2.1, ih _ _ h.2.2 (fun j a b => hj j (by omega) (by omega)) ho.2.2⟩
    · rw [OK_1 s n d b k q] at h
      simp only [Bool.and_eq_true] at h
      rw [LO_1 s l d k q] at ho
      rw [LO_1 s l' d k q, hj k (Nat.le_refl _) hE.1]
      rw [EN_1 s d k q] at hj hE
      have e0 := OK_ends s n _ _ _ h.2
      exact ⟨ho.1, ih _ _ h.2 (fun j a b => hj j (by omega) (by omega)) ho.2⟩
    · rw [OK_3 s n d b k q] at h
      simp only [Bool.and_eq_true] at h
      rw [LO_3 s l d k q] at ho
      rw [LO_3 s l' d k q, hj k (Nat.le_refl _) hE.1]
      rw [EN_3 s d k q] at hj hE
      have e0 := OK_ends s n _ _ _ h.2.1
      have e1 := OK_ends s n _ _ _ h.2.2.1
      have e2 := OK_ends s n _ _ _ h.2.2.2
      exact ⟨ho.1, ih _ _ h.2.1 (fun j a b => hj j (by omega) (by omega)) ho.2.1, ih _ _ h.2.2.1 (fun j a b => hj j (by omega) (by omega)) ho.2.2.1, ih _ _ h.2.2.2 (fun j a b => hj j (by omega) (by omega)) ho.2.2.2⟩
    · rw [OK_4 s n d b k q] at h
      simp only [Bool.and_eq_true] at h
      rw [LO_4 s l d k q] at ho
      rw [LO_4 s l' d k q, hj k (Nat.le_refl _) hE.1]
      rw [EN_4 s d k q] at hj hE
      have e0 := OK_ends s n _ _ _ h.2.2.1
      have e1 := OK_ends s n _ _ _ h.2.2.2
      exact ⟨ho.1, (hj _ (by omega) (by omega)).trans ho.2.1, ih _ _ h.2.2.1 (fun j a b => hj j (by omega) (by omega)) ho.2.2.1, ih _ _ h.2.2.2 (fun j a b => hj j (by omega) (by omega)) ho.2.2.2⟩
    · rw [OK_5 s n d b k q] at h
      simp only [Bool.and_eq_true] at h
      rw [LO_5 s l d k q] at ho
      rw [LO_5 s l' d k q, hj k (Nat.le_refl _) hE.1]
      rw [EN_5 s d k q] at hj hE
      have e0 := OK_ends s n _ _ _ h.2.2
      exact ⟨ho.1, (hj _ (by omega) (by omega)).trans ho.2.1, ih _ _ h.2.2 (fun j a b => hj j (by omega) (by omega)) ho.2.2⟩
    · rw [OK_6 s n d b k q] at h
      simp only [Bool.and_eq_true] at h
      rw [LO_6 s l d k q] at ho
      rw [LO_6 s l' d k q, hj k (Nat.le_refl _) hE.1]
      rw [EN_6 s d k q] at hj hE
      have e0 := OK_ends s n _ _ _ h.2.1
      have e1 := OK_ends s n _ _ _ h.2.2.2.1
      have e2 := OK_ends s n _ _ _ h.2.2.2.2.2
      exact ⟨ho.1, ih _ _ h.2.1 (fun j a b => hj j (by omega) (by omega)) ho.2.1, (hj _ (by omega) (by omega)).trans ho.2.2.1, ih _ _ h.2.2.2.1 (fun j a b => hj j (by omega) (by omega)) ho.2.2.2.1, (hj _ (by omega) (by omega)).trans ho.2.2.2.2.1, ih _ _ h.2.2.2.2.2 (fun j a b => hj j (by omega) (by omega)) ho.2.2.2.2.2⟩
    · rw [LO_7 s l d k q] at ho
      rw [LO_7 s l' d k q, hj k (Nat.le_refl _) hE.1]
      exact ho
    · rw [LO_8 s l d k q] at ho
      rw [LO_8 s l' d k q, hj k (Nat.le_refl _) hE.1]
      exact ho
    · rw [LO_9 s l d k q] at ho
      rw [LO_9 s l' d k q, hj k (Nat.le_refl _) hE.1]
      exact ho
def RF (M M' : Me) (c : Nat) : Prop := (∀ i, i ≠ 0 → i ≠ 6 → i ≠ 8 → i ≠ 14 → i ≠ 15 → M' i = M i) ∧ (∀ k, k ≠ 16 → k ≠ 17 → M' 0 k = M 0 k) ∧ (∀ j, j ≠ c → M' 8 j = M 8 j) ∧ ∀ p, (p < 24 * c ∨ 24 * c + 24 ≤ p) → M' 6 p = M 6 p
theorem up2_q (M : Me) {i k a : Nat} (v : Int32) (h : a ≠ i) : up2 M i k v a = M a := upR_n _ _ h
section RFS
variable {M M1 M2 : Me} {c : Nat}
theorem RF.refl (M : Me) (c : Nat) : RF M M c := ⟨fun _ _ _ _ _ _ => rfl, fun _ _ _ => rfl, fun _ _ => rfl, fun _ _ => rfl⟩
theorem RF.trans (h : RF M M1 c) (k : RF M1 M2 c) : RF M M2 c := ⟨fun i a b d e f => (k.1 i a b d e f).trans (h.1 i a b d e f), fun i a b => (k.2.1 i a b).trans (h.2.1 i a b), fun i a => (k.2.2.1 i a).trans (h.2.2.1 i a), fun i a => (k.2.2.2 i a).trans (h.2.2.2 i a)⟩
theorem RF.u17 (h : RF M M1 c) (v : Int32) : RF M (up2 M1 0 17 v) c := h.trans ⟨fun i a _ _ _ _ => up2_q _ _ a, fun k _ b => up2_n _ _ (fun z => b z.2), fun j _ => up2_n _ _ (by omega), fun p _ => up2_n _ _ (by omega)⟩
theorem RF.u16 (h : RF M M1 c) (v : Int32) : RF M (up2 M1 0 16 v) c := h.trans ⟨fun i a _ _ _ _ => up2_q _ _ a, fun k b _ => up2_n _ _ (fun z => b z.2), fun j _ => up2_n _ _ (by omega), fun p _ => up2_n _ _ (by omega)⟩
theorem RF.u14 (h : RF M M1 c) (j : Nat) (v : Int32) : RF M (up2 M1 14 j v) c := h.trans ⟨fun i _ _ _ a _ => up2_q _ _ a, fun k b _ => up2_n _ _ (by omega), fun j _ => up2_n _ _ (by omega), fun p _ => up2_n _ _ (by omega)⟩
theorem RF.u15 (h : RF M M1 c) (j : Nat) (v : Int32) : RF M (up2 M1 15 j v) c := h.trans ⟨fun i _ _ _ _ a => up2_q _ _ a, fun k b _ => up2_n _ _ (by omega), fun j _ => up2_n _ _ (by omega), fun p _ => up2_n _ _ (by omega)⟩
theorem RF.u8 (h : RF M M1 c) (v : Int32) : RF M (up2 M1 8 c v) c := h.trans ⟨fun i _ _ a _ _ => up2_q _ _ a, fun k b _ => up2_n _ _ (by omega), fun j b => up2_n _ _ (fun z => b z.2), fun p _ => up2_n _ _ (by omega)⟩
theorem RF.u6 (h : RF M M1 c) {p : Nat} (hp : p < 24) (v : Int32) : RF M (up2 M1 6 (24 * c + p) v) c := h.trans ⟨fun i _ a _ _ _ => up2_q _ _ a, fun k b _ => up2_n _ _ (by omega), fun j b => up2_n _ _ (by omega), fun p _ => up2_n _ _ (by omega)⟩
theorem RF.psh (h : RF M M1 c) (t : Nat) (v : Int32) : RF M (psh M1 t v) c := (h.u14 t v).u17 _
theorem RF.op (h : RF M M1 c) (t ne : Nat) : RF M (opM M1 t ne) c := (h.psh t _).u16 _
theorem TR.rf {s : Nat → Int32} {n : Nat} (h : RF M M1 c) (hT : TR M c s n) : TR M1 c s n := ⟨by rw [h.1 3 (by omega) (by omega) (by omega) (by omega) (by omega)]; exact hT.1, hT.2.1, fun k hk => by rw [h.1 2 (by omega) (by omega) (by omega) (by omega) (by omega)]; exact hT.2.2.1 k hk, hT.2.2.2⟩
/-- from the loop's head to its head: what is done is off the stack -/
def RQ (c t : Nat) (M M' : Me) (u : Int32) (a e : Nat) : Prop := RF M M' c ∧ M' 0 17 = nI t ∧ M' 0 16 = M 0 16 ∧ (∀ j, j < 6 → M' 15 j = M 15 j) ∧ (∀ i, i < t → M' 14 i = M 14 i) ∧ M' 8 c = M 8 c ||| u ∧ ∀ p, (p < a ∨ e ≤ p) → M' 6 (24 * c + p) = M 6 (24 * c + p)
theorem or_a (x y z : Int32) : (x ||| y) ||| z = x ||| (y ||| z) := b_ext (fun i _ => by simp only [b_or, Bool.or_assoc])
theorem or_0 (x : Int32) : x ||| 0 = x := b_ext (fun i _ => by rw [b_or, b_0, Bool.or_false])
theorem or_00 (x : Int32) : 0 ||| x = x := b_ext (fun i _ => by rw [b_or, b_0, Bool.false_or])
theorem RQ.trans {t t' : Nat} {u v : Int32} {a e a' e' : Nat} (h : RQ c t M M1 u a e) (k : RQ c t' M1 M2 v a' e') (h1 : t' ≤ t) (h2 : a ≤ a') (h3 : e ≤ e') : RQ c t' M M2 (u ||| v) a e' := by
  obtain ⟨x1, x2, x3, x4, x5, x6, x7⟩ := h
  obtain ⟨y1, y2, y3, y4, y5, y6, y7⟩ := k
  exact ⟨x1.trans y1, y2, y3.trans x3, fun j hj => (y4 j hj).trans (x4 j hj), fun i hi => (y5 i hi).trans (x5 i (by omega)), by rw [y6, x6, or_a], fun p hp => (y7 p (by omega)).trans (x7 p (by omega))⟩
theorem RQ.weak {t : Nat} {u : Int32} {a e a' : Nat} (h : RQ c t M M1 u a e) (h1 : a' ≤ a) : RQ c t M M1 u a' e := ⟨h.1, h.2.1, h.2.2.1, h.2.2.2.1, h.2.2.2.2.1, h.2.2.2.2.2.1, fun p hp => h.2.2.2.2.2.2 p (by omega)⟩
theorem RQ.dig {t : Nat} {p : Nat} (hp : p < 24) (M : Me) : RQ c t M (up2 (up2 M 0 17 (nI t)) 6 (24 * c + p) 1) 0 p (p + 1) :=
  ⟨((RF.refl M c).u17 _).u6 hp _, by rw [up2_n _ _ (by omega), up2_s], by rw [up2_n _ _ (by omega), up2_n _ _ (by omega)], fun j _ => by rw [up2_n _ _ (by omega), up2_n _ _ (by omega)], fun j _ => by rw [up2_n _ _ (by omega), up2_n _ _ (by omega)], by rw [up2_n _ _ (by omega), up2_n _ _ (by omega), or_0], fun q hq => by rw [up2_n _ _ (by omega), up2_n _ _ (by omega)]⟩
theorem RQ.sand {t t1 t2 t3 : Nat} {u v : Int32} {a e a' e' l q : Nat} {MB M3 : Me} (h : RQ c t M M1 u a e) (hb : M1 15 l = nI q) (hB : MB = up2 (up2 M1 0 17 (nI t1)) 15 l (nI (q + 1))) (k : RQ c t2 MB M3 v a' e') (h1 : t3 ≤ t2) (h4 : t2 ≤ t) (h2 : a ≤ a') (h3 : e ≤ e') : RQ c t3 M (up2 (up2 M3 0 17 (nI t3)) 15 l (nI q)) (u ||| v) a e' := by
  subst hB
  obtain ⟨x1, x2, x3, x4, x5, x6, x7⟩ := h
  obtain ⟨y1, y2, y3, y4, y5, y6, y7⟩ := k
  refine ⟨((x1.trans (((RF.refl M1 c).u17 _).u15 l _)).trans ((y1.u17 _).u15 l _)), by rw [up2_n _ _ (by omega), up2_s], ?_, fun j hj => ?_, fun i hi => ?_, ?_, fun p hp => ?_⟩
  · rw [up2_n _ _ (by omega), up2_n _ _ (by omega), y3, up2_n _ _ (by omega), up2_n _ _ (by omega), x3]
  · by_cases z : j = l
    · subst z; rw [up2_s, ← hb]; exact x4 j hj
    · rw [up2_n _ _ (by omega), up2_n _ _ (by omega), y4 j hj, up2_n _ _ (by omega), up2_n _ _ (by omega), x4 j hj]
  · rw [up2_n _ _ (by omega), up2_n _ _ (by omega), y5 i (by omega), up2_n _ _ (by omega), up2_n _ _ (by omega), x5 i (by omega)]
  · rw [up2_n _ _ (by omega), up2_n _ _ (by omega), y6, up2_n _ _ (by omega), up2_n _ _ (by omega), x6, or_a]
  · rw [up2_n _ _ (by omega), up2_n _ _ (by omega), y7 p (by omega), up2_n _ _ (by omega), up2_n _ _ (by omega), x7 p (by omega)]
/-- behind the sign of an expression with parts -/
def RO (c t ne : Nat) (M M' : Me) (u : Int32) (a e : Nat) : Prop := RF M M' c ∧ M' 0 16 = nI (ne + 1) ∧ M 0 16 = nI ne ∧ (∀ j, j < 6 → M' 15 j = M 15 j) ∧ (∀ i, i < t → M' 14 i = M 14 i) ∧ M' 14 t = nI 3 ∧ M' 8 c = M 8 c ||| u ∧ ∀ p, (p < a ∨ e ≤ p) → M' 6 (24 * c + p) = M 6 (24 * c + p)
theorem RO.op {t ne a e : Nat} (h : M 0 16 = nI ne) : RO c t ne M (opM (up2 M 0 17 (nI t)) t ne) 0 a e :=
  ⟨((RF.refl M c).u17 _).op t ne, by unfold opM; rw [up2_s], h, fun j hj => by unfold opM psh; rw [up2_n _ _ (by omega), up2_n _ _ (by omega), up2_n _ _ (by omega), up2_n _ _ (by omega)], fun j hj => by unfold opM psh; rw [up2_n _ _ (by omega), up2_n _ _ (by omega), up2_n _ _ (by omega), up2_n _ _ (by omega)], by unfold opM psh; rw [up2_n _ _ (by omega), up2_n _ _ (by omega), up2_s], by unfold opM psh; rw [up2_n _ _ (by omega), up2_n _ _ (by omega), up2_n _ _ (by omega), up2_n _ _ (by omega), or_0], fun p _ => by unfold opM psh; rw [up2_n _ _ (by omega), up2_n _ _ (by omega), up2_n _ _ (by omega), up2_n _ _ (by omega)]⟩
theorem RO.push {t ne a e i : Nat} {u : Int32} (h : RO c t ne M M1 u a e) (hi : t < i) (x : Int32) : RO c t ne M (psh M1 i x) u a e := by
  obtain ⟨x1, x2, x3, x4, x5, x6, x7, x8⟩ := h
  unfold psh
  exact ⟨x1.psh i x, by rw [up2_n _ _ (by omega), up2_n _ _ (by omega), x2], x3, fun j hj => by rw [up2_n _ _ (by omega), up2_n _ _ (by omega), x4 j hj], fun j hj => by rw [up2_n _ _ (by omega), up2_n _ _ (by omega), x5 j hj], by rw [up2_n _ _ (by omega), up2_n _ _ (by omega), x6], by rw [up2_n _ _ (by omega), up2_n _ _ (by omega), x7], fun p hp => by rw [up2_n _ _ (by omega), up2_n _ _ (by omega), x8 p hp]⟩
theorem RO.lab {t ne a e p : Nat} {u : Int32} (h : RO c t ne M M1 u a e) (hp : p < 24) (h1 : a ≤ p) (h2 : p < e) (x : Int32) : RO c t ne M (up2 M1 6 (24 * c + p) x) u a e := by
  obtain ⟨x1, x2, x3, x4, x5, x6, x7, x8⟩ := h
  exact ⟨x1.u6 hp x, by rw [up2_n _ _ (by omega), x2], x3, fun j hj => by rw [up2_n _ _ (by omega), x4 j hj], fun j hj => by rw [up2_n _ _ (by omega), x5 j hj], by rw [up2_n _ _ (by omega), x6], by rw [up2_n _ _ (by omega), x7], fun p hp => by rw [up2_n _ _ (by omega), x8 p hp]⟩
theorem RO.us {t ne a e : Nat} {u : Int32} (h : RO c t ne M M1 u a e) (x : Int32) : RO c t ne M (up2 M1 8 c (M1 8 c ||| x)) (u ||| x) a e := by
  obtain ⟨x1, x2, x3, x4, x5, x6, x7, x8⟩ := h
  exact ⟨x1.u8 _, by rw [up2_n _ _ (by omega), x2], x3, fun j hj => by rw [up2_n _ _ (by omega), x4 j hj], fun j hj => by rw [up2_n _ _ (by omega), x5 j hj], by rw [up2_n _ _ (by omega), x6], by rw [up2_s, x7, or_a], fun p hp => by rw [up2_n _ _ (by omega), x8 p hp]⟩
theorem RO.close {t ne a e a' e' : Nat} {u v : Int32} (h : RO c t ne M M1 u a e) (k : RQ c (t + 1) M1 M2 v a' e') (h2 : a ≤ a') (h3 : e ≤ e') : M2 0 17 = nI (t + 1) ∧ M2 14 t = nI 3 ∧ M2 0 16 = nI (ne + 1) ∧ RQ c t M (up2 (up2 M2 0 17 (nI t)) 0 16 (nI ne)) (u ||| v) a e' := by
  obtain ⟨x1, x2, x3, x4, x5, x6, x7, x8⟩ := h
  obtain ⟨y1, y2, y3, y4, y5, y6, y7⟩ := k
  refine ⟨y2, (y5 t (by omega)).trans x6, y3.trans x2, ((x1.trans y1).u17 _).u16 _, ?_, ?_, fun j hj => ?_, fun i hi => ?_, ?_, fun p hp => ?_⟩
  · rw [up2_n _ _ (by omega), up2_s]
  · rw [up2_s, x3]
  · rw [up2_n _ _ (by omega), up2_n _ _ (by omega), y4 j hj, x4 j hj]
  · rw [up2_n _ _ (by omega), up2_n _ _ (by omega), y5 i (by omega), x5 i hi]
  · rw [up2_n _ _ (by omega), up2_n _ _ (by omega), y6, x7, or_a]
  · rw [up2_n _ _ (by omega), up2_n _ _ (by omega), y7 p (by omega), x8 p (by omega)]
end RFS
def lbR (M : Me) (c : Nat) : Nat → Int32 := fun p => M 6 (24 * c + p)
def RP (s : Nat → Int32) (d k c t : Nat) (M M' : Me) : Prop := RQ c t M M' (NM s d k) k (EN s d k) ∧ LO s (lbR M' c) d k
def hB (bc : Nat → Nat) : Nat → Bool := fun j => decide (0 < bc j)
def RdE (K : Cf) (g : Gd) (c : Nat) (s : Nat → Int32) (n d : Nat) : Prop := ∀ (M : Me) (t k : Nat) (bc : Nat → Nat), TR M c s n → k ≤ 24 → M 0 17 = nI (t + 1) → M 14 t = nI 1 → t + 6 * d ≤ 40 → M 0 16 = nI (6 - d) → (∀ j, j < 6 → M 15 j = nI (bc j) ∧ bc j + d ≤ 7) → (∀ p, k ≤ p → p < 24 → lbR M c p = 0) →
  (OK s n d (hB bc) k = true → ∀ M', RP s d k c t M M' → V K (wp (sR g)) M' 116 [(2, .int (nI (EN s d k))), (0, .ref (ga g 0)), (1, .int (nI c))] []) →
  (OK s n d (hB bc) k = false → ∀ M', RF M M' c → V K (wp (sR g)) M' 284 [(2, .int (-1)), (0, .ref (ga g 0)), (1, .int (nI c))] []) → V K (wp (sR g)) M 116 [(2, .int (nI k)), (0, .ref (ga g 0)), (1, .int (nI c))] []
theorem cl_lo {M : Me} {c ne t : Nat} {s : Nat → Int32} {d k : Nat} (h : LO s (lbR M c) d k) : LO s (lbR (up2 (up2 M 0 17 (nI t)) 0 16 (nI ne)) c) d k := by
  have e : lbR (up2 (up2 M 0 17 (nI t)) 0 16 (nI ne)) c = lbR M c := by funext p; unfold lbR; rw [up2_n _ _ (by omega), up2_n _ _ (by omega)]
  rw [e]; exact h
section RX
variable {K : Cf} {g : Gd} {c n : Nat} {s : Nat → Int32}
theorem RdE_b (hI : sI (sR g)) (h0 : C0 K c_Mo_reads) (hC : Cx (sR g) K gC_Mo 3) (hn : kn K = 4) (hc : c < 10) : RdE K g c s n 0 := by
  intro M t k bc hT hk ht hw hts hne hbc hlb good bad
  refine rs_E hI h0 hC hn hc (by omega) ht (by omega) hw (m_Mo_readOne_x (kl K) g hI (up2 M 0 17 (nI t)) hc (by omega) (hT.rf ((RF.refl M c).u17 _)) (by rw [up2_n _ _ (by omega)]; exact hne)) ?_
  exact rs_end h0 hC hn (bad rfl _ ((RF.refl M c).u17 _))
set_option maxHeartbeats 4000000 in
theorem RdE_7 (hI : sI (sR g)) (h0 : C0 K c_Mo_reads) (hC : Cx (sR g) K gC_Mo 3) (hn : kn K = 4) (hc : c < 10) {d : Nat} (ih : RdE K g c s n d) (M : Me) (t k : Nat) (bc : Nat → Nat) (hT : TR M c s n) (hk : k ≤ 24) (ht : M 0 17 = nI (t + 1)) (hw : M 14 t = nI 1) (hts : t + 6 * (d + 1) ≤ 40) (hne : M 0 16 = nI (6 - (d + 1))) (hbc : ∀ j, j < 6 → M 15 j = nI (bc j) ∧ bc j + (d + 1) ≤ 7) (hlb : ∀ p, k ≤ p → p < 24 → lbR M c p = 0)
  (good : OK s n (d + 1) (hB bc) k = true → ∀ M', RP s (d + 1) k c t M M' → V K (wp (sR g)) M' 116 [(2, .int (nI (EN s (d + 1) k))), (0, .ref (ga g 0)), (1, .int (nI c))] [])
  (bad : OK s n (d + 1) (hB bc) k = false → ∀ M', RF M M' c → V K (wp (sR g)) M' 284 [(2, .int (-1)), (0, .ref (ga g 0)), (1, .int (nI c))] []) (hx : kd (chR s n k) = 7) : V K (wp (sR g)) M 116 [(2, .int (nI k)), (0, .ref (ga g 0)), (1, .int (nI c))] [] := by
  have hn24 := hT.2.1
  have hTA : TR (up2 M 0 17 (nI t)) c s n := hT.rf ((RF.refl M c).u17 _)
  have hneA : up2 M 0 17 (nI t) 0 16 = nI (5 - d) := by rw [up2_n _ _ (by omega), hne]; congr 1; omega
  have htA : up2 M 0 17 (nI t) 0 17 = nI t := up2_s _ _ _ _
  have hneM : M 0 16 = nI (5 - d) := by rw [hne]; congr 1; omega
  obtain ⟨hkn, hsk⟩ := chR_k hx (by decide)
  have hs : kd (s k) = 7 := by rw [← hsk]; exact hx
  refine rs_E hI h0 hC hn hc (by omega) ht (by omega) hw (m_Mo_readOne_7 (kl K) g hI (up2 M 0 17 (nI t)) hc (by omega) hTA htA (by omega) hneA (by omega) hx) ?_
  have e := good (by rw [OK_7 _ _ _ _ _ hs, decide_eq_true hkn]; rfl) (up2 M 0 17 (nI t)) (by unfold RP; rw [NM_7 _ _ _ hs, EN_7 _ _ _ hs, LO_7 _ _ _ _ hs]; exact ⟨(show RQ c t M (up2 M 0 17 (nI t)) 0 k (k + 1) from ⟨(RF.refl M c).u17 _, up2_s _ _ _ _, up2_n _ _ (by omega), fun j _ => up2_n _ _ (by omega), fun j _ => up2_n _ _ (by omega), by rw [up2_n _ _ (by omega), or_0], fun p _ => up2_n _ _ (by omega)⟩), (show lbR (up2 M 0 17 (nI t)) c k = 0 from (up2_n _ _ (by omega)).trans (hlb k (Nat.le_refl _) (by omega))), trivial⟩)
  rw [EN_7 _ _ _ hs] at e
  exact e
set_option maxHeartbeats 4000000 in
theorem RdE_8 (hI : sI (sR g)) (h0 : C0 K c_Mo_reads) (hC : Cx (sR g) K gC_Mo 3) (hn : kn K = 4) (hc : c < 10) {d : Nat} (ih : RdE K g c s n d) (M : Me) (t k : Nat) (bc : Nat → Nat) (hT : TR M c s n) (hk : k ≤ 24) (ht : M 0 17 = nI (t + 1)) (hw : M 14 t = nI 1) (hts : t + 6 * (d + 1) ≤ 40) (hne : M 0 16 = nI (6 - (d + 1))) (hbc : ∀ j, j < 6 → M 15 j = nI (bc j) ∧ bc j + (d + 1) ≤ 7) (hlb : ∀ p, k ≤ p → p < 24 → lbR M c p = 0)
  (good : OK s n (d + 1) (hB bc) k = true → ∀ M', RP s (d + 1) k c t M M' → V K (wp (sR g)) M' 116 [(2, .int (nI (EN s (d + 1) k))), (0, .ref (ga g 0)), (1, .int (nI c))] [])
  (bad : OK s n (d + 1) (hB bc) k = false → ∀ M', RF M M' c → V K (wp (sR g)) M' 284 [(2, .int (-1)), (0, .ref (ga g 0)), (1, .int (nI c))] []) (hx : kd (chR s n k) = 8) : V K (wp (sR g)) M 116 [(2, .int (nI k)), (0, .ref (ga g 0)), (1, .int (nI c))] [] := by
  have hn24 := hT.2.1
  have hTA : TR (up2 M 0 17 (nI t)) c s n := hT.rf ((RF.refl M c).u17 _)
  have hneA : up2 M 0 17 (nI t) 0 16 = nI (5 - d) := by rw [up2_n _ _ (by omega), hne]; congr 1; omega
  have htA : up2 M 0 17 (nI t) 0 17 = nI t := up2_s _ _ _ _
  have hneM : M 0 16 = nI (5 - d) := by rw [hne]; congr 1; omega
  obtain ⟨hkn, hsk⟩ := chR_k hx (by decide)
  have hs : kd (s k) = 8 := by rw [← hsk]; exact hx
  refine rs_E hI h0 hC hn hc (by omega) ht (by omega) hw (m_Mo_readOne_8 (kl K) g hI (up2 M 0 17 (nI t)) hc (by omega) hTA htA (by omega) hneA (by omega) hx) ?_
  have e := good (by rw [OK_8 _ _ _ _ _ hs, decide_eq_true hkn]; rfl) _ (show RP s (d + 1) k c t M (up2 (up2 M 0 17 (nI t)) 8 c (up2 M 0 17 (nI t) 8 c ||| (1 <<< (nI (nmI (chR s n k)) &&& 31)))) from ?_)
  · rw [EN_8 _ _ _ hs] at e
    exact e
  · unfold RP
    rw [NM_8 _ _ _ hs, EN_8 _ _ _ hs, LO_8 _ _ _ _ hs, ← hsk]
    refine ⟨⟨((RF.refl M c).u17 _).u8 _, by rw [up2_n _ _ (by omega), up2_s], by rw [up2_n _ _ (by omega), up2_n _ _ (by omega)], fun j _ => by rw [up2_n _ _ (by omega), up2_n _ _ (by omega)], fun j _ => by rw [up2_n _ _ (by omega), up2_n _ _ (by omega)], by rw [up2_s, up2_n _ _ (by omega)], fun p _ => by rw [up2_n _ _ (by omega), up2_n _ _ (by omega)]⟩, ?_, trivial⟩
    exact (up2_n _ _ (by omega)).trans (show lbR (up2 M 0 17 (nI t)) c k = 0 from (up2_n _ _ (by omega)).trans (hlb k (Nat.le_refl _) (by omega)))
set_option maxHeartbeats 4000000 in
theorem RdE_9 (hI : sI (sR g)) (h0 : C0 K c_Mo_reads) (hC : Cx (sR g) K gC_Mo 3) (hn : kn K = 4) (hc : c < 10) {d : Nat} (ih : RdE K g c s n d) (M : Me) (t k : Nat) (bc : Nat → Nat) (hT : TR M c s n) (hk : k ≤ 24) (ht : M 0 17 = nI (t + 1)) (hw : M 14 t = nI 1) (hts : t + 6 * (d + 1) ≤ 40) (hne : M 0 16 = nI (6 - (d + 1))) (hbc : ∀ j, j < 6 → M 15 j = nI (bc j) ∧ bc j + (d + 1) ≤ 7) (hlb : ∀ p, k ≤ p → p < 24 → lbR M c p = 0)
  (good : OK s n (d + 1) (hB bc) k = true → ∀ M', RP s (d + 1) k c t M M' → V K (wp (sR g)) M' 116 [(2, .int (nI (EN s (d + 1) k))), (0, .ref (ga g 0)), (1, .int (nI c))] [])
  (bad : OK s n (d + 1) (hB bc) k = false → ∀ M', RF M M' c → V K (wp (sR g)) M' 284 [(2, .int (-1)), (0, .ref (ga g 0)), (1, .int (nI c))] []) (hx : kd (chR s n k) = 9) : V K (wp (sR g)) M 116 [(2, .int (nI k)), (0, .ref (ga g 0)), (1, .int (nI c))] [] := by
  have hn24 := hT.2.1
  have hTA : TR (up2 M 0 17 (nI t)) c s n := hT.rf ((RF.refl M c).u17 _)
  have hneA : up2 M 0 17 (nI t) 0 16 = nI (5 - d) := by rw [up2_n _ _ (by omega), hne]; congr 1; omega
  have htA : up2 M 0 17 (nI t) 0 17 = nI t := up2_s _ _ _ _
  have hneM : M 0 16 = nI (5 - d) := by rw [hne]; congr 1; omega
  obtain ⟨hkn, hsk⟩ := chR_k hx (by decide)
  have hs : kd (s k) = 9 := by rw [← hsk]; exact hx
  obtain ⟨hb1, hb2⟩ := hbc (lcI (chR s n k)) (lc_of hx).1
  have hbA : up2 M 0 17 (nI t) 15 (lcI (chR s n k)) = nI (bc (lcI (chR s n k))) := by rw [up2_n _ _ (by omega)]; exact hb1
  have hOK : OK s n (d + 1) (hB bc) k = decide (0 < bc (lcI (chR s n k))) := by rw [OK_9 _ _ _ _ _ hs, decide_eq_true hkn, Bool.true_and, hsk]; rfl
  by_cases hz : 0 < bc (lcI (chR s n k))
  · refine rs_E hI h0 hC hn hc (by omega) ht (by omega) hw (m_Mo_readOne_9t (kl K) g hI (up2 M 0 17 (nI t)) hc (by omega) hTA htA (by omega) hneA (by omega) hx hbA ⟨hz, by omega⟩) ?_
    have e := good (by rw [hOK]; exact decide_eq_true hz) (up2 M 0 17 (nI t)) (by unfold RP; rw [NM_9 _ _ _ hs, EN_9 _ _ _ hs, LO_9 _ _ _ _ hs]; exact ⟨(show RQ c t M (up2 M 0 17 (nI t)) 0 k (k + 1) from ⟨(RF.refl M c).u17 _, up2_s _ _ _ _, up2_n _ _ (by omega), fun j _ => up2_n _ _ (by omega), fun j _ => up2_n _ _ (by omega), by rw [up2_n _ _ (by omega), or_0], fun p _ => up2_n _ _ (by omega)⟩), (show lbR (up2 M 0 17 (nI t)) c k = 0 from (up2_n _ _ (by omega)).trans (hlb k (Nat.le_refl _) (by omega))), trivial⟩)
    rw [EN_9 _ _ _ hs] at e
    exact e
  · refine rs_E hI h0 hC hn hc (by omega) ht (by omega) hw (m_Mo_readOne_9f (kl K) g hI (up2 M 0 17 (nI t)) hc (by omega) hTA htA (by omega) hneA (by omega) hx (by rw [hbA]; congr 1; omega)) ?_
    exact rs_end h0 hC hn (bad (by rw [hOK]; exact decide_eq_false hz) _ ((RF.refl M c).u17 _))
set_option maxHeartbeats 4000000 in
theorem RdE_0 (hI : sI (sR g)) (h0 : C0 K c_Mo_reads) (hC : Cx (sR g) K gC_Mo 3) (hn : kn K = 4) (hc : c < 10) {d : Nat} (ih : RdE K g c s n d) (M : Me) (t k : Nat) (bc : Nat → Nat) (hT : TR M c s n) (hk : k ≤ 24) (ht : M 0 17 = nI (t + 1)) (hw : M 14 t = nI 1) (hts : t + 6 * (d + 1) ≤ 40) (hne : M 0 16 = nI (6 - (d + 1))) (hbc : ∀ j, j < 6 → M 15 j = nI (bc j) ∧ bc j + (d + 1) ≤ 7) (hlb : ∀ p, k ≤ p → p < 24 → lbR M c p = 0)
  (good : OK s n (d + 1) (hB bc) k = true → ∀ M', RP s (d + 1) k c t M M' → V K (wp (sR g)) M' 116 [(2, .int (nI (EN s (d + 1) k))), (0, .ref (ga g 0)), (1, .int (nI c))] [])
  (bad : OK s n (d + 1) (hB bc) k = false → ∀ M', RF M M' c → V K (wp (sR g)) M' 284 [(2, .int (-1)), (0, .ref (ga g 0)), (1, .int (nI c))] []) (hx : kd (chR s n k) = 0) : V K (wp (sR g)) M 116 [(2, .int (nI k)), (0, .ref (ga g 0)), (1, .int (nI c))] [] := by
  have hn24 := hT.2.1
  have hTA : TR (up2 M 0 17 (nI t)) c s n := hT.rf ((RF.refl M c).u17 _)
  have hneA : up2 M 0 17 (nI t) 0 16 = nI (5 - d) := by rw [up2_n _ _ (by omega), hne]; congr 1; omega
  have htA : up2 M 0 17 (nI t) 0 17 = nI t := up2_s _ _ _ _
  have hneM : M 0 16 = nI (5 - d) := by rw [hne]; congr 1; omega
  refine rs_E hI h0 hC hn hc (by omega) ht (by omega) hw (m_Mo_readOne_0 (kl K) g hI (up2 M 0 17 (nI t)) hc (by omega) hTA htA (by omega) hneA (by omega) hx) ?_
  have hOK : OK s n (d + 1) (hB bc) k = false := by
    cases h : OK s n (d + 1) (hB bc) k with
    | false => rfl
    | true =>
      have h1 := OK_k h
      have h2 := OK_kd h
      unfold chR at hx
      rw [if_pos h1] at hx
      rw [hx] at h2
      revert h2; decide
  exact rs_end h0 hC hn (bad hOK _ (((RF.refl M c).u17 _).op t (5 - d)))
def bcS (bc : Nat → Nat) (l : Nat) : Nat → Nat := fun j => if j = l then bc l + 1 else bc j
theorem hB_set (bc : Nat → Nat) (l : Nat) : hB (bcS bc l) = bSet (hB bc) l := by
  funext j
  unfold hB bcS bSet
  by_cases h : j = l
  · subst h; simp
  · simp [h]
set_option maxHeartbeats 4000000 in
theorem RdE_1 (hI : sI (sR g)) (h0 : C0 K c_Mo_reads) (hC : Cx (sR g) K gC_Mo 3) (hn : kn K = 4) (hc : c < 10) {d : Nat} (ih : RdE K g c s n d) (M : Me) (t k : Nat) (bc : Nat → Nat) (hT : TR M c s n) (hk : k ≤ 24) (ht : M 0 17 = nI (t + 1)) (hw : M 14 t = nI 1) (hts : t + 6 * (d + 1) ≤ 40) (hne : M 0 16 = nI (6 - (d + 1))) (hbc : ∀ j, j < 6 → M 15 j = nI (bc j) ∧ bc j + (d + 1) ≤ 7) (hlb : ∀ p, k ≤ p → p < 24 → lbR M c p = 0)
  (good : OK s n (d + 1) (hB bc) k = true → ∀ M', RP s (d + 1) k c t M M' → V K (wp (sR g)) M' 116 [(2, .int (nI (EN s (d + 1) k))), (0, .ref (ga g 0)), (1, .int (nI c))] [])
  (bad : OK s n (d + 1) (hB bc) k = false → ∀ M', RF M M' c → V K (wp (sR g)) M' 284 [(2, .int (-1)), (0, .ref (ga g 0)), (1, .int (nI c))] []) (hx : kd (chR s n k) = 1) : V K (wp (sR g)) M 116 [(2, .int (nI k)), (0, .ref (ga g 0)), (1, .int (nI c))] [] := by
  have hn24 := hT.2.1
  have hTA : TR (up2 M 0 17 (nI t)) c s n := hT.rf ((RF.refl M c).u17 _)
  have hneA : up2 M 0 17 (nI t) 0 16 = nI (5 - d) := by rw [up2_n _ _ (by omega), hne]; congr 1; omega
  have htA : up2 M 0 17 (nI t) 0 17 = nI t := up2_s _ _ _ _
  have hneM : M 0 16 = nI (5 - d) := by rw [hne]; congr 1; omega
  obtain ⟨hkn, hsk⟩ := chR_k hx (by decide)
  have hs : kd (s k) = 1 := by rw [← hsk]; exact hx
  have hRO : RO c t (5 - d) M (psh (opM (up2 M 0 17 (nI t)) t (5 - d)) (t + 1) (nI 1)) (0) (k + 1) (k + 1) := (RO.op hneM).push (by omega) _
  have hbc1 : ∀ j, j < 6 → (psh (opM (up2 M 0 17 (nI t)) t (5 - d)) (t + 1) (nI 1)) 15 j = nI (bc j) ∧ bc j + d ≤ 7 := fun j hj => ⟨(hRO.2.2.2.1 j hj).trans (hbc j hj).1, by have := (hbc j hj).2; omega⟩
  have hlb1 : ∀ p, k + 1 ≤ p → p < 24 → lbR (psh (opM (up2 M 0 17 (nI t)) t (5 - d)) (t + 1) (nI 1)) c p = 0 := fun p h1 h2 => (hRO.2.2.2.2.2.2.2 p (by omega)).trans (hlb p (by omega) h2)
  refine rs_E hI h0 hC hn hc (by omega) ht (by omega) hw (m_Mo_readOne_1 (kl K) g hI (up2 M 0 17 (nI t)) hc (by omega) hTA htA (by omega) hneA (by omega) hx) ?_
  refine ih _ (t + 1) (k + 1) bc (hT.rf hRO.1) (by omega) (by simp [psh, opM, up2_if]) (by simp [psh, opM, up2_if]) (by omega) (by rw [hRO.2.1]; congr 1; omega) hbc1 hlb1 (fun ok1 M2 h2 => ?_) (fun nok M9 h9 => bad (by rw [OK_1 _ _ _ _ _ hs, nok]; simp) M9 (hRO.1.trans h9))
  have he1 := OK_ends _ _ _ _ _ ok1
  have rq2 := h2.1
  obtain ⟨c1, c2, c3, c4⟩ := hRO.close rq2 (by omega) (by omega)
  refine rs_close hI h0 hC hn hc (by omega) c1 (by omega) c2 c3 ?_
  have lo2 := h2.2
  have e := good (by rw [OK_1 _ _ _ _ _ hs, decide_eq_true hkn, ok1]; rfl) _ (show RP s (d + 1) k c t M (up2 (up2 M2 0 17 (nI t)) 0 16 (nI (5 - d))) from ?_)
  · rw [EN_1 _ _ _ hs] at e; exact e
  · unfold RP
    rw [NM_1 _ _ _ hs, EN_1 _ _ _ hs, LO_1 _ _ _ _ hs]
    rw [or_00] at c4
    have hz : lbR (up2 (up2 M2 0 17 (nI t)) 0 16 (nI (5 - d))) c k = 0 := (c4.2.2.2.2.2.2 k (Or.inl (by omega))).trans (hlb k (by omega) (by omega))
    have hcl : lbR (up2 (up2 M2 0 17 (nI t)) 0 16 (nI (5 - d))) c = lbR M2 c := by funext p; unfold lbR; rw [up2_n _ _ (by omega), up2_n _ _ (by omega)]
    refine ⟨c4.weak (by omega), hz, ?_⟩
    rw [hcl]
    exact lo2
set_option maxHeartbeats 4000000 in
theorem RdE_2 (hI : sI (sR g)) (h0 : C0 K c_Mo_reads) (hC : Cx (sR g) K gC_Mo 3) (hn : kn K = 4) (hc : c < 10) {d : Nat} (ih : RdE K g c s n d) (M : Me) (t k : Nat) (bc : Nat → Nat) (hT : TR M c s n) (hk : k ≤ 24) (ht : M 0 17 = nI (t + 1)) (hw : M 14 t = nI 1) (hts : t + 6 * (d + 1) ≤ 40) (hne : M 0 16 = nI (6 - (d + 1))) (hbc : ∀ j, j < 6 → M 15 j = nI (bc j) ∧ bc j + (d + 1) ≤ 7) (hlb : ∀ p, k ≤ p → p < 24 → lbR M c p = 0)
  (good : OK s n (d + 1) (hB bc) k = true → ∀ M', RP s (d + 1) k c t M M' → V K (wp (sR g)) M' 116 [(2, .int (nI (EN s (d + 1) k))), (0, .ref (ga g 0)), (1, .int (nI c))] [])
  (bad : OK s n (d + 1) (hB bc) k = false → ∀ M', RF M M' c → V K (wp (sR g)) M' 284 [(2, .int (-1)), (0, .ref (ga g 0)), (1, .int (nI c))] []) (hx : kd (chR s n k) = 2) : V K (wp (sR g)) M 116 [(2, .int (nI k)), (0, .ref (ga g 0)), (1, .int (nI c))] [] := by
  have hn24 := hT.2.1
  have hTA : TR (up2 M 0 17 (nI t)) c s n := hT.rf ((RF.refl M c).u17 _)
  have hneA : up2 M 0 17 (nI t) 0 16 = nI (5 - d) := by rw [up2_n _ _ (by omega), hne]; congr 1; omega
  have htA : up2 M 0 17 (nI t) 0 17 = nI t := up2_s _ _ _ _
  have hneM : M 0 16 = nI (5 - d) := by rw [hne]; congr 1; omega
  obtain ⟨hkn, hsk⟩ := chR_k hx (by decide)
  have hs : kd (s k) = 2 := by rw [← hsk]; exact hx
  have hRO : RO c t (5 - d) M (psh (psh (opM (up2 M 0 17 (nI t)) t (5 - d)) (t + 1) (nI 1)) (t + 2) (nI 1)) (0) (k + 1) (k + 1) := ((RO.op hneM).push (by omega) _).push (by omega) _
  have hbc1 : ∀ j, j < 6 → (psh (psh (opM (up2 M 0 17 (nI t)) t (5 - d)) (t + 1) (nI 1)) (t + 2) (nI 1)) 15 j = nI (bc j) ∧ bc j + d ≤ 7 := fun j hj => ⟨(hRO.2.2.2.1 j hj).trans (hbc j hj).1, by have := (hbc j hj).2; omega⟩
  have hlb1 : ∀ p, k + 1 ≤ p → p < 24 → lbR (psh (psh (opM (up2 M 0 17 (nI t)) t (5 - d)) (t + 1) (nI 1)) (t + 2) (nI 1)) c p = 0 := fun p h1 h2 => (hRO.2.2.2.2.2.2.2 p (by omega)).trans (hlb p (by omega) h2)
  refine rs_E hI h0 hC hn hc (by omega) ht (by omega) hw (m_Mo_readOne_2 (kl K) g hI (up2 M 0 17 (nI t)) hc (by omega) hTA htA (by omega) hneA (by omega) hx) ?_
  refine ih _ (t + 2) (k + 1) bc (hT.rf hRO.1) (by omega) (by simp [psh, opM, up2_if]) (by simp [psh, opM, up2_if]) (by omega) (by rw [hRO.2.1]; congr 1; omega) hbc1 hlb1 (fun ok1 M2 h2 => ?_) (fun nok M9 h9 => bad (by rw [OK_2 _ _ _ _ _ hs, nok]; simp) M9 (hRO.1.trans h9))
  have he1 := OK_ends _ _ _ _ _ ok1
  have rq2 := h2.1
  refine ih _ (t + 1) (EN s d (k + 1)) bc (hT.rf (hRO.1.trans rq2.1)) (by omega) rq2.2.1 ((rq2.2.2.2.2.1 _ (by omega)).trans (by simp [psh, opM, up2_if])) (by omega) (rq2.2.2.1.trans (by rw [hRO.2.1]; congr 1; omega)) (fun j hj => ⟨(rq2.2.2.2.1 j hj).trans (hbc1 j hj).1, (hbc1 j hj).2⟩) (fun p h1 h2 => (rq2.2.2.2.2.2.2 p (Or.inr (by omega))).trans (hlb1 p (by omega) h2)) (fun ok2 M3 h3 => ?_) (fun nok M9 h9 => bad (by rw [OK_2 _ _ _ _ _ hs, ok1, nok]; simp) M9 ((hRO.1.trans rq2.1).trans h9))
  have he2 := OK_ends _ _ _ _ _ ok2
  have rq3 := rq2.trans h3.1 (by omega) (by omega) (by omega)
  obtain ⟨c1, c2, c3, c4⟩ := hRO.close rq3 (by omega) (by omega)
  refine rs_close hI h0 hC hn hc (by omega) c1 (by omega) c2 c3 ?_
  have lo2 : LO s (lbR M3 c) d (k + 1) := LO_same (n := n) d _ _ ok1 (fun j ja jb => (h3.1.2.2.2.2.2.2 _ (Or.inl (by omega)))) h2.2
  have lo3 := h3.2
  have e := good (by rw [OK_2 _ _ _ _ _ hs, decide_eq_true hkn, ok1, ok2]; rfl) _ (show RP s (d + 1) k c t M (up2 (up2 M3 0 17 (nI t)) 0 16 (nI (5 - d))) from ?_)
  · rw [EN_2 _ _ _ hs] at e; exact e
  · unfold RP
    rw [NM_2 _ _ _ hs, EN_2 _ _ _ hs, LO_2 _ _ _ _ hs]
    rw [or_00] at c4
    have hz : lbR (up2 (up2 M3 0 17 (nI t)) 0 16 (nI (5 - d))) c k = 0 := (c4.2.2.2.2.2.2 k (Or.inl (by omega))).trans (hlb k (by omega) (by omega))
    have hcl : lbR (up2 (up2 M3 0 17 (nI t)) 0 16 (nI (5 - d))) c = lbR M3 c := by funext p; unfold lbR; rw [up2_n _ _ (by omega), up2_n _ _ (by omega)]
    refine ⟨c4.weak (by omega), hz, ?_⟩
    rw [hcl]
    exact ⟨lo2, lo3⟩
set_option maxHeartbeats 4000000 in
theorem RdE_3 (hI : sI (sR g)) (h0 : C0 K c_Mo_reads) (hC : Cx (sR g) K gC_Mo 3) (hn : kn K = 4) (hc : c < 10) {d : Nat} (ih : RdE K g c s n d) (M : Me) (t k : Nat) (bc : Nat → Nat) (hT : TR M c s n) (hk : k ≤ 24) (ht : M 0 17 = nI (t + 1)) (hw : M 14 t = nI 1) (hts : t + 6 * (d + 1) ≤ 40) (hne : M 0 16 = nI (6 - (d + 1))) (hbc : ∀ j, j < 6 → M 15 j = nI (bc j) ∧ bc j + (d + 1) ≤ 7) (hlb : ∀ p, k ≤ p → p < 24 → lbR M c p = 0)
  (good : OK s n (d + 1) (hB bc) k = true → ∀ M', RP s (d + 1) k c t M M' → V K (wp (sR g)) M' 116 [(2, .int (nI (EN s (d + 1) k))), (0, .ref (ga g 0)), (1, .int (nI c))] [])
  (bad : OK s n (d + 1) (hB bc) k = false → ∀ M', RF M M' c → V K (wp (sR g)) M' 284 [(2, .int (-1)), (0, .ref (ga g 0)), (1, .int (nI c))] []) (hx : kd (chR s n k) = 3) : V K (wp (sR g)) M 116 [(2, .int (nI k)), (0, .ref (ga g 0)), (1, .int (nI c))] [] := by
  have hn24 := hT.2.1
  have hTA : TR (up2 M 0 17 (nI t)) c s n := hT.rf ((RF.refl M c).u17 _)
  have hneA : up2 M 0 17 (nI t) 0 16 = nI (5 - d) := by rw [up2_n _ _ (by omega), hne]; congr 1; omega
  have htA : up2 M 0 17 (nI t) 0 17 = nI t := up2_s _ _ _ _
  have hneM : M 0 16 = nI (5 - d) := by rw [hne]; congr 1; omega
  obtain ⟨hkn, hsk⟩ := chR_k hx (by decide)
  have hs : kd (s k) = 3 := by rw [← hsk]; exact hx
  have hRO : RO c t (5 - d) M (psh (psh (psh (opM (up2 M 0 17 (nI t)) t (5 - d)) (t + 1) (nI 1)) (t + 2) (nI 1)) (t + 3) (nI 1)) (0) (k + 1) (k + 1) := (((RO.op hneM).push (by omega) _).push (by omega) _).push (by omega) _
  have hbc1 : ∀ j, j < 6 → (psh (psh (psh (opM (up2 M 0 17 (nI t)) t (5 - d)) (t + 1) (nI 1)) (t + 2) (nI 1)) (t + 3) (nI 1)) 15 j = nI (bc j) ∧ bc j + d ≤ 7 := fun j hj => ⟨(hRO.2.2.2.1 j hj).trans (hbc j hj).1, by have := (hbc j hj).2; omega⟩
  have hlb1 : ∀ p, k + 1 ≤ p → p < 24 → lbR (psh (psh (psh (opM (up2 M 0 17 (nI t)) t (5 - d)) (t + 1) (nI 1)) (t + 2) (nI 1)) (t + 3) (nI 1)) c p = 0 := fun p h1 h2 => (hRO.2.2.2.2.2.2.2 p (by omega)).trans (hlb p (by omega) h2)
  refine rs_E hI h0 hC hn hc (by omega) ht (by omega) hw (m_Mo_readOne_3 (kl K) g hI (up2 M 0 17 (nI t)) hc (by omega) hTA htA (by omega) hneA (by omega) hx) ?_
  refine ih _ (t + 3) (k + 1) bc (hT.rf hRO.1) (by omega) (by simp [psh, opM, up2_if]) (by simp [psh, opM, up2_if]) (by omega) (by rw [hRO.2.1]; congr 1; omega) hbc1 hlb1 (fun ok1 M2 h2 => ?_) (fun nok M9 h9 => bad (by rw [OK_3 _ _ _ _ _ hs, nok]; simp) M9 (hRO.1.trans h9))
  have he1 := OK_ends _ _ _ _ _ ok1
  have rq2 := h2.1
  refine ih _ (t + 2) (EN s d (k + 1)) bc (hT.rf (hRO.1.trans rq2.1)) (by omega) rq2.2.1 ((rq2.2.2.2.2.1 _ (by omega)).trans (by simp [psh, opM, up2_if])) (by omega) (rq2.2.2.1.trans (by rw [hRO.2.1]; congr 1; omega)) (fun j hj => ⟨(rq2.2.2.2.1 j hj).trans (hbc1 j hj).1, (hbc1 j hj).2⟩) (fun p h1 h2 => (rq2.2.2.2.2.2.2 p (Or.inr (by omega))).trans (hlb1 p (by omega) h2)) (fun ok2 M3 h3 => ?_) (fun nok M9 h9 => bad (by rw [OK_3 _ _ _ _ _ hs, ok1, nok]; simp) M9 ((hRO.1.trans rq2.1).trans h9))
  have he2 := OK_ends _ _ _ _ _ ok2
  have rq3 := rq2.trans h3.1 (by omega) (by omega) (by omega)
  refine ih _ (t + 1) (EN s d (EN s d (k + 1))) bc (hT.rf (hRO.1.trans rq3.1)) (by omega) rq3.2.1 ((rq3.2.2.2.2.1 _ (by omega)).trans (by simp [psh, opM, up2_if])) (by omega) (rq3.2.2.1.trans (by rw [hRO.2.1]; congr 1; omega)) (fun j hj => ⟨(rq3.2.2.2.1 j hj).trans (hbc1 j hj).1, (hbc1 j hj).2⟩) (fun p h1 h2 => (rq3.2.2.2.2.2.2 p (Or.inr (by omega))).trans (hlb1 p (by omega) h2)) (fun ok3 M4 h4 => ?_) (fun nok M9 h9 => bad (by rw [OK_3 _ _ _ _ _ hs, ok1, ok2, nok]; simp) M9 ((hRO.1.trans rq3.1).trans h9))
  have he3 := OK_ends _ _ _ _ _ ok3
  have rq4 := rq3.trans h4.1 (by omega) (by omega) (by omega)
  obtain ⟨c1, c2, c3, c4⟩ := hRO.close rq4 (by omega) (by omega)
  refine rs_close hI h0 hC hn hc (by omega) c1 (by omega) c2 c3 ?_
  have lo2 : LO s (lbR M4 c) d (k + 1) := LO_same (n := n) d _ _ ok1 (fun j ja jb => ((h4.1.2.2.2.2.2.2 _ (Or.inl (by omega))).trans (h3.1.2.2.2.2.2.2 _ (Or.inl (by omega))))) h2.2
  have lo3 : LO s (lbR M4 c) d (EN s d (k + 1)) := LO_same (n := n) d _ _ ok2 (fun j ja jb => (h4.1.2.2.2.2.2.2 _ (Or.inl (by omega)))) h3.2
  have lo4 := h4.2
  have e := good (by rw [OK_3 _ _ _ _ _ hs, decide_eq_true hkn, ok1, ok2, ok3]; rfl) _ (show RP s (d + 1) k c t M (up2 (up2 M4 0 17 (nI t)) 0 16 (nI (5 - d))) from ?_)
  · rw [EN_3 _ _ _ hs] at e; exact e
  · unfold RP
    rw [NM_3 _ _ _ hs, EN_3 _ _ _ hs, LO_3 _ _ _ _ hs]
    rw [or_00, or_a] at c4
    have hz : lbR (up2 (up2 M4 0 17 (nI t)) 0 16 (nI (5 - d))) c k = 0 := (c4.2.2.2.2.2.2 k (Or.inl (by omega))).trans (hlb k (by omega) (by omega))
    have hcl : lbR (up2 (up2 M4 0 17 (nI t)) 0 16 (nI (5 - d))) c = lbR M4 c := by funext p; unfold lbR; rw [up2_n _ _ (by omega), up2_n _ _ (by omega)]
    refine ⟨c4.weak (by omega), hz, ?_⟩
    rw [hcl]
    exact ⟨lo2, lo3, lo4⟩
set_option maxHeartbeats 4000000 in
theorem RdE_6 (hI : sI (sR g)) (h0 : C0 K c_Mo_reads) (hC : Cx (sR g) K gC_Mo 3) (hn : kn K = 4) (hc : c < 10) {d : Nat} (ih : RdE K g c s n d) (M : Me) (t k : Nat) (bc : Nat → Nat) (hT : TR M c s n) (hk : k ≤ 24) (ht : M 0 17 = nI (t + 1)) (hw : M 14 t = nI 1) (hts : t + 6 * (d + 1) ≤ 40) (hne : M 0 16 = nI (6 - (d + 1))) (hbc : ∀ j, j < 6 → M 15 j = nI (bc j) ∧ bc j + (d + 1) ≤ 7) (hlb : ∀ p, k ≤ p → p < 24 → lbR M c p = 0)
  (good : OK s n (d + 1) (hB bc) k = true → ∀ M', RP s (d + 1) k c t M M' → V K (wp (sR g)) M' 116 [(2, .int (nI (EN s (d + 1) k))), (0, .ref (ga g 0)), (1, .int (nI c))] [])
  (bad : OK s n (d + 1) (hB bc) k = false → ∀ M', RF M M' c → V K (wp (sR g)) M' 284 [(2, .int (-1)), (0, .ref (ga g 0)), (1, .int (nI c))] []) (hx : kd (chR s n k) = 6) : V K (wp (sR g)) M 116 [(2, .int (nI k)), (0, .ref (ga g 0)), (1, .int (nI c))] [] := by
  have hn24 := hT.2.1
  have hTA : TR (up2 M 0 17 (nI t)) c s n := hT.rf ((RF.refl M c).u17 _)
  have hneA : up2 M 0 17 (nI t) 0 16 = nI (5 - d) := by rw [up2_n _ _ (by omega), hne]; congr 1; omega
  have htA : up2 M 0 17 (nI t) 0 17 = nI t := up2_s _ _ _ _
  have hneM : M 0 16 = nI (5 - d) := by rw [hne]; congr 1; omega
  obtain ⟨hkn, hsk⟩ := chR_k hx (by decide)
  have hs : kd (s k) = 6 := by rw [← hsk]; exact hx
  have hRO : RO c t (5 - d) M (psh (psh (psh (psh (psh (opM (up2 M 0 17 (nI t)) t (5 - d)) (t + 1) (nI 1)) (t + 2) (nI 2)) (t + 3) (nI 1)) (t + 4) (nI 2)) (t + 5) (nI 1)) (0) (k + 1) (k + 1) := (((((RO.op hneM).push (by omega) _).push (by omega) _).push (by omega) _).push (by omega) _).push (by omega) _
  have hbc1 : ∀ j, j < 6 → (psh (psh (psh (psh (psh (opM (up2 M 0 17 (nI t)) t (5 - d)) (t + 1) (nI 1)) (t + 2) (nI 2)) (t + 3) (nI 1)) (t + 4) (nI 2)) (t + 5) (nI 1)) 15 j = nI (bc j) ∧ bc j + d ≤ 7 := fun j hj => ⟨(hRO.2.2.2.1 j hj).trans (hbc j hj).1, by have := (hbc j hj).2; omega⟩
  have hlb1 : ∀ p, k + 1 ≤ p → p < 24 → lbR (psh (psh (psh (psh (psh (opM (up2 M 0 17 (nI t)) t (5 - d)) (t + 1) (nI 1)) (t + 2) (nI 2)) (t + 3) (nI 1)) (t + 4) (nI 2)) (t + 5) (nI 1)) c p = 0 := fun p h1 h2 => (hRO.2.2.2.2.2.2.2 p (by omega)).trans (hlb p (by omega) h2)
  refine rs_E hI h0 hC hn hc (by omega) ht (by omega) hw (m_Mo_readOne_6 (kl K) g hI (up2 M 0 17 (nI t)) hc (by omega) hTA htA (by omega) hneA (by omega) hx) ?_
  refine ih _ (t + 5) (k + 1) bc (hT.rf hRO.1) (by omega) (by simp [psh, opM, up2_if]) (by simp [psh, opM, up2_if]) (by omega) (by rw [hRO.2.1]; congr 1; omega) hbc1 hlb1 (fun ok1 M2 h2 => ?_) (fun nok M9 h9 => bad (by rw [OK_6 _ _ _ _ _ hs, nok]; simp) M9 (hRO.1.trans h9))
  have he1 := OK_ends _ _ _ _ _ ok1
  have rq2 := h2.1
  by_cases hd1 : kd (chR s n (EN s d (k + 1))) = 7
  rotate_left
  · refine rs_digitx hI h0 hC hn hc (by omega) rq2.2.1 (by omega) (hT.rf (hRO.1.trans rq2.1)) ((rq2.2.2.2.2.1 _ (by omega)).trans (by simp [psh, opM, up2_if])) hd1 (fun x p hp => bad ?_ _ ((hRO.1.trans rq2.1).trans (((RF.refl _ c).u17 _).u6 hp x)))
    have hf : (decide (EN s d (k + 1) < n) && decide (kd (s (EN s d (k + 1))) = 7)) = false := by
      by_cases z : EN s d (k + 1) < n
      · unfold chR at hd1; rw [if_pos z] at hd1; rw [decide_eq_false hd1, Bool.and_false]
      · rw [decide_eq_false z, Bool.false_and]
    rw [OK_6 _ _ _ _ _ hs, ok1, hf]; simp
  obtain ⟨hdn1, hds1⟩ := chR_k hd1 (by decide)
  have hdd1 : (decide (EN s d (k + 1) < n) && decide (kd (s (EN s d (k + 1))) = 7)) = true := by rw [decide_eq_true hdn1, ← hds1, hd1]; rfl
  refine rs_digit hI h0 hC hn hc (by omega) rq2.2.1 (by omega) (hT.rf (hRO.1.trans rq2.1)) ((rq2.2.2.2.2.1 _ (by omega)).trans (by simp [psh, opM, up2_if])) hdn1 (by rw [← hds1]; exact hd1) ?_
  have dg3 := RQ.dig (c := c) (t := t + 4) (p := EN s d (k + 1)) (by omega) M2
  have rq3 := rq2.trans dg3 (by omega) (by omega) (by omega)
  rw [or_0] at rq3
  generalize hM3 : up2 (up2 M2 0 17 (nI (t + 4))) 6 (24 * c + (EN s d (k + 1))) 1 = M3 at rq3 dg3 ⊢
  have hl3 : lbR M3 c (EN s d (k + 1)) = 1 := by rw [← hM3]; exact up2_s _ _ _ _
  refine ih _ (t + 3) (EN s d (k + 1) + 1) bc (hT.rf (hRO.1.trans rq3.1)) (by omega) rq3.2.1 ((rq3.2.2.2.2.1 _ (by omega)).trans (by simp [psh, opM, up2_if])) (by omega) (rq3.2.2.1.trans (by rw [hRO.2.1]; congr 1; omega)) (fun j hj => ⟨(rq3.2.2.2.1 j hj).trans (hbc1 j hj).1, (hbc1 j hj).2⟩) (fun p h1 h2 => (rq3.2.2.2.2.2.2 p (Or.inr (by omega))).trans (hlb1 p (by omega) h2)) (fun ok3 M4 h4 => ?_) (fun nok M9 h9 => bad (by rw [OK_6 _ _ _ _ _ hs, ok1, hdd1, nok]; simp) M9 ((hRO.1.trans rq3.1).trans h9))
  have he3 := OK_ends _ _ _ _ _ ok3
  have rq4 := rq3.trans h4.1 (by omega) (by omega) (by omega)
  by_cases hd2 : kd (chR s n (EN s d (EN s d (k + 1) + 1))) = 7
  rotate_left
  · refine rs_digitx hI h0 hC hn hc (by omega) rq4.2.1 (by omega) (hT.rf (hRO.1.trans rq4.1)) ((rq4.2.2.2.2.1 _ (by omega)).trans (by simp [psh, opM, up2_if])) hd2 (fun x p hp => bad ?_ _ ((hRO.1.trans rq4.1).trans (((RF.refl _ c).u17 _).u6 hp x)))
    have hf : (decide (EN s d (EN s d (k + 1) + 1) < n) && decide (kd (s (EN s d (EN s d (k + 1) + 1))) = 7)) = false := by
      by_cases z : EN s d (EN s d (k + 1) + 1) < n
      · unfold chR at hd2; rw [if_pos z] at hd2; rw [decide_eq_false hd2, Bool.and_false]
      · rw [decide_eq_false z, Bool.false_and]
    rw [OK_6 _ _ _ _ _ hs, ok1, hdd1, ok3, hf]; simp
  obtain ⟨hdn2, hds2⟩ := chR_k hd2 (by decide)
  have hdd2 : (decide (EN s d (EN s d (k + 1) + 1) < n) && decide (kd (s (EN s d (EN s d (k + 1) + 1))) = 7)) = true := by rw [decide_eq_true hdn2, ← hds2, hd2]; rfl
  refine rs_digit hI h0 hC hn hc (by omega) rq4.2.1 (by omega) (hT.rf (hRO.1.trans rq4.1)) ((rq4.2.2.2.2.1 _ (by omega)).trans (by simp [psh, opM, up2_if])) hdn2 (by rw [← hds2]; exact hd2) ?_
  have dg5 := RQ.dig (c := c) (t := t + 2) (p := EN s d (EN s d (k + 1) + 1)) (by omega) M4
  have rq5 := rq4.trans dg5 (by omega) (by omega) (by omega)
  rw [or_0] at rq5
  generalize hM5 : up2 (up2 M4 0 17 (nI (t + 2))) 6 (24 * c + (EN s d (EN s d (k + 1) + 1))) 1 = M5 at rq5 dg5 ⊢
  have hl5 : lbR M5 c (EN s d (EN s d (k + 1) + 1)) = 1 := by rw [← hM5]; exact up2_s _ _ _ _
  refine ih _ (t + 1) (EN s d (EN s d (k + 1) + 1) + 1) bc (hT.rf (hRO.1.trans rq5.1)) (by omega) rq5.2.1 ((rq5.2.2.2.2.1 _ (by omega)).trans (by simp [psh, opM, up2_if])) (by omega) (rq5.2.2.1.trans (by rw [hRO.2.1]; congr 1; omega)) (fun j hj => ⟨(rq5.2.2.2.1 j hj).trans (hbc1 j hj).1, (hbc1 j hj).2⟩) (fun p h1 h2 => (rq5.2.2.2.2.2.2 p (Or.inr (by omega))).trans (hlb1 p (by omega) h2)) (fun ok5 M6 h6 => ?_) (fun nok M9 h9 => bad (by rw [OK_6 _ _ _ _ _ hs, ok1, hdd1, ok3, hdd2, nok]; simp) M9 ((hRO.1.trans rq5.1).trans h9))
  have he5 := OK_ends _ _ _ _ _ ok5
  have rq6 := rq5.trans h6.1 (by omega) (by omega) (by omega)
  obtain ⟨c1, c2, c3, c4⟩ := hRO.close rq6 (by omega) (by omega)
  refine rs_close hI h0 hC hn hc (by omega) c1 (by omega) c2 c3 ?_
  have lo2 : LO s (lbR M6 c) d (k + 1) := LO_same (n := n) d _ _ ok1 (fun j ja jb => ((h6.1.2.2.2.2.2.2 _ (Or.inl (by omega))).trans ((dg5.2.2.2.2.2.2 _ (Or.inl (by omega))).trans ((h4.1.2.2.2.2.2.2 _ (Or.inl (by omega))).trans (dg3.2.2.2.2.2.2 _ (Or.inl (by omega))))))) h2.2
  have lo3 : lbR M6 c (EN s d (k + 1)) = 1 := ((h6.1.2.2.2.2.2.2 _ (Or.inl (by omega))).trans ((dg5.2.2.2.2.2.2 _ (Or.inl (by omega))).trans (h4.1.2.2.2.2.2.2 _ (Or.inl (by omega))))).trans hl3
  have lo4 : LO s (lbR M6 c) d (EN s d (k + 1) + 1) := LO_same (n := n) d _ _ ok3 (fun j ja jb => ((h6.1.2.2.2.2.2.2 _ (Or.inl (by omega))).trans (dg5.2.2.2.2.2.2 _ (Or.inl (by omega))))) h4.2
  have lo5 : lbR M6 c (EN s d (EN s d (k + 1) + 1)) = 1 := (h6.1.2.2.2.2.2.2 _ (Or.inl (by omega))).trans hl5
  have lo6 := h6.2
  have e := good (by rw [OK_6 _ _ _ _ _ hs, decide_eq_true hkn, ok1, hdd1, ok3, hdd2, ok5]; rfl) _ (show RP s (d + 1) k c t M (up2 (up2 M6 0 17 (nI t)) 0 16 (nI (5 - d))) from ?_)
  · rw [EN_6 _ _ _ hs] at e; exact e
  · unfold RP
    rw [NM_6 _ _ _ hs, EN_6 _ _ _ hs, LO_6 _ _ _ _ hs]
    rw [or_00, or_a] at c4
    have hz : lbR (up2 (up2 M6 0 17 (nI t)) 0 16 (nI (5 - d))) c k = 0 := (c4.2.2.2.2.2.2 k (Or.inl (by omega))).trans (hlb k (by omega) (by omega))
    have hcl : lbR (up2 (up2 M6 0 17 (nI t)) 0 16 (nI (5 - d))) c = lbR M6 c := by funext p; unfold lbR; rw [up2_n _ _ (by omega), up2_n _ _ (by omega)]
    refine ⟨c4.weak (by omega), hz, ?_⟩
    rw [hcl]
    exact ⟨lo2, lo3, lo4, lo5, lo6⟩
set_option maxHeartbeats 4000000 in
theorem RdE_4 (hI : sI (sR g)) (h0 : C0 K c_Mo_reads) (hC : Cx (sR g) K gC_Mo 3) (hn : kn K = 4) (hc : c < 10) {d : Nat} (ih : RdE K g c s n d) (M : Me) (t k : Nat) (bc : Nat → Nat) (hT : TR M c s n) (hk : k ≤ 24) (ht : M 0 17 = nI (t + 1)) (hw : M 14 t = nI 1) (hts : t + 6 * (d + 1) ≤ 40) (hne : M 0 16 = nI (6 - (d + 1))) (hbc : ∀ j, j < 6 → M 15 j = nI (bc j) ∧ bc j + (d + 1) ≤ 7) (hlb : ∀ p, k ≤ p → p < 24 → lbR M c p = 0)
  (good : OK s n (d + 1) (hB bc) k = true → ∀ M', RP s (d + 1) k c t M M' → V K (wp (sR g)) M' 116 [(2, .int (nI (EN s (d + 1) k))), (0, .ref (ga g 0)), (1, .int (nI c))] [])
  (bad : OK s n (d + 1) (hB bc) k = false → ∀ M', RF M M' c → V K (wp (sR g)) M' 284 [(2, .int (-1)), (0, .ref (ga g 0)), (1, .int (nI c))] []) (hx : kd (chR s n k) = 4) : V K (wp (sR g)) M 116 [(2, .int (nI k)), (0, .ref (ga g 0)), (1, .int (nI c))] [] := by
  have hn24 := hT.2.1
  have hTA : TR (up2 M 0 17 (nI t)) c s n := hT.rf ((RF.refl M c).u17 _)
  have hneA : up2 M 0 17 (nI t) 0 16 = nI (5 - d) := by rw [up2_n _ _ (by omega), hne]; congr 1; omega
  have htA : up2 M 0 17 (nI t) 0 17 = nI t := up2_s _ _ _ _
  have hneM : M 0 16 = nI (5 - d) := by rw [hne]; congr 1; omega
  by_cases hy : kd (chR s n (k + 1)) = 9
  rotate_left
  · obtain ⟨hkn, hsk⟩ := chR_k hx (by decide)
    have hs : kd (s k) = 4 := by rw [← hsk]; exact hx
    refine rs_E hI h0 hC hn hc (by omega) ht (by omega) hw (m_Mo_readOne_4x (kl K) g hI (up2 M 0 17 (nI t)) hc (by omega) hTA htA (by omega) hneA (by omega) hx hy) ?_
    refine rs_end h0 hC hn (bad ?_ _ (((RF.refl M c).u17 _).op t (5 - d)))
    have hf : (decide (k + 1 < n) && decide (kd (s (k + 1)) = 9)) = false := by
      by_cases z : k + 1 < n
      · unfold chR at hy; rw [if_pos z] at hy; rw [decide_eq_false hy, Bool.and_false]
      · rw [decide_eq_false z, Bool.false_and]
    rw [OK_4 _ _ _ _ _ hs, hf]; simp
  obtain ⟨hkn, hsk⟩ := chR_k hx (by decide)
  have hs : kd (s k) = 4 := by rw [← hsk]; exact hx
  obtain ⟨hkn1, hsk1⟩ := chR_k hy (by decide)
  have hs1 : kd (s (k + 1)) = 9 := by rw [← hsk1]; exact hy
  have hl6 := (lc_of hy).1
  have hRO : RO c t (5 - d) M (psh (psh (psh (psh (up2 (opM (up2 M 0 17 (nI t)) t (5 - d)) 6 (24 * c + k + 1) 1) (t + 1) (nI (20 + lcI (chR s n (k + 1))))) (t + 2) (nI 1)) (t + 3) (nI (10 + lcI (chR s n (k + 1))))) (t + 4) (nI 1)) (0) (k + 1) (k + 2) := (((((RO.op hneM).lab (p := k + 1) (by omega) (by omega) (by omega) 1).push (by omega) _).push (by omega) _).push (by omega) _).push (by omega) _
  have hbc1 : ∀ j, j < 6 → (psh (psh (psh (psh (up2 (opM (up2 M 0 17 (nI t)) t (5 - d)) 6 (24 * c + k + 1) 1) (t + 1) (nI (20 + lcI (chR s n (k + 1))))) (t + 2) (nI 1)) (t + 3) (nI (10 + lcI (chR s n (k + 1))))) (t + 4) (nI 1)) 15 j = nI (bc j) ∧ bc j + d ≤ 7 := fun j hj => ⟨(hRO.2.2.2.1 j hj).trans (hbc j hj).1, by have := (hbc j hj).2; omega⟩
  have hlb1 : ∀ p, k + 2 ≤ p → p < 24 → lbR (psh (psh (psh (psh (up2 (opM (up2 M 0 17 (nI t)) t (5 - d)) 6 (24 * c + k + 1) 1) (t + 1) (nI (20 + lcI (chR s n (k + 1))))) (t + 2) (nI 1)) (t + 3) (nI (10 + lcI (chR s n (k + 1))))) (t + 4) (nI 1)) c p = 0 := fun p h1 h2 => (hRO.2.2.2.2.2.2.2 p (by omega)).trans (hlb p (by omega) h2)
  refine rs_E hI h0 hC hn hc (by omega) ht (by omega) hw (m_Mo_readOne_4 (kl K) g hI (up2 M 0 17 (nI t)) hc (by omega) hTA htA (by omega) hneA (by omega) hx hy) ?_
  refine ih _ (t + 4) (k + 2) bc (hT.rf hRO.1) (by omega) (by simp [psh, opM, up2_if]) (by simp [psh, opM, up2_if]) (by omega) (by rw [hRO.2.1]; congr 1; omega) hbc1 hlb1 (fun ok1 M2 h2 => ?_) (fun nok M9 h9 => bad (by rw [OK_4 _ _ _ _ _ hs, nok]; simp) M9 (hRO.1.trans h9))
  have he1 := OK_ends _ _ _ _ _ ok1
  have rq2 := h2.1
  refine rs_bind hI h0 hC hn hc (by omega) rq2.2.1 (by omega) hl6 ((rq2.2.2.2.2.1 _ (by omega)).trans (by simp [psh, opM, up2_if])) ((rq2.2.2.2.1 _ hl6).trans (hbc1 _ hl6).1) ?_
  refine ih _ (t + 2) (EN s d (k + 2)) (bcS bc (lcI (chR s n (k + 1)))) (hT.rf (hRO.1.trans (rq2.1.trans (((RF.refl _ c).u17 _).u15 _ _)))) (by omega) (by rw [up2_n _ _ (by omega), up2_s]) (by rw [up2_n _ _ (by omega), up2_n _ _ (by omega)]; exact (rq2.2.2.2.2.1 _ (by omega)).trans (by simp [psh, opM, up2_if])) (by omega) (by rw [up2_n _ _ (by omega), up2_n _ _ (by omega)]; exact rq2.2.2.1.trans (by rw [hRO.2.1]; congr 1; omega)) (fun j hj => by unfold bcS; by_cases z : j = lcI (chR s n (k + 1)); subst z; rw [up2_s, if_pos rfl]; exact ⟨rfl, by have := (hbc _ hl6).2; omega⟩; rw [if_neg z, up2_n _ _ (by omega), up2_n _ _ (by omega)]; exact ⟨(rq2.2.2.2.1 j hj).trans (hbc1 j hj).1, (hbc1 j hj).2⟩) (fun p h1 h2 => by unfold lbR; rw [up2_n _ _ (by omega), up2_n _ _ (by omega)]; exact (rq2.2.2.2.2.2.2 p (Or.inr (by omega))).trans (hlb1 p (by omega) h2)) (fun ok2 M3 h3 => ?_) (fun nok M9 h9 => bad (by have nok2 : OK s n d (bSet (hB bc) (lcI (s (k + 1)))) (EN s d (k + 2)) = false := (by rw [← hB_set, ← hsk1]; exact nok); rw [OK_4 _ _ _ _ _ hs, ok1, nok2]; simp) M9 ((hRO.1.trans (rq2.1.trans (((RF.refl _ c).u17 _).u15 _ _))).trans h9))
  have he2 := OK_ends _ _ _ _ _ ok2
  rw [hB_set, hsk1] at ok2
  have rq4 := rq2.sand ((rq2.2.2.2.1 _ hl6).trans (hbc1 _ hl6).1) rfl h3.1 (show t + 1 ≤ t + 2 by omega) (by omega) (by omega) (by omega)
  refine rs_free hI h0 hC hn hc (by omega) (t := t + 1) (q := bc (lcI (chR s n (k + 1)))) h3.1.2.1 (by omega) hl6 ((h3.1.2.2.2.2.1 _ (by omega)).trans (by rw [up2_n _ _ (by omega), up2_n _ _ (by omega)]; exact (rq2.2.2.2.2.1 _ (by omega)).trans (by simp [psh, opM, up2_if]))) ((h3.1.2.2.2.1 _ hl6).trans (up2_s _ _ _ _)) ?_
  have fr : ∀ p, lbR (up2 (up2 M3 0 17 (nI (t + 1))) 15 (lcI (chR s n (k + 1))) (nI (bc (lcI (chR s n (k + 1)))))) c p = lbR M3 c p := fun p => by unfold lbR; rw [up2_n _ _ (by omega), up2_n _ _ (by omega)]
  generalize hM4 : up2 (up2 M3 0 17 (nI (t + 1))) 15 (lcI (chR s n (k + 1))) (nI (bc (lcI (chR s n (k + 1))))) = M4 at rq4 fr ⊢
  obtain ⟨c1, c2, c3, c4⟩ := hRO.close rq4 (by omega) (by omega)
  refine rs_close hI h0 hC hn hc (by omega) c1 (by omega) c2 c3 ?_
  have lo2 : LO s (lbR M4 c) d (k + 2) := LO_same (n := n) d _ _ ok1 (fun j ja jb => ((fr _).trans ((h3.1.2.2.2.2.2.2 _ (Or.inl (by omega))).trans (by rw [up2_n _ _ (by omega), up2_n _ _ (by omega)]; rfl)))) h2.2
  have lo3 : LO s (lbR M4 c) d (EN s d (k + 2)) := LO_same (n := n) d _ _ ok2 (fun j ja jb => (fr _)) h3.2
  have e := good (by rw [OK_4 _ _ _ _ _ hs, decide_eq_true hkn, decide_eq_true hkn1, decide_eq_true hs1, ok1, ok2]; rfl) _ (show RP s (d + 1) k c t M (up2 (up2 M4 0 17 (nI t)) 0 16 (nI (5 - d))) from ?_)
  · rw [EN_4 _ _ _ hs] at e; exact e
  · unfold RP
    rw [NM_4 _ _ _ hs, EN_4 _ _ _ hs, LO_4 _ _ _ _ hs]
    rw [or_00] at c4
    have hz : lbR (up2 (up2 M4 0 17 (nI t)) 0 16 (nI (5 - d))) c k = 0 := (c4.2.2.2.2.2.2 k (Or.inl (by omega))).trans (hlb k (by omega) (by omega))
    have hcl : lbR (up2 (up2 M4 0 17 (nI t)) 0 16 (nI (5 - d))) c = lbR M4 c := by funext p; unfold lbR; rw [up2_n _ _ (by omega), up2_n _ _ (by omega)]
    have hl1 : lbR M4 c (k + 1) = 1 := (rq4.2.2.2.2.2.2 _ (Or.inl (by omega))).trans (show lbR (psh (psh (psh (psh (up2 (opM (up2 M 0 17 (nI t)) t (5 - d)) 6 (24 * c + k + 1) 1) (t + 1) (nI (20 + lcI (chR s n (k + 1))))) (t + 2) (nI 1)) (t + 3) (nI (10 + lcI (chR s n (k + 1))))) (t + 4) (nI 1)) c (k + 1) = 1 by simp [lbR, psh, up2_if, Nat.add_assoc])
    refine ⟨c4.weak (by omega), hz, ?_⟩
    rw [hcl]
    exact ⟨hl1, lo2, lo3⟩
set_option maxHeartbeats 4000000 in
theorem RdE_5 (hI : sI (sR g)) (h0 : C0 K c_Mo_reads) (hC : Cx (sR g) K gC_Mo 3) (hn : kn K = 4) (hc : c < 10) {d : Nat} (ih : RdE K g c s n d) (M : Me) (t k : Nat) (bc : Nat → Nat) (hT : TR M c s n) (hk : k ≤ 24) (ht : M 0 17 = nI (t + 1)) (hw : M 14 t = nI 1) (hts : t + 6 * (d + 1) ≤ 40) (hne : M 0 16 = nI (6 - (d + 1))) (hbc : ∀ j, j < 6 → M 15 j = nI (bc j) ∧ bc j + (d + 1) ≤ 7) (hlb : ∀ p, k ≤ p → p < 24 → lbR M c p = 0)
  (good : OK s n (d + 1) (hB bc) k = true → ∀ M', RP s (d + 1) k c t M M' → V K (wp (sR g)) M' 116 [(2, .int (nI (EN s (d + 1) k))), (0, .ref (ga g 0)), (1, .int (nI c))] [])
  (bad : OK s n (d + 1) (hB bc) k = false → ∀ M', RF M M' c → V K (wp (sR g)) M' 284 [(2, .int (-1)), (0, .ref (ga g 0)), (1, .int (nI c))] []) (hx : kd (chR s n k) = 5) : V K (wp (sR g)) M 116 [(2, .int (nI k)), (0, .ref (ga g 0)), (1, .int (nI c))] [] := by
  have hn24 := hT.2.1
  have hTA : TR (up2 M 0 17 (nI t)) c s n := hT.rf ((RF.refl M c).u17 _)
  have hneA : up2 M 0 17 (nI t) 0 16 = nI (5 - d) := by rw [up2_n _ _ (by omega), hne]; congr 1; omega
  have htA : up2 M 0 17 (nI t) 0 17 = nI t := up2_s _ _ _ _
  have hneM : M 0 16 = nI (5 - d) := by rw [hne]; congr 1; omega
  by_cases hy : kd (chR s n (k + 1)) = 8
  rotate_left
  · obtain ⟨hkn, hsk⟩ := chR_k hx (by decide)
    have hs : kd (s k) = 5 := by rw [← hsk]; exact hx
    refine rs_E hI h0 hC hn hc (by omega) ht (by omega) hw (m_Mo_readOne_5x (kl K) g hI (up2 M 0 17 (nI t)) hc (by omega) hTA htA (by omega) hneA (by omega) hx hy) ?_
    refine rs_end h0 hC hn (bad ?_ _ (((RF.refl M c).u17 _).op t (5 - d)))
    have hf : (decide (k + 1 < n) && decide (kd (s (k + 1)) = 8)) = false := by
      by_cases z : k + 1 < n
      · unfold chR at hy; rw [if_pos z] at hy; rw [decide_eq_false hy, Bool.and_false]
      · rw [decide_eq_false z, Bool.false_and]
    rw [OK_5 _ _ _ _ _ hs, hf]; simp
  obtain ⟨hkn, hsk⟩ := chR_k hx (by decide)
  have hs : kd (s k) = 5 := by rw [← hsk]; exact hx
  obtain ⟨hkn1, hsk1⟩ := chR_k hy (by decide)
  have hs1 : kd (s (k + 1)) = 8 := by rw [← hsk1]; exact hy
  have hRO : RO c t (5 - d) M (psh (up2 (up2 (opM (up2 M 0 17 (nI t)) t (5 - d)) 6 (24 * c + k + 1) 1) 8 c ((up2 (opM (up2 M 0 17 (nI t)) t (5 - d)) 6 (24 * c + k + 1) 1) 8 c ||| (1 <<< (nI (nmI (chR s n (k + 1))) &&& 31)))) (t + 1) (nI 1)) ((0 : Int32) ||| (1 <<< (nI (nmI (chR s n (k + 1))) &&& 31))) (k + 1) (k + 2) := (((RO.op hneM).lab (p := k + 1) (by omega) (by omega) (by omega) 1).us _).push (by omega) _
  have hbc1 : ∀ j, j < 6 → (psh (up2 (up2 (opM (up2 M 0 17 (nI t)) t (5 - d)) 6 (24 * c + k + 1) 1) 8 c ((up2 (opM (up2 M 0 17 (nI t)) t (5 - d)) 6 (24 * c + k + 1) 1) 8 c ||| (1 <<< (nI (nmI (chR s n (k + 1))) &&& 31)))) (t + 1) (nI 1)) 15 j = nI (bc j) ∧ bc j + d ≤ 7 := fun j hj => ⟨(hRO.2.2.2.1 j hj).trans (hbc j hj).1, by have := (hbc j hj).2; omega⟩
  have hlb1 : ∀ p, k + 2 ≤ p → p < 24 → lbR (psh (up2 (up2 (opM (up2 M 0 17 (nI t)) t (5 - d)) 6 (24 * c + k + 1) 1) 8 c ((up2 (opM (up2 M 0 17 (nI t)) t (5 - d)) 6 (24 * c + k + 1) 1) 8 c ||| (1 <<< (nI (nmI (chR s n (k + 1))) &&& 31)))) (t + 1) (nI 1)) c p = 0 := fun p h1 h2 => (hRO.2.2.2.2.2.2.2 p (by omega)).trans (hlb p (by omega) h2)
  refine rs_E hI h0 hC hn hc (by omega) ht (by omega) hw (m_Mo_readOne_5 (kl K) g hI (up2 M 0 17 (nI t)) hc (by omega) hTA htA (by omega) hneA (by omega) hx hy) ?_
  refine ih _ (t + 1) (k + 2) bc (hT.rf hRO.1) (by omega) (by simp [psh, opM, up2_if]) (by simp [psh, opM, up2_if]) (by omega) (by rw [hRO.2.1]; congr 1; omega) hbc1 hlb1 (fun ok1 M2 h2 => ?_) (fun nok M9 h9 => bad (by rw [OK_5 _ _ _ _ _ hs, nok]; simp) M9 (hRO.1.trans h9))
  have he1 := OK_ends _ _ _ _ _ ok1
  have rq2 := h2.1
  obtain ⟨c1, c2, c3, c4⟩ := hRO.close rq2 (by omega) (by omega)
  refine rs_close hI h0 hC hn hc (by omega) c1 (by omega) c2 c3 ?_
  have lo2 := h2.2
  have e := good (by rw [OK_5 _ _ _ _ _ hs, decide_eq_true hkn, decide_eq_true hkn1, decide_eq_true hs1, ok1]; rfl) _ (show RP s (d + 1) k c t M (up2 (up2 M2 0 17 (nI t)) 0 16 (nI (5 - d))) from ?_)
  · rw [EN_5 _ _ _ hs] at e; exact e
  · unfold RP
    rw [NM_5 _ _ _ hs, EN_5 _ _ _ hs, LO_5 _ _ _ _ hs]
    rw [or_00] at c4; rw [hsk1] at c4
    have hz : lbR (up2 (up2 M2 0 17 (nI t)) 0 16 (nI (5 - d))) c k = 0 := (c4.2.2.2.2.2.2 k (Or.inl (by omega))).trans (hlb k (by omega) (by omega))
    have hcl : lbR (up2 (up2 M2 0 17 (nI t)) 0 16 (nI (5 - d))) c = lbR M2 c := by funext p; unfold lbR; rw [up2_n _ _ (by omega), up2_n _ _ (by omega)]
    have hl1 : lbR M2 c (k + 1) = 1 := (rq2.2.2.2.2.2.2 _ (Or.inl (by omega))).trans (show lbR (psh (up2 (up2 (opM (up2 M 0 17 (nI t)) t (5 - d)) 6 (24 * c + k + 1) 1) 8 c ((up2 (opM (up2 M 0 17 (nI t)) t (5 - d)) 6 (24 * c + k + 1) 1) 8 c ||| (1 <<< (nI (nmI (chR s n (k + 1))) &&& 31)))) (t + 1) (nI 1)) c (k + 1) = 1 by simp [lbR, psh, up2_if, Nat.add_assoc])
    refine ⟨c4.weak (by omega), hz, ?_⟩
    rw [hcl]
    exact ⟨hl1, lo2⟩
theorem RdE_all (hI : sI (sR g)) (h0 : C0 K c_Mo_reads) (hC : Cx (sR g) K gC_Mo 3) (hn : kn K = 4) (hc : c < 10) : ∀ d, RdE K g c s n d := by
  intro d
  induction d with
  | zero => exact RdE_b hI h0 hC hn hc
  | succ d ih =>
    intro M t k bc hT hk ht hw hts hne hbc hlb good bad
    rcases kd_cases (chR s n k) with q | q | q | q | q | q | q | q | q | q
    · exact RdE_2 hI h0 hC hn hc ih M t k bc hT hk ht hw hts hne hbc hlb good bad q
    · exact RdE_1 hI h0 hC hn hc ih M t k bc hT hk ht hw hts hne hbc hlb good bad q
    · exact RdE_3 hI h0 hC hn hc ih M t k bc hT hk ht hw hts hne hbc hlb good bad q
    · exact RdE_4 hI h0 hC hn hc ih M t k bc hT hk ht hw hts hne hbc hlb good bad q
    · exact RdE_5 hI h0 hC hn hc ih M t k bc hT hk ht hw hts hne hbc hlb good bad q
    · exact RdE_6 hI h0 hC hn hc ih M t k bc hT hk ht hw hts hne hbc hlb good bad q
    · exact RdE_7 hI h0 hC hn hc ih M t k bc hT hk ht hw hts hne hbc hlb good bad q
    · exact RdE_8 hI h0 hC hn hc ih M t k bc hT hk ht hw hts hne hbc hlb good bad q
    · exact RdE_9 hI h0 hC hn hc ih M t k bc hT hk ht hw hts hne hbc hlb good bad q
    · exact RdE_0 hI h0 hC hn hc ih M t k bc hT hk ht hw hts hne hbc hlb good bad q
end RX
