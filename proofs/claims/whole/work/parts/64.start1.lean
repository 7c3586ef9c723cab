/-! THE START: both memories mean the empty book -/
def β0 : Me := fun i _ => if i = 2 then -1 else 0
theorem th_0 (c : Nat) : thB β0 c = false := th_m rfl
theorem wl_0 (c : Nat) : wlB β0 c = false := by unfold wlB; rw [th_0, Bool.false_and]
theorem us_0 (c : Nat) : usI β0 c = 0 := by unfold usI; rw [wl_0]; rfl
theorem b0_z {i : Nat} (h : i ≠ 2) : β0 i = fun _ => 0 := by funext k; exact if_neg h
theorem chF_0 : chF (fun _ => (0 : Int32)) := fun j _ => rfl
theorem dfL_0 {j : Nat} (hj : j < 10) : ∀ n, dfL β0 j n = -1 := by
  intro n
  induction n with
  | zero => rfl
  | succ n ih =>
    simp only [dfL]
    rw [if_neg (fun e => ?_)]
    · exact ih
    · have e : (-1 : Int32) = nI j := e
      have h := nI_pos' (n := j) (by omega)
      rw [← e] at h
      exact absurd h (by decide)
theorem Iv_0 : Iv β0 ∧ Iv2 β0 := by
  refine ⟨⟨⟨fun c _ => Or.inl rfl, ⟨0, by omega, rfl⟩, fun c _ h => ?_, fun c _ => Or.inl rfl, fun c _ _ => rfl⟩, fun c _ h => ?_⟩, fun c _ h => ?_⟩
  · rw [th_0] at h; cases h
  · have h := (gd_iff.mp h).1; rw [th_0] at h; cases h
  · have h : (0 : Int32) = 12 := h
    exact absurd h (by decide)
theorem MB0_z {i : Nat} (h : ¬ (7 ≤ i ∧ i < 17)) : MB0 i = fun _ => 0 := by
  funext j
  exact if_neg (fun q => h ⟨q.1, q.2.1⟩)
theorem MB0_c {c k : Nat} (h : k ≠ 1) : MB0 (7 + c) k = 0 := if_neg (fun q => h q.2.2)
theorem MB0_n {c : Nat} (hc : c < 10) : MB0 (7 + c) 1 = -1 := if_pos ⟨by omega, by omega, rfl⟩
theorem RB_0 : RB MB0 β0 := by
  refine ⟨⟨fun c hc => ?_, ⟨?_, ?_, ?_, ?_, fun c hc => ?_⟩, fun c hc => ?_, fun j hj => ?_⟩, Iv_0.1, Iv_0.2⟩
  · rw [MB0_n hc, MB0_z (i := 27 + c) (by omega), MB0_z (i := 17 + c) (by omega), wl_0, us_0, b0_z (i := 20 + c) (by omega), th_0]
    exact ⟨rfl, rfl, rfl, rfl, fun z => by cases z⟩
  · rfl
  · rw [MB0_z (by omega), b0_z (by omega)]
  · rfl
  · rw [MB0_z (by omega)]; exact chF_0
  · rw [MB0_z (by omega)]; exact chF_0
  · unfold AbC
    rw [MB0_c (by omega), MB0_c (by omega), MB0_c (by omega), MB0_c (by omega), MB0_c (by omega), MB0_c (by omega), th_0, b0_z (by omega), b0_z (by omega), b0_z (by omega), b0_z (by omega), b0_z (by omega)]
    exact ⟨rfl, rfl, rfl, fun _ => ⟨rfl, rfl⟩, rfl⟩
  · rw [MB0_z (by omega)]; unfold dfE; rw [dfL_0 hj, if_pos (by decide)]
theorem AbsR_0 {r : Nat → Int32} (hr : ∀ j, j < 10 → r j = -1) : AbsR (MR0 r) β0 := by
  have hz : ∀ i, i ≠ 4 → MR0 r i = fun _ => 0 := fun i h => if_neg h
  have h4 : MR0 r 4 = r := if_pos rfl
  refine ⟨⟨fun c hc => ?_, fun c hc hw => ?_, fun c hc => ?_, ?_, ?_, fun k hk => ?_, ?_⟩, fun c hc => ?_⟩
  · rw [h4, hz 2 (by omega), hz 3 (by omega), hz 7 (by omega), hz 8 (by omega), wl_0, us_0, b0_z (i := 20 + c) (by omega), b0_z (i := 3) (by omega)]
    exact ⟨hr c hc, fun _ _ => rfl, chF_0, rfl, rfl, rfl⟩
  · rw [wl_0] at hw; cases hw
  · rw [hz 10 (by omega), hz 13 (by omega), hz 11 (by omega), hz 12 (by omega), b0_z (i := 5) (by omega), b0_z (i := 6) (by omega), b0_z (i := 7) (by omega), b0_z (i := 8) (by omega)]
    exact ⟨rfl, rfl, fun _ => ⟨rfl, rfl⟩⟩
  · rw [hz 0 (by omega), b0_z (by omega)]
  · rw [hz 0 (by omega), b0_z (by omega)]
  · rw [hz 1 (by omega), b0_z (by omega)]
  · rw [b0_z (by omega)]; exact chF_0
  · rw [hz 9 (by omega), b0_z (by omega)]
/-! THE LAW'S ROWS -/
def Cz (K : Cf) (own : String) : Prop := (ks K).vm.findClass own = some (km K).cls ∧ (∀ w ∈ wG, w.before (ka K) (ks K) = true) ∧ kA K = (fun q => (ks K).heap.size ≤ q) ∧ (kc K).maxLocals = kn K
abbrev wF (F : Heap → Prop) : Unit → Heap → Prop := fun _ H => F H
theorem v_cv {σ τ : Type} {K : Cf} {wp : σ → Heap → Prop} {wp' : τ → Heap → Prop} {M : σ} {M' : τ} {pc : Nat} {lv : List (Nat × Value)} {st : List Value} (h : ∀ H, wp M H → wp' M' H) (kk : V K wp' M' pc lv st) : V K wp M pc lv st := fun H locs ls hw hS hl => kk H locs ls (h H hw) hS hl
theorem v_pu {σ : Type} {K : Cf} {wp : σ → Heap → Prop} {M : σ} {pc : Nat} {lv : List (Nat × Value)} {st : List Value} {P : Prop} (h : ∀ H, wp M H → P) (kk : P → V K wp M pc lv st) : V K wp M pc lv st := fun H locs ls hw hS hl => kk (h H hw) H locs ls hw hS hl
/-- what a making leaves -/
def Mk (F : Heap → Prop) (s : State) (D : va_G) (cl : List vw_C) (tys : List (ClassId × FieldType)) (w : va_W) (H1 : Heap) : Prop := (∃ H, F H ∧ (∀ a, a < H.size → H1[a]? = H[a]?) ∧ s.heap.size ≤ H.size ∧ va_D (fun a => H.size ≤ a) w) ∧ va_P D cl w H1 ∧ va_K D cl tys s
set_option maxHeartbeats 1000000 in
theorem w_make {K : Cf} {D : va_G} {cl : List vw_C} {own : String} {a b : Nat} {pc : Nat} {lv : List (Nat × Value)} {rest : List Value} {cc : ByteArray} {F : Heap → Prop} (h0 : C0 K cc) (hC : Cz K own) {k : FieldType → ClassId} (hid : Kid k (ks K)) (hK : va_K D cl [] (ks K)) {C : String} {T : u_T} {N ci i1 i2 : Nat} (hin : ∀ w ∈ u_ws C T N, w ∈ wG) (ty : Nat → FieldType) (hty : ∀ k, k < N → parseFieldDescriptor (T k).2.2.1 = some (ty k)) (hcl : Cond.classLink own i1 C ∈ wG) (hinst : Cond.instantiable C N ∈ wG) (hini : Cond.initialized C ∈ wG) (hc : cl[ci]? = some (C, T, N)) (fs : List Value) (hfs : ∀ j, j < N → defaultValue (ty j) = vp_V fs j)
    {y : MethodName} {bytes : ByteArray} {mL h mc ms : Nat} {tys' : List (ClassId × FieldType)} {res : Nat → va_W → Prop} (hM : ∀ q, CN (kl K) D cl k y bytes mL h mc ms q [] (.inr (ci, fs)) tys' (res q)) (hcode : Cond.code y bytes mL none ∈ wG) (hlk : Cond.methodLink own i2 y ∈ wG) (hin2 : Cond.instanceMethod y ∈ wG) (hini2 : Cond.initialized y.cls ∈ wG) (hyn : y.name = "<init>") (hd : y.cls ≠ "java/lang/invoke/MethodHandle" ∧ y.cls ≠ "java/lang/invoke/VarHandle" ∧ (parseMethodDescriptor y.desc).map (fun d => d.parameters.length) = some 0) (hfr : h + 1 ≤ (kR K).frames) (hlo : 8 + (mL + 11) + 64 * h ≤ (kR K).locals) (hW : ((rest.map fun v => v.category).sum) ≤ 7)
    (a' b' : Nat) (ha : a + 1 + mc = a') (hb : b + N + ms = b') (hce : a' ≤ (kR K).cells) (hsl : b' ≤ (kR K).slots) (d1 : decode cc pc = .ok (.new i1, 3)) (d2 : decode cc (pc + 3) = .ok (.dup, 1)) (d3 : decode cc (pc + 3 + 1) = .ok (.invokespecial i2, 3))
    (kk : ∀ q w, res q w → V (kz K a' b') (wF (Mk F (ks K) D cl tys' w)) () (pc + 3 + 1 + 3) lv (.ref q :: rest)) : V (kz K a b) (wF F) () pc lv rest := fun H locs ls hw hS hl => by
  subst ha; subst hb
  have hA : ∀ x, kA K x ↔ (ks K).heap.size ≤ x := fun x => by rw [hC.2.2.1]
  refine va_forget (fun x hx => (hA _).mp (hS.2.2 x hx)) ?_
  refine va_new (A := fun x => H.size ≤ x) (H0 := H) (ws := []) (tys := []) (D := D) (cl := cl) (ci := ci) h0.1 h0.2 hC.2.1 hin ty hty hC.1 (hC.2.1 _ hcl) (hC.2.1 _ hinst) (hC.2.1 _ hini) hK (fun _ _ h => by simp at h) ⟨fun _ _ _ _ h => by simp at h, fun _ _ h => by simp at h⟩ va_S.rf (fun _ h => h) hc hfs (show a + 1 ≤ (kR K).cells by omega) (show b + N ≤ (kR K).slots by omega) d1 (fun q H1 hP1 hD1 hS1 => ?_)
  refine lv_dup h0.1 h0.2 d2 rfl ?_
  have hP1 : va_P D cl [(q, .inr (ci, fs))] H1 := hP1
  have hq : H.size ≤ q := hD1.2 0 (q, .inr (ci, fs)) rfl
  have hFc : ∀ x, va_A [(q, .inr (ci, fs))] H1.size x → H.size ≤ x := by
    intro x hx
    rcases hx with ⟨j, e, hj⟩ | hx
    · have hj0 : j = 0 := by have := (List.getElem?_eq_some_iff.mp hj).1; simp at this; exact this
      subst hj0
      have : q = x := (Prod.mk.inj (Option.some.inj hj)).1
      omega
    · have := hS1.1; omega
  refine va_callv (va_runI (As := []) (rest := .ref q :: rest) ⟨h0.1, h0.2, hC.2.2.2, hC.1, hC.2.1⟩ (hM q H1.size) (n := 0) ⟨callB_of 0 hC.2.1 (wG_goodIn hcode) rfl rfl rfl (hC.2.1 _ hini2) (hC.2.1 _ hlk) hd ⟨hfr, hlo⟩, hyn, hC.2.1 _ hin2⟩ ⟨fun x U g mk q => by obtain ⟨q0, q1, qP, qK, qI⟩ := q; exact ⟨q0, q1, qP, va_K.moved (u := U) (U := U.calling g mk x) (Vm.Alike.refl U.vm) qK, Kid.moved (u := U) (U := U.calling g mk x) (Vm.Alike.refl U.vm) qI⟩, fun U hU hW9 => ⟨rfl, by rw [hU], by rw [hU]; exact hP1, va_K.moved hW9.alike hK, hid.moved hW9.alike⟩⟩ rfl rfl hl.1 rfl (lv_room (by rw [List.map_cons, List.sum_cons]; have : Value.category (.ref q) = 1 := rfl; omega)) d3 ⟨hce, hsl⟩) (A0 := fun x => H.size ≤ x) (H0 := H) hS1 (fun x _ h => hFc x h) hFc (fun u t H2 locs2 ht hvm _ hB hz2 hk2 hS2 => ?_)
  obtain ⟨w, hres, hP2, hK2, hD2⟩ := hB
  rw [ht] at hP2
  refine kk q w hres H2 locs2 ls ⟨⟨H, hw, fun x hx => hS2.2.1 x hx (by omega), hS.1, ⟨hD2.1, fun i x hx => hFc _ (hD2.2 i x hx)⟩⟩, hP2, va_K.moved hvm.symm hK2⟩ ⟨Nat.le_trans hS.1 hS2.1, fun x h1 h2 => ?_, fun x hx => (hA _).mpr (Nat.le_trans hS.1 (hS2.2.2 x hx))⟩ hl
  rw [hS2.2.1 x (Nat.lt_of_lt_of_le h1 hS.1) (Nat.not_le.mpr (Nat.lt_of_lt_of_le h1 hS.1))]
  exact hS.2.1 x h1 h2
/-- both worlds, and the script -/
def wL (g g' : Gd) (x : Me × Me) (H : Heap) : Prop := wp (sB g) x.1 H ∧ wp (sR g') x.2 H
def CLw (K : Cf) (g g' : Gd) (b L : Nat) (xs : Nat → Int32) (own : String) : Prop :=
  Cz K own ∧ va_K (sD (sB g)) (sC (sB g)) (sT (sB g)) (ks K) ∧ (∀ w ∈ nestB, va_Nw w (ks K)) ∧ va_K (sD (sR g')) (sC (sR g')) (sT (sR g')) (ks K) ∧ va_X b L xs (ks K) (ks K).heap ∧ b < (ks K).heap.size ∧ sI (sB g) ∧ sI (sR g') ∧ (∀ i, i < 59 → (ks K).heap.size ≤ ga g i) ∧ (∀ i, i < 22 → (ks K).heap.size ≤ ga g' i) ∧ (∀ i, i < 59 → ∀ j, j < 22 → ga g i ≠ ga g' j) ∧ 2000 ≤ (kR K).frames ∧ 80000 ≤ (kR K).locals ∧ kcs K ≤ (kR K).cells ∧ ksl K ≤ (kR K).slots
section LW
variable {K : Cf} {g g' : Gd} {b L : Nat} {xs : Nat → Int32} {own : String} {pc : Nat} {lv : List (Nat × Value)} {rest st : List Value} {cc : ByteArray} {MB MR : Me} {y : MethodName} {bytes : ByteArray} {maxL h' index n : Nat} {ret : Option FieldType} {av : List Value} {post : Option Value → Me → Prop}
theorem w_sld {x : Me × Me} (h0 : C0 K cc) (hC : CLw K g g' b L xs own) (hL : L ≤ 2048) {v : Int32} (j : Nat) (hv : v = nI j) (hj : j < L) (hdg : decode cc pc = .ok (.iaload, 1)) (kk : V K (wL g g') x (pc + 1) lv (.int (xs j) :: rest)) : V K (wL g g') x pc lv (.int v :: .ref b :: rest) := fun H locs ls hw hS hl => by
  subst hv
  refine va_sld h0.1 h0.2 hC.2.2.2.2.1 hC.2.2.2.2.2.1 (by rw [hC.1.2.2.1]; have := hC.2.2.2.2.2.1; omega) hS (vp_in_nI hj (by omega)) hdg ?_
  rw [nI_clamp (by omega)]
  exact kk H locs ls hw hS hl
theorem w_slen {x : Me × Me} (h0 : C0 K cc) (hC : CLw K g g' b L xs own) (hdg : decode cc pc = .ok (.arraylength, 1)) (kk : V K (wL g g') x (pc + 1) lv (.int (nI L) :: rest)) : V K (wL g g') x pc lv (.ref b :: rest) := fun H locs ls hw hS hl =>
  va_slen h0.1 h0.2 hC.2.2.2.2.1 hC.2.2.2.2.2.1 (by rw [hC.1.2.2.1]; have := hC.2.2.2.2.2.1; omega) hS hdg (kk H locs ls hw hS hl)
theorem w_callB (h0 : C0 K cc) (hC : CLw K g g' b L xs own) (hM : CB (kl K) g y bytes maxL ret h' (.ref (ga g 0) :: av) MB post) (hcode : Cond.code y bytes maxL ret ∈ wG) (hlk : Cond.methodLink own index y ∈ wG) (hin : Cond.instanceMethod y ∈ wG) (hse : Cond.selects gC_B y y ∈ wG) (hini : Cond.initialized y.cls ∈ wG)
    (hd : y.cls ≠ "java/lang/invoke/MethodHandle" ∧ y.cls ≠ "java/lang/invoke/VarHandle" ∧ (parseMethodDescriptor y.desc).map (fun d => d.parameters.length) = some n) (hh : h' ≤ 100) (hm : maxL ≤ 45) (hn : av.length = n) (hst : st = av.reverse ++ .ref (ga g 0) :: rest) (hW : (rest.map fun v => v.category).sum ≤ 8) (hdg : decode cc pc = .ok (.invokevirtual index, 3))
    (kk : ∀ (r : Option Value) (M' : Me), post r M' → V K (wL g g') (M', MR) (pc + 3) lv (r.toList ++ rest)) : V K (wL g g') (MB, MR) pc lv st := fun H locs ls hw hS hl => by
  obtain ⟨hZ, hKB, hNw, hKR, hX, hbl, hIB, hIR, hgB, hgR, hdis, hfr, hlo, hc1, hc2⟩ := hC
  have hA : ∀ q, sA (sB g) q → kA K q := fun q ⟨i, hi, e⟩ => by rw [hZ.2.2.1, e]; exact hgB i hi
  refine q_call (va_runV (As := av) (rest := rest) (C := gC_B) ⟨h0.1, h0.2, hZ.2.2.2, hZ.1, hZ.2.1⟩ hM ⟨callB_of n hZ.2.1 (wG_goodIn hcode) rfl rfl rfl (hZ.2.1 _ hini) (hZ.2.1 _ hlk) hd ⟨by show h' + 1 ≤ _; omega, by show 8 + (maxL + 11) + 64 * h' ≤ _; omega⟩, hZ.2.1 _ hin, hZ.2.1 _ hse⟩ ⟨wS_blind (sB_N0 g) MB _, va_recv hKB hw.1 (q := (gC_B, gT_B, 6)) rfl (q0 := 0) (wl_at (sB g) MB (show 0 < 59 by omega)), fun U hU hW9 => ⟨rfl, by rw [hU]; exact hw.1, va_K.moved hW9.alike hKB, fun w h9 => nestW_warm (nestB_ok w h9) hW9 (hNw w h9)⟩⟩ rfl hn hl.1 hst (lv_room hW) hdg ⟨hc1, hc2⟩) hS (fun q _ h9 => hA q h9) (fun q h9 => hA q h9) (fun r M' t H1 locs1 ht _ hp hB _ hk hS1 => ?_)
  refine kk r M' hp H1 locs1 ls ⟨by rw [← ht]; exact hB.1, ?_⟩ hS1 hl
  refine va_P.kept hw.2 (fun i q hq => hk q.1 (hw.2 i q hq).lt (fun z => ?_))
  obtain ⟨hi, rfl⟩ := wl_of hq
  obtain ⟨j, hj, e⟩ := z
  exact hdis j hj i hi e.symm
theorem w_callR (h0 : C0 K cc) (hC : CLw K g g' b L xs own) (hM : CR (kl K) g' y bytes maxL ret h' (.ref (ga g' 0) :: av) MR post) (hcode : Cond.code y bytes maxL ret ∈ wG) (hlk : Cond.methodLink own index y ∈ wG) (hin : Cond.instanceMethod y ∈ wG) (hse : Cond.selects gC_Mo y y ∈ wG) (hini : Cond.initialized y.cls ∈ wG)
    (hd : y.cls ≠ "java/lang/invoke/MethodHandle" ∧ y.cls ≠ "java/lang/invoke/VarHandle" ∧ (parseMethodDescriptor y.desc).map (fun d => d.parameters.length) = some n) (hh : h' ≤ 100) (hm : maxL ≤ 45) (hn : av.length = n) (hst : st = av.reverse ++ .ref (ga g' 0) :: rest) (hW : (rest.map fun v => v.category).sum ≤ 8) (hdg : decode cc pc = .ok (.invokevirtual index, 3))
    (kk : ∀ (r : Option Value) (M' : Me), post r M' → V K (wL g g') (MB, M') (pc + 3) lv (r.toList ++ rest)) : V K (wL g g') (MB, MR) pc lv st := fun H locs ls hw hS hl => by
  obtain ⟨hZ, hKB, hNw, hKR, hX, hbl, hIB, hIR, hgB, hgR, hdis, hfr, hlo, hc1, hc2⟩ := hC
  have hA : ∀ q, sA (sR g') q → kA K q := fun q ⟨i, hi, e⟩ => by rw [hZ.2.2.1, e]; exact hgR i hi
  refine q_call (va_runV (As := av) (rest := rest) (C := gC_Mo) ⟨h0.1, h0.2, hZ.2.2.2, hZ.1, hZ.2.1⟩ hM ⟨callB_of n hZ.2.1 (wG_goodIn hcode) rfl rfl rfl (hZ.2.1 _ hini) (hZ.2.1 _ hlk) hd ⟨by show h' + 1 ≤ _; omega, by show 8 + (maxL + 11) + 64 * h' ≤ _; omega⟩, hZ.2.1 _ hin, hZ.2.1 _ hse⟩ ⟨wS_blind (sR_N0 g') MR _, va_recv hKR hw.2 (q := (gC_Mo, gT_Mo, 31)) rfl (q0 := 0) (wl_at (sR g') MR (show 0 < 22 by omega)), fun U hU hW9 => ⟨rfl, by rw [hU]; exact hw.2, va_K.moved hW9.alike hKR, fun w h9 => absurd h9 List.not_mem_nil⟩⟩ rfl hn hl.1 hst (lv_room hW) hdg ⟨hc1, hc2⟩) hS (fun q _ h9 => hA q h9) (fun q h9 => hA q h9) (fun r M' t H1 locs1 ht _ hp hB _ hk hS1 => ?_)
  refine kk r M' hp H1 locs1 ls ⟨?_, by rw [← ht]; exact hB.1⟩ hS1 hl
  refine va_P.kept hw.1 (fun i q hq => hk q.1 (hw.1 i q hq).lt (fun z => ?_))
  obtain ⟨hi, rfl⟩ := wl_of hq
  obtain ⟨j, hj, e⟩ := z
  exact hdis i hi j hj e
end LW
