/-! CALLS, ANSWERS, AND A CONTRACT OUT OF A WALK -/
/-- words of nest mates stay under what a run resolves -/
def nestW : Cond → Bool
  | .fieldLinkNest .. | .methodLinkNest .. => true
  | _ => false
theorem nestW_warm {w : Cond} (hw : nestW w = true) {s U : State} (hW : s.WarmedH U.vm) (h : va_Nw w s) : va_Nw w U := by
  cases w with
  | fieldLinkNest a i b n d t => exact va_Nw.warmF hW h
  | methodLinkNest a i x t => exact va_Nw.warmM hW h
  | _ => simp [nestW] at hw
theorem nestW_tab {w : Cond} (hw : nestW w = true) : w.onTables = true := by
  cases w with
  | fieldLinkNest a i b n d t => rfl
  | methodLinkNest a i x t => rfl
  | _ => simp [nestW] at hw
/-- what a side's words must be -/
def sN0 (S : Sd) : Prop := ∀ w ∈ sW S, nestW w = true
theorem wS_blind {S : Sd} (hN : sN0 S) (M : Me) (av : List Value) : FrameBlind (va_Pc av (wS S M)) := fun a U g mk q => by
  obtain ⟨q0, qP, qK, qN⟩ := q
  exact ⟨q0, qP, va_K.moved (u := U) (U := U.calling g mk a) (Vm.Alike.refl U.vm) qK, fun w hw => va_Nw.same (u := U) (U := U.calling g mk a) (nestW_tab (hN w hw)) rfl (qN w hw)⟩
theorem wS_of {S : Sd} {K : Cf} {own : String} {h : Nat} (hC : Cx S K own h) (hN : sN0 S) {M : Me} {H : Heap} (hw : wp S M H) {U : State} (hU : U.heap = H) (hW : (ks K).WarmedH U.vm) : wS S M U :=
  ⟨by rw [hU]; exact hw, va_K.moved hW.alike hC.k, fun w h9 => nestW_warm (hN w h9) hW (hC.nw w h9)⟩
theorem q_call {p : Program} {l : Launch} {e : Env} {R : Room} {s : State} {m : MethodId} {args : Array Value} {below : List Frame} {meth : Method} {c : Code} {H : Heap} {locs : List Loc} {cells slots : Nat} {Q : State → Prop} {pc : Nat} {ls : Array Slot} {rest st0 : List Value} {a : Array Value} {A0 A1 : Nat → Prop} {H0 : Heap} {free : Addr → Prop} {σ : Type} {ws : σ → State → Prop} {post : Option Value → σ → Prop}
    (hr : va_Run p l e R s m args below meth c H locs cells slots 0 0 (F0 m pc ls st0) rest (QC ws A1 post a) free) (hS : va_S A0 H0 H locs) (hA : ∀ q, q < H.size → A1 q → A0 q) (hf : ∀ q, free q → A0 q)
    (kk : ∀ (r : Option Value) (M : σ) (t : State) (H1 : Heap) (locs1 : List Loc), t.heap = H1 → s.vm.Alike t.vm → post r M → ws M t → H.size ≤ H1.size → (∀ q : Nat, q < H.size → ¬ A1 q → H1[q]? = H[q]?) → va_S A0 H0 H1 locs1 → W p l e R s m args below meth c H1 locs1 cells slots Q (F0 m (pc + 3) ls (r.toList ++ rest))) : W p l e R s m args below meth c H locs cells slots Q (F0 m pc ls st0) := by
  intro T hT X
  obtain ⟨v, st₀, t, T', L, h0, X', hL, e1, e2, ⟨⟨r, u, hv, hp, hb⟩, hz, hk⟩, st⟩ := hr T hT X
  cases hv
  rw [h0] at hz hk
  obtain ⟨t2, a1, b1⟩ := kk v u t T'.heap (locs ++ L) e1.symm (by rw [← e2]; exact X'.warmed.alike) hp hb (by rw [e1]; exact hz) (fun q h1 h2 => by rw [e1]; exact hk q h1 h2)
    ⟨Nat.le_trans hS.1 (by rw [e1]; exact hz), fun q h1 h2 => by rw [e1, hk q (Nat.lt_of_lt_of_le h1 hS.1) (fun z => h2 (hA q (Nat.lt_of_lt_of_le h1 hS.1) z))]; exact hS.2.1 q h1 h2, fun q hq => by
      rcases List.mem_append.mp hq with h | h
      · exact hS.2.2 q h
      · exact hf _ (hL q h)⟩ T' rfl X'
  exact ⟨t2, st t2 a1, b1⟩
section CR
variable {S : Sd} {K : Cf} {own : String} {h : Nat} {M : Me} {cc : ByteArray} {pc : Nat} {lv : List (Nat × Value)} {rest st : List Value} {y : MethodName} {bytes : ByteArray} {maxL h' index n : Nat} {ret : Option FieldType} {av : List Value} {post : Option Value → Me → Prop}
/-- behind a call of a contract of the same side -/
theorem q_side (hC : Cx S K own h) {H : Heap} {locs : List Loc} {ls : Array Slot} (hS : va_S (kA K) (ks K).heap H locs) (hl : lv_has ls (kn K) lv) {a : Array Value}
    (hr : va_Run (kp K) (kl K) (ke K) (kR K) (ks K) (km K) (ka K) (kb K) (kM K) (kc K) H locs (kcs K) (ksl K) 0 0 (F0 (km K) pc ls st) rest (QC (wS S) (sA S) post a) (sA S))
    (kk : ∀ (r : Option Value) (M' : Me), post r M' → V K (wp S) M' (pc + 3) lv (r.toList ++ rest)) : kW K H locs (F0 (km K) pc ls st) := by
  have hA : kA K = sA S := hC.2.2.2.2.1
  refine q_call hr hS (fun q _ h9 => by rw [hA]; exact h9) (fun q h9 => by rw [hA]; exact h9) (fun r M' t H1 locs1 ht _ hp hB _ _ hS1 => ?_)
  exact kk r M' hp H1 locs1 ls (by rw [← ht]; exact hB.1) hS1 hl
theorem room_ok (hC : Cx S K own h) (hh : h' + 1 ≤ h) (hm : maxL ≤ 45) : (rm h').frames + 1 ≤ (kR K).frames ∧ 8 + (maxL + 11) + (rm h').locals ≤ (kR K).locals := by
  rw [hC.r]
  exact ⟨hh, by show 8 + (maxL + 11) + 64 * h' ≤ 64 * h; omega⟩
theorem room_0 (hC : Cx S K own h) : kcs K + 0 ≤ (kR K).cells ∧ ksl K + 0 ≤ (kR K).slots := by
  obtain ⟨-, -, -, -, -, -, -, hr, h1, h2⟩ := hC
  rw [hr, h1, h2]
  exact ⟨Nat.le_refl _, Nat.le_refl _⟩
theorem v_callS (h0 : C0 K cc) (hC : Cx S K own h) (hN : sN0 S) (hM : Ct (kl K) y (.code y bytes maxL ret :: wG) h' (wS S) (sA S) av M post) (hcode : Cond.code y bytes maxL ret ∈ wG) (hlk : Cond.methodLink own index y ∈ wG) (hstt : Cond.static y ∈ wG) (hini : Cond.initialized y.cls ∈ wG)
    (hd : y.cls ≠ "java/lang/invoke/MethodHandle" ∧ y.cls ≠ "java/lang/invoke/VarHandle" ∧ (parseMethodDescriptor y.desc).map (fun d => d.parameters.length) = some n) (hh : h' + 1 ≤ h) (hm : maxL ≤ 45) (hn : av.length = n) (hst : st = av.reverse ++ rest) (hW : (rest.map fun v => v.category).sum ≤ 8) (hdg : decode cc pc = .ok (.invokestatic index, 3))
    (kk : ∀ (r : Option Value) (M' : Me), post r M' → V K (wp S) M' (pc + 3) lv (r.toList ++ rest)) : V K (wp S) M pc lv st := fun H locs ls hw hS hl =>
  q_side hC hS hl (va_runS (As := av) (rest := rest) ⟨h0.1, h0.2, hC.ml, hC.own, hC.ts⟩ hM ⟨callB_of n hC.ts (wG_goodIn hcode) rfl rfl rfl (hC.ts _ hini) (hC.ts _ hlk) hd (room_ok hC hh hm), hC.ts _ hstt⟩ ⟨wS_blind hN M av, fun U hU hW9 => ⟨rfl, wS_of hC hN hw hU hW9⟩⟩ rfl hn hl.1 hst (lv_room hW) hdg (room_0 hC)) kk
theorem v_callSN (h0 : C0 K cc) (hC : Cx S K own h) (hN : sN0 S) {host : String} (hM : Ct (kl K) y (.code y bytes maxL ret :: wG) h' (wS S) (sA S) av M post) (hcode : Cond.code y bytes maxL ret ∈ wG) (hlk : Cond.methodLinkNest own index y host ∈ sW S) (hstt : Cond.static y ∈ wG) (hini : Cond.initialized y.cls ∈ wG)
    (hd : y.cls ≠ "java/lang/invoke/MethodHandle" ∧ y.cls ≠ "java/lang/invoke/VarHandle" ∧ (parseMethodDescriptor y.desc).map (fun d => d.parameters.length) = some n) (hh : h' + 1 ≤ h) (hm : maxL ≤ 45) (hn : av.length = n) (hst : st = av.reverse ++ rest) (hW : (rest.map fun v => v.category).sum ≤ 8) (hdg : decode cc pc = .ok (.invokestatic index, 3))
    (kk : ∀ (r : Option Value) (M' : Me), post r M' → V K (wp S) M' (pc + 3) lv (r.toList ++ rest)) : V K (wp S) M pc lv st := fun H locs ls hw hS hl =>
  q_side hC hS hl (va_runSN (As := av) (rest := rest) ⟨h0.1, h0.2, hC.ml, hC.own, hC.ts⟩ hM ⟨va_cnB n hC.ts (wG_goodIn hcode) rfl rfl rfl (hC.nw _ hlk) (hC.ts _ hini) hd (room_ok hC hh hm), hC.ts _ hstt, trivial⟩ ⟨wS_blind hN M av, fun U hU hW9 => ⟨rfl, wS_of hC hN hw hU hW9⟩⟩ rfl hn hl.1 hst (lv_room hW) hdg (room_0 hC)) kk
theorem v_callV (h0 : C0 K cc) (hC : Cx S K own h) (hN : sN0 S) (i : Nat) (hi : i < sN S) {ci : Nat} {fs : List Value} {q : vw_C} (he : sE S i (M i) = .inr (ci, fs)) (hq : (sC S)[ci]? = some q) (hM : Ct (kl K) y (.code y bytes maxL ret :: wG) h' (wS S) (sA S) (.ref (sa S i) :: av) M post) (hcode : Cond.code y bytes maxL ret ∈ wG) (hlk : Cond.methodLink own index y ∈ wG) (hin : Cond.instanceMethod y ∈ wG) (hse : Cond.selects q.1 y y ∈ wG) (hini : Cond.initialized y.cls ∈ wG)
    (hd : y.cls ≠ "java/lang/invoke/MethodHandle" ∧ y.cls ≠ "java/lang/invoke/VarHandle" ∧ (parseMethodDescriptor y.desc).map (fun d => d.parameters.length) = some n) (hh : h' + 1 ≤ h) (hm : maxL ≤ 45) (hn : av.length = n) (hst : st = av.reverse ++ .ref (sa S i) :: rest) (hW : (rest.map fun v => v.category).sum ≤ 8) (hdg : decode cc pc = .ok (.invokevirtual index, 3))
    (kk : ∀ (r : Option Value) (M' : Me), post r M' → V K (wp S) M' (pc + 3) lv (r.toList ++ rest)) : V K (wp S) M pc lv st := fun H locs ls hw hS hl =>
  q_side hC hS hl (va_runV (As := av) (rest := rest) (C := q.1) ⟨h0.1, h0.2, hC.ml, hC.own, hC.ts⟩ hM ⟨callB_of n hC.ts (wG_goodIn hcode) rfl rfl rfl (hC.ts _ hini) (hC.ts _ hlk) hd (room_ok hC hh hm), hC.ts _ hin, hC.ts _ hse⟩ ⟨wS_blind hN M _, va_recv hC.k hw hq (q0 := i) (by rw [wl_at S M hi, he]), fun U hU hW9 => ⟨rfl, wS_of hC hN hw hU hW9⟩⟩ rfl hn hl.1 hst (lv_room hW) hdg (room_0 hC)) kk
theorem v_callVN (h0 : C0 K cc) (hC : Cx S K own h) (hN : sN0 S) {host : String} (i : Nat) (hi : i < sN S) {ci : Nat} {fs : List Value} {q : vw_C} (he : sE S i (M i) = .inr (ci, fs)) (hq : (sC S)[ci]? = some q) (hM : Ct (kl K) y (.code y bytes maxL ret :: wG) h' (wS S) (sA S) (.ref (sa S i) :: av) M post) (hcode : Cond.code y bytes maxL ret ∈ wG) (hlk : Cond.methodLinkNest own index y host ∈ sW S) (hin : Cond.instanceMethod y ∈ wG) (hse : Cond.selects q.1 y y ∈ wG) (hini : Cond.initialized y.cls ∈ wG)
    (hd : y.cls ≠ "java/lang/invoke/MethodHandle" ∧ y.cls ≠ "java/lang/invoke/VarHandle" ∧ (parseMethodDescriptor y.desc).map (fun d => d.parameters.length) = some n) (hh : h' + 1 ≤ h) (hm : maxL ≤ 45) (hn : av.length = n) (hst : st = av.reverse ++ .ref (sa S i) :: rest) (hW : (rest.map fun v => v.category).sum ≤ 8) (hdg : decode cc pc = .ok (.invokevirtual index, 3))
    (kk : ∀ (r : Option Value) (M' : Me), post r M' → V K (wp S) M' (pc + 3) lv (r.toList ++ rest)) : V K (wp S) M pc lv st := fun H locs ls hw hS hl =>
  q_side hC hS hl (va_runVN (As := av) (rest := rest) (C := q.1) ⟨h0.1, h0.2, hC.ml, hC.own, hC.ts⟩ hM ⟨va_cnB n hC.ts (wG_goodIn hcode) rfl rfl rfl (hC.nw _ hlk) (hC.ts _ hini) hd (room_ok hC hh hm), hC.ts _ hin, hC.ts _ hse⟩ ⟨wS_blind hN M _, va_recv hC.k hw hq (q0 := i) (by rw [wl_at S M hi, he]), fun U hU hW9 => ⟨rfl, wS_of hC hN hw hU hW9⟩⟩ rfl hn hl.1 hst (lv_room hW) hdg (room_0 hC)) kk
end CR
/-- a method's end -/
def Rx (S : Sd) (K : Cf) (post : Option Value → Me → Prop) (ret : Option FieldType) : Prop :=
  kQ K = MQ (kb K) (QC (wS S) (sA S) post) (ka K) (ks K) (kcs K) (ksl K) (sA S) ∧ (kM K).sig.returnType = ret ∧ (kM K).locks = false ∧ sN0 S
section RR
variable {S : Sd} {K : Cf} {own : String} {h : Nat} {M : Me} {cc : ByteArray} {pc : Nat} {lv : List (Nat × Value)} {post : Option Value → Me → Prop} {ret : Option FieldType}
theorem r_post (hC : Cx S K own h) (hN : sN0 S) {H : Heap} {locs : List Loc} (hw : wp S M H) (hS : va_S (kA K) (ks K).heap H locs) {r : Option Value} (hp : post r M) : ∀ t : State, t.heap = H → (ks K).WarmedH t.vm → QC (wS S) (sA S) post (ka K) (ks K) (.returned r) t := by
  intro t ht hW
  have hA : kA K = sA S := hC.2.2.2.2.1
  rw [hA] at hS
  exact ⟨⟨r, M, rfl, hp, wS_of hC hN hw ht hW⟩, hS.F ht⟩
theorem r_free (hC : Cx S K own h) {H H0 : Heap} {locs : List Loc} (hS : va_S (kA K) H0 H locs) : ∀ q ∈ locs, sA S q.base := by
  have hA : kA K = sA S := hC.2.2.2.2.1
  rw [hA] at hS
  exact hS.2.2
theorem v_iret (h0 : C0 K cc) (hC : Cx S K own h) (hR : Rx S K post (some .int)) {x : Int32} (hdg : decode cc pc = .ok (.ireturn, 1)) (hp : post (some (.int x)) M) : V K (wp S) M pc lv [.int x] := fun H locs ls hw hS _ => by
  show W _ _ _ _ _ _ _ _ _ _ _ _ _ _ (kQ K) _
  rw [hR.1]
  exact W.iret h0.1 h0.2 hR.2.1 (r_post hC hR.2.2.2 hw hS hp) (r_free hC hS) hdg (hlocks := hR.2.2.1)
theorem v_zret (h0 : C0 K cc) (hC : Cx S K own h) {ty : FieldType} (hR : Rx S K post (some ty)) {x : Int32} (hn : narrow ty (.int x) = .int x) (hdg : decode cc pc = .ok (.ireturn, 1)) (hp : post (some (.int x)) M) : V K (wp S) M pc lv [.int x] := fun H locs ls hw hS _ => by
  show W _ _ _ _ _ _ _ _ _ _ _ _ _ _ (kQ K) _
  rw [hR.1]
  exact W.zret h0.1 h0.2 hR.2.1 hn (r_post hC hR.2.2.2 hw hS hp) (r_free hC hS) hdg (hlocks := hR.2.2.1)
theorem v_vret (h0 : C0 K cc) (hC : Cx S K own h) (hR : Rx S K post none) (hdg : decode cc pc = .ok (.return_, 1)) (hp : post none M) : V K (wp S) M pc lv [] := fun H locs ls hw hS _ => by
  show W _ _ _ _ _ _ _ _ _ _ _ _ _ _ (kQ K) _
  rw [hR.1]
  exact W.vret h0.1 h0.2 hR.2.1 (r_post hC hR.2.2.2 hw hS hp) (r_free hC hS) hdg (hlocks := hR.2.2.1)
theorem v_aret (h0 : C0 K cc) (hC : Cx S K own h) {C : String} (hR : Rx S K post (some (.object C))) {v : Value} (hv : v = .null ∨ ∃ a, v = .ref a) (hdg : decode cc pc = .ok (.areturn, 1)) (hp : post (some v) M) : V K (wp S) M pc lv [v] := fun H locs ls hw hS _ => by
  show W _ _ _ _ _ _ _ _ _ _ _ _ _ _ (kQ K) _
  rw [hR.1]
  exact W.aret h0.1 h0.2 hR.2.1 (Or.inl ⟨C, rfl⟩) hv (r_post hC hR.2.2.2 hw hS hp) (r_free hC hS) hdg (hlocks := hR.2.2.1)
end RR
/-- a contract out of a walk -/
theorem Ct.of {S : Sd} {l : Launch} {y : MethodName} {cc : ByteArray} {maxL : Nat} {ret : Option FieldType} {h : Nat} {av : List Value} {M : Me} {post : Option Value → Me → Prop} (hI : sI S) (hN : sN0 S) (hy : plainName y.cls = true) (hlen : (lg_sl av).length ≤ maxL)
    (body : ∀ K : Cf, C0 K cc → Cx S K y.cls h → Rx S K post ret → kl K = l → kn K = maxL → V K (wp S) M 0 (lv_args 0 av) []) : Ct l y (.code y cc maxL ret :: wG) h (wS S) (sA S) av M post := by
  refine Met.ofW (cc := cc) (maxL := maxL) (ret := ret) hy rfl ?_
  intro p e s m args below meth c s₁ B hml hv
  obtain ⟨rfl, hP, hK, hNw⟩ := hv
  have hts := atoms_spec (ws := .code y cc maxL ret :: wG) B.pre
  have hb := body (p, l, e, rm h, s, m, av.toArray, below, meth, c, maxL, 0, 0, sA S, MQ below (QC (wS S) (sA S) post) av.toArray s 0 0 (sA S)) ⟨B.exec, B.bytes⟩ ⟨findClass_of_methodNamed B.named, fun w hw => hts w (List.mem_cons_of_mem _ hw), hK, hNw, rfl, hI, hml, rfl, rfl, rfl⟩ ⟨rfl, B.returns, B.notSynchronized, hN⟩ rfl rfl
  rw [lg_entry_eq]
  exact hb s.heap [] _ hP va_S.rf (lv_entry av hlen)
