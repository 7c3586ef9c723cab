/-! WHAT IS MADE: rows for constructors -/
abbrev kz (K : Cf) (a b : Nat) : Cf := (K.1, K.2.1, K.2.2.1, K.2.2.2.1, K.2.2.2.2.1, K.2.2.2.2.2.1, K.2.2.2.2.2.2.1, K.2.2.2.2.2.2.2.1, K.2.2.2.2.2.2.2.2.1, K.2.2.2.2.2.2.2.2.2.1, K.2.2.2.2.2.2.2.2.2.2.1, a, b, K.2.2.2.2.2.2.2.2.2.2.2.2.2.1, K.2.2.2.2.2.2.2.2.2.2.2.2.2.2)
abbrev Wy : Type := va_W × List (ClassId × FieldType)
def wN (D : va_G) (cl : List vw_C) (A : Nat → Prop) (s : State) (x : Wy) (H : Heap) : Prop := va_P D cl x.1 H ∧ va_D A x.1 ∧ va_K D cl x.2 s
def Cy (K : Cf) (own : String) : Prop := (ks K).vm.findClass own = some (km K).cls ∧ (∀ w ∈ wG, w.before (ka K) (ks K) = true) ∧ (∀ q, (ks K).heap.size ≤ q → kA K q) ∧ (kc K).maxLocals = kn K ∧ (kM K).name = "<init>"
theorem RA_fc {U : State} {x : ClassId} {ty : FieldType} (h : va_RA U x ty) : U.vm.findClass ("[" ++ ty.toString) = some x := by
  cases ty with
  | object C => obtain ⟨_, _, _, _, _, h4⟩ := h; exact h4
  | _ => exact h
/-- one class of arrays for each type -/
def Kid (k : FieldType → ClassId) (U : State) : Prop := (∀ ty x, va_RA U x ty → x = k ty) ∧ va_AO gC_Ce U ∧ va_AO gC_Fr U
theorem Kid.moved {k : FieldType → ClassId} {u U : State} (hvm : u.vm.Alike U.vm) (h : Kid k u) : Kid k U := ⟨fun ty x hx => h.1 ty x (hx.moved hvm.symm), h.2.1.moved hvm, h.2.2.moved hvm⟩
theorem Kid_ex {U : State} (h1 : va_AO gC_Ce U) (h2 : va_AO gC_Fr U) (d : ClassId) : ∃ k, Kid k U := by
  refine ⟨fun ty => (U.vm.findClass ("[" ++ ty.toString)).getD d, fun ty x hx => ?_, h1, h2⟩
  show x = (U.vm.findClass ("[" ++ ty.toString)).getD d
  rw [RA_fc hx]; rfl
section XR
variable {K : Cf} {D : va_G} {cl : List vw_C} {own : String} {a b : Nat} {ws : va_W} {tys : List (ClassId × FieldType)} {pc : Nat} {lv : List (Nat × Value)} {rest : List Value} {cc : ByteArray}
theorem x_new (h0 : C0 K cc) (hC : Cy K own) {C : String} {T : u_T} {N ci index : Nat} (hin : ∀ w ∈ u_ws C T N, w ∈ wG) (ty : Nat → FieldType) (hty : ∀ k, k < N → parseFieldDescriptor (T k).2.2.1 = some (ty k)) (hcl : Cond.classLink own index C ∈ wG) (hinst : Cond.instantiable C N ∈ wG) (hini : Cond.initialized C ∈ wG) (hc : cl[ci]? = some (C, T, N)) (fs : List Value) (hfs : ∀ j, j < N → defaultValue (ty j) = vp_V fs j) (a' b' : Nat) (ha : a + 1 = a') (hb : b + N = b') (hce : a' ≤ (kR K).cells) (hsl : b' ≤ (kR K).slots) (hdg : decode cc pc = .ok (.new index, 3))
    (kk : ∀ q, V (kz K a' b') (wN D cl (kA K) (ks K)) (ws ++ [(q, .inr (ci, fs))], tys) (pc + 3) lv (.ref q :: rest)) : V (kz K a b) (wN D cl (kA K) (ks K)) (ws, tys) pc lv rest := fun H locs ls hw hS hl => by
  subst ha; subst hb
  exact va_new h0.1 h0.2 hC.2.1 hin ty hty hC.1 (hC.2.1 _ hcl) (hC.2.1 _ hinst) (hC.2.1 _ hini) hw.2.2 hw.1 hw.2.1 hS hC.2.2.1 hc hfs hce hsl hdg (fun q H1 hP hD hS1 => kk q H1 locs ls ⟨hP, hD, hw.2.2⟩ hS1 hl)
theorem x_newa (h0 : C0 K cc) (hC : Cy K own) {k : FieldType → ClassId} (hk : Kid k (ks K)) {atype : ArrayType} (harr : Cond.arrayClass (newarray.typeOf atype) ∈ wG) {ty : FieldType} (hty : newarray.typeOf atype = ty) (a0 : vp_A) (N' : Nat) (h9 : ∀ cA : ClassId, vp_cell cA a0 = arrV cA N' (fun _ => defaultValue ty)) {n : Int32} (hn : n = nI N') (hN : N' < 1000) (hbytes : N' * componentBytes ty ≤ 536870912) (a' b' : Nat) (ha : a + 1 = a') (hb : b + N' = b') (hce : a' ≤ (kR K).cells) (hsl : b' ≤ (kR K).slots) (hdg : decode cc pc = .ok (.newarray atype, 2))
    (kk : ∀ q, V (kz K a' b') (wN D cl (kA K) (ks K)) (ws ++ [(q, .inl (k ty, a0))], tys ++ [(k ty, ty)]) (pc + 2) lv (.ref q :: rest)) : V (kz K a b) (wN D cl (kA K) (ks K)) (ws, tys) pc lv (.int n :: rest) := fun H locs ls hw hS hl => by
  subst ha; subst hb; subst hn
  refine va_newa h0.1 h0.2 (hC.2.1 _ harr) hty hw.2.2 hw.1 hw.2.1 hS hC.2.2.1 h9 (Int32.not_lt.mpr (nI_pos' (by omega))) (nI_clamp (by omega)) hbytes hce hsl hdg (fun q cA H1 hK hP hD hS1 => ?_)
  have e : cA = k ty := hk.1 ty cA (hK.2 tys.length (cA, ty) (by simp)).2
  subst e
  exact kk q H1 locs ls ⟨hP, hD, hK⟩ hS1 hl
theorem x_newq (h0 : C0 K cc) (hC : Cy K own) {k : FieldType → ClassId} (hk : Kid k (ks K)) {C : String} {index : Nat} (hcl : Cond.classLink own index C ∈ wG) (hover : va_AO C (ks K)) (N' : Nat) {n : Int32} (hn : n = nI N') (hN : N' < 1000) (a' b' : Nat) (ha : a + 1 = a') (hb : b + N' = b') (hce : a' ≤ (kR K).cells) (hsl : b' ≤ (kR K).slots) (hdg : decode cc pc = .ok (.anewarray index, 3))
    (kk : ∀ q, V (kz K a' b') (wN D cl (kA K) (ks K)) (ws ++ [(q, .inl (k (.object C), N', rfs (fun _ => none)))], tys ++ [(k (.object C), .object C)]) (pc + 3) lv (.ref q :: rest)) : V (kz K a b) (wN D cl (kA K) (ks K)) (ws, tys) pc lv (.int n :: rest) := fun H locs ls hw hS hl => by
  subst ha; subst hb; subst hn
  refine va_newq h0.1 h0.2 hC.1 (hC.2.1 _ hcl) hover hw.2.2 hw.1 hw.2.1 hS hC.2.2.1 (Int32.not_lt.mpr (nI_pos' (by omega))) (nI_clamp (by omega)) (by omega) hce hsl hdg (fun q cA H1 hK hP hD hS1 => ?_)
  have e : cA = k (.object C) := hk.1 _ cA (hK.2 tys.length (cA, .object C) (by simp)).2
  subst e
  exact kk q H1 locs ls ⟨hP, hD, hK⟩ hS1 hl
theorem x_put (h0 : C0 K cc) (hC : Cy K own) {C : String} {T : u_T} {N ci index : Nat} (hin : ∀ w ∈ u_ws C T N, w ∈ wG) (ty0 : Nat → FieldType) (hty : ∀ k, k < N → parseFieldDescriptor (T k).2.2.1 = some (ty0 k)) (hnm : ∀ a, a < N → ∀ b, b < N → a ≠ b → (T a).2.1 ≠ (T b).2.1) (q0 : Nat) {o : Nat} {fs : List Value} (he : ws[q0]? = some (o, .inr (ci, fs))) (hc : cl[ci]? = some (C, T, N)) (k : Nat) (hk : k < N) (hlink : Cond.fieldLink own index (T k).1 (T k).2.1 (T k).2.2.1 ∈ wG) (hfin : (T k).2.2.2 = false) {v : Value} (hn : narrow (ty0 k) v = v) (hfit : fits (ty0 k) v = true) (hl0 : k < fs.length) (hdg : decode cc pc = .ok (.putfield index, 3))
    (kk : V (kz K a b) (wN D cl (kA K) (ks K)) (ws.set q0 (o, .inr (ci, fs.set k v)), tys) (pc + 3) lv rest) : V (kz K a b) (wN D cl (kA K) (ks K)) (ws, tys) pc lv (v :: .ref o :: rest) := fun H locs ls hw hS hl =>
  va_put h0.1 h0.2 hC.2.1 hin ty0 hty hnm hC.1 hw.2.2 hw.1 hw.2.1 hS q0 he hc k hk (hC.2.1 _ hlink) (fun _ h9 => h9) hfin (hty k hk) hn hfit hl0 hdg (fun H1 locs1 hP1 hD1 hS1 => kk H1 locs1 ls ⟨hP1, hD1, hw.2.2⟩ hS1 hl)
theorem x_putF (h0 : C0 K cc) (hC : Cy K own) {C : String} {T : u_T} {N ci index : Nat} (hin : ∀ w ∈ u_ws C T N, w ∈ wG) (ty0 : Nat → FieldType) (hty : ∀ k, k < N → parseFieldDescriptor (T k).2.2.1 = some (ty0 k)) (hnm : ∀ a, a < N → ∀ b, b < N → a ≠ b → (T a).2.1 ≠ (T b).2.1) (q0 : Nat) {o : Nat} {fs : List Value} (he : ws[q0]? = some (o, .inr (ci, fs))) (hc : cl[ci]? = some (C, T, N)) (k : Nat) (hk : k < N) (hlink : Cond.fieldLink own index (T k).1 (T k).2.1 (T k).2.2.1 ∈ wG) (hfin : (T k).2.2.2 = true) (hdecl : (T k).1 = own) {v : Value} (hn : narrow (ty0 k) v = v) (hfit : fits (ty0 k) v = true) (hl0 : k < fs.length) (hdg : decode cc pc = .ok (.putfield index, 3))
    (kk : V (kz K a b) (wN D cl (kA K) (ks K)) (ws.set q0 (o, .inr (ci, fs.set k v)), tys) (pc + 3) lv rest) : V (kz K a b) (wN D cl (kA K) (ks K)) (ws, tys) pc lv (v :: .ref o :: rest) := fun H locs ls hw hS hl =>
  va_putF h0.1 h0.2 hC.2.1 hin ty0 hty hnm hC.1 hw.2.2 hw.1 hw.2.1 hS q0 he hc k hk (hC.2.1 _ hlink) (fun _ h9 => h9) hfin hC.2.2.2.2 hdecl (hty k hk) hn hfit hl0 hdg (fun H1 locs1 hP1 hD1 hS1 => kk H1 locs1 ls ⟨hP1, hD1, hw.2.2⟩ hS1 hl)
theorem x_get (h0 : C0 K cc) (hC : Cy K own) {C : String} {T : u_T} {N ci index : Nat} (hin : ∀ w ∈ u_ws C T N, w ∈ wG) (q0 : Nat) {o : Nat} {fs : List Value} (he : ws[q0]? = some (o, .inr (ci, fs))) (hc : cl[ci]? = some (C, T, N)) (k : Nat) (hk : k < N) (hlink : Cond.fieldLink own index (T k).1 (T k).2.1 (T k).2.2.1 ∈ wG) {v : Value} (hv : fs[k]? = some v) (hdg : decode cc pc = .ok (.getfield index, 3))
    (kk : V (kz K a b) (wN D cl (kA K) (ks K)) (ws, tys) (pc + 3) lv (v :: rest)) : V (kz K a b) (wN D cl (kA K) (ks K)) (ws, tys) pc lv (.ref o :: rest) := fun H locs ls hw hS hl =>
  va_get h0.1 h0.2 hC.2.1 hin hC.1 hw.2.2 hw.1 q0 he hc k hk (hC.2.1 _ hlink) (fun _ h9 => h9) hv hdg (kk H locs ls hw hS hl)
theorem x_ast (h0 : C0 K cc) {r : vw_C} (q0 t0 qk ci : Nat) {o v : Nat} {cA : ClassId} {n : Nat} {vs : List Value} {f : Nat → Option Nat} (ha : ws[q0]? = some (o, .inl (cA, n, rfs f))) (ht : tys[t0]? = some (cA, .object r.1)) (hv : ws[qk]? = some (v, .inr (ci, vs))) (hc : cl[ci]? = some r) {x : Int32} (j : Nat) (hx : x = nI j) (hj : j < n) (hn : n < 2 ^ 31) (hdg : decode cc pc = .ok (.aastore, 1))
    (kk : V (kz K a b) (wN D cl (kA K) (ks K)) (ws.set q0 (o, .inl (cA, n, rfs (va_up f j (some v)))), tys) (pc + 1) lv rest) : V (kz K a b) (wN D cl (kA K) (ks K)) (ws, tys) pc lv (.ref v :: .int x :: .ref o :: rest) := by
  subst hx
  intro H locs ls hw hS hl
  refine va_astq h0.1 h0.2 hw.2.2 hw.1 hw.2.1 hS q0 t0 qk ci ha ht hv hc (vp_in_nI hj hn) hdg (fun H1 locs1 hP1 hD1 hS1 => ?_)
  rw [nI_clamp (by omega)] at hP1 hD1
  exact kk H1 locs1 ls ⟨hP1, hD1, hw.2.2⟩ hS1 hl
theorem x_iast (h0 : C0 K cc) (q0 t0 : Nat) {o : Nat} {cA : ClassId} {n : Nat} {f : Nat → Int32} (ha : ws[q0]? = some (o, .inl (cA, n, .inl f))) (ht : tys[t0]? = some (cA, .int)) {x z : Int32} (j : Nat) (hx : x = nI j) (hj : j < n) (hn : n < 2 ^ 31) (hdg : decode cc pc = .ok (.iastore, 1))
    (kk : V (kz K a b) (wN D cl (kA K) (ks K)) (ws.set q0 (o, .inl (cA, n, .inl (upd f j z))), tys) (pc + 1) lv rest) : V (kz K a b) (wN D cl (kA K) (ks K)) (ws, tys) pc lv (.int z :: .int x :: .ref o :: rest) := by
  subst hx
  intro H locs ls hw hS hl
  refine va_iast h0.1 h0.2 hw.2.2 hw.1 hw.2.1 hS q0 t0 ha ht (vp_in_nI hj hn) hdg (fun H1 locs1 hP1 hD1 hS1 => ?_)
  rw [nI_clamp (by omega)] at hP1 hD1
  exact kk H1 locs1 ls ⟨hP1, hD1, hw.2.2⟩ hS1 hl
theorem wo_i : Cond.instanceMethod Lib.objectInit ∈ wG := wG_tb 16 rfl rfl
theorem wo_c : Cond.code Lib.objectInit ⟨#[0xb1]⟩ 1 none ∈ wG := wG_tb 17 rfl rfl
theorem x_obj (h0 : C0 K cc) (hC : Cy K own) {idx o : Nat} {x : Wy} (hlink : Cond.methodLink own idx Lib.objectInit ∈ wG) (hdg : decode cc pc = .ok (.invokespecial idx, 3)) (hf : 1 ≤ (kR K).frames) (hlo : 12 ≤ (kR K).locals)
    (kk : V (kz K a b) (wN D cl (kA K) (ks K)) x (pc + 3) lv []) : V (kz K a b) (wN D cl (kA K) (ks K)) x pc lv [.ref o] := fun H locs ls hw hS hl => by
  refine W.objInit h0.1 h0.2 hC.1 (hC.2.1 _ hlink) (hC.2.1 _ wo_i) (hC.2.1 _ wo_c) rfl (by rw [hC.2.2.2.1]; exact hl.1) rfl hdg hf (by show 2 * 0 + 0 + 12 ≤ _; omega) ?_
  exact W.eq (g2 := F0 (km K) (pc + 3) ls []) rfl (kk H locs ls hw hS hl)
end XR
abbrev rmN (h mc ms : Nat) : Room := { frames := h, cells := mc, slots := ms, locals := 64 * h }
/-- a constructor: from the one object to its parts -/
def CN (l : Launch) (D : va_G) (cl : List vw_C) (k : FieldType → ClassId) (y : MethodName) (cc : ByteArray) (mL h mc ms : Nat) (o : Nat) (av : List Value) (e0 : va_E) (tys' : List (ClassId × FieldType)) (res : va_W → Prop) : Prop :=
  ∀ sz, Met l y (.code y cc mL none :: wG) (rmN h mc ms) (va_Pc (.ref o :: av) (fun U => U.heap.size = sz ∧ va_P D cl [(o, e0)] U.heap ∧ va_K D cl [] U ∧ Kid k U)) (va_Qv (fun _ : Unit => True) (fun _ t => ∃ w, res w ∧ va_P D cl w t.heap ∧ va_K D cl tys' t ∧ va_D (va_A [(o, e0)] sz) w) (va_A [(o, e0)] sz)) mc ms (va_A [(o, e0)] sz)
def Ry (D : va_G) (cl : List vw_C) (K : Cf) (mc ms : Nat) (o : Nat) (e0 : va_E) (tys' : List (ClassId × FieldType)) (res : va_W → Prop) : Prop :=
  kQ K = MQ (kb K) (va_Qv (fun _ : Unit => True) (fun _ t => ∃ w, res w ∧ va_P D cl w t.heap ∧ va_K D cl tys' t ∧ va_D (va_A [(o, e0)] (ks K).heap.size) w) (va_A [(o, e0)] (ks K).heap.size)) (ka K) (ks K) mc ms (va_A [(o, e0)] (ks K).heap.size) ∧ (kM K).sig.returnType = none ∧ (kM K).locks = false ∧ kA K = va_A [(o, e0)] (ks K).heap.size
theorem CN.of {l : Launch} {D : va_G} {cl : List vw_C} {k : FieldType → ClassId} {y : MethodName} {cc : ByteArray} {mL h mc ms : Nat} {o : Nat} {av : List Value} {e0 : va_E} {tys' : List (ClassId × FieldType)} {res : va_W → Prop} (hy : plainName y.cls = true) (hyn : y.name = "<init>") (hlen : (lg_sl (.ref o :: av)).length ≤ mL)
    (body : ∀ K : Cf, C0 K cc → Cy K y.cls → Ry D cl K mc ms o e0 tys' res → kl K = l → kn K = mL → kR K = rmN h mc ms → Kid k (ks K) → V (kz K 0 0) (wN D cl (kA K) (ks K)) ([(o, e0)], []) 0 (lv_args 0 (.ref o :: av)) []) : CN l D cl k y cc mL h mc ms o av e0 tys' res := by
  intro sz
  refine Met.ofW (cc := cc) (maxL := mL) (ret := none) hy rfl ?_
  intro p e s m args below meth c s₁ B hml hv
  obtain ⟨rfl, hsz, hP, hK, hid⟩ := hv
  subst hsz
  have hts := atoms_spec (ws := .code y cc mL none :: wG) B.pre
  have hD : va_D (va_A [(o, e0)] s.heap.size) [(o, e0)] := by
    refine ⟨fun i j x y hi hj _ => ?_, fun q x hq => Or.inl ⟨q, x.2, hq⟩⟩
    have h1 := (List.getElem?_eq_some_iff.mp hi).1
    have h2 := (List.getElem?_eq_some_iff.mp hj).1
    simp at h1 h2
    omega
  have hb := body (p, l, e, rmN h mc ms, s, m, (.ref o :: av : List Value).toArray, below, meth, c, mL, 0, 0, va_A [(o, e0)] s.heap.size, MQ below (va_Qv (fun _ : Unit => True) (fun _ t => ∃ w, res w ∧ va_P D cl w t.heap ∧ va_K D cl tys' t ∧ va_D (va_A [(o, e0)] s.heap.size) w) (va_A [(o, e0)] s.heap.size)) (.ref o :: av : List Value).toArray s mc ms (va_A [(o, e0)] s.heap.size)) ⟨B.exec, B.bytes⟩ ⟨findClass_of_methodNamed B.named, fun w hw => hts w (List.mem_cons_of_mem _ hw), fun q h => Or.inr h, hml, by rw [(name_of_methodNamed B.named B.method).1]; exact hyn⟩ ⟨rfl, B.returns, B.notSynchronized, rfl⟩ rfl rfl rfl hid
  rw [lg_entry_eq]
  exact hb s.heap [] _ ⟨hP, hD, hK⟩ va_S.rf (lv_entry (.ref o :: av) hlen)
section XC
variable {K : Cf} {D : va_G} {cl : List vw_C} {own : String} {a b : Nat} {ws : va_W} {tys : List (ClassId × FieldType)} {pc : Nat} {lv : List (Nat × Value)} {rest : List Value} {cc : ByteArray}
theorem x_vret {mc ms o : Nat} {e0 : va_E} {tys' : List (ClassId × FieldType)} {res : va_W → Prop} (h0 : C0 K cc) (hR : Ry D cl K mc ms o e0 tys' res) (w : va_W) (is js : List Nat) (h1 : is.filterMap (fun i => ws[i]?) = w) (h2 : va_nd is = true) (h3 : is.map (fun i => ws[i]?) = w.map some) (h4 : js.filterMap (fun i => tys[i]?) = tys') (hres : res w) (hdg : decode cc pc = .ok (.return_, 1)) : V (kz K mc ms) (wN D cl (kA K) (ks K)) (ws, tys) pc lv [] := fun H locs ls hw hS hl => by
  obtain ⟨hQ, hr, hlo, hA⟩ := hR
  show W _ _ _ _ _ _ _ _ _ _ _ _ _ _ (kQ K) _
  rw [hQ]
  obtain ⟨hP, hD, hK⟩ := hw
  rw [hA] at hD hS
  exact W.vret h0.1 h0.2 hr (fun t ht hW => ⟨⟨(), rfl, trivial, w, hres, by rw [ht]; exact hP.sub is h1, va_K.moved hW.alike (hK.sub js h4), hD.sub is h2 h3⟩, hS.F ht⟩) hS.2.2 hdg hlo
/-- behind a constructor's call -/
theorem CN_back {A : Nat → Prop} {H H1 : Heap} {o : Nat} {e0 : va_E} {w : va_W} (hP : va_P D cl (ws ++ [(o, e0)]) H) (hD : va_D A (ws ++ [(o, e0)])) (hA : ∀ q, va_A [(o, e0)] H.size q → A q) (hk : ∀ q : Nat, q < H.size → ¬ va_A [(o, e0)] H.size q → H1[q]? = H[q]?) (hP1 : va_P D cl w H1) (hD1 : va_D (va_A [(o, e0)] H.size) w) : va_P D cl (ws ++ w) H1 ∧ va_D A (ws ++ w) := by
  have at0 : ∀ (i : Nat) (q : Nat × va_E), ws[i]? = some q → (ws ++ [(o, e0)])[i]? = some q := fun i q h => by rw [List.getElem?_append_left (List.getElem?_eq_some_iff.mp h).1]; exact h
  have hno : ∀ (i : Nat) (q : Nat × va_E), ws[i]? = some q → q.1 < H.size ∧ ¬ va_A [(o, e0)] H.size q.1 := by
    intro i q h
    have hlt := (hP i q (at0 i q h)).lt
    refine ⟨hlt, fun z => ?_⟩
    rcases z with ⟨j, e, hj⟩ | z
    · have hj0 : j = 0 := by have := (List.getElem?_eq_some_iff.mp hj).1; simp at this; exact this
      subst hj0
      have ho : q.1 = o := (Prod.mk.inj (Option.some.inj hj)).1.symm
      have hl : (ws ++ [(o, e0)])[ws.length]? = some (o, e0) := by simp
      have := hD.1 i ws.length q (o, e0) (at0 i q h) hl ho
      have := (List.getElem?_eq_some_iff.mp h).1
      omega
    · omega
  have hPw : va_P D cl ws H := fun i q h => hP i q (at0 i q h)
  have hDw : va_D A ws := ⟨fun i j p q hi hj hpq => hD.1 i j p q (at0 i p hi) (at0 j q hj) hpq, fun i q h => hD.2 i q (at0 i q h)⟩
  refine ⟨(hPw.kept (fun i q h => hk q.1 (hno i q h).1 (hno i q h).2)).app hP1, hDw.app (hD1.weaken (fun _ q _ h => hA q.1 h)) (fun i j p q hi hj e => ?_)⟩
  exact (hno i p hi).2 (by rw [e]; exact hD1.2 j q hj)
theorem x_call (h0 : C0 K cc) (hC : Cy K own) {k : FieldType → ClassId} (hid : Kid k (ks K)) {y : MethodName} {bytes : ByteArray} {mL h mc ms o index n : Nat} {av st : List Value} {e0 : va_E} {tys' : List (ClassId × FieldType)} {res : va_W → Prop} (hM : CN (kl K) D cl k y bytes mL h mc ms o av e0 tys' res) (hcode : Cond.code y bytes mL none ∈ wG) (hlk : Cond.methodLink own index y ∈ wG) (hin : Cond.instanceMethod y ∈ wG) (hini : Cond.initialized y.cls ∈ wG) (hyn : y.name = "<init>")
    (hd : y.cls ≠ "java/lang/invoke/MethodHandle" ∧ y.cls ≠ "java/lang/invoke/VarHandle" ∧ (parseMethodDescriptor y.desc).map (fun d => d.parameters.length) = some n) (hfr : h + 1 ≤ (kR K).frames) (hlo : 8 + (mL + 11) + 64 * h ≤ (kR K).locals) (hn : av.length = n) (hst : st = av.reverse ++ .ref o :: rest) (hW : (rest.map fun v => v.category).sum ≤ 8) (a' b' : Nat) (ha : a + mc = a') (hb : b + ms = b') (hce : a' ≤ (kR K).cells) (hsl : b' ≤ (kR K).slots) (hdg : decode cc pc = .ok (.invokespecial index, 3))
    (kk : ∀ w, res w → V (kz K a' b') (wN D cl (kA K) (ks K)) (ws ++ w, tys ++ tys') (pc + 3) lv rest) : V (kz K a b) (wN D cl (kA K) (ks K)) (ws ++ [(o, e0)], tys) pc lv st := fun H locs ls hw hS hl => by
  subst ha; subst hb
  obtain ⟨hP, hD, hK⟩ := hw
  have hFc : ∀ q, va_A [(o, e0)] H.size q → kA K q := va_free (wc := [(o, e0)]) hD hS hC.2.2.1 [ws.length] (by simp)
  have hPc : va_P D cl [(o, e0)] H := hP.sub [ws.length] (by simp)
  refine va_callv (va_runI (As := av) (rest := rest) ⟨h0.1, h0.2, hC.2.2.2.1, hC.1, hC.2.1⟩ (hM H.size) (n := n) ⟨callB_of n hC.2.1 (wG_goodIn hcode) rfl rfl rfl (hC.2.1 _ hini) (hC.2.1 _ hlk) hd ⟨hfr, hlo⟩, hyn, hC.2.1 _ hin⟩ ⟨fun x U g mk q => by obtain ⟨q0, q1, qP, qK, qI⟩ := q; exact ⟨q0, q1, qP, va_K.moved (u := U) (U := U.calling g mk x) (Vm.Alike.refl U.vm) qK, Kid.moved (u := U) (U := U.calling g mk x) (Vm.Alike.refl U.vm) qI⟩, fun U hU hW9 => ⟨rfl, by rw [hU], by rw [hU]; exact hPc, va_K.moved hW9.alike (hK.sub [] rfl), hid.moved hW9.alike⟩⟩ rfl hn hl.1 hst (lv_room hW) hdg ⟨hce, hsl⟩) hS (fun q _ h => hFc q h) hFc (fun u t H1 locs1 ht hvm _ hB hz1 hk1 hS1 => ?_)
  obtain ⟨w, hres, hP1, hK1, hD1⟩ := hB
  rw [ht] at hP1
  obtain ⟨hP2, hD2⟩ := CN_back hP hD hFc hk1 hP1 hD1
  exact kk w hres H1 locs1 ls ⟨hP2, hD2, hK.app (va_K.moved hvm.symm hK1)⟩ hS1 hl
/-- the contents of an array of references, by its elements -/
theorem x_arr (q0 : Nat) {o : Nat} {cA : ClassId} {n : Nat} {f : Nat → Option Nat} (f' : Nat → Option Nat) (he : ws[q0]? = some (o, .inl (cA, n, rfs f))) (hf : ∀ j, j < n → f j = f' j) {st : List Value} (kk : V (kz K a b) (wN D cl (kA K) (ks K)) (ws.set q0 (o, .inl (cA, n, rfs f')), tys) pc lv st) : V (kz K a b) (wN D cl (kA K) (ks K)) (ws, tys) pc lv st := fun H locs ls hw hS hl => by
  have hlt := (List.getElem?_eq_some_iff.mp he).1
  have key : ∀ (i : Nat) (q : Nat × va_E), (ws.set q0 (o, .inl (cA, n, rfs f')))[i]? = some q → (i = q0 ∧ q = (o, .inl (cA, n, rfs f'))) ∨ (i ≠ q0 ∧ ws[i]? = some q) := by
    intro i q h
    by_cases z : i = q0
    · subst z; rw [List.getElem?_set_self hlt] at h; exact Or.inl ⟨rfl, (Option.some.inj h).symm⟩
    · rw [List.getElem?_set_ne (Ne.symm z)] at h; exact Or.inr ⟨z, h⟩
  have base : ∀ (i : Nat) (q : Nat × va_E), (ws.set q0 (o, .inl (cA, n, rfs f')))[i]? = some q → ∃ q', ws[i]? = some q' ∧ q'.1 = q.1 := by
    intro i q h
    rcases key i q h with ⟨z, e⟩ | ⟨-, e⟩
    · subst z; subst e; exact ⟨_, he, rfl⟩
    · exact ⟨q, e, rfl⟩
  refine kk H locs ls ⟨fun i q h => ?_, ⟨fun i j p q hi hj hpq => ?_, fun i q h => ?_⟩, hw.2.2⟩ hS hl
  · rcases key i q h with ⟨z, e⟩ | ⟨-, e⟩
    · subst e
      have h1 : H[o]? = some (arrV cA n (fun j => va_rf (f j))) := hw.1 q0 _ he
      show H[o]? = some (arrV cA n (fun j => va_rf (f' j)))
      rw [h1]
      congr 1
      unfold arrV
      congr 2
      funext j
      show va_rf (f j.val) = va_rf (f' j.val)
      rw [hf j.val j.isLt]
    · exact hw.1 i q e
  · obtain ⟨p', hp1, hp2⟩ := base i p hi
    obtain ⟨q', hq1, hq2⟩ := base j q hj
    exact hw.2.1.1 i j p' q' hp1 hq1 (by rw [hp2, hq2]; exact hpq)
  · obtain ⟨q', hq1, hq2⟩ := base i q h
    rw [← hq2]; exact hw.2.1.2 i q' hq1
end XC
