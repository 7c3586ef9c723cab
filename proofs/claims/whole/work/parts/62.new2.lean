/-! THE CONSTRUCTORS OF THE BOOK -/
theorem x_tys {K : Cf} {D : va_G} {cl : List vw_C} {a b : Nat} {ws : va_W} {tys tys' : List (ClassId × FieldType)} {pc : Nat} {lv : List (Nat × Value)} {st : List Value} (js : List Nat) (h : js.filterMap (fun i => tys[i]?) = tys') (kk : V (kz K a b) (wN D cl (kA K) (ks K)) (ws, tys') pc lv st) : V (kz K a b) (wN D cl (kA K) (ks K)) (ws, tys) pc lv st := fun H locs ls hw hS hl => kk H locs ls ⟨hw.1, hw.2.1, hw.2.2.sub js h⟩ hS hl
abbrev eTe (s e : Nat) : va_E := .inr (2, [.ref s, .ref e, .int 0, .int 0, .int 0, .int 0])
abbrev eCe (t : Nat) : va_E := .inr (1, [.ref t, .int (-1), .int 0, .int 0, .int 0, .int 0, .int 0, .int 0])
abbrev eFr (f : Nat) (b : Nat) : va_E := .inr (3, [.int (nI f), .ref b, .null])
abbrev aC (k : FieldType → ClassId) (n : Nat) : va_E := .inl (k .char, n, .inl (fun _ => 0))
abbrev aI (k : FieldType → ClassId) (n : Nat) : va_E := .inl (k .int, n, .inl (fun _ => 0))
theorem wx_30 : Cond.methodLink gC_Te 3 Lib.objectInit ∈ wG := wG_tb 30 rfl rfl
theorem wx_54 : Cond.arrayClass (newarray.typeOf .char) ∈ wG := wG_tb 54 rfl rfl
theorem wx_55 : Cond.arrayClass (newarray.typeOf .int) ∈ wG := wG_tb 55 rfl rfl
theorem wx_24 : Cond.methodLink gC_Ce 3 Lib.objectInit ∈ wG := wG_tb 24 rfl rfl
theorem wx_25 : Cond.classLink gC_Ce 9 gC_Te ∈ wG := wG_tb 25 rfl rfl
theorem wx_108 : Cond.methodLink gC_Fr 3 Lib.objectInit ∈ wG := wG_tb 108 rfl rfl
theorem wx_101 : Cond.methodLink gC_Ev 3 Lib.objectInit ∈ wG := wG_tb 101 rfl rfl
theorem wx_102 : Cond.classLink gC_Ev 9 gC_Fr ∈ wG := wG_tb 102 rfl rfl
set_option maxHeartbeats 4000000 in
set_option maxRecDepth 20000 in
theorem n_Te (l : Launch) (D : va_G) (k : FieldType → ClassId) (o : Nat)  : CN l D clB k y_Te_init c_Te_init 1 1 2 48 o [] (.inr (2, [.null, .null, .int 0, .int 0, .int 0, .int 0])) [(k .int, .int), (k .char, .char)] (fun w => ∃ q1 q2, w = [(o, eTe q1 q2), (q1, aC k 24), (q2, aI k 24)]) := by
  refine CN.of rfl rfl (Nat.le_of_ble_eq_true rfl) (fun K h0 hC hR hkl hn hKR hid => ?_)
  have hC : Cy K gC_Te := hC
  subst hkl
  show V (kz K 0 0) (wN D clB (kA K) (ks K)) ([(o, .inr (2, [.null, .null, .int 0, .int 0, .int 0, .int 0]))], []) 0 [(0, .ref o)] []
  refine v_aload_n (K := kz K 0 0) h0 d_Te_init_0 0 rfl ?_
  refine x_obj h0 hC wx_30 d_Te_init_1 (by rw [hKR]; exact Nat.le_of_ble_eq_true rfl) (by rw [hKR]; exact Nat.le_of_ble_eq_true rfl) ?_
  refine v_aload_n (K := kz K 0 0) h0 d_Te_init_4 0 rfl ?_
  refine v_bipush (K := kz K 0 0) h0 d_Te_init_5 (v := nI 24) (by decide) ?_
  refine x_newa h0 hC hid (atype := .char) wx_54 (ty := .char) rfl (24, .inl (fun _ => 0)) 24 (fun _ => rfl) rfl (by decide) (by decide) 1 24 rfl rfl (by rw [hKR]; exact Nat.le_of_ble_eq_true rfl) (by rw [hKR]; exact Nat.le_of_ble_eq_true rfl) d_Te_init_7 (fun q1 => ?_)
  show V (σ := Wy) (kz K 1 24) _ ([(o, .inr (2, [.null, .null, .int 0, .int 0, .int 0, .int 0])), (q1, .inl (k .char, 24, .inl (fun _ => 0)))], [(k .char, .char)]) _ _ _
  refine x_putF h0 hC gW_Te gU_Te gO_Te gN_Te 0 rfl rfl 0 (by decide) wd_31 rfl rfl rfl rfl (Nat.le_of_ble_eq_true rfl) d_Te_init_9 ?_
  show V (σ := Wy) (kz K 1 24) _ ([(o, .inr (2, [.ref q1, .null, .int 0, .int 0, .int 0, .int 0])), (q1, .inl (k .char, 24, .inl (fun _ => 0)))], [(k .char, .char)]) _ _ _
  refine v_aload_n (K := kz K 1 24) h0 d_Te_init_12 0 rfl ?_
  refine v_bipush (K := kz K 1 24) h0 d_Te_init_13 (v := nI 24) (by decide) ?_
  refine x_newa h0 hC hid (atype := .int) wx_55 (ty := .int) rfl (24, .inl (fun _ => 0)) 24 (fun _ => rfl) rfl (by decide) (by decide) 2 48 rfl rfl (by rw [hKR]; exact Nat.le_of_ble_eq_true rfl) (by rw [hKR]; exact Nat.le_of_ble_eq_true rfl) d_Te_init_15 (fun q2 => ?_)
  show V (σ := Wy) (kz K 2 48) _ ([(o, .inr (2, [.ref q1, .null, .int 0, .int 0, .int 0, .int 0])), (q1, .inl (k .char, 24, .inl (fun _ => 0))), (q2, .inl (k .int, 24, .inl (fun _ => 0)))], [(k .char, .char), (k .int, .int)]) _ _ _
  refine x_putF h0 hC gW_Te gU_Te gO_Te gN_Te 0 rfl rfl 1 (by decide) wd_32 rfl rfl rfl rfl (Nat.le_of_ble_eq_true rfl) d_Te_init_17 ?_
  show V (σ := Wy) (kz K 2 48) _ ([(o, .inr (2, [.ref q1, .ref q2, .int 0, .int 0, .int 0, .int 0])), (q1, .inl (k .char, 24, .inl (fun _ => 0))), (q2, .inl (k .int, 24, .inl (fun _ => 0)))], [(k .char, .char), (k .int, .int)]) _ _ _
  refine v_aload_n (K := kz K 2 48) h0 d_Te_init_20 0 rfl ?_
  refine v_iconst (K := kz K 2 48) h0 d_Te_init_21 (v := 0) (by decide) ?_
  refine x_put h0 hC gW_Te gU_Te gO_Te gN_Te 0 rfl rfl 2 (by decide) wd_33 rfl rfl rfl (Nat.le_of_ble_eq_true rfl) d_Te_init_22 ?_
  show V (σ := Wy) (kz K 2 48) _ ([(o, .inr (2, [.ref q1, .ref q2, .int 0, .int 0, .int 0, .int 0])), (q1, .inl (k .char, 24, .inl (fun _ => 0))), (q2, .inl (k .int, 24, .inl (fun _ => 0)))], [(k .char, .char), (k .int, .int)]) _ _ _
  refine v_aload_n (K := kz K 2 48) h0 d_Te_init_25 0 rfl ?_
  refine v_iconst (K := kz K 2 48) h0 d_Te_init_26 (v := 0) (by decide) ?_
  refine x_put h0 hC gW_Te gU_Te gO_Te gN_Te 0 rfl rfl 3 (by decide) wd_34 rfl rfl rfl (Nat.le_of_ble_eq_true rfl) d_Te_init_27 ?_
  show V (σ := Wy) (kz K 2 48) _ ([(o, .inr (2, [.ref q1, .ref q2, .int 0, .int 0, .int 0, .int 0])), (q1, .inl (k .char, 24, .inl (fun _ => 0))), (q2, .inl (k .int, 24, .inl (fun _ => 0)))], [(k .char, .char), (k .int, .int)]) _ _ _
  refine v_aload_n (K := kz K 2 48) h0 d_Te_init_30 0 rfl ?_
  refine v_iconst (K := kz K 2 48) h0 d_Te_init_31 (v := 0) (by decide) ?_
  refine x_put h0 hC gW_Te gU_Te gO_Te gN_Te 0 rfl rfl 4 (by decide) wd_37 rfl rfl rfl (Nat.le_of_ble_eq_true rfl) d_Te_init_32 ?_
  show V (σ := Wy) (kz K 2 48) _ ([(o, .inr (2, [.ref q1, .ref q2, .int 0, .int 0, .int 0, .int 0])), (q1, .inl (k .char, 24, .inl (fun _ => 0))), (q2, .inl (k .int, 24, .inl (fun _ => 0)))], [(k .char, .char), (k .int, .int)]) _ _ _
  refine v_aload_n (K := kz K 2 48) h0 d_Te_init_35 0 rfl ?_
  refine v_iconst (K := kz K 2 48) h0 d_Te_init_36 (v := 0) (by decide) ?_
  refine x_put h0 hC gW_Te gU_Te gO_Te gN_Te 0 rfl rfl 5 (by decide) wd_39 rfl rfl rfl (Nat.le_of_ble_eq_true rfl) d_Te_init_37 ?_
  show V (σ := Wy) (kz K 2 48) _ ([(o, .inr (2, [.ref q1, .ref q2, .int 0, .int 0, .int 0, .int 0])), (q1, .inl (k .char, 24, .inl (fun _ => 0))), (q2, .inl (k .int, 24, .inl (fun _ => 0)))], [(k .char, .char), (k .int, .int)]) _ _ _
  exact x_vret h0 hR ([(o, eTe q1 q2), (q1, aC k 24), (q2, aI k 24)]) [0, 1, 2] [1, 0] rfl (by decide) rfl rfl (⟨q1, q2, rfl⟩) d_Te_init_40
set_option maxHeartbeats 4000000 in
set_option maxRecDepth 20000 in
theorem n_Ce (l : Launch) (D : va_G) (k : FieldType → ClassId) (o : Nat)  : CN l D clB k y_Ce_init c_Ce_init 1 2 3 54 o [] (.inr (1, [.null, .int 0, .int 0, .int 0, .int 0, .int 0, .int 0, .int 0])) [(k .int, .int), (k .char, .char)] (fun w => ∃ q1 s1 s2, w = [(o, eCe q1), (q1, eTe s1 s2), (s1, aC k 24), (s2, aI k 24)]) := by
  refine CN.of rfl rfl (Nat.le_of_ble_eq_true rfl) (fun K h0 hC hR hkl hn hKR hid => ?_)
  have hC : Cy K gC_Ce := hC
  subst hkl
  show V (kz K 0 0) (wN D clB (kA K) (ks K)) ([(o, .inr (1, [.null, .int 0, .int 0, .int 0, .int 0, .int 0, .int 0, .int 0]))], []) 0 [(0, .ref o)] []
  refine v_aload_n (K := kz K 0 0) h0 d_Ce_init_0 0 rfl ?_
  refine x_obj h0 hC wx_24 d_Ce_init_1 (by rw [hKR]; exact Nat.le_of_ble_eq_true rfl) (by rw [hKR]; exact Nat.le_of_ble_eq_true rfl) ?_
  refine v_aload_n (K := kz K 0 0) h0 d_Ce_init_4 0 rfl ?_
  refine x_new (ci := 2) h0 hC gW_Te gU_Te gO_Te wx_25 wd_26 wd_3 rfl [.null, .null, .int 0, .int 0, .int 0, .int 0] (by decide) 1 6 rfl rfl (by rw [hKR]; exact Nat.le_of_ble_eq_true rfl) (by rw [hKR]; exact Nat.le_of_ble_eq_true rfl) d_Ce_init_5 (fun q1 => ?_)
  show V (σ := Wy) (kz K 1 6) _ ([(o, .inr (1, [.null, .int 0, .int 0, .int 0, .int 0, .int 0, .int 0, .int 0])), (q1, .inr (2, [.null, .null, .int 0, .int 0, .int 0, .int 0]))], []) _ _ _
  refine v_dup (K := kz K 1 6) h0 d_Ce_init_8 rfl ?_
  refine x_call (ws := [(o, .inr (1, [.null, .int 0, .int 0, .int 0, .int 0, .int 0, .int 0, .int 0]))]) h0 hC hid (n_Te (kl K) D k _) wd_29 wd_27 wd_28 wd_3 rfl hd_Te_init (by rw [hKR]; exact Nat.le_of_ble_eq_true rfl) (by rw [hKR]; exact Nat.le_of_ble_eq_true rfl) rfl (rest := [.ref q1, .ref o]) rfl (Nat.le_of_ble_eq_true rfl) 3 54 rfl rfl (by rw [hKR]; exact Nat.le_of_ble_eq_true rfl) (by rw [hKR]; exact Nat.le_of_ble_eq_true rfl) d_Ce_init_9 (fun w9 hw9 => ?_)
  obtain ⟨s1, s2, rfl⟩ := hw9
  show V (σ := Wy) (kz K 3 54) _ ([(o, .inr (1, [.null, .int 0, .int 0, .int 0, .int 0, .int 0, .int 0, .int 0])), (q1, .inr (2, [.ref s1, .ref s2, .int 0, .int 0, .int 0, .int 0])), (s1, .inl (k .char, 24, .inl (fun _ => 0))), (s2, .inl (k .int, 24, .inl (fun _ => 0)))], [(k .int, .int), (k .char, .char)]) _ _ _
  refine x_putF h0 hC gW_Ce gU_Ce gO_Ce gN_Ce 0 rfl rfl 0 (by decide) wd_56 rfl rfl rfl rfl (Nat.le_of_ble_eq_true rfl) d_Ce_init_12 ?_
  show V (σ := Wy) (kz K 3 54) _ ([(o, .inr (1, [.ref q1, .int 0, .int 0, .int 0, .int 0, .int 0, .int 0, .int 0])), (q1, .inr (2, [.ref s1, .ref s2, .int 0, .int 0, .int 0, .int 0])), (s1, .inl (k .char, 24, .inl (fun _ => 0))), (s2, .inl (k .int, 24, .inl (fun _ => 0)))], [(k .int, .int), (k .char, .char)]) _ _ _
  refine v_aload_n (K := kz K 3 54) h0 d_Ce_init_15 0 rfl ?_
  refine v_iconst (K := kz K 3 54) h0 d_Ce_init_16 (v := -1) (by decide) ?_
  refine x_put h0 hC gW_Ce gU_Ce gO_Ce gN_Ce 0 rfl rfl 1 (by decide) wd_60 rfl rfl rfl (Nat.le_of_ble_eq_true rfl) d_Ce_init_17 ?_
  show V (σ := Wy) (kz K 3 54) _ ([(o, .inr (1, [.ref q1, .int (-1), .int 0, .int 0, .int 0, .int 0, .int 0, .int 0])), (q1, .inr (2, [.ref s1, .ref s2, .int 0, .int 0, .int 0, .int 0])), (s1, .inl (k .char, 24, .inl (fun _ => 0))), (s2, .inl (k .int, 24, .inl (fun _ => 0)))], [(k .int, .int), (k .char, .char)]) _ _ _
  refine v_aload_n (K := kz K 3 54) h0 d_Ce_init_20 0 rfl ?_
  refine v_iconst (K := kz K 3 54) h0 d_Ce_init_21 (v := 0) (by decide) ?_
  refine x_put h0 hC gW_Ce gU_Ce gO_Ce gN_Ce 0 rfl rfl 2 (by decide) wd_62 rfl rfl rfl (Nat.le_of_ble_eq_true rfl) d_Ce_init_22 ?_
  show V (σ := Wy) (kz K 3 54) _ ([(o, .inr (1, [.ref q1, .int (-1), .int 0, .int 0, .int 0, .int 0, .int 0, .int 0])), (q1, .inr (2, [.ref s1, .ref s2, .int 0, .int 0, .int 0, .int 0])), (s1, .inl (k .char, 24, .inl (fun _ => 0))), (s2, .inl (k .int, 24, .inl (fun _ => 0)))], [(k .int, .int), (k .char, .char)]) _ _ _
  refine v_aload_n (K := kz K 3 54) h0 d_Ce_init_25 0 rfl ?_
  refine v_iconst (K := kz K 3 54) h0 d_Ce_init_26 (v := 0) (by decide) ?_
  refine x_put h0 hC gW_Ce gU_Ce gO_Ce gN_Ce 0 rfl rfl 3 (by decide) wd_64 rfl rfl rfl (Nat.le_of_ble_eq_true rfl) d_Ce_init_27 ?_
  show V (σ := Wy) (kz K 3 54) _ ([(o, .inr (1, [.ref q1, .int (-1), .int 0, .int 0, .int 0, .int 0, .int 0, .int 0])), (q1, .inr (2, [.ref s1, .ref s2, .int 0, .int 0, .int 0, .int 0])), (s1, .inl (k .char, 24, .inl (fun _ => 0))), (s2, .inl (k .int, 24, .inl (fun _ => 0)))], [(k .int, .int), (k .char, .char)]) _ _ _
  refine v_aload_n (K := kz K 3 54) h0 d_Ce_init_30 0 rfl ?_
  refine v_iconst (K := kz K 3 54) h0 d_Ce_init_31 (v := 0) (by decide) ?_
  refine x_put h0 hC gW_Ce gU_Ce gO_Ce gN_Ce 0 rfl rfl 4 (by decide) wd_66 rfl rfl rfl (Nat.le_of_ble_eq_true rfl) d_Ce_init_32 ?_
  show V (σ := Wy) (kz K 3 54) _ ([(o, .inr (1, [.ref q1, .int (-1), .int 0, .int 0, .int 0, .int 0, .int 0, .int 0])), (q1, .inr (2, [.ref s1, .ref s2, .int 0, .int 0, .int 0, .int 0])), (s1, .inl (k .char, 24, .inl (fun _ => 0))), (s2, .inl (k .int, 24, .inl (fun _ => 0)))], [(k .int, .int), (k .char, .char)]) _ _ _
  refine v_aload_n (K := kz K 3 54) h0 d_Ce_init_35 0 rfl ?_
  refine v_iconst (K := kz K 3 54) h0 d_Ce_init_36 (v := 0) (by decide) ?_
  refine x_put h0 hC gW_Ce gU_Ce gO_Ce gN_Ce 0 rfl rfl 5 (by decide) wd_69 rfl rfl rfl (Nat.le_of_ble_eq_true rfl) d_Ce_init_37 ?_
  show V (σ := Wy) (kz K 3 54) _ ([(o, .inr (1, [.ref q1, .int (-1), .int 0, .int 0, .int 0, .int 0, .int 0, .int 0])), (q1, .inr (2, [.ref s1, .ref s2, .int 0, .int 0, .int 0, .int 0])), (s1, .inl (k .char, 24, .inl (fun _ => 0))), (s2, .inl (k .int, 24, .inl (fun _ => 0)))], [(k .int, .int), (k .char, .char)]) _ _ _
  refine v_aload_n (K := kz K 3 54) h0 d_Ce_init_40 0 rfl ?_
  refine v_iconst (K := kz K 3 54) h0 d_Ce_init_41 (v := 0) (by decide) ?_
  refine x_put h0 hC gW_Ce gU_Ce gO_Ce gN_Ce 0 rfl rfl 6 (by decide) wd_72 rfl rfl rfl (Nat.le_of_ble_eq_true rfl) d_Ce_init_42 ?_
  show V (σ := Wy) (kz K 3 54) _ ([(o, .inr (1, [.ref q1, .int (-1), .int 0, .int 0, .int 0, .int 0, .int 0, .int 0])), (q1, .inr (2, [.ref s1, .ref s2, .int 0, .int 0, .int 0, .int 0])), (s1, .inl (k .char, 24, .inl (fun _ => 0))), (s2, .inl (k .int, 24, .inl (fun _ => 0)))], [(k .int, .int), (k .char, .char)]) _ _ _
  refine v_aload_n (K := kz K 3 54) h0 d_Ce_init_45 0 rfl ?_
  refine v_iconst (K := kz K 3 54) h0 d_Ce_init_46 (v := 0) (by decide) ?_
  refine x_put h0 hC gW_Ce gU_Ce gO_Ce gN_Ce 0 rfl rfl 7 (by decide) wd_76 rfl rfl rfl (Nat.le_of_ble_eq_true rfl) d_Ce_init_47 ?_
  show V (σ := Wy) (kz K 3 54) _ ([(o, .inr (1, [.ref q1, .int (-1), .int 0, .int 0, .int 0, .int 0, .int 0, .int 0])), (q1, .inr (2, [.ref s1, .ref s2, .int 0, .int 0, .int 0, .int 0])), (s1, .inl (k .char, 24, .inl (fun _ => 0))), (s2, .inl (k .int, 24, .inl (fun _ => 0)))], [(k .int, .int), (k .char, .char)]) _ _ _
  exact x_vret h0 hR ([(o, eCe q1), (q1, eTe s1 s2), (s1, aC k 24), (s2, aI k 24)]) [0, 1, 2, 3] [0, 1] rfl (by decide) rfl rfl (⟨q1, s1, s2, rfl⟩) d_Ce_init_50
set_option maxHeartbeats 4000000 in
set_option maxRecDepth 20000 in
theorem n_Fr (l : Launch) (D : va_G) (k : FieldType → ClassId) (o : Nat) (f : Nat) : CN l D clB k y_Fr_init c_Fr_init 2 1 1 6 o [.int (nI f)] (.inr (3, [.int 0, .null, .null])) [(k .int, .int)] (fun w => ∃ q1, w = [(o, eFr f q1), (q1, aI k 6)]) := by
  refine CN.of rfl rfl (Nat.le_of_ble_eq_true rfl) (fun K h0 hC hR hkl hn hKR hid => ?_)
  have hC : Cy K gC_Fr := hC
  subst hkl
  show V (kz K 0 0) (wN D clB (kA K) (ks K)) ([(o, .inr (3, [.int 0, .null, .null]))], []) 0 [(0, .ref o), (1, .int (nI f))] []
  refine v_aload_n (K := kz K 0 0) h0 d_Fr_init_0 0 rfl ?_
  refine x_obj h0 hC wx_108 d_Fr_init_1 (by rw [hKR]; exact Nat.le_of_ble_eq_true rfl) (by rw [hKR]; exact Nat.le_of_ble_eq_true rfl) ?_
  refine v_aload_n (K := kz K 0 0) h0 d_Fr_init_4 0 rfl ?_
  refine v_iload_n (K := kz K 0 0) h0 d_Fr_init_5 1 rfl ?_
  refine x_putF h0 hC gW_Fr gU_Fr gO_Fr gN_Fr 0 rfl rfl 0 (by decide) wd_109 rfl rfl rfl rfl (Nat.le_of_ble_eq_true rfl) d_Fr_init_6 ?_
  show V (σ := Wy) (kz K 0 0) _ ([(o, .inr (3, [.int (nI f), .null, .null]))], []) _ _ _
  refine v_aload_n (K := kz K 0 0) h0 d_Fr_init_9 0 rfl ?_
  refine v_bipush (K := kz K 0 0) h0 d_Fr_init_10 (v := nI 6) (by decide) ?_
  refine x_newa h0 hC hid (atype := .int) wx_55 (ty := .int) rfl (6, .inl (fun _ => 0)) 6 (fun _ => rfl) rfl (by decide) (by decide) 1 6 rfl rfl (by rw [hKR]; exact Nat.le_of_ble_eq_true rfl) (by rw [hKR]; exact Nat.le_of_ble_eq_true rfl) d_Fr_init_12 (fun q1 => ?_)
  show V (σ := Wy) (kz K 1 6) _ ([(o, .inr (3, [.int (nI f), .null, .null])), (q1, .inl (k .int, 6, .inl (fun _ => 0)))], [(k .int, .int)]) _ _ _
  refine x_putF h0 hC gW_Fr gU_Fr gO_Fr gN_Fr 0 rfl rfl 1 (by decide) wd_111 rfl rfl rfl rfl (Nat.le_of_ble_eq_true rfl) d_Fr_init_14 ?_
  show V (σ := Wy) (kz K 1 6) _ ([(o, .inr (3, [.int (nI f), .ref q1, .null])), (q1, .inl (k .int, 6, .inl (fun _ => 0)))], [(k .int, .int)]) _ _ _
  refine v_aload_n (K := kz K 1 6) h0 d_Fr_init_17 0 rfl ?_
  refine v_null (K := kz K 1 6) h0 d_Fr_init_18 ?_
  refine x_put h0 hC gW_Fr gU_Fr gO_Fr gN_Fr 0 rfl rfl 2 (by decide) wd_113 rfl rfl rfl (Nat.le_of_ble_eq_true rfl) d_Fr_init_19 ?_
  show V (σ := Wy) (kz K 1 6) _ ([(o, .inr (3, [.int (nI f), .ref q1, .null])), (q1, .inl (k .int, 6, .inl (fun _ => 0)))], [(k .int, .int)]) _ _ _
  exact x_vret h0 hR ([(o, eFr f q1), (q1, aI k 6)]) [0, 1] [0] rfl (by decide) rfl rfl (⟨q1, rfl⟩) d_Fr_init_22
def evW (k : FieldType → ClassId) (o q1 q2 b0 q3 b1 q4 b2 q5 b3 q6 b4 q7 b5 : Nat) : va_W := [(o, .inr (4, [.ref q1, .null, .int 0, .int 0, .int 0])), (q1, .inl (k (.object gC_Fr), 6, rfs (va_up (va_up (va_up (va_up (va_up (va_up (fun _ => none) 0 (some q2)) 1 (some q3)) 2 (some q4)) 3 (some q5)) 4 (some q6)) 5 (some q7)))), (q2, .inr (3, [.int (nI 0), .ref b0, .null])), (b0, .inl (k .int, 6, .inl (fun _ => 0))), (q3, .inr (3, [.int (nI 1), .ref b1, .null])), (b1, .inl (k .int, 6, .inl (fun _ => 0))), (q4, .inr (3, [.int (nI 2), .ref b2, .null])), (b2, .inl (k .int, 6, .inl (fun _ => 0))), (q5, .inr (3, [.int (nI 3), .ref b3, .null])), (b3, .inl (k .int, 6, .inl (fun _ => 0))), (q6, .inr (3, [.int (nI 4), .ref b4, .null])), (b4, .inl (k .int, 6, .inl (fun _ => 0))), (q7, .inr (3, [.int (nI 5), .ref b5, .null])), (b5, .inl (k .int, 6, .inl (fun _ => 0)))]
set_option maxHeartbeats 4000000 in
set_option maxRecDepth 20000 in
theorem n_Ev (l : Launch) (D : va_G) (k : FieldType → ClassId) (o : Nat)  : CN l D clB k y_Ev_init c_Ev_init 2 2 13 60 o [] (.inr (4, [.null, .null, .int 0, .int 0, .int 0])) [(k .int, .int), (k (.object gC_Fr), (.object gC_Fr))] (fun w => ∃ q1 q2 b0 q3 b1 q4 b2 q5 b3 q6 b4 q7 b5, w = evW k o q1 q2 b0 q3 b1 q4 b2 q5 b3 q6 b4 q7 b5) := by
  refine CN.of rfl rfl (Nat.le_of_ble_eq_true rfl) (fun K h0 hC hR hkl hn hKR hid => ?_)
  have hC : Cy K gC_Ev := hC
  subst hkl
  show V (kz K 0 0) (wN D clB (kA K) (ks K)) ([(o, .inr (4, [.null, .null, .int 0, .int 0, .int 0]))], []) 0 [(0, .ref o)] []
  refine v_aload_n (K := kz K 0 0) h0 d_Ev_init_0 0 rfl ?_
  refine x_obj h0 hC wx_101 d_Ev_init_1 (by rw [hKR]; exact Nat.le_of_ble_eq_true rfl) (by rw [hKR]; exact Nat.le_of_ble_eq_true rfl) ?_
  refine v_aload_n (K := kz K 0 0) h0 d_Ev_init_4 0 rfl ?_
  refine v_bipush (K := kz K 0 0) h0 d_Ev_init_5 (v := nI 6) (by decide) ?_
  refine x_newq h0 hC hid wx_102 hid.2.2 6 rfl (by decide) 1 6 rfl rfl (by rw [hKR]; exact Nat.le_of_ble_eq_true rfl) (by rw [hKR]; exact Nat.le_of_ble_eq_true rfl) d_Ev_init_7 (fun q1 => ?_)
  show V (σ := Wy) (kz K 1 6) _ ([(o, .inr (4, [.null, .null, .int 0, .int 0, .int 0])), (q1, .inl (k (.object gC_Fr), 6, rfs (fun _ => none)))], [(k (.object gC_Fr), (.object gC_Fr))]) _ _ _
  refine x_putF h0 hC gW_Ev gU_Ev gO_Ev gN_Ev 0 rfl rfl 0 (by decide) wd_122 rfl rfl rfl rfl (Nat.le_of_ble_eq_true rfl) d_Ev_init_10 ?_
  show V (σ := Wy) (kz K 1 6) _ ([(o, .inr (4, [.ref q1, .null, .int 0, .int 0, .int 0])), (q1, .inl (k (.object gC_Fr), 6, rfs (fun _ => none)))], [(k (.object gC_Fr), (.object gC_Fr))]) _ _ _
  refine v_iconst (K := kz K 1 6) h0 d_Ev_init_13 (v := nI 0) (by decide) ?_
  refine v_istore_n (K := kz K 1 6) h0 d_Ev_init_14 (lv' := [(1, .int (nI 0)), (0, .ref o)]) (lt_kn hn (by decide)) rfl ?_
  refine v_iload_n (K := kz K 1 6) h0 d_Ev_init_15 0 rfl ?_
  refine v_iconst (K := kz K 1 6) h0 d_Ev_init_16 (v := nI 5) (by decide) ?_
  refine n_icmp_gt (K := kz K 1 6) h0 (by omega) (by omega) d_Ev_init_17 rfl (fun h9 => absurd h9 (by omega)) (fun _ => ?_)
  refine v_aload_n (K := kz K 1 6) h0 d_Ev_init_20 1 rfl ?_
  refine x_get h0 hC gW_Ev 0 rfl rfl 0 (by decide) wd_122 rfl d_Ev_init_21 ?_
  refine v_iload_n (K := kz K 1 6) h0 d_Ev_init_24 0 rfl ?_
  refine x_new (ci := 3) h0 hC gW_Fr gU_Fr gO_Fr wx_102 wd_104 wd_5 rfl [.int 0, .null, .null] (by decide) 2 9 rfl rfl (by rw [hKR]; exact Nat.le_of_ble_eq_true rfl) (by rw [hKR]; exact Nat.le_of_ble_eq_true rfl) d_Ev_init_25 (fun q2 => ?_)
  show V (σ := Wy) (kz K 2 9) _ ([(o, .inr (4, [.ref q1, .null, .int 0, .int 0, .int 0])), (q1, .inl (k (.object gC_Fr), 6, rfs (fun _ => none))), (q2, .inr (3, [.int 0, .null, .null]))], [(k (.object gC_Fr), (.object gC_Fr))]) _ _ _
  refine v_dup (K := kz K 2 9) h0 d_Ev_init_28 rfl ?_
  refine v_iload_n (K := kz K 2 9) h0 d_Ev_init_29 0 rfl ?_
  refine x_call (ws := [(o, .inr (4, [.ref q1, .null, .int 0, .int 0, .int 0])), (q1, .inl (k (.object gC_Fr), 6, rfs (fun _ => none)))]) h0 hC hid (n_Fr (kl K) D k _ 0) wd_107 wd_105 wd_106 wd_5 rfl hd_Fr_init (by rw [hKR]; exact Nat.le_of_ble_eq_true rfl) (by rw [hKR]; exact Nat.le_of_ble_eq_true rfl) rfl (rest := [.ref q2, .int (nI 0), .ref q1]) rfl (Nat.le_of_ble_eq_true rfl) 3 15 rfl rfl (by rw [hKR]; exact Nat.le_of_ble_eq_true rfl) (by rw [hKR]; exact Nat.le_of_ble_eq_true rfl) d_Ev_init_30 (fun w9 hw9 => ?_)
  obtain ⟨b0, rfl⟩ := hw9
  show V (σ := Wy) (kz K 3 15) _ ([(o, .inr (4, [.ref q1, .null, .int 0, .int 0, .int 0])), (q1, .inl (k (.object gC_Fr), 6, rfs (fun _ => none))), (q2, .inr (3, [.int (nI 0), .ref b0, .null])), (b0, .inl (k .int, 6, .inl (fun _ => 0)))], [(k (.object gC_Fr), (.object gC_Fr)), (k .int, .int)]) _ _ _
  refine x_ast h0 1 0 2 3 rfl rfl rfl rfl 0 rfl (by decide) (by decide) d_Ev_init_33 ?_
  show V (σ := Wy) (kz K 3 15) _ ([(o, .inr (4, [.ref q1, .null, .int 0, .int 0, .int 0])), (q1, .inl (k (.object gC_Fr), 6, rfs (va_up (fun _ => none) 0 (some q2)))), (q2, .inr (3, [.int (nI 0), .ref b0, .null])), (b0, .inl (k .int, 6, .inl (fun _ => 0)))], [(k (.object gC_Fr), (.object gC_Fr)), (k .int, .int)]) _ _ _
  refine v_iinc (K := kz K 3 15) h0 d_Ev_init_34 (lv' := [(1, .int (nI 1)), (0, .ref o)]) 0 rfl (inc1 0) (lt_kn hn (by decide)) rfl ?_
  refine v_goto (K := kz K 3 15) h0 d_Ev_init_37 rfl ?_
  refine v_iload_n (K := kz K 3 15) h0 d_Ev_init_15 0 rfl ?_
  refine v_iconst (K := kz K 3 15) h0 d_Ev_init_16 (v := nI 5) (by decide) ?_
  refine n_icmp_gt (K := kz K 3 15) h0 (by omega) (by omega) d_Ev_init_17 rfl (fun h9 => absurd h9 (by omega)) (fun _ => ?_)
  refine v_aload_n (K := kz K 3 15) h0 d_Ev_init_20 1 rfl ?_
  refine x_get h0 hC gW_Ev 0 rfl rfl 0 (by decide) wd_122 rfl d_Ev_init_21 ?_
  refine v_iload_n (K := kz K 3 15) h0 d_Ev_init_24 0 rfl ?_
  refine x_new (ci := 3) h0 hC gW_Fr gU_Fr gO_Fr wx_102 wd_104 wd_5 rfl [.int 0, .null, .null] (by decide) 4 18 rfl rfl (by rw [hKR]; exact Nat.le_of_ble_eq_true rfl) (by rw [hKR]; exact Nat.le_of_ble_eq_true rfl) d_Ev_init_25 (fun q3 => ?_)
  show V (σ := Wy) (kz K 4 18) _ ([(o, .inr (4, [.ref q1, .null, .int 0, .int 0, .int 0])), (q1, .inl (k (.object gC_Fr), 6, rfs (va_up (fun _ => none) 0 (some q2)))), (q2, .inr (3, [.int (nI 0), .ref b0, .null])), (b0, .inl (k .int, 6, .inl (fun _ => 0))), (q3, .inr (3, [.int 0, .null, .null]))], [(k (.object gC_Fr), (.object gC_Fr)), (k .int, .int)]) _ _ _
  refine v_dup (K := kz K 4 18) h0 d_Ev_init_28 rfl ?_
  refine v_iload_n (K := kz K 4 18) h0 d_Ev_init_29 0 rfl ?_
  refine x_call (ws := [(o, .inr (4, [.ref q1, .null, .int 0, .int 0, .int 0])), (q1, .inl (k (.object gC_Fr), 6, rfs (va_up (fun _ => none) 0 (some q2)))), (q2, .inr (3, [.int (nI 0), .ref b0, .null])), (b0, .inl (k .int, 6, .inl (fun _ => 0)))]) h0 hC hid (n_Fr (kl K) D k _ 1) wd_107 wd_105 wd_106 wd_5 rfl hd_Fr_init (by rw [hKR]; exact Nat.le_of_ble_eq_true rfl) (by rw [hKR]; exact Nat.le_of_ble_eq_true rfl) rfl (rest := [.ref q3, .int (nI 1), .ref q1]) rfl (Nat.le_of_ble_eq_true rfl) 5 24 rfl rfl (by rw [hKR]; exact Nat.le_of_ble_eq_true rfl) (by rw [hKR]; exact Nat.le_of_ble_eq_true rfl) d_Ev_init_30 (fun w9 hw9 => ?_)
  obtain ⟨b1, rfl⟩ := hw9
  refine x_tys [0, 1] (tys' := [(k (.object gC_Fr), (.object gC_Fr)), (k .int, .int)]) rfl ?_
  show V (σ := Wy) (kz K 5 24) _ ([(o, .inr (4, [.ref q1, .null, .int 0, .int 0, .int 0])), (q1, .inl (k (.object gC_Fr), 6, rfs (va_up (fun _ => none) 0 (some q2)))), (q2, .inr (3, [.int (nI 0), .ref b0, .null])), (b0, .inl (k .int, 6, .inl (fun _ => 0))), (q3, .inr (3, [.int (nI 1), .ref b1, .null])), (b1, .inl (k .int, 6, .inl (fun _ => 0)))], [(k (.object gC_Fr), (.object gC_Fr)), (k .int, .int)]) _ _ _
  refine x_ast h0 1 0 4 3 rfl rfl rfl rfl 1 rfl (by decide) (by decide) d_Ev_init_33 ?_
  show V (σ := Wy) (kz K 5 24) _ ([(o, .inr (4, [.ref q1, .null, .int 0, .int 0, .int 0])), (q1, .inl (k (.object gC_Fr), 6, rfs (va_up (va_up (fun _ => none) 0 (some q2)) 1 (some q3)))), (q2, .inr (3, [.int (nI 0), .ref b0, .null])), (b0, .inl (k .int, 6, .inl (fun _ => 0))), (q3, .inr (3, [.int (nI 1), .ref b1, .null])), (b1, .inl (k .int, 6, .inl (fun _ => 0)))], [(k (.object gC_Fr), (.object gC_Fr)), (k .int, .int)]) _ _ _
  refine v_iinc (K := kz K 5 24) h0 d_Ev_init_34 (lv' := [(1, .int (nI 2)), (0, .ref o)]) 0 rfl (inc1 1) (lt_kn hn (by decide)) rfl ?_
  refine v_goto (K := kz K 5 24) h0 d_Ev_init_37 rfl ?_
  refine v_iload_n (K := kz K 5 24) h0 d_Ev_init_15 0 rfl ?_
  refine v_iconst (K := kz K 5 24) h0 d_Ev_init_16 (v := nI 5) (by decide) ?_
  refine n_icmp_gt (K := kz K 5 24) h0 (by omega) (by omega) d_Ev_init_17 rfl (fun h9 => absurd h9 (by omega)) (fun _ => ?_)
  refine v_aload_n (K := kz K 5 24) h0 d_Ev_init_20 1 rfl ?_
  refine x_get h0 hC gW_Ev 0 rfl rfl 0 (by decide) wd_122 rfl d_Ev_init_21 ?_
  refine v_iload_n (K := kz K 5 24) h0 d_Ev_init_24 0 rfl ?_
  refine x_new (ci := 3) h0 hC gW_Fr gU_Fr gO_Fr wx_102 wd_104 wd_5 rfl [.int 0, .null, .null] (by decide) 6 27 rfl rfl (by rw [hKR]; exact Nat.le_of_ble_eq_true rfl) (by rw [hKR]; exact Nat.le_of_ble_eq_true rfl) d_Ev_init_25 (fun q4 => ?_)
  show V (σ := Wy) (kz K 6 27) _ ([(o, .inr (4, [.ref q1, .null, .int 0, .int 0, .int 0])), (q1, .inl (k (.object gC_Fr), 6, rfs (va_up (va_up (fun _ => none) 0 (some q2)) 1 (some q3)))), (q2, .inr (3, [.int (nI 0), .ref b0, .null])), (b0, .inl (k .int, 6, .inl (fun _ => 0))), (q3, .inr (3, [.int (nI 1), .ref b1, .null])), (b1, .inl (k .int, 6, .inl (fun _ => 0))), (q4, .inr (3, [.int 0, .null, .null]))], [(k (.object gC_Fr), (.object gC_Fr)), (k .int, .int)]) _ _ _
  refine v_dup (K := kz K 6 27) h0 d_Ev_init_28 rfl ?_
  refine v_iload_n (K := kz K 6 27) h0 d_Ev_init_29 0 rfl ?_
  refine x_call (ws := [(o, .inr (4, [.ref q1, .null, .int 0, .int 0, .int 0])), (q1, .inl (k (.object gC_Fr), 6, rfs (va_up (va_up (fun _ => none) 0 (some q2)) 1 (some q3)))), (q2, .inr (3, [.int (nI 0), .ref b0, .null])), (b0, .inl (k .int, 6, .inl (fun _ => 0))), (q3, .inr (3, [.int (nI 1), .ref b1, .null])), (b1, .inl (k .int, 6, .inl (fun _ => 0)))]) h0 hC hid (n_Fr (kl K) D k _ 2) wd_107 wd_105 wd_106 wd_5 rfl hd_Fr_init (by rw [hKR]; exact Nat.le_of_ble_eq_true rfl) (by rw [hKR]; exact Nat.le_of_ble_eq_true rfl) rfl (rest := [.ref q4, .int (nI 2), .ref q1]) rfl (Nat.le_of_ble_eq_true rfl) 7 33 rfl rfl (by rw [hKR]; exact Nat.le_of_ble_eq_true rfl) (by rw [hKR]; exact Nat.le_of_ble_eq_true rfl) d_Ev_init_30 (fun w9 hw9 => ?_)
  obtain ⟨b2, rfl⟩ := hw9
  refine x_tys [0, 1] (tys' := [(k (.object gC_Fr), (.object gC_Fr)), (k .int, .int)]) rfl ?_
  show V (σ := Wy) (kz K 7 33) _ ([(o, .inr (4, [.ref q1, .null, .int 0, .int 0, .int 0])), (q1, .inl (k (.object gC_Fr), 6, rfs (va_up (va_up (fun _ => none) 0 (some q2)) 1 (some q3)))), (q2, .inr (3, [.int (nI 0), .ref b0, .null])), (b0, .inl (k .int, 6, .inl (fun _ => 0))), (q3, .inr (3, [.int (nI 1), .ref b1, .null])), (b1, .inl (k .int, 6, .inl (fun _ => 0))), (q4, .inr (3, [.int (nI 2), .ref b2, .null])), (b2, .inl (k .int, 6, .inl (fun _ => 0)))], [(k (.object gC_Fr), (.object gC_Fr)), (k .int, .int)]) _ _ _
  refine x_ast h0 1 0 6 3 rfl rfl rfl rfl 2 rfl (by decide) (by decide) d_Ev_init_33 ?_
  show V (σ := Wy) (kz K 7 33) _ ([(o, .inr (4, [.ref q1, .null, .int 0, .int 0, .int 0])), (q1, .inl (k (.object gC_Fr), 6, rfs (va_up (va_up (va_up (fun _ => none) 0 (some q2)) 1 (some q3)) 2 (some q4)))), (q2, .inr (3, [.int (nI 0), .ref b0, .null])), (b0, .inl (k .int, 6, .inl (fun _ => 0))), (q3, .inr (3, [.int (nI 1), .ref b1, .null])), (b1, .inl (k .int, 6, .inl (fun _ => 0))), (q4, .inr (3, [.int (nI 2), .ref b2, .null])), (b2, .inl (k .int, 6, .inl (fun _ => 0)))], [(k (.object gC_Fr), (.object gC_Fr)), (k .int, .int)]) _ _ _
  refine v_iinc (K := kz K 7 33) h0 d_Ev_init_34 (lv' := [(1, .int (nI 3)), (0, .ref o)]) 0 rfl (inc1 2) (lt_kn hn (by decide)) rfl ?_
  refine v_goto (K := kz K 7 33) h0 d_Ev_init_37 rfl ?_
  refine v_iload_n (K := kz K 7 33) h0 d_Ev_init_15 0 rfl ?_
  refine v_iconst (K := kz K 7 33) h0 d_Ev_init_16 (v := nI 5) (by decide) ?_
  refine n_icmp_gt (K := kz K 7 33) h0 (by omega) (by omega) d_Ev_init_17 rfl (fun h9 => absurd h9 (by omega)) (fun _ => ?_)
  refine v_aload_n (K := kz K 7 33) h0 d_Ev_init_20 1 rfl ?_
  refine x_get h0 hC gW_Ev 0 rfl rfl 0 (by decide) wd_122 rfl d_Ev_init_21 ?_
  refine v_iload_n (K := kz K 7 33) h0 d_Ev_init_24 0 rfl ?_
  refine x_new (ci := 3) h0 hC gW_Fr gU_Fr gO_Fr wx_102 wd_104 wd_5 rfl [.int 0, .null, .null] (by decide) 8 36 rfl rfl (by rw [hKR]; exact Nat.le_of_ble_eq_true rfl) (by rw [hKR]; exact Nat.le_of_ble_eq_true rfl) d_Ev_init_25 (fun q5 => ?_)
  show V (σ := Wy) (kz K 8 36) _ ([(o, .inr (4, [.ref q1, .null, .int 0, .int 0, .int 0])), (q1, .inl (k (.object gC_Fr), 6, rfs (va_up (va_up (va_up (fun _ => none) 0 (some q2)) 1 (some q3)) 2 (some q4)))), (q2, .inr (3, [.int (nI 0), .ref b0, .null])), (b0, .inl (k .int, 6, .inl (fun _ => 0))), (q3, .inr (3, [.int (nI 1), .ref b1, .null])), (b1, .inl (k .int, 6, .inl (fun _ => 0))), (q4, .inr (3, [.int (nI 2), .ref b2, .null])), (b2, .inl (k .int, 6, .inl (fun _ => 0))), (q5, .inr (3, [.int 0, .null, .null]))], [(k (.object gC_Fr), (.object gC_Fr)), (k .int, .int)]) _ _ _
  refine v_dup (K := kz K 8 36) h0 d_Ev_init_28 rfl ?_
  refine v_iload_n (K := kz K 8 36) h0 d_Ev_init_29 0 rfl ?_
  refine x_call (ws := [(o, .inr (4, [.ref q1, .null, .int 0, .int 0, .int 0])), (q1, .inl (k (.object gC_Fr), 6, rfs (va_up (va_up (va_up (fun _ => none) 0 (some q2)) 1 (some q3)) 2 (some q4)))), (q2, .inr (3, [.int (nI 0), .ref b0, .null])), (b0, .inl (k .int, 6, .inl (fun _ => 0))), (q3, .inr (3, [.int (nI 1), .ref b1, .null])), (b1, .inl (k .int, 6, .inl (fun _ => 0))), (q4, .inr (3, [.int (nI 2), .ref b2, .null])), (b2, .inl (k .int, 6, .inl (fun _ => 0)))]) h0 hC hid (n_Fr (kl K) D k _ 3) wd_107 wd_105 wd_106 wd_5 rfl hd_Fr_init (by rw [hKR]; exact Nat.le_of_ble_eq_true rfl) (by rw [hKR]; exact Nat.le_of_ble_eq_true rfl) rfl (rest := [.ref q5, .int (nI 3), .ref q1]) rfl (Nat.le_of_ble_eq_true rfl) 9 42 rfl rfl (by rw [hKR]; exact Nat.le_of_ble_eq_true rfl) (by rw [hKR]; exact Nat.le_of_ble_eq_true rfl) d_Ev_init_30 (fun w9 hw9 => ?_)
  obtain ⟨b3, rfl⟩ := hw9
  refine x_tys [0, 1] (tys' := [(k (.object gC_Fr), (.object gC_Fr)), (k .int, .int)]) rfl ?_
  show V (σ := Wy) (kz K 9 42) _ ([(o, .inr (4, [.ref q1, .null, .int 0, .int 0, .int 0])), (q1, .inl (k (.object gC_Fr), 6, rfs (va_up (va_up (va_up (fun _ => none) 0 (some q2)) 1 (some q3)) 2 (some q4)))), (q2, .inr (3, [.int (nI 0), .ref b0, .null])), (b0, .inl (k .int, 6, .inl (fun _ => 0))), (q3, .inr (3, [.int (nI 1), .ref b1, .null])), (b1, .inl (k .int, 6, .inl (fun _ => 0))), (q4, .inr (3, [.int (nI 2), .ref b2, .null])), (b2, .inl (k .int, 6, .inl (fun _ => 0))), (q5, .inr (3, [.int (nI 3), .ref b3, .null])), (b3, .inl (k .int, 6, .inl (fun _ => 0)))], [(k (.object gC_Fr), (.object gC_Fr)), (k .int, .int)]) _ _ _
  refine x_ast h0 1 0 8 3 rfl rfl rfl rfl 3 rfl (by decide) (by decide) d_Ev_init_33 ?_
  show V (σ := Wy) (kz K 9 42) _ ([(o, .inr (4, [.ref q1, .null, .int 0, .int 0, .int 0])), (q1, .inl (k (.object gC_Fr), 6, rfs (va_up (va_up (va_up (va_up (fun _ => none) 0 (some q2)) 1 (some q3)) 2 (some q4)) 3 (some q5)))), (q2, .inr (3, [.int (nI 0), .ref b0, .null])), (b0, .inl (k .int, 6, .inl (fun _ => 0))), (q3, .inr (3, [.int (nI 1), .ref b1, .null])), (b1, .inl (k .int, 6, .inl (fun _ => 0))), (q4, .inr (3, [.int (nI 2), .ref b2, .null])), (b2, .inl (k .int, 6, .inl (fun _ => 0))), (q5, .inr (3, [.int (nI 3), .ref b3, .null])), (b3, .inl (k .int, 6, .inl (fun _ => 0)))], [(k (.object gC_Fr), (.object gC_Fr)), (k .int, .int)]) _ _ _
  refine v_iinc (K := kz K 9 42) h0 d_Ev_init_34 (lv' := [(1, .int (nI 4)), (0, .ref o)]) 0 rfl (inc1 3) (lt_kn hn (by decide)) rfl ?_
  refine v_goto (K := kz K 9 42) h0 d_Ev_init_37 rfl ?_
  refine v_iload_n (K := kz K 9 42) h0 d_Ev_init_15 0 rfl ?_
  refine v_iconst (K := kz K 9 42) h0 d_Ev_init_16 (v := nI 5) (by decide) ?_
  refine n_icmp_gt (K := kz K 9 42) h0 (by omega) (by omega) d_Ev_init_17 rfl (fun h9 => absurd h9 (by omega)) (fun _ => ?_)
  refine v_aload_n (K := kz K 9 42) h0 d_Ev_init_20 1 rfl ?_
  refine x_get h0 hC gW_Ev 0 rfl rfl 0 (by decide) wd_122 rfl d_Ev_init_21 ?_
  refine v_iload_n (K := kz K 9 42) h0 d_Ev_init_24 0 rfl ?_
  refine x_new (ci := 3) h0 hC gW_Fr gU_Fr gO_Fr wx_102 wd_104 wd_5 rfl [.int 0, .null, .null] (by decide) 10 45 rfl rfl (by rw [hKR]; exact Nat.le_of_ble_eq_true rfl) (by rw [hKR]; exact Nat.le_of_ble_eq_true rfl) d_Ev_init_25 (fun q6 => ?_)
  show V (σ := Wy) (kz K 10 45) _ ([(o, .inr (4, [.ref q1, .null, .int 0, .int 0, .int 0])), (q1, .inl (k (.object gC_Fr), 6, rfs (va_up (va_up (va_up (va_up (fun _ => none) 0 (some q2)) 1 (some q3)) 2 (some q4)) 3 (some q5)))), (q2, .inr (3, [.int (nI 0), .ref b0, .null])), (b0, .inl (k .int, 6, .inl (fun _ => 0))), (q3, .inr (3, [.int (nI 1), .ref b1, .null])), (b1, .inl (k .int, 6, .inl (fun _ => 0))), (q4, .inr (3, [.int (nI 2), .ref b2, .null])), (b2, .inl (k .int, 6, .inl (fun _ => 0))), (q5, .inr (3, [.int (nI 3), .ref b3, .null])), (b3, .inl (k .int, 6, .inl (fun _ => 0))), (q6, .inr (3, [.int 0, .null, .null]))], [(k (.object gC_Fr), (.object gC_Fr)), (k .int, .int)]) _ _ _
  refine v_dup (K := kz K 10 45) h0 d_Ev_init_28 rfl ?_
  refine v_iload_n (K := kz K 10 45) h0 d_Ev_init_29 0 rfl ?_
  refine x_call (ws := [(o, .inr (4, [.ref q1, .null, .int 0, .int 0, .int 0])), (q1, .inl (k (.object gC_Fr), 6, rfs (va_up (va_up (va_up (va_up (fun _ => none) 0 (some q2)) 1 (some q3)) 2 (some q4)) 3 (some q5)))), (q2, .inr (3, [.int (nI 0), .ref b0, .null])), (b0, .inl (k .int, 6, .inl (fun _ => 0))), (q3, .inr (3, [.int (nI 1), .ref b1, .null])), (b1, .inl (k .int, 6, .inl (fun _ => 0))), (q4, .inr (3, [.int (nI 2), .ref b2, .null])), (b2, .inl (k .int, 6, .inl (fun _ => 0))), (q5, .inr (3, [.int (nI 3), .ref b3, .null])), (b3, .inl (k .int, 6, .inl (fun _ => 0)))]) h0 hC hid (n_Fr (kl K) D k _ 4) wd_107 wd_105 wd_106 wd_5 rfl hd_Fr_init (by rw [hKR]; exact Nat.le_of_ble_eq_true rfl) (by rw [hKR]; exact Nat.le_of_ble_eq_true rfl) rfl (rest := [.ref q6, .int (nI 4), .ref q1]) rfl (Nat.le_of_ble_eq_true rfl) 11 51 rfl rfl (by rw [hKR]; exact Nat.le_of_ble_eq_true rfl) (by rw [hKR]; exact Nat.le_of_ble_eq_true rfl) d_Ev_init_30 (fun w9 hw9 => ?_)
  obtain ⟨b4, rfl⟩ := hw9
  refine x_tys [0, 1] (tys' := [(k (.object gC_Fr), (.object gC_Fr)), (k .int, .int)]) rfl ?_
  show V (σ := Wy) (kz K 11 51) _ ([(o, .inr (4, [.ref q1, .null, .int 0, .int 0, .int 0])), (q1, .inl (k (.object gC_Fr), 6, rfs (va_up (va_up (va_up (va_up (fun _ => none) 0 (some q2)) 1 (some q3)) 2 (some q4)) 3 (some q5)))), (q2, .inr (3, [.int (nI 0), .ref b0, .null])), (b0, .inl (k .int, 6, .inl (fun _ => 0))), (q3, .inr (3, [.int (nI 1), .ref b1, .null])), (b1, .inl (k .int, 6, .inl (fun _ => 0))), (q4, .inr (3, [.int (nI 2), .ref b2, .null])), (b2, .inl (k .int, 6, .inl (fun _ => 0))), (q5, .inr (3, [.int (nI 3), .ref b3, .null])), (b3, .inl (k .int, 6, .inl (fun _ => 0))), (q6, .inr (3, [.int (nI 4), .ref b4, .null])), (b4, .inl (k .int, 6, .inl (fun _ => 0)))], [(k (.object gC_Fr), (.object gC_Fr)), (k .int, .int)]) _ _ _
  refine x_ast h0 1 0 10 3 rfl rfl rfl rfl 4 rfl (by decide) (by decide) d_Ev_init_33 ?_
  show V (σ := Wy) (kz K 11 51) _ ([(o, .inr (4, [.ref q1, .null, .int 0, .int 0, .int 0])), (q1, .inl (k (.object gC_Fr), 6, rfs (va_up (va_up (va_up (va_up (va_up (fun _ => none) 0 (some q2)) 1 (some q3)) 2 (some q4)) 3 (some q5)) 4 (some q6)))), (q2, .inr (3, [.int (nI 0), .ref b0, .null])), (b0, .inl (k .int, 6, .inl (fun _ => 0))), (q3, .inr (3, [.int (nI 1), .ref b1, .null])), (b1, .inl (k .int, 6, .inl (fun _ => 0))), (q4, .inr (3, [.int (nI 2), .ref b2, .null])), (b2, .inl (k .int, 6, .inl (fun _ => 0))), (q5, .inr (3, [.int (nI 3), .ref b3, .null])), (b3, .inl (k .int, 6, .inl (fun _ => 0))), (q6, .inr (3, [.int (nI 4), .ref b4, .null])), (b4, .inl (k .int, 6, .inl (fun _ => 0)))], [(k (.object gC_Fr), (.object gC_Fr)), (k .int, .int)]) _ _ _
  refine v_iinc (K := kz K 11 51) h0 d_Ev_init_34 (lv' := [(1, .int (nI 5)), (0, .ref o)]) 0 rfl (inc1 4) (lt_kn hn (by decide)) rfl ?_
  refine v_goto (K := kz K 11 51) h0 d_Ev_init_37 rfl ?_
  refine v_iload_n (K := kz K 11 51) h0 d_Ev_init_15 0 rfl ?_
  refine v_iconst (K := kz K 11 51) h0 d_Ev_init_16 (v := nI 5) (by decide) ?_
  refine n_icmp_gt (K := kz K 11 51) h0 (by omega) (by omega) d_Ev_init_17 rfl (fun h9 => absurd h9 (by omega)) (fun _ => ?_)
  refine v_aload_n (K := kz K 11 51) h0 d_Ev_init_20 1 rfl ?_
  refine x_get h0 hC gW_Ev 0 rfl rfl 0 (by decide) wd_122 rfl d_Ev_init_21 ?_
  refine v_iload_n (K := kz K 11 51) h0 d_Ev_init_24 0 rfl ?_
  refine x_new (ci := 3) h0 hC gW_Fr gU_Fr gO_Fr wx_102 wd_104 wd_5 rfl [.int 0, .null, .null] (by decide) 12 54 rfl rfl (by rw [hKR]; exact Nat.le_of_ble_eq_true rfl) (by rw [hKR]; exact Nat.le_of_ble_eq_true rfl) d_Ev_init_25 (fun q7 => ?_)
  show V (σ := Wy) (kz K 12 54) _ ([(o, .inr (4, [.ref q1, .null, .int 0, .int 0, .int 0])), (q1, .inl (k (.object gC_Fr), 6, rfs (va_up (va_up (va_up (va_up (va_up (fun _ => none) 0 (some q2)) 1 (some q3)) 2 (some q4)) 3 (some q5)) 4 (some q6)))), (q2, .inr (3, [.int (nI 0), .ref b0, .null])), (b0, .inl (k .int, 6, .inl (fun _ => 0))), (q3, .inr (3, [.int (nI 1), .ref b1, .null])), (b1, .inl (k .int, 6, .inl (fun _ => 0))), (q4, .inr (3, [.int (nI 2), .ref b2, .null])), (b2, .inl (k .int, 6, .inl (fun _ => 0))), (q5, .inr (3, [.int (nI 3), .ref b3, .null])), (b3, .inl (k .int, 6, .inl (fun _ => 0))), (q6, .inr (3, [.int (nI 4), .ref b4, .null])), (b4, .inl (k .int, 6, .inl (fun _ => 0))), (q7, .inr (3, [.int 0, .null, .null]))], [(k (.object gC_Fr), (.object gC_Fr)), (k .int, .int)]) _ _ _
  refine v_dup (K := kz K 12 54) h0 d_Ev_init_28 rfl ?_
  refine v_iload_n (K := kz K 12 54) h0 d_Ev_init_29 0 rfl ?_
  refine x_call (ws := [(o, .inr (4, [.ref q1, .null, .int 0, .int 0, .int 0])), (q1, .inl (k (.object gC_Fr), 6, rfs (va_up (va_up (va_up (va_up (va_up (fun _ => none) 0 (some q2)) 1 (some q3)) 2 (some q4)) 3 (some q5)) 4 (some q6)))), (q2, .inr (3, [.int (nI 0), .ref b0, .null])), (b0, .inl (k .int, 6, .inl (fun _ => 0))), (q3, .inr (3, [.int (nI 1), .ref b1, .null])), (b1, .inl (k .int, 6, .inl (fun _ => 0))), (q4, .inr (3, [.int (nI 2), .ref b2, .null])), (b2, .inl (k .int, 6, .inl (fun _ => 0))), (q5, .inr (3, [.int (nI 3), .ref b3, .null])), (b3, .inl (k .int, 6, .inl (fun _ => 0))), (q6, .inr (3, [.int (nI 4), .ref b4, .null])), (b4, .inl (k .int, 6, .inl (fun _ => 0)))]) h0 hC hid (n_Fr (kl K) D k _ 5) wd_107 wd_105 wd_106 wd_5 rfl hd_Fr_init (by rw [hKR]; exact Nat.le_of_ble_eq_true rfl) (by rw [hKR]; exact Nat.le_of_ble_eq_true rfl) rfl (rest := [.ref q7, .int (nI 5), .ref q1]) rfl (Nat.le_of_ble_eq_true rfl) 13 60 rfl rfl (by rw [hKR]; exact Nat.le_of_ble_eq_true rfl) (by rw [hKR]; exact Nat.le_of_ble_eq_true rfl) d_Ev_init_30 (fun w9 hw9 => ?_)
  obtain ⟨b5, rfl⟩ := hw9
  refine x_tys [0, 1] (tys' := [(k (.object gC_Fr), (.object gC_Fr)), (k .int, .int)]) rfl ?_
  show V (σ := Wy) (kz K 13 60) _ ([(o, .inr (4, [.ref q1, .null, .int 0, .int 0, .int 0])), (q1, .inl (k (.object gC_Fr), 6, rfs (va_up (va_up (va_up (va_up (va_up (fun _ => none) 0 (some q2)) 1 (some q3)) 2 (some q4)) 3 (some q5)) 4 (some q6)))), (q2, .inr (3, [.int (nI 0), .ref b0, .null])), (b0, .inl (k .int, 6, .inl (fun _ => 0))), (q3, .inr (3, [.int (nI 1), .ref b1, .null])), (b1, .inl (k .int, 6, .inl (fun _ => 0))), (q4, .inr (3, [.int (nI 2), .ref b2, .null])), (b2, .inl (k .int, 6, .inl (fun _ => 0))), (q5, .inr (3, [.int (nI 3), .ref b3, .null])), (b3, .inl (k .int, 6, .inl (fun _ => 0))), (q6, .inr (3, [.int (nI 4), .ref b4, .null])), (b4, .inl (k .int, 6, .inl (fun _ => 0))), (q7, .inr (3, [.int (nI 5), .ref b5, .null])), (b5, .inl (k .int, 6, .inl (fun _ => 0)))], [(k (.object gC_Fr), (.object gC_Fr)), (k .int, .int)]) _ _ _
  refine x_ast h0 1 0 12 3 rfl rfl rfl rfl 5 rfl (by decide) (by decide) d_Ev_init_33 ?_
  show V (σ := Wy) (kz K 13 60) _ ([(o, .inr (4, [.ref q1, .null, .int 0, .int 0, .int 0])), (q1, .inl (k (.object gC_Fr), 6, rfs (va_up (va_up (va_up (va_up (va_up (va_up (fun _ => none) 0 (some q2)) 1 (some q3)) 2 (some q4)) 3 (some q5)) 4 (some q6)) 5 (some q7)))), (q2, .inr (3, [.int (nI 0), .ref b0, .null])), (b0, .inl (k .int, 6, .inl (fun _ => 0))), (q3, .inr (3, [.int (nI 1), .ref b1, .null])), (b1, .inl (k .int, 6, .inl (fun _ => 0))), (q4, .inr (3, [.int (nI 2), .ref b2, .null])), (b2, .inl (k .int, 6, .inl (fun _ => 0))), (q5, .inr (3, [.int (nI 3), .ref b3, .null])), (b3, .inl (k .int, 6, .inl (fun _ => 0))), (q6, .inr (3, [.int (nI 4), .ref b4, .null])), (b4, .inl (k .int, 6, .inl (fun _ => 0))), (q7, .inr (3, [.int (nI 5), .ref b5, .null])), (b5, .inl (k .int, 6, .inl (fun _ => 0)))], [(k (.object gC_Fr), (.object gC_Fr)), (k .int, .int)]) _ _ _
  refine v_iinc (K := kz K 13 60) h0 d_Ev_init_34 (lv' := [(1, .int (nI 6)), (0, .ref o)]) 0 rfl (inc1 5) (lt_kn hn (by decide)) rfl ?_
  refine v_goto (K := kz K 13 60) h0 d_Ev_init_37 rfl ?_
  refine v_iload_n (K := kz K 13 60) h0 d_Ev_init_15 0 rfl ?_
  refine v_iconst (K := kz K 13 60) h0 d_Ev_init_16 (v := nI 5) (by decide) ?_
  refine n_icmp_gt (K := kz K 13 60) h0 (by omega) (by omega) d_Ev_init_17 rfl (fun _ => ?_) (fun h9 => absurd h9 (by omega))
  refine v_aload_n (K := kz K 13 60) h0 d_Ev_init_40 1 rfl ?_
  refine v_null (K := kz K 13 60) h0 d_Ev_init_41 ?_
  refine x_put h0 hC gW_Ev gU_Ev gO_Ev gN_Ev 0 rfl rfl 1 (by decide) wd_123 rfl rfl rfl (Nat.le_of_ble_eq_true rfl) d_Ev_init_42 ?_
  show V (σ := Wy) (kz K 13 60) _ ([(o, .inr (4, [.ref q1, .null, .int 0, .int 0, .int 0])), (q1, .inl (k (.object gC_Fr), 6, rfs (va_up (va_up (va_up (va_up (va_up (va_up (fun _ => none) 0 (some q2)) 1 (some q3)) 2 (some q4)) 3 (some q5)) 4 (some q6)) 5 (some q7)))), (q2, .inr (3, [.int (nI 0), .ref b0, .null])), (b0, .inl (k .int, 6, .inl (fun _ => 0))), (q3, .inr (3, [.int (nI 1), .ref b1, .null])), (b1, .inl (k .int, 6, .inl (fun _ => 0))), (q4, .inr (3, [.int (nI 2), .ref b2, .null])), (b2, .inl (k .int, 6, .inl (fun _ => 0))), (q5, .inr (3, [.int (nI 3), .ref b3, .null])), (b3, .inl (k .int, 6, .inl (fun _ => 0))), (q6, .inr (3, [.int (nI 4), .ref b4, .null])), (b4, .inl (k .int, 6, .inl (fun _ => 0))), (q7, .inr (3, [.int (nI 5), .ref b5, .null])), (b5, .inl (k .int, 6, .inl (fun _ => 0)))], [(k (.object gC_Fr), (.object gC_Fr)), (k .int, .int)]) _ _ _
  refine v_aload_n (K := kz K 13 60) h0 d_Ev_init_45 1 rfl ?_
  refine v_iconst (K := kz K 13 60) h0 d_Ev_init_46 (v := 0) (by decide) ?_
  refine x_put h0 hC gW_Ev gU_Ev gO_Ev gN_Ev 0 rfl rfl 2 (by decide) wd_124 rfl rfl rfl (Nat.le_of_ble_eq_true rfl) d_Ev_init_47 ?_
  show V (σ := Wy) (kz K 13 60) _ ([(o, .inr (4, [.ref q1, .null, .int 0, .int 0, .int 0])), (q1, .inl (k (.object gC_Fr), 6, rfs (va_up (va_up (va_up (va_up (va_up (va_up (fun _ => none) 0 (some q2)) 1 (some q3)) 2 (some q4)) 3 (some q5)) 4 (some q6)) 5 (some q7)))), (q2, .inr (3, [.int (nI 0), .ref b0, .null])), (b0, .inl (k .int, 6, .inl (fun _ => 0))), (q3, .inr (3, [.int (nI 1), .ref b1, .null])), (b1, .inl (k .int, 6, .inl (fun _ => 0))), (q4, .inr (3, [.int (nI 2), .ref b2, .null])), (b2, .inl (k .int, 6, .inl (fun _ => 0))), (q5, .inr (3, [.int (nI 3), .ref b3, .null])), (b3, .inl (k .int, 6, .inl (fun _ => 0))), (q6, .inr (3, [.int (nI 4), .ref b4, .null])), (b4, .inl (k .int, 6, .inl (fun _ => 0))), (q7, .inr (3, [.int (nI 5), .ref b5, .null])), (b5, .inl (k .int, 6, .inl (fun _ => 0)))], [(k (.object gC_Fr), (.object gC_Fr)), (k .int, .int)]) _ _ _
  refine v_aload_n (K := kz K 13 60) h0 d_Ev_init_50 1 rfl ?_
  refine v_iconst (K := kz K 13 60) h0 d_Ev_init_51 (v := 0) (by decide) ?_
  refine x_put h0 hC gW_Ev gU_Ev gO_Ev gN_Ev 0 rfl rfl 3 (by decide) wd_125 rfl rfl rfl (Nat.le_of_ble_eq_true rfl) d_Ev_init_52 ?_
  show V (σ := Wy) (kz K 13 60) _ ([(o, .inr (4, [.ref q1, .null, .int 0, .int 0, .int 0])), (q1, .inl (k (.object gC_Fr), 6, rfs (va_up (va_up (va_up (va_up (va_up (va_up (fun _ => none) 0 (some q2)) 1 (some q3)) 2 (some q4)) 3 (some q5)) 4 (some q6)) 5 (some q7)))), (q2, .inr (3, [.int (nI 0), .ref b0, .null])), (b0, .inl (k .int, 6, .inl (fun _ => 0))), (q3, .inr (3, [.int (nI 1), .ref b1, .null])), (b1, .inl (k .int, 6, .inl (fun _ => 0))), (q4, .inr (3, [.int (nI 2), .ref b2, .null])), (b2, .inl (k .int, 6, .inl (fun _ => 0))), (q5, .inr (3, [.int (nI 3), .ref b3, .null])), (b3, .inl (k .int, 6, .inl (fun _ => 0))), (q6, .inr (3, [.int (nI 4), .ref b4, .null])), (b4, .inl (k .int, 6, .inl (fun _ => 0))), (q7, .inr (3, [.int (nI 5), .ref b5, .null])), (b5, .inl (k .int, 6, .inl (fun _ => 0)))], [(k (.object gC_Fr), (.object gC_Fr)), (k .int, .int)]) _ _ _
  refine v_aload_n (K := kz K 13 60) h0 d_Ev_init_55 1 rfl ?_
  refine v_iconst (K := kz K 13 60) h0 d_Ev_init_56 (v := 0) (by decide) ?_
  refine x_put h0 hC gW_Ev gU_Ev gO_Ev gN_Ev 0 rfl rfl 4 (by decide) wd_127 rfl rfl rfl (Nat.le_of_ble_eq_true rfl) d_Ev_init_57 ?_
  show V (σ := Wy) (kz K 13 60) _ ([(o, .inr (4, [.ref q1, .null, .int 0, .int 0, .int 0])), (q1, .inl (k (.object gC_Fr), 6, rfs (va_up (va_up (va_up (va_up (va_up (va_up (fun _ => none) 0 (some q2)) 1 (some q3)) 2 (some q4)) 3 (some q5)) 4 (some q6)) 5 (some q7)))), (q2, .inr (3, [.int (nI 0), .ref b0, .null])), (b0, .inl (k .int, 6, .inl (fun _ => 0))), (q3, .inr (3, [.int (nI 1), .ref b1, .null])), (b1, .inl (k .int, 6, .inl (fun _ => 0))), (q4, .inr (3, [.int (nI 2), .ref b2, .null])), (b2, .inl (k .int, 6, .inl (fun _ => 0))), (q5, .inr (3, [.int (nI 3), .ref b3, .null])), (b3, .inl (k .int, 6, .inl (fun _ => 0))), (q6, .inr (3, [.int (nI 4), .ref b4, .null])), (b4, .inl (k .int, 6, .inl (fun _ => 0))), (q7, .inr (3, [.int (nI 5), .ref b5, .null])), (b5, .inl (k .int, 6, .inl (fun _ => 0)))], [(k (.object gC_Fr), (.object gC_Fr)), (k .int, .int)]) _ _ _
  exact x_vret h0 hR (evW k o q1 q2 b0 q3 b1 q4 b2 q5 b3 q6 b4 q7 b5) [0, 1, 2, 3, 4, 5, 6, 7, 8, 9, 10, 11, 12, 13] [1, 0] rfl (by decide) rfl rfl (⟨q1, q2, b0, q3, b1, q4, b2, q5, b3, q6, b4, q7, b5, rfl⟩) d_Ev_init_60
