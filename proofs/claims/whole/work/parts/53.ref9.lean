/-! THE REFERENCE'S EVALUATOR: its small methods -/
def enM (M : Me) (c k o fu : Nat) : Me := up2 (up2 (up2 (up2 (up2 (up2 M 0 28 (nI (fu + 1))) 0 14 (M 0 14 + nI 1)) 17 o (nI c)) 18 o (nI k)) 19 o (nI 0)) 0 25 (nI (o + 1))
def enF (M : Me) (c k o fu : Nat) : Me := if fu = 2000 then up2 M 0 30 (nI 10) else enM M c k o fu
def lvM (M : Me) (v : Int32) (o : Nat) : Me := up2 (up2 M 0 29 v) 0 25 (nI o)
set_option maxHeartbeats 4000000 in
theorem m_Mo_enter (l : Launch) (g : Gd) (hI : sI (sR g)) (M : Me) {c k o fu : Nat} (hf : M 0 28 = nI fu) (hfu : fu ≤ 2000) (ho : M 0 25 = nI o) (ho2 : o < 320) : CR l g y_Mo_enter c_Mo_enter 3 none 1 [.ref (ga g 0), .int (nI c), .int (nI k)] M (fun r M' => r = none ∧ M' = enF M c k o fu) := by
  refine Ct.of hI (sR_N0 g) rfl (Nat.le_of_ble_eq_true rfl) (fun K h0 hC hR hkl hn => ?_)
  have hC : Cx (sR g) K gC_Mo _ := hC
  show V K (wp (sR g)) M 0 [(0, .ref (ga g 0)), (1, .int (nI c)), (2, .int (nI k))] []
  refine v_aload_n h0 d_Mo_enter_0 0 rfl ?_
  refine g_Mo_fuel_ h0 hC wd_476 d_Mo_enter_1 ?_
  refine v_int (nI fu) (hf) ?_
  refine v_sipush h0 d_Mo_enter_4 (v := nI 2000) (by decide) ?_
  refine n_icmp_ne h0 (by omega) (by omega) d_Mo_enter_7 rfl (fun h7 => ?_) (fun h7 => ?_)
  · skip
    refine v_aload_n h0 d_Mo_enter_17 0 rfl ?_
    refine v_dup h0 d_Mo_enter_18 rfl ?_
    refine g_Mo_fuel_ h0 hC wd_476 d_Mo_enter_19 ?_
    refine v_int (nI fu) (hf) ?_
    refine v_iconst h0 d_Mo_enter_22 (v := nI 1) (by decide) ?_
    refine v_iadd h0 d_Mo_enter_23 ?_
    refine v_int (nI (fu + 1)) (nI_add fu 1) ?_
    refine p_Mo_fuel_ h0 hC wd_476 d_Mo_enter_24 ?_
    refine v_aload_n h0 d_Mo_enter_27 0 rfl ?_
    refine v_dup h0 d_Mo_enter_28 rfl ?_
    refine g_Mo_made_ h0 hC wd_462 d_Mo_enter_29 ?_
    refine v_iconst h0 d_Mo_enter_32 (v := nI 1) (by decide) ?_
    refine v_iadd h0 d_Mo_enter_33 ?_
    refine v_int (M 0 14 + nI 1) (by rw [up2_n _ _ (by omega)]) ?_
    refine p_Mo_made_ h0 hC wd_462 d_Mo_enter_34 ?_
    refine v_aload_n h0 d_Mo_enter_37 0 rfl ?_
    refine g_Mo_cellAt_ h0 hC wd_469 d_Mo_enter_38 ?_
    refine v_aload_n h0 d_Mo_enter_41 0 rfl ?_
    refine g_Mo_open_ h0 hC wd_473 d_Mo_enter_42 ?_
    refine v_int (nI o) (by rw [up2_n _ _ (by omega), up2_n _ _ (by omega)]; exact ho) ?_
    refine v_iload_n h0 d_Mo_enter_45 1 rfl ?_
    refine s_Mo_cellAt_ h0 hC o (rfl) (z := nI c) (rfl) (by omega) d_Mo_enter_46 ?_
    refine v_aload_n h0 d_Mo_enter_47 0 rfl ?_
    refine g_Mo_at_ h0 hC wd_470 d_Mo_enter_48 ?_
    refine v_aload_n h0 d_Mo_enter_51 0 rfl ?_
    refine g_Mo_open_ h0 hC wd_473 d_Mo_enter_52 ?_
    refine v_int (nI o) (by rw [up2_n _ _ (by omega), up2_n _ _ (by omega), up2_n _ _ (by omega)]; exact ho) ?_
    refine v_iload_n h0 d_Mo_enter_55 2 rfl ?_
    refine s_Mo_at_ h0 hC o (rfl) (z := nI k) (rfl) (by omega) d_Mo_enter_56 ?_
    refine v_aload_n h0 d_Mo_enter_57 0 rfl ?_
    refine g_Mo_stage_ h0 hC wd_471 d_Mo_enter_58 ?_
    refine v_aload_n h0 d_Mo_enter_61 0 rfl ?_
    refine g_Mo_open_ h0 hC wd_473 d_Mo_enter_62 ?_
    refine v_int (nI o) (by rw [up2_n _ _ (by omega), up2_n _ _ (by omega), up2_n _ _ (by omega), up2_n _ _ (by omega)]; exact ho) ?_
    refine v_iconst h0 d_Mo_enter_65 (v := nI 0) (by decide) ?_
    refine s_Mo_stage_ h0 hC o (rfl) (z := nI 0) (rfl) (by omega) d_Mo_enter_66 ?_
    refine v_aload_n h0 d_Mo_enter_67 0 rfl ?_
    refine v_dup h0 d_Mo_enter_68 rfl ?_
    refine g_Mo_open_ h0 hC wd_473 d_Mo_enter_69 ?_
    refine v_int (nI o) (by rw [up2_n _ _ (by omega), up2_n _ _ (by omega), up2_n _ _ (by omega), up2_n _ _ (by omega), up2_n _ _ (by omega)]; exact ho) ?_
    refine v_iconst h0 d_Mo_enter_72 (v := nI 1) (by decide) ?_
    refine v_iadd h0 d_Mo_enter_73 ?_
    refine v_int (nI (o + 1)) (nI_add o 1) ?_
    refine p_Mo_open_ h0 hC wd_473 d_Mo_enter_74 ?_
    exact v_vret h0 hC hR d_Mo_enter_77 (⟨rfl, by unfold enF; rw [if_neg h7]; rfl⟩)
  · skip
    refine v_aload_n h0 d_Mo_enter_10 0 rfl ?_
    refine v_bipush h0 d_Mo_enter_11 (v := nI 10) (by decide) ?_
    refine p_Mo_error_ h0 hC wd_478 d_Mo_enter_13 ?_
    exact v_vret h0 hC hR d_Mo_enter_16 (⟨rfl, by unfold enF; rw [if_pos h7]⟩)
set_option maxHeartbeats 4000000 in
theorem m_Mo_leave (l : Launch) (g : Gd) (hI : sI (sR g)) (M : Me) {o : Nat} (v : Int32) (ho : M 0 25 = nI (o + 1)) : CR l g y_Mo_leave c_Mo_leave 2 none 1 [.ref (ga g 0), .int v] M (fun r M' => r = none ∧ M' = lvM M v o) := by
  refine Ct.of hI (sR_N0 g) rfl (Nat.le_of_ble_eq_true rfl) (fun K h0 hC hR hkl hn => ?_)
  have hC : Cx (sR g) K gC_Mo _ := hC
  show V K (wp (sR g)) M 0 [(0, .ref (ga g 0)), (1, .int v)] []
  refine v_aload_n h0 d_Mo_leave_0 0 rfl ?_
  refine v_iload_n h0 d_Mo_leave_1 1 rfl ?_
  refine p_Mo_out_ h0 hC wd_477 d_Mo_leave_2 ?_
  refine v_aload_n h0 d_Mo_leave_5 0 rfl ?_
  refine v_dup h0 d_Mo_leave_6 rfl ?_
  refine g_Mo_open_ h0 hC wd_473 d_Mo_leave_7 ?_
  refine v_iconst h0 d_Mo_leave_10 (v := nI 1) (by decide) ?_
  refine v_isub h0 d_Mo_leave_11 ?_
  refine v_int (nI o) (by rw [up2_n _ _ (by omega), ho]; exact pred1 o) ?_
  refine p_Mo_open_ h0 hC wd_473 d_Mo_leave_12 ?_
  exact v_vret h0 hC hR d_Mo_leave_15 (⟨rfl, rfl⟩)
set_option maxHeartbeats 4000000 in
theorem m_Mo_joined_43 (l : Launch) (g : Gd) (hI : sI (sR g)) (M : Me) (a b : Int32)  : CR l g y_Mo_joined c_Mo_joined 4 (some .int) 1 [.ref (ga g 0), .int 43, .int a, .int b] M (fun r M' => r = some (.int (jn 43 a b 0).2.1) ∧ M' = (if (jn 43 a b 0).1 = 0 then M else up2 M 0 30 (nI 7))) := by
  refine Ct.of hI (sR_N0 g) rfl (Nat.le_of_ble_eq_true rfl) (fun K h0 hC hR hkl hn => ?_)
  have hC : Cx (sR g) K gC_Mo _ := hC
  show V K (wp (sR g)) M 0 [(0, .ref (ga g 0)), (1, .int 43), (2, .int a), (3, .int b)] []
  refine v_iload_n h0 d_Mo_joined_0 1 rfl ?_
  refine v_bipush h0 d_Mo_joined_1 (v := 47) (by decide) ?_
  refine v_icmp_ne h0 d_Mo_joined_3 rfl (fun h3 => ?_) (fun h3 => absurd h3 (by decide))
  refine v_iload_n h0 d_Mo_joined_18 1 rfl ?_
  refine v_lookup h0 d_Mo_joined_19 (by decide) (off := 49) (by decide) rfl ?_
  refine v_iload_n h0 d_Mo_joined_68 2 rfl ?_
  refine v_iload_n h0 d_Mo_joined_69 3 rfl ?_
  refine v_iadd h0 d_Mo_joined_70 ?_
  exact v_iret h0 hC hR d_Mo_joined_71 (⟨rfl, rfl⟩)
set_option maxHeartbeats 4000000 in
theorem m_Mo_joined_45 (l : Launch) (g : Gd) (hI : sI (sR g)) (M : Me) (a b : Int32)  : CR l g y_Mo_joined c_Mo_joined 4 (some .int) 1 [.ref (ga g 0), .int 45, .int a, .int b] M (fun r M' => r = some (.int (jn 45 a b 0).2.1) ∧ M' = (if (jn 45 a b 0).1 = 0 then M else up2 M 0 30 (nI 7))) := by
  refine Ct.of hI (sR_N0 g) rfl (Nat.le_of_ble_eq_true rfl) (fun K h0 hC hR hkl hn => ?_)
  have hC : Cx (sR g) K gC_Mo _ := hC
  show V K (wp (sR g)) M 0 [(0, .ref (ga g 0)), (1, .int 45), (2, .int a), (3, .int b)] []
  refine v_iload_n h0 d_Mo_joined_0 1 rfl ?_
  refine v_bipush h0 d_Mo_joined_1 (v := 47) (by decide) ?_
  refine v_icmp_ne h0 d_Mo_joined_3 rfl (fun h3 => ?_) (fun h3 => absurd h3 (by decide))
  refine v_iload_n h0 d_Mo_joined_18 1 rfl ?_
  refine v_lookup h0 d_Mo_joined_19 (by decide) (off := 53) (by decide) rfl ?_
  refine v_iload_n h0 d_Mo_joined_72 2 rfl ?_
  refine v_iload_n h0 d_Mo_joined_73 3 rfl ?_
  refine v_isub h0 d_Mo_joined_74 ?_
  exact v_iret h0 hC hR d_Mo_joined_75 (⟨rfl, rfl⟩)
set_option maxHeartbeats 4000000 in
theorem m_Mo_joined_42 (l : Launch) (g : Gd) (hI : sI (sR g)) (M : Me) (a b : Int32)  : CR l g y_Mo_joined c_Mo_joined 4 (some .int) 1 [.ref (ga g 0), .int 42, .int a, .int b] M (fun r M' => r = some (.int (jn 42 a b 0).2.1) ∧ M' = (if (jn 42 a b 0).1 = 0 then M else up2 M 0 30 (nI 7))) := by
  refine Ct.of hI (sR_N0 g) rfl (Nat.le_of_ble_eq_true rfl) (fun K h0 hC hR hkl hn => ?_)
  have hC : Cx (sR g) K gC_Mo _ := hC
  show V K (wp (sR g)) M 0 [(0, .ref (ga g 0)), (1, .int 42), (2, .int a), (3, .int b)] []
  refine v_iload_n h0 d_Mo_joined_0 1 rfl ?_
  refine v_bipush h0 d_Mo_joined_1 (v := 47) (by decide) ?_
  refine v_icmp_ne h0 d_Mo_joined_3 rfl (fun h3 => ?_) (fun h3 => absurd h3 (by decide))
  refine v_iload_n h0 d_Mo_joined_18 1 rfl ?_
  refine v_lookup h0 d_Mo_joined_19 (by decide) (off := 57) (by decide) rfl ?_
  refine v_iload_n h0 d_Mo_joined_76 2 rfl ?_
  refine v_iload_n h0 d_Mo_joined_77 3 rfl ?_
  refine v_imul h0 d_Mo_joined_78 ?_
  exact v_iret h0 hC hR d_Mo_joined_79 (⟨rfl, rfl⟩)
set_option maxHeartbeats 4000000 in
theorem m_Mo_joined_60 (l : Launch) (g : Gd) (hI : sI (sR g)) (M : Me) (a b : Int32)  : CR l g y_Mo_joined c_Mo_joined 4 (some .int) 1 [.ref (ga g 0), .int 60, .int a, .int b] M (fun r M' => r = some (.int (jn 60 a b 0).2.1) ∧ M' = (if (jn 60 a b 0).1 = 0 then M else up2 M 0 30 (nI 7))) := by
  refine Ct.of hI (sR_N0 g) rfl (Nat.le_of_ble_eq_true rfl) (fun K h0 hC hR hkl hn => ?_)
  have hC : Cx (sR g) K gC_Mo _ := hC
  show V K (wp (sR g)) M 0 [(0, .ref (ga g 0)), (1, .int 60), (2, .int a), (3, .int b)] []
  refine v_iload_n h0 d_Mo_joined_0 1 rfl ?_
  refine v_bipush h0 d_Mo_joined_1 (v := 47) (by decide) ?_
  refine v_icmp_ne h0 d_Mo_joined_3 rfl (fun h3 => ?_) (fun h3 => absurd h3 (by decide))
  refine v_iload_n h0 d_Mo_joined_18 1 rfl ?_
  refine v_lookup h0 d_Mo_joined_19 (by decide) (off := 65) (by decide) rfl ?_
  refine v_iload_n h0 d_Mo_joined_84 2 rfl ?_
  refine v_iload_n h0 d_Mo_joined_85 3 rfl ?_
  refine v_icmp_ge h0 d_Mo_joined_86 rfl (fun h86 => ?_) (fun h86 => ?_)
  · skip
    refine v_iconst h0 d_Mo_joined_93 (v := nI 0) (by decide) ?_
    exact v_iret h0 hC hR d_Mo_joined_94 (⟨by show _ = some (Value.int (if a < b then 1 else 0)); rw [if_neg (Int32.not_lt.mpr h86)]; rfl, rfl⟩)
  · skip
    refine v_iconst h0 d_Mo_joined_89 (v := nI 1) (by decide) ?_
    refine v_goto h0 d_Mo_joined_90 rfl ?_
    exact v_iret h0 hC hR d_Mo_joined_94 (⟨by show _ = some (Value.int (if a < b then 1 else 0)); rw [if_pos (Int32.not_le.mp h86)]; rfl, rfl⟩)
set_option maxHeartbeats 4000000 in
theorem m_Mo_joined_61 (l : Launch) (g : Gd) (hI : sI (sR g)) (M : Me) (a b : Int32)  : CR l g y_Mo_joined c_Mo_joined 4 (some .int) 1 [.ref (ga g 0), .int 61, .int a, .int b] M (fun r M' => r = some (.int (jn 61 a b 0).2.1) ∧ M' = (if (jn 61 a b 0).1 = 0 then M else up2 M 0 30 (nI 7))) := by
  refine Ct.of hI (sR_N0 g) rfl (Nat.le_of_ble_eq_true rfl) (fun K h0 hC hR hkl hn => ?_)
  have hC : Cx (sR g) K gC_Mo _ := hC
  show V K (wp (sR g)) M 0 [(0, .ref (ga g 0)), (1, .int 61), (2, .int a), (3, .int b)] []
  refine v_iload_n h0 d_Mo_joined_0 1 rfl ?_
  refine v_bipush h0 d_Mo_joined_1 (v := 47) (by decide) ?_
  refine v_icmp_ne h0 d_Mo_joined_3 rfl (fun h3 => ?_) (fun h3 => absurd h3 (by decide))
  refine v_iload_n h0 d_Mo_joined_18 1 rfl ?_
  refine v_lookup h0 d_Mo_joined_19 (by decide) ((by decide : lookupswitch.offset #[(42, 57), (43, 49), (45, 53), (47, 61), (60, 65)].toList 76 (Int32.toInt 61) = 76)) rfl ?_
  refine v_iload_n h0 d_Mo_joined_95 2 rfl ?_
  refine v_iload_n h0 d_Mo_joined_96 3 rfl ?_
  refine v_icmp_ne h0 d_Mo_joined_97 rfl (fun h97 => ?_) (fun h97 => ?_)
  · skip
    refine v_iconst h0 d_Mo_joined_104 (v := nI 0) (by decide) ?_
    exact v_iret h0 hC hR d_Mo_joined_105 (⟨by show _ = some (Value.int (if a = b then 1 else 0)); rw [if_neg h97]; rfl, rfl⟩)
  · skip
    refine v_iconst h0 d_Mo_joined_100 (v := nI 1) (by decide) ?_
    refine v_goto h0 d_Mo_joined_101 rfl ?_
    exact v_iret h0 hC hR d_Mo_joined_105 (⟨by show _ = some (Value.int (if a = b then 1 else 0)); rw [if_pos h97]; rfl, rfl⟩)
set_option maxHeartbeats 4000000 in
theorem m_Mo_joined_47z (l : Launch) (g : Gd) (hI : sI (sR g)) (M : Me) (a b : Int32) (hb : b = 0) : CR l g y_Mo_joined c_Mo_joined 4 (some .int) 1 [.ref (ga g 0), .int 47, .int a, .int b] M (fun r M' => r = some (.int (jn 47 a b 0).2.1) ∧ M' = (if (jn 47 a b 0).1 = 0 then M else up2 M 0 30 (nI 7))) := by
  refine Ct.of hI (sR_N0 g) rfl (Nat.le_of_ble_eq_true rfl) (fun K h0 hC hR hkl hn => ?_)
  have hC : Cx (sR g) K gC_Mo _ := hC
  show V K (wp (sR g)) M 0 [(0, .ref (ga g 0)), (1, .int 47), (2, .int a), (3, .int b)] []
  refine v_iload_n h0 d_Mo_joined_0 1 rfl ?_
  refine v_bipush h0 d_Mo_joined_1 (v := 47) (by decide) ?_
  refine v_icmp_ne h0 d_Mo_joined_3 rfl (fun h3 => absurd h3 (fun z => z rfl)) (fun h3 => ?_)
  refine v_iload_n h0 d_Mo_joined_6 3 rfl ?_
  refine v_if_ne h0 d_Mo_joined_7 rfl (fun h7 => absurd h7 (fun z => z hb)) (fun h7 => ?_)
  refine v_aload_n h0 d_Mo_joined_10 0 rfl ?_
  refine v_bipush h0 d_Mo_joined_11 (v := nI 7) (by decide) ?_
  refine p_Mo_error_ h0 hC wd_478 d_Mo_joined_13 ?_
  refine v_iconst h0 d_Mo_joined_16 (v := nI 0) (by decide) ?_
  exact v_iret h0 hC hR d_Mo_joined_17 (⟨by subst hb; rfl, by subst hb; rfl⟩)
theorem jn_47q {a b : Int32} (hb : ¬ b = 0) : jn 47 a b 0 = (0, a / b, 0) := by unfold jn; rw [if_neg (by decide), if_pos rfl, if_neg hb]
set_option maxHeartbeats 4000000 in
theorem m_Mo_joined_47 (l : Launch) (g : Gd) (hI : sI (sR g)) (M : Me) (a b : Int32) (hb : ¬ b = 0) : CR l g y_Mo_joined c_Mo_joined 4 (some .int) 1 [.ref (ga g 0), .int 47, .int a, .int b] M (fun r M' => r = some (.int (jn 47 a b 0).2.1) ∧ M' = (if (jn 47 a b 0).1 = 0 then M else up2 M 0 30 (nI 7))) := by
  refine Ct.of hI (sR_N0 g) rfl (Nat.le_of_ble_eq_true rfl) (fun K h0 hC hR hkl hn => ?_)
  have hC : Cx (sR g) K gC_Mo _ := hC
  show V K (wp (sR g)) M 0 [(0, .ref (ga g 0)), (1, .int 47), (2, .int a), (3, .int b)] []
  refine v_iload_n h0 d_Mo_joined_0 1 rfl ?_
  refine v_bipush h0 d_Mo_joined_1 (v := 47) (by decide) ?_
  refine v_icmp_ne h0 d_Mo_joined_3 rfl (fun h3 => absurd h3 (fun z => z rfl)) (fun h3 => ?_)
  refine v_iload_n h0 d_Mo_joined_6 3 rfl ?_
  refine v_if_ne h0 d_Mo_joined_7 rfl (fun h7 => ?_) (fun h7 => absurd h7 (hb))
  refine v_iload_n h0 d_Mo_joined_18 1 rfl ?_
  refine v_lookup h0 d_Mo_joined_19 (by decide) (off := 61) (by decide) rfl ?_
  refine v_iload_n h0 d_Mo_joined_80 2 rfl ?_
  refine v_iload_n h0 d_Mo_joined_81 3 rfl ?_
  refine v_idiv h0 d_Mo_joined_82 (hb) ?_
  exact v_iret h0 hC hR d_Mo_joined_83 (⟨by rw [jn_47q hb], by rw [jn_47q hb]; rfl⟩)
theorem m_Mo_joined (l : Launch) (g : Gd) (hI : sI (sR g)) (M : Me) {x : Int32} (a b : Int32) (hx : kd x = 2) (h38 : ¬ x = 38) : CR l g y_Mo_joined c_Mo_joined 4 (some .int) 1 [.ref (ga g 0), .int x, .int a, .int b] M (fun r M' => r = some (.int (jn x a b 0).2.1) ∧ M' = (if (jn x a b 0).1 = 0 then M else up2 M 0 30 (nI 7))) := by
  rcases (kd_2 x).mp hx with w | w | w | w | w | w | w
  · subst w; exact m_Mo_joined_43 l g hI M a b
  · subst w; exact m_Mo_joined_45 l g hI M a b
  · subst w; exact m_Mo_joined_42 l g hI M a b
  · subst w
    by_cases hb : b = 0
    · exact m_Mo_joined_47z l g hI M a b hb
    · exact m_Mo_joined_47 l g hI M a b hb
  · subst w; exact m_Mo_joined_60 l g hI M a b
  · subst w; exact m_Mo_joined_61 l g hI M a b
  · exact absurd w h38
set_option maxHeartbeats 4000000 in
theorem m_Mo_branch_2 (l : Launch) (g : Gd) (hI : sI (sR g)) (M : Me) {f c k o : Nat} (ho : M 0 25 = nI (o + 1)) (ho3 : o < 300) : CR l g y_Mo_branch c_Mo_branch 7 none 2 [.ref (ga g 0), .int (nI f), .int (nI c), .int (nI k), .int (nI 2)] M (fun r M' => r = none ∧ M' = lvM M (M 0 29) o) := by
  refine Ct.of hI (sR_N0 g) rfl (Nat.le_of_ble_eq_true rfl) (fun K h0 hC hR hkl hn => ?_)
  have hC : Cx (sR g) K gC_Mo _ := hC
  show V K (wp (sR g)) M 0 [(0, .ref (ga g 0)), (1, .int (nI f)), (2, .int (nI c)), (3, .int (nI k)), (4, .int (nI 2))] []
  refine v_iload h0 d_Mo_branch_0 4 rfl ?_
  refine v_iconst h0 d_Mo_branch_2 (v := nI 2) (by decide) ?_
  refine n_icmp_ne h0 (by omega) (by omega) d_Mo_branch_3 rfl (fun h3 => absurd h3 (by omega)) (fun h3 => ?_)
  refine v_aload_n h0 d_Mo_branch_6 0 rfl ?_
  refine v_aload_n h0 d_Mo_branch_7 0 rfl ?_
  refine g_Mo_out_ h0 hC wd_477 d_Mo_branch_8 ?_
  refine v_callV h0 hC (sR_N0 g) 0 (show 0 < 22 by omega) (show enR g 0 _ = _ from rfl) rfl (av := [.int (M 0 29)]) (rest := []) (m_Mo_leave (kl K) g hI M _ (ho)) wd_687 wd_684 wd_686 ws_57 wd_6 hd_Mo_leave (by omega) (by decide) rfl rfl (Nat.le_of_ble_eq_true rfl) d_Mo_branch_11 (fun r9 M9 hp9 => ?_)
  obtain ⟨rfl, rfl⟩ := hp9
  refine v_r0 ?_
  exact v_vret h0 hC hR d_Mo_branch_14 (⟨rfl, rfl⟩)
set_option maxHeartbeats 4000000 in
theorem m_Mo_match_2 (l : Launch) (g : Gd) (hI : sI (sR g)) (M : Me) {f c k o : Nat} (ho : M 0 25 = nI (o + 1)) (ho3 : o < 300) : CR l g y_Mo_match c_Mo_match 7 none 2 [.ref (ga g 0), .int (nI f), .int (nI c), .int (nI k), .int (nI 2)] M (fun r M' => r = none ∧ M' = lvM M (M 0 29) o) := by
  refine Ct.of hI (sR_N0 g) rfl (Nat.le_of_ble_eq_true rfl) (fun K h0 hC hR hkl hn => ?_)
  have hC : Cx (sR g) K gC_Mo _ := hC
  show V K (wp (sR g)) M 0 [(0, .ref (ga g 0)), (1, .int (nI f)), (2, .int (nI c)), (3, .int (nI k)), (4, .int (nI 2))] []
  refine v_iload h0 d_Mo_match_0 4 rfl ?_
  refine v_iconst h0 d_Mo_match_2 (v := nI 2) (by decide) ?_
  refine n_icmp_ne h0 (by omega) (by omega) d_Mo_match_3 rfl (fun h3 => absurd h3 (by omega)) (fun h3 => ?_)
  refine v_aload_n h0 d_Mo_match_6 0 rfl ?_
  refine v_aload_n h0 d_Mo_match_7 0 rfl ?_
  refine g_Mo_out_ h0 hC wd_477 d_Mo_match_8 ?_
  refine v_callV h0 hC (sR_N0 g) 0 (show 0 < 22 by omega) (show enR g 0 _ = _ from rfl) rfl (av := [.int (M 0 29)]) (rest := []) (m_Mo_leave (kl K) g hI M _ (ho)) wd_687 wd_684 wd_686 ws_57 wd_6 hd_Mo_leave (by omega) (by decide) rfl rfl (Nat.le_of_ble_eq_true rfl) d_Mo_match_11 (fun r9 M9 hp9 => ?_)
  obtain ⟨rfl, rfl⟩ := hp9
  refine v_r0 ?_
  exact v_vret h0 hC hR d_Mo_match_14 (⟨rfl, rfl⟩)
set_option maxHeartbeats 4000000 in
theorem m_Mo_branch_1z (l : Launch) (g : Gd) (hI : sI (sR g)) (M : Me) {f c k o e2 : Nat} (hc : c < 10) (ho : M 0 25 = nI (o + 1)) (ho3 : o < 300) {fu : Nat} (hf : M 0 28 = nI fu) (hfu : fu ≤ 2000) {e1 : Nat} (r1 : M 5 (24 * c + k + 1) = nI e1) (l1 : k + 1 < 24) (l2 : e1 ≤ 24) (l3 : e1 < 24) (r2 : M 5 (24 * c + e1) = nI e2) (hz : M 0 29 = 0) : CR l g y_Mo_branch c_Mo_branch 7 none 2 [.ref (ga g 0), .int (nI f), .int (nI c), .int (nI k), .int (nI 1)] M (fun r M' => r = none ∧ M' = enF M c e2 (o + 1) fu) := by
  refine Ct.of hI (sR_N0 g) rfl (Nat.le_of_ble_eq_true rfl) (fun K h0 hC hR hkl hn => ?_)
  have hC : Cx (sR g) K gC_Mo _ := hC
  show V K (wp (sR g)) M 0 [(0, .ref (ga g 0)), (1, .int (nI f)), (2, .int (nI c)), (3, .int (nI k)), (4, .int (nI 1))] []
  refine v_iload h0 d_Mo_branch_0 4 rfl ?_
  refine v_iconst h0 d_Mo_branch_2 (v := nI 2) (by decide) ?_
  refine n_icmp_ne h0 (by omega) (by omega) d_Mo_branch_3 rfl (fun h3 => ?_) (fun h3 => absurd h3 (by omega))
  refine v_aload_n h0 d_Mo_branch_15 0 rfl ?_
  refine g_Mo_end_ h0 hC wd_453 d_Mo_branch_16 ?_
  refine v_bipush h0 d_Mo_branch_19 (v := nI 24) (by decide) ?_
  refine v_iload_n h0 d_Mo_branch_21 2 rfl ?_
  refine v_imul h0 d_Mo_branch_22 ?_
  refine v_int (nI (24 * c)) (pk_mul 24 c) ?_
  refine v_iload_n h0 d_Mo_branch_23 3 rfl ?_
  refine v_iadd h0 d_Mo_branch_24 ?_
  refine v_int (nI (24 * c + k)) (nI_add (24 * c) k) ?_
  refine v_iconst h0 d_Mo_branch_25 (v := nI 1) (by decide) ?_
  refine v_iadd h0 d_Mo_branch_26 ?_
  refine v_int (nI (24 * c + k + 1)) (nI_add (24 * c + k) 1) ?_
  refine a_Mo_end_ h0 hC (24 * c + k + 1) (rfl) (by omega) d_Mo_branch_27 ?_
  refine v_int (nI e1) (r1) ?_
  refine v_istore h0 d_Mo_branch_28 (lv' := [(5, .int (nI e1)), (0, .ref (ga g 0)), (1, .int (nI f)), (2, .int (nI c)), (3, .int (nI k)), (4, .int (nI 1))]) (lt_kn hn (by decide)) rfl ?_
  refine v_aload_n h0 d_Mo_branch_30 1 rfl ?_
  refine g_Mo_end_ h0 hC wd_453 d_Mo_branch_31 ?_
  refine v_bipush h0 d_Mo_branch_34 (v := nI 24) (by decide) ?_
  refine v_iload_n h0 d_Mo_branch_36 3 rfl ?_
  refine v_imul h0 d_Mo_branch_37 ?_
  refine v_int (nI (24 * c)) (pk_mul 24 c) ?_
  refine v_iload h0 d_Mo_branch_38 0 rfl ?_
  refine v_iadd h0 d_Mo_branch_40 ?_
  refine v_int (nI (24 * c + e1)) (nI_add (24 * c) e1) ?_
  refine a_Mo_end_ h0 hC (24 * c + e1) (rfl) (by omega) d_Mo_branch_41 ?_
  refine v_int (nI e2) (r2) ?_
  refine v_istore h0 d_Mo_branch_42 (lv' := [(6, .int (nI e2)), (5, .int (nI e1)), (0, .ref (ga g 0)), (1, .int (nI f)), (2, .int (nI c)), (3, .int (nI k)), (4, .int (nI 1))]) (lt_kn hn (by decide)) rfl ?_
  refine v_aload_n h0 d_Mo_branch_44 2 rfl ?_
  refine v_iload_n h0 d_Mo_branch_45 4 rfl ?_
  refine v_aload_n h0 d_Mo_branch_46 2 rfl ?_
  refine g_Mo_out_ h0 hC wd_477 d_Mo_branch_47 ?_
  refine v_if_eq h0 d_Mo_branch_50 rfl (fun h50 => ?_) (fun h50 => absurd h50 (fun w => w hz))
  refine v_iload h0 d_Mo_branch_58 0 rfl ?_
  refine v_callV h0 hC (sR_N0 g) 0 (show 0 < 22 by omega) (show enR g 0 _ = _ from rfl) rfl (av := [.int (nI c), .int (nI e2)]) (rest := []) (m_Mo_enter (kl K) g hI M (o := o + 1) (hf) hfu (ho) (by omega)) wd_679 wd_676 wd_678 ws_55 wd_6 hd_Mo_enter (by omega) (by decide) rfl rfl (Nat.le_of_ble_eq_true rfl) d_Mo_branch_60 (fun r9 M9 hp9 => ?_)
  obtain ⟨rfl, rfl⟩ := hp9
  refine v_r0 ?_
  exact v_vret h0 hC hR d_Mo_branch_63 (⟨rfl, rfl⟩)
set_option maxHeartbeats 4000000 in
theorem m_Mo_branch_1n (l : Launch) (g : Gd) (hI : sI (sR g)) (M : Me) {f c k o e2 : Nat} (hc : c < 10) (ho : M 0 25 = nI (o + 1)) (ho3 : o < 300) {fu : Nat} (hf : M 0 28 = nI fu) (hfu : fu ≤ 2000) {e1 : Nat} (r1 : M 5 (24 * c + k + 1) = nI e1) (l1 : k + 1 < 24) (l2 : e1 ≤ 24) (l3 : e1 < 24) (r2 : M 5 (24 * c + e1) = nI e2) (hz : ¬ M 0 29 = 0) : CR l g y_Mo_branch c_Mo_branch 7 none 2 [.ref (ga g 0), .int (nI f), .int (nI c), .int (nI k), .int (nI 1)] M (fun r M' => r = none ∧ M' = enF M c e1 (o + 1) fu) := by
  refine Ct.of hI (sR_N0 g) rfl (Nat.le_of_ble_eq_true rfl) (fun K h0 hC hR hkl hn => ?_)
  have hC : Cx (sR g) K gC_Mo _ := hC
  show V K (wp (sR g)) M 0 [(0, .ref (ga g 0)), (1, .int (nI f)), (2, .int (nI c)), (3, .int (nI k)), (4, .int (nI 1))] []
  refine v_iload h0 d_Mo_branch_0 4 rfl ?_
  refine v_iconst h0 d_Mo_branch_2 (v := nI 2) (by decide) ?_
  refine n_icmp_ne h0 (by omega) (by omega) d_Mo_branch_3 rfl (fun h3 => ?_) (fun h3 => absurd h3 (by omega))
  refine v_aload_n h0 d_Mo_branch_15 0 rfl ?_
  refine g_Mo_end_ h0 hC wd_453 d_Mo_branch_16 ?_
  refine v_bipush h0 d_Mo_branch_19 (v := nI 24) (by decide) ?_
  refine v_iload_n h0 d_Mo_branch_21 2 rfl ?_
  refine v_imul h0 d_Mo_branch_22 ?_
  refine v_int (nI (24 * c)) (pk_mul 24 c) ?_
  refine v_iload_n h0 d_Mo_branch_23 3 rfl ?_
  refine v_iadd h0 d_Mo_branch_24 ?_
  refine v_int (nI (24 * c + k)) (nI_add (24 * c) k) ?_
  refine v_iconst h0 d_Mo_branch_25 (v := nI 1) (by decide) ?_
  refine v_iadd h0 d_Mo_branch_26 ?_
  refine v_int (nI (24 * c + k + 1)) (nI_add (24 * c + k) 1) ?_
  refine a_Mo_end_ h0 hC (24 * c + k + 1) (rfl) (by omega) d_Mo_branch_27 ?_
  refine v_int (nI e1) (r1) ?_
  refine v_istore h0 d_Mo_branch_28 (lv' := [(5, .int (nI e1)), (0, .ref (ga g 0)), (1, .int (nI f)), (2, .int (nI c)), (3, .int (nI k)), (4, .int (nI 1))]) (lt_kn hn (by decide)) rfl ?_
  refine v_aload_n h0 d_Mo_branch_30 1 rfl ?_
  refine g_Mo_end_ h0 hC wd_453 d_Mo_branch_31 ?_
  refine v_bipush h0 d_Mo_branch_34 (v := nI 24) (by decide) ?_
  refine v_iload_n h0 d_Mo_branch_36 3 rfl ?_
  refine v_imul h0 d_Mo_branch_37 ?_
  refine v_int (nI (24 * c)) (pk_mul 24 c) ?_
  refine v_iload h0 d_Mo_branch_38 0 rfl ?_
  refine v_iadd h0 d_Mo_branch_40 ?_
  refine v_int (nI (24 * c + e1)) (nI_add (24 * c) e1) ?_
  refine a_Mo_end_ h0 hC (24 * c + e1) (rfl) (by omega) d_Mo_branch_41 ?_
  refine v_int (nI e2) (r2) ?_
  refine v_istore h0 d_Mo_branch_42 (lv' := [(6, .int (nI e2)), (5, .int (nI e1)), (0, .ref (ga g 0)), (1, .int (nI f)), (2, .int (nI c)), (3, .int (nI k)), (4, .int (nI 1))]) (lt_kn hn (by decide)) rfl ?_
  refine v_aload_n h0 d_Mo_branch_44 2 rfl ?_
  refine v_iload_n h0 d_Mo_branch_45 4 rfl ?_
  refine v_aload_n h0 d_Mo_branch_46 2 rfl ?_
  refine g_Mo_out_ h0 hC wd_477 d_Mo_branch_47 ?_
  refine v_if_eq h0 d_Mo_branch_50 rfl (fun h50 => absurd h50 (hz)) (fun h50 => ?_)
  refine v_iload h0 d_Mo_branch_53 1 rfl ?_
  refine v_goto h0 d_Mo_branch_55 rfl ?_
  refine v_callV h0 hC (sR_N0 g) 0 (show 0 < 22 by omega) (show enR g 0 _ = _ from rfl) rfl (av := [.int (nI c), .int (nI e1)]) (rest := []) (m_Mo_enter (kl K) g hI M (o := o + 1) (hf) hfu (ho) (by omega)) wd_679 wd_676 wd_678 ws_55 wd_6 hd_Mo_enter (by omega) (by decide) rfl rfl (Nat.le_of_ble_eq_true rfl) d_Mo_branch_60 (fun r9 M9 hp9 => ?_)
  obtain ⟨rfl, rfl⟩ := hp9
  refine v_r0 ?_
  exact v_vret h0 hC hR d_Mo_branch_63 (⟨rfl, rfl⟩)
set_option maxHeartbeats 4000000 in
theorem m_Mo_match_1a (l : Launch) (g : Gd) (hI : sI (sR g)) (M : Me) {f c k o n e2 : Nat} {s : Nat → Int32} (hc : c < 10) (hT : TR M c s n) (ho : M 0 25 = nI (o + 1)) (ho3 : o < 300) {fu : Nat} (hf : M 0 28 = nI fu) (hfu : fu ≤ 2000) {e1 : Nat} (r1 : M 5 (24 * c + k + 1) = nI e1) (l1 : k + 1 < 24) (l2 : e1 ≤ 24) (l3 : e1 < n) (r2 : M 5 (24 * c + e1 + 1) = nI e2) (l4 : e2 < n) (l5 : e1 + 1 < 24) (hv : M 0 29 = s e1 - 48) : CR l g y_Mo_match c_Mo_match 7 none 2 [.ref (ga g 0), .int (nI f), .int (nI c), .int (nI k), .int (nI 1)] M (fun r M' => r = none ∧ M' = enF M c (e1 + 1) (o + 1) fu) := by
  refine Ct.of hI (sR_N0 g) rfl (Nat.le_of_ble_eq_true rfl) (fun K h0 hC hR hkl hn => ?_)
  have hC : Cx (sR g) K gC_Mo _ := hC
  show V K (wp (sR g)) M 0 [(0, .ref (ga g 0)), (1, .int (nI f)), (2, .int (nI c)), (3, .int (nI k)), (4, .int (nI 1))] []
  refine v_iload h0 d_Mo_match_0 4 rfl ?_
  refine v_iconst h0 d_Mo_match_2 (v := nI 2) (by decide) ?_
  refine n_icmp_ne h0 (by omega) (by omega) d_Mo_match_3 rfl (fun h3 => ?_) (fun h3 => absurd h3 (by omega))
  refine v_aload_n h0 d_Mo_match_15 0 rfl ?_
  refine g_Mo_end_ h0 hC wd_453 d_Mo_match_16 ?_
  refine v_bipush h0 d_Mo_match_19 (v := nI 24) (by decide) ?_
  refine v_iload_n h0 d_Mo_match_21 2 rfl ?_
  refine v_imul h0 d_Mo_match_22 ?_
  refine v_int (nI (24 * c)) (pk_mul 24 c) ?_
  refine v_iload_n h0 d_Mo_match_23 3 rfl ?_
  refine v_iadd h0 d_Mo_match_24 ?_
  refine v_int (nI (24 * c + k)) (nI_add (24 * c) k) ?_
  refine v_iconst h0 d_Mo_match_25 (v := nI 1) (by decide) ?_
  refine v_iadd h0 d_Mo_match_26 ?_
  refine v_int (nI (24 * c + k + 1)) (nI_add (24 * c + k) 1) ?_
  refine a_Mo_end_ h0 hC (24 * c + k + 1) (rfl) (by omega) d_Mo_match_27 ?_
  have hn24 := hT.2.1
  refine v_int (nI e1) (r1) ?_
  refine v_istore h0 d_Mo_match_28 (lv' := [(5, .int (nI e1)), (0, .ref (ga g 0)), (1, .int (nI f)), (2, .int (nI c)), (3, .int (nI k)), (4, .int (nI 1))]) (lt_kn hn (by decide)) rfl ?_
  refine v_aload_n h0 d_Mo_match_30 1 rfl ?_
  refine g_Mo_end_ h0 hC wd_453 d_Mo_match_31 ?_
  refine v_bipush h0 d_Mo_match_34 (v := nI 24) (by decide) ?_
  refine v_iload_n h0 d_Mo_match_36 3 rfl ?_
  refine v_imul h0 d_Mo_match_37 ?_
  refine v_int (nI (24 * c)) (pk_mul 24 c) ?_
  refine v_iload h0 d_Mo_match_38 0 rfl ?_
  refine v_iadd h0 d_Mo_match_40 ?_
  refine v_int (nI (24 * c + e1)) (nI_add (24 * c) e1) ?_
  refine v_iconst h0 d_Mo_match_41 (v := nI 1) (by decide) ?_
  refine v_iadd h0 d_Mo_match_42 ?_
  refine v_int (nI (24 * c + e1 + 1)) (nI_add (24 * c + e1) 1) ?_
  refine a_Mo_end_ h0 hC (24 * c + e1 + 1) (rfl) (by omega) d_Mo_match_43 ?_
  refine v_int (nI e2) (r2) ?_
  refine v_istore h0 d_Mo_match_44 (lv' := [(6, .int (nI e2)), (5, .int (nI e1)), (0, .ref (ga g 0)), (1, .int (nI f)), (2, .int (nI c)), (3, .int (nI k)), (4, .int (nI 1))]) (lt_kn hn (by decide)) rfl ?_
  refine v_aload_n h0 d_Mo_match_46 2 rfl ?_
  refine g_Mo_out_ h0 hC wd_477 d_Mo_match_47 ?_
  refine v_aload_n h0 d_Mo_match_50 2 rfl ?_
  refine v_iload_n h0 d_Mo_match_51 4 rfl ?_
  refine v_iload h0 d_Mo_match_52 1 rfl ?_
  refine v_callV h0 hC (sR_N0 g) 0 (show 0 < 22 by omega) (show enR g 0 _ = _ from rfl) rfl (av := [.int (nI c), .int (nI e1)]) (rest := [.int (M 0 29)]) (m_Mo_charAt (kl K) g hI M hc (by omega) hT) wd_564 wd_561 wd_563 ws_32 wd_6 hd_Mo_charAt (by omega) (by decide) rfl rfl (Nat.le_of_ble_eq_true rfl) d_Mo_match_54 (fun r9 M9 hp9 => ?_)
  obtain ⟨rfl, rfl⟩ := hp9
  refine v_r1 ?_
  refine v_int (s e1) (if_pos l3) ?_
  refine v_bipush h0 d_Mo_match_57 (v := 48) (by decide) ?_
  refine v_isub h0 d_Mo_match_59 ?_
  refine v_icmp_ne h0 d_Mo_match_60 rfl (fun h60 => absurd h60 (fun z => z hv)) (fun h60 => ?_)
  refine v_aload_n h0 d_Mo_match_63 2 rfl ?_
  refine v_iload_n h0 d_Mo_match_64 4 rfl ?_
  refine v_iload h0 d_Mo_match_65 1 rfl ?_
  refine v_iconst h0 d_Mo_match_67 (v := nI 1) (by decide) ?_
  refine v_iadd h0 d_Mo_match_68 ?_
  refine v_int (nI (e1 + 1)) (nI_add e1 1) ?_
  refine v_callV h0 hC (sR_N0 g) 0 (show 0 < 22 by omega) (show enR g 0 _ = _ from rfl) rfl (av := [.int (nI c), .int (nI (e1 + 1))]) (rest := []) (m_Mo_enter (kl K) g hI M (o := o + 1) (hf) hfu (ho) (by omega)) wd_679 wd_676 wd_678 ws_55 wd_6 hd_Mo_enter (by omega) (by decide) rfl rfl (Nat.le_of_ble_eq_true rfl) d_Mo_match_69 (fun r9 M9 hp9 => ?_)
  obtain ⟨rfl, rfl⟩ := hp9
  refine v_r0 ?_
  refine v_goto h0 d_Mo_match_72 rfl ?_
  exact v_vret h0 hC hR d_Mo_match_110 (⟨rfl, rfl⟩)
set_option maxHeartbeats 4000000 in
theorem m_Mo_match_1b (l : Launch) (g : Gd) (hI : sI (sR g)) (M : Me) {f c k o n e2 : Nat} {s : Nat → Int32} (hc : c < 10) (hT : TR M c s n) (ho : M 0 25 = nI (o + 1)) (ho3 : o < 300) {fu : Nat} (hf : M 0 28 = nI fu) (hfu : fu ≤ 2000) {e1 : Nat} (r1 : M 5 (24 * c + k + 1) = nI e1) (l1 : k + 1 < 24) (l2 : e1 ≤ 24) (l3 : e1 < n) (r2 : M 5 (24 * c + e1 + 1) = nI e2) (l4 : e2 < n) (l5 : e1 + 1 < 24) (hv : ¬ M 0 29 = s e1 - 48) (hw : M 0 29 = s e2 - 48) : CR l g y_Mo_match c_Mo_match 7 none 2 [.ref (ga g 0), .int (nI f), .int (nI c), .int (nI k), .int (nI 1)] M (fun r M' => r = none ∧ M' = enF M c (e2 + 1) (o + 1) fu) := by
  refine Ct.of hI (sR_N0 g) rfl (Nat.le_of_ble_eq_true rfl) (fun K h0 hC hR hkl hn => ?_)
  have hC : Cx (sR g) K gC_Mo _ := hC
  show V K (wp (sR g)) M 0 [(0, .ref (ga g 0)), (1, .int (nI f)), (2, .int (nI c)), (3, .int (nI k)), (4, .int (nI 1))] []
  refine v_iload h0 d_Mo_match_0 4 rfl ?_
  refine v_iconst h0 d_Mo_match_2 (v := nI 2) (by decide) ?_
  refine n_icmp_ne h0 (by omega) (by omega) d_Mo_match_3 rfl (fun h3 => ?_) (fun h3 => absurd h3 (by omega))
  refine v_aload_n h0 d_Mo_match_15 0 rfl ?_
  refine g_Mo_end_ h0 hC wd_453 d_Mo_match_16 ?_
  refine v_bipush h0 d_Mo_match_19 (v := nI 24) (by decide) ?_
  refine v_iload_n h0 d_Mo_match_21 2 rfl ?_
  refine v_imul h0 d_Mo_match_22 ?_
  refine v_int (nI (24 * c)) (pk_mul 24 c) ?_
  refine v_iload_n h0 d_Mo_match_23 3 rfl ?_
  refine v_iadd h0 d_Mo_match_24 ?_
  refine v_int (nI (24 * c + k)) (nI_add (24 * c) k) ?_
  refine v_iconst h0 d_Mo_match_25 (v := nI 1) (by decide) ?_
  refine v_iadd h0 d_Mo_match_26 ?_
  refine v_int (nI (24 * c + k + 1)) (nI_add (24 * c + k) 1) ?_
  refine a_Mo_end_ h0 hC (24 * c + k + 1) (rfl) (by omega) d_Mo_match_27 ?_
  have hn24 := hT.2.1
  refine v_int (nI e1) (r1) ?_
  refine v_istore h0 d_Mo_match_28 (lv' := [(5, .int (nI e1)), (0, .ref (ga g 0)), (1, .int (nI f)), (2, .int (nI c)), (3, .int (nI k)), (4, .int (nI 1))]) (lt_kn hn (by decide)) rfl ?_
  refine v_aload_n h0 d_Mo_match_30 1 rfl ?_
  refine g_Mo_end_ h0 hC wd_453 d_Mo_match_31 ?_
  refine v_bipush h0 d_Mo_match_34 (v := nI 24) (by decide) ?_
  refine v_iload_n h0 d_Mo_match_36 3 rfl ?_
  refine v_imul h0 d_Mo_match_37 ?_
  refine v_int (nI (24 * c)) (pk_mul 24 c) ?_
  refine v_iload h0 d_Mo_match_38 0 rfl ?_
  refine v_iadd h0 d_Mo_match_40 ?_
  refine v_int (nI (24 * c + e1)) (nI_add (24 * c) e1) ?_
  refine v_iconst h0 d_Mo_match_41 (v := nI 1) (by decide) ?_
  refine v_iadd h0 d_Mo_match_42 ?_
  refine v_int (nI (24 * c + e1 + 1)) (nI_add (24 * c + e1) 1) ?_
  refine a_Mo_end_ h0 hC (24 * c + e1 + 1) (rfl) (by omega) d_Mo_match_43 ?_
  refine v_int (nI e2) (r2) ?_
  refine v_istore h0 d_Mo_match_44 (lv' := [(6, .int (nI e2)), (5, .int (nI e1)), (0, .ref (ga g 0)), (1, .int (nI f)), (2, .int (nI c)), (3, .int (nI k)), (4, .int (nI 1))]) (lt_kn hn (by decide)) rfl ?_
  refine v_aload_n h0 d_Mo_match_46 2 rfl ?_
  refine g_Mo_out_ h0 hC wd_477 d_Mo_match_47 ?_
  refine v_aload_n h0 d_Mo_match_50 2 rfl ?_
  refine v_iload_n h0 d_Mo_match_51 4 rfl ?_
  refine v_iload h0 d_Mo_match_52 1 rfl ?_
  refine v_callV h0 hC (sR_N0 g) 0 (show 0 < 22 by omega) (show enR g 0 _ = _ from rfl) rfl (av := [.int (nI c), .int (nI e1)]) (rest := [.int (M 0 29)]) (m_Mo_charAt (kl K) g hI M hc (by omega) hT) wd_564 wd_561 wd_563 ws_32 wd_6 hd_Mo_charAt (by omega) (by decide) rfl rfl (Nat.le_of_ble_eq_true rfl) d_Mo_match_54 (fun r9 M9 hp9 => ?_)
  obtain ⟨rfl, rfl⟩ := hp9
  refine v_r1 ?_
  refine v_int (s e1) (if_pos l3) ?_
  refine v_bipush h0 d_Mo_match_57 (v := 48) (by decide) ?_
  refine v_isub h0 d_Mo_match_59 ?_
  refine v_icmp_ne h0 d_Mo_match_60 rfl (fun h60 => ?_) (fun h60 => absurd h60 (hv))
  refine v_aload_n h0 d_Mo_match_75 2 rfl ?_
  refine g_Mo_out_ h0 hC wd_477 d_Mo_match_76 ?_
  refine v_aload_n h0 d_Mo_match_79 2 rfl ?_
  refine v_iload_n h0 d_Mo_match_80 4 rfl ?_
  refine v_iload h0 d_Mo_match_81 0 rfl ?_
  refine v_callV h0 hC (sR_N0 g) 0 (show 0 < 22 by omega) (show enR g 0 _ = _ from rfl) rfl (av := [.int (nI c), .int (nI e2)]) (rest := [.int (M 0 29)]) (m_Mo_charAt (kl K) g hI M hc (by omega) hT) wd_564 wd_561 wd_563 ws_32 wd_6 hd_Mo_charAt (by omega) (by decide) rfl rfl (Nat.le_of_ble_eq_true rfl) d_Mo_match_83 (fun r9 M9 hp9 => ?_)
  obtain ⟨rfl, rfl⟩ := hp9
  refine v_r1 ?_
  refine v_int (s e2) (if_pos l4) ?_
  refine v_bipush h0 d_Mo_match_86 (v := 48) (by decide) ?_
  refine v_isub h0 d_Mo_match_88 ?_
  refine v_icmp_ne h0 d_Mo_match_89 rfl (fun h89 => absurd h89 (fun z => z hw)) (fun h89 => ?_)
  refine v_aload_n h0 d_Mo_match_92 2 rfl ?_
  refine v_iload_n h0 d_Mo_match_93 4 rfl ?_
  refine v_iload h0 d_Mo_match_94 0 rfl ?_
  refine v_iconst h0 d_Mo_match_96 (v := nI 1) (by decide) ?_
  refine v_iadd h0 d_Mo_match_97 ?_
  refine v_int (nI (e2 + 1)) (nI_add e2 1) ?_
  refine v_callV h0 hC (sR_N0 g) 0 (show 0 < 22 by omega) (show enR g 0 _ = _ from rfl) rfl (av := [.int (nI c), .int (nI (e2 + 1))]) (rest := []) (m_Mo_enter (kl K) g hI M (o := o + 1) (hf) hfu (ho) (by omega)) wd_679 wd_676 wd_678 ws_55 wd_6 hd_Mo_enter (by omega) (by decide) rfl rfl (Nat.le_of_ble_eq_true rfl) d_Mo_match_98 (fun r9 M9 hp9 => ?_)
  obtain ⟨rfl, rfl⟩ := hp9
  refine v_r0 ?_
  refine v_goto h0 d_Mo_match_101 rfl ?_
  exact v_vret h0 hC hR d_Mo_match_110 (⟨rfl, rfl⟩)
set_option maxHeartbeats 4000000 in
theorem m_Mo_match_1c (l : Launch) (g : Gd) (hI : sI (sR g)) (M : Me) {f c k o n e2 : Nat} {s : Nat → Int32} (hc : c < 10) (hT : TR M c s n) (ho : M 0 25 = nI (o + 1)) (ho3 : o < 300) {fu : Nat} (hf : M 0 28 = nI fu) (hfu : fu ≤ 2000) {e1 : Nat} (r1 : M 5 (24 * c + k + 1) = nI e1) (l1 : k + 1 < 24) (l2 : e1 ≤ 24) (l3 : e1 < n) (r2 : M 5 (24 * c + e1 + 1) = nI e2) (l4 : e2 < n) (l5 : e1 + 1 < 24) (hv : ¬ M 0 29 = s e1 - 48) (hw : ¬ M 0 29 = s e2 - 48) : CR l g y_Mo_match c_Mo_match 7 none 2 [.ref (ga g 0), .int (nI f), .int (nI c), .int (nI k), .int (nI 1)] M (fun r M' => r = none ∧ M' = up2 M 0 30 (nI 8)) := by
  refine Ct.of hI (sR_N0 g) rfl (Nat.le_of_ble_eq_true rfl) (fun K h0 hC hR hkl hn => ?_)
  have hC : Cx (sR g) K gC_Mo _ := hC
  show V K (wp (sR g)) M 0 [(0, .ref (ga g 0)), (1, .int (nI f)), (2, .int (nI c)), (3, .int (nI k)), (4, .int (nI 1))] []
  refine v_iload h0 d_Mo_match_0 4 rfl ?_
  refine v_iconst h0 d_Mo_match_2 (v := nI 2) (by decide) ?_
  refine n_icmp_ne h0 (by omega) (by omega) d_Mo_match_3 rfl (fun h3 => ?_) (fun h3 => absurd h3 (by omega))
  refine v_aload_n h0 d_Mo_match_15 0 rfl ?_
  refine g_Mo_end_ h0 hC wd_453 d_Mo_match_16 ?_
  refine v_bipush h0 d_Mo_match_19 (v := nI 24) (by decide) ?_
  refine v_iload_n h0 d_Mo_match_21 2 rfl ?_
  refine v_imul h0 d_Mo_match_22 ?_
  refine v_int (nI (24 * c)) (pk_mul 24 c) ?_
  refine v_iload_n h0 d_Mo_match_23 3 rfl ?_
  refine v_iadd h0 d_Mo_match_24 ?_
  refine v_int (nI (24 * c + k)) (nI_add (24 * c) k) ?_
  refine v_iconst h0 d_Mo_match_25 (v := nI 1) (by decide) ?_
  refine v_iadd h0 d_Mo_match_26 ?_
  refine v_int (nI (24 * c + k + 1)) (nI_add (24 * c + k) 1) ?_
  refine a_Mo_end_ h0 hC (24 * c + k + 1) (rfl) (by omega) d_Mo_match_27 ?_
  have hn24 := hT.2.1
  refine v_int (nI e1) (r1) ?_
  refine v_istore h0 d_Mo_match_28 (lv' := [(5, .int (nI e1)), (0, .ref (ga g 0)), (1, .int (nI f)), (2, .int (nI c)), (3, .int (nI k)), (4, .int (nI 1))]) (lt_kn hn (by decide)) rfl ?_
  refine v_aload_n h0 d_Mo_match_30 1 rfl ?_
  refine g_Mo_end_ h0 hC wd_453 d_Mo_match_31 ?_
  refine v_bipush h0 d_Mo_match_34 (v := nI 24) (by decide) ?_
  refine v_iload_n h0 d_Mo_match_36 3 rfl ?_
  refine v_imul h0 d_Mo_match_37 ?_
  refine v_int (nI (24 * c)) (pk_mul 24 c) ?_
  refine v_iload h0 d_Mo_match_38 0 rfl ?_
  refine v_iadd h0 d_Mo_match_40 ?_
  refine v_int (nI (24 * c + e1)) (nI_add (24 * c) e1) ?_
  refine v_iconst h0 d_Mo_match_41 (v := nI 1) (by decide) ?_
  refine v_iadd h0 d_Mo_match_42 ?_
  refine v_int (nI (24 * c + e1 + 1)) (nI_add (24 * c + e1) 1) ?_
  refine a_Mo_end_ h0 hC (24 * c + e1 + 1) (rfl) (by omega) d_Mo_match_43 ?_
  refine v_int (nI e2) (r2) ?_
  refine v_istore h0 d_Mo_match_44 (lv' := [(6, .int (nI e2)), (5, .int (nI e1)), (0, .ref (ga g 0)), (1, .int (nI f)), (2, .int (nI c)), (3, .int (nI k)), (4, .int (nI 1))]) (lt_kn hn (by decide)) rfl ?_
  refine v_aload_n h0 d_Mo_match_46 2 rfl ?_
  refine g_Mo_out_ h0 hC wd_477 d_Mo_match_47 ?_
  refine v_aload_n h0 d_Mo_match_50 2 rfl ?_
  refine v_iload_n h0 d_Mo_match_51 4 rfl ?_
  refine v_iload h0 d_Mo_match_52 1 rfl ?_
  refine v_callV h0 hC (sR_N0 g) 0 (show 0 < 22 by omega) (show enR g 0 _ = _ from rfl) rfl (av := [.int (nI c), .int (nI e1)]) (rest := [.int (M 0 29)]) (m_Mo_charAt (kl K) g hI M hc (by omega) hT) wd_564 wd_561 wd_563 ws_32 wd_6 hd_Mo_charAt (by omega) (by decide) rfl rfl (Nat.le_of_ble_eq_true rfl) d_Mo_match_54 (fun r9 M9 hp9 => ?_)
  obtain ⟨rfl, rfl⟩ := hp9
  refine v_r1 ?_
  refine v_int (s e1) (if_pos l3) ?_
  refine v_bipush h0 d_Mo_match_57 (v := 48) (by decide) ?_
  refine v_isub h0 d_Mo_match_59 ?_
  refine v_icmp_ne h0 d_Mo_match_60 rfl (fun h60 => ?_) (fun h60 => absurd h60 (hv))
  refine v_aload_n h0 d_Mo_match_75 2 rfl ?_
  refine g_Mo_out_ h0 hC wd_477 d_Mo_match_76 ?_
  refine v_aload_n h0 d_Mo_match_79 2 rfl ?_
  refine v_iload_n h0 d_Mo_match_80 4 rfl ?_
  refine v_iload h0 d_Mo_match_81 0 rfl ?_
  refine v_callV h0 hC (sR_N0 g) 0 (show 0 < 22 by omega) (show enR g 0 _ = _ from rfl) rfl (av := [.int (nI c), .int (nI e2)]) (rest := [.int (M 0 29)]) (m_Mo_charAt (kl K) g hI M hc (by omega) hT) wd_564 wd_561 wd_563 ws_32 wd_6 hd_Mo_charAt (by omega) (by decide) rfl rfl (Nat.le_of_ble_eq_true rfl) d_Mo_match_83 (fun r9 M9 hp9 => ?_)
  obtain ⟨rfl, rfl⟩ := hp9
  refine v_r1 ?_
  refine v_int (s e2) (if_pos l4) ?_
  refine v_bipush h0 d_Mo_match_86 (v := 48) (by decide) ?_
  refine v_isub h0 d_Mo_match_88 ?_
  refine v_icmp_ne h0 d_Mo_match_89 rfl (fun h89 => ?_) (fun h89 => absurd h89 (hw))
  refine v_aload_n h0 d_Mo_match_104 2 rfl ?_
  refine v_bipush h0 d_Mo_match_105 (v := nI 8) (by decide) ?_
  refine p_Mo_error_ h0 hC wd_478 d_Mo_match_107 ?_
  exact v_vret h0 hC hR d_Mo_match_110 (⟨rfl, rfl⟩)
theorem lc_ix {y : Int32} (h : kd y = 9) (q : Nat) : nI q + y - nI 107 = nI (q + lcI y) := fr_l h q
set_option maxHeartbeats 4000000 in
theorem m_Mo_let_2 (l : Launch) (g : Gd) (hI : sI (sR g)) (M : Me) {f c k o n dp : Nat} {s : Nat → Int32} (hc : c < 10) (hT : TR M c s n) (hk1 : k + 1 < n) (hy : kd (s (k + 1)) = 9) (hd : M 0 27 = nI dp) (hdp : dp ≤ 5) (hf300 : f < 300) (ho : M 0 25 = nI (o + 1)) (ho3 : o < 300) : CR l g y_Mo_let c_Mo_let 6 none 2 [.ref (ga g 0), .int (nI f), .int (nI c), .int (nI k), .int (nI 2)] M (fun r M' => r = none ∧ M' = lvM (up2 M 21 (6 * dp + lcI (s (k + 1))) (M 20 f)) (M 0 29) o) := by
  refine Ct.of hI (sR_N0 g) rfl (Nat.le_of_ble_eq_true rfl) (fun K h0 hC hR hkl hn => ?_)
  have hC : Cx (sR g) K gC_Mo _ := hC
  show V K (wp (sR g)) M 0 [(0, .ref (ga g 0)), (1, .int (nI f)), (2, .int (nI c)), (3, .int (nI k)), (4, .int (nI 2))] []
  refine v_bipush h0 d_Mo_let_0 (v := nI 6) (by decide) ?_
  refine v_aload_n h0 d_Mo_let_2 0 rfl ?_
  refine g_Mo_depth_ h0 hC wd_475 d_Mo_let_3 ?_
  have hn24 := hT.2.1
  have hl6 := (lc_of hy).1
  refine v_int (nI dp) (hd) ?_
  refine v_imul h0 d_Mo_let_6 ?_
  refine v_int (nI (6 * dp)) (pk_mul 6 dp) ?_
  refine v_aload_n h0 d_Mo_let_7 0 rfl ?_
  refine v_iload_n h0 d_Mo_let_8 2 rfl ?_
  refine v_iload_n h0 d_Mo_let_9 3 rfl ?_
  refine v_iconst h0 d_Mo_let_10 (v := nI 1) (by decide) ?_
  refine v_iadd h0 d_Mo_let_11 ?_
  refine v_int (nI (k + 1)) (nI_add k 1) ?_
  refine v_callV h0 hC (sR_N0 g) 0 (show 0 < 22 by omega) (show enR g 0 _ = _ from rfl) rfl (av := [.int (nI c), .int (nI (k + 1))]) (rest := [.int (nI (6 * dp))]) (m_Mo_charAt (kl K) g hI M hc (by omega) hT) wd_564 wd_561 wd_563 ws_32 wd_6 hd_Mo_charAt (by omega) (by decide) rfl rfl (Nat.le_of_ble_eq_true rfl) d_Mo_let_12 (fun r9 M9 hp9 => ?_)
  obtain ⟨rfl, rfl⟩ := hp9
  refine v_r1 ?_
  refine v_int (s (k + 1)) (if_pos hk1) ?_
  refine v_iadd h0 d_Mo_let_15 ?_
  refine v_bipush h0 d_Mo_let_16 (v := nI 107) (by decide) ?_
  refine v_isub h0 d_Mo_let_18 ?_
  refine v_int (nI (6 * dp + lcI (s (k + 1)))) (fr_l hy (6 * dp)) ?_
  refine v_istore h0 d_Mo_let_19 (lv' := [(5, .int (nI (6 * dp + lcI (s (k + 1))))), (0, .ref (ga g 0)), (1, .int (nI f)), (2, .int (nI c)), (3, .int (nI k)), (4, .int (nI 2))]) (lt_kn hn (by decide)) rfl ?_
  refine v_iload h0 d_Mo_let_21 5 rfl ?_
  refine v_iconst h0 d_Mo_let_23 (v := nI 2) (by decide) ?_
  refine n_icmp_ne h0 (by omega) (by omega) d_Mo_let_24 rfl (fun h24 => absurd h24 (by omega)) (fun h24 => ?_)
  refine v_aload_n h0 d_Mo_let_27 1 rfl ?_
  refine g_Mo_local_ h0 hC wd_474 d_Mo_let_28 ?_
  refine v_iload h0 d_Mo_let_31 0 rfl ?_
  refine v_aload_n h0 d_Mo_let_33 1 rfl ?_
  refine g_Mo_first_ h0 hC wd_472 d_Mo_let_34 ?_
  refine v_iload_n h0 d_Mo_let_37 2 rfl ?_
  refine a_Mo_first_ h0 hC f (rfl) (by omega) d_Mo_let_38 ?_
  refine s_Mo_local_ h0 hC (6 * dp + lcI (s (k + 1))) (rfl) (z := M 20 f) (rfl) (by omega) d_Mo_let_39 ?_
  refine v_aload_n h0 d_Mo_let_40 1 rfl ?_
  refine v_aload_n h0 d_Mo_let_41 1 rfl ?_
  refine g_Mo_out_ h0 hC wd_477 d_Mo_let_42 ?_
  refine v_int (M 0 29) (up2_n _ _ (by omega)) ?_
  refine v_callV h0 hC (sR_N0 g) 0 (show 0 < 22 by omega) (show enR g 0 _ = _ from rfl) rfl (av := [.int (M 0 29)]) (rest := []) (m_Mo_leave (kl K) g hI (up2 M 21 (6 * dp + lcI (s (k + 1))) (M 20 f)) _ (by rw [up2_n _ _ (by omega)]; exact ho)) wd_687 wd_684 wd_686 ws_57 wd_6 hd_Mo_leave (by omega) (by decide) rfl rfl (Nat.le_of_ble_eq_true rfl) d_Mo_let_45 (fun r9 M9 hp9 => ?_)
  obtain ⟨rfl, rfl⟩ := hp9
  refine v_r0 ?_
  exact v_vret h0 hC hR d_Mo_let_48 (⟨rfl, rfl⟩)
set_option maxHeartbeats 4000000 in
theorem m_Mo_let_1 (l : Launch) (g : Gd) (hI : sI (sR g)) (M : Me) {f c k o n dp : Nat} {s : Nat → Int32} (hc : c < 10) (hT : TR M c s n) (hk1 : k + 1 < n) (hy : kd (s (k + 1)) = 9) (hd : M 0 27 = nI dp) (hdp : dp ≤ 5) (hf300 : f < 300) (ho : M 0 25 = nI (o + 1)) (ho3 : o < 300) {fu : Nat} (hf : M 0 28 = nI fu) (hfu : fu ≤ 2000) {e1 : Nat} (r1 : M 5 (24 * c + k + 2) = nI e1) (l1 : k + 2 < 24) : CR l g y_Mo_let c_Mo_let 6 none 2 [.ref (ga g 0), .int (nI f), .int (nI c), .int (nI k), .int (nI 1)] M (fun r M' => r = none ∧ M' = enF (up2 (up2 M 20 f (M 21 (6 * dp + lcI (s (k + 1))))) 21 (6 * dp + lcI (s (k + 1))) (M 0 29)) c e1 (o + 1) fu) := by
  refine Ct.of hI (sR_N0 g) rfl (Nat.le_of_ble_eq_true rfl) (fun K h0 hC hR hkl hn => ?_)
  have hC : Cx (sR g) K gC_Mo _ := hC
  show V K (wp (sR g)) M 0 [(0, .ref (ga g 0)), (1, .int (nI f)), (2, .int (nI c)), (3, .int (nI k)), (4, .int (nI 1))] []
  refine v_bipush h0 d_Mo_let_0 (v := nI 6) (by decide) ?_
  refine v_aload_n h0 d_Mo_let_2 0 rfl ?_
  refine g_Mo_depth_ h0 hC wd_475 d_Mo_let_3 ?_
  have hn24 := hT.2.1
  have hl6 := (lc_of hy).1
  refine v_int (nI dp) (hd) ?_
  refine v_imul h0 d_Mo_let_6 ?_
  refine v_int (nI (6 * dp)) (pk_mul 6 dp) ?_
  refine v_aload_n h0 d_Mo_let_7 0 rfl ?_
  refine v_iload_n h0 d_Mo_let_8 2 rfl ?_
  refine v_iload_n h0 d_Mo_let_9 3 rfl ?_
  refine v_iconst h0 d_Mo_let_10 (v := nI 1) (by decide) ?_
  refine v_iadd h0 d_Mo_let_11 ?_
  refine v_int (nI (k + 1)) (nI_add k 1) ?_
  refine v_callV h0 hC (sR_N0 g) 0 (show 0 < 22 by omega) (show enR g 0 _ = _ from rfl) rfl (av := [.int (nI c), .int (nI (k + 1))]) (rest := [.int (nI (6 * dp))]) (m_Mo_charAt (kl K) g hI M hc (by omega) hT) wd_564 wd_561 wd_563 ws_32 wd_6 hd_Mo_charAt (by omega) (by decide) rfl rfl (Nat.le_of_ble_eq_true rfl) d_Mo_let_12 (fun r9 M9 hp9 => ?_)
  obtain ⟨rfl, rfl⟩ := hp9
  refine v_r1 ?_
  refine v_int (s (k + 1)) (if_pos hk1) ?_
  refine v_iadd h0 d_Mo_let_15 ?_
  refine v_bipush h0 d_Mo_let_16 (v := nI 107) (by decide) ?_
  refine v_isub h0 d_Mo_let_18 ?_
  refine v_int (nI (6 * dp + lcI (s (k + 1)))) (fr_l hy (6 * dp)) ?_
  refine v_istore h0 d_Mo_let_19 (lv' := [(5, .int (nI (6 * dp + lcI (s (k + 1))))), (0, .ref (ga g 0)), (1, .int (nI f)), (2, .int (nI c)), (3, .int (nI k)), (4, .int (nI 1))]) (lt_kn hn (by decide)) rfl ?_
  refine v_iload h0 d_Mo_let_21 5 rfl ?_
  refine v_iconst h0 d_Mo_let_23 (v := nI 2) (by decide) ?_
  refine n_icmp_ne h0 (by omega) (by omega) d_Mo_let_24 rfl (fun h24 => ?_) (fun h24 => absurd h24 (by omega))
  refine v_aload_n h0 d_Mo_let_49 1 rfl ?_
  refine g_Mo_first_ h0 hC wd_472 d_Mo_let_50 ?_
  refine v_iload_n h0 d_Mo_let_53 2 rfl ?_
  refine v_aload_n h0 d_Mo_let_54 1 rfl ?_
  refine g_Mo_local_ h0 hC wd_474 d_Mo_let_55 ?_
  refine v_iload h0 d_Mo_let_58 0 rfl ?_
  refine a_Mo_local_ h0 hC (6 * dp + lcI (s (k + 1))) (rfl) (by omega) d_Mo_let_60 ?_
  refine s_Mo_first_ h0 hC f (rfl) (z := M 21 (6 * dp + lcI (s (k + 1)))) (rfl) (by omega) d_Mo_let_61 ?_
  refine v_aload_n h0 d_Mo_let_62 1 rfl ?_
  refine g_Mo_local_ h0 hC wd_474 d_Mo_let_63 ?_
  refine v_iload h0 d_Mo_let_66 0 rfl ?_
  refine v_aload_n h0 d_Mo_let_68 1 rfl ?_
  refine g_Mo_out_ h0 hC wd_477 d_Mo_let_69 ?_
  refine v_int (M 0 29) (up2_n _ _ (by omega)) ?_
  refine s_Mo_local_ h0 hC (6 * dp + lcI (s (k + 1))) (rfl) (z := M 0 29) (rfl) (by omega) d_Mo_let_72 ?_
  refine v_aload_n h0 d_Mo_let_73 1 rfl ?_
  refine v_iload_n h0 d_Mo_let_74 3 rfl ?_
  refine v_aload_n h0 d_Mo_let_75 1 rfl ?_
  refine g_Mo_end_ h0 hC wd_453 d_Mo_let_76 ?_
  refine v_bipush h0 d_Mo_let_79 (v := nI 24) (by decide) ?_
  refine v_iload_n h0 d_Mo_let_81 3 rfl ?_
  refine v_imul h0 d_Mo_let_82 ?_
  refine v_int (nI (24 * c)) (pk_mul 24 c) ?_
  refine v_iload_n h0 d_Mo_let_83 4 rfl ?_
  refine v_iadd h0 d_Mo_let_84 ?_
  refine v_int (nI (24 * c + k)) (nI_add (24 * c) k) ?_
  refine v_iconst h0 d_Mo_let_85 (v := nI 2) (by decide) ?_
  refine v_iadd h0 d_Mo_let_86 ?_
  refine v_int (nI (24 * c + k + 2)) (nI_add (24 * c + k) 2) ?_
  refine a_Mo_end_ h0 hC (24 * c + k + 2) (rfl) (by omega) d_Mo_let_87 ?_
  refine v_int (nI e1) (by rw [up2_n _ _ (by omega), up2_n _ _ (by omega)]; exact r1) ?_
  refine v_callV h0 hC (sR_N0 g) 0 (show 0 < 22 by omega) (show enR g 0 _ = _ from rfl) rfl (av := [.int (nI c), .int (nI e1)]) (rest := []) (m_Mo_enter (kl K) g hI (up2 (up2 M 20 f (M 21 (6 * dp + lcI (s (k + 1))))) 21 (6 * dp + lcI (s (k + 1))) (M 0 29)) (o := o + 1) (by rw [up2_n _ _ (by omega), up2_n _ _ (by omega)]; exact hf) hfu (by rw [up2_n _ _ (by omega), up2_n _ _ (by omega)]; exact ho) (by omega)) wd_679 wd_676 wd_678 ws_55 wd_6 hd_Mo_enter (by omega) (by decide) rfl rfl (Nat.le_of_ble_eq_true rfl) d_Mo_let_88 (fun r9 M9 hp9 => ?_)
  obtain ⟨rfl, rfl⟩ := hp9
  refine v_r0 ?_
  exact v_vret h0 hC hR d_Mo_let_91 (⟨rfl, rfl⟩)
set_option maxHeartbeats 4000000 in
theorem m_Mo_call_2 (l : Launch) (g : Gd) (hI : sI (sR g)) (M : Me) {c k o dp : Nat} (hd : M 0 27 = nI (dp + 1)) (ho : M 0 25 = nI (o + 1)) (ho3 : o < 300) : CR l g y_Mo_call c_Mo_call 5 none 2 [.ref (ga g 0), .int (nI c), .int (nI k), .int (nI 2)] M (fun r M' => r = none ∧ M' = lvM (up2 M 0 27 (nI dp)) (M 0 29) o) := by
  refine Ct.of hI (sR_N0 g) rfl (Nat.le_of_ble_eq_true rfl) (fun K h0 hC hR hkl hn => ?_)
  have hC : Cx (sR g) K gC_Mo _ := hC
  show V K (wp (sR g)) M 0 [(0, .ref (ga g 0)), (1, .int (nI c)), (2, .int (nI k)), (3, .int (nI 2))] []
  refine v_iload_n h0 d_Mo_call_0 3 rfl ?_
  refine v_iconst h0 d_Mo_call_1 (v := nI 2) (by decide) ?_
  refine n_icmp_ne h0 (by omega) (by omega) d_Mo_call_2 rfl (fun h2 => absurd h2 (by omega)) (fun h2 => ?_)
  refine v_aload_n h0 d_Mo_call_5 0 rfl ?_
  refine v_dup h0 d_Mo_call_6 rfl ?_
  refine g_Mo_depth_ h0 hC wd_475 d_Mo_call_7 ?_
  refine v_iconst h0 d_Mo_call_10 (v := nI 1) (by decide) ?_
  refine v_isub h0 d_Mo_call_11 ?_
  refine v_int (nI dp) (by rw [hd]; exact pred1 dp) ?_
  refine p_Mo_depth_ h0 hC wd_475 d_Mo_call_12 ?_
  refine v_aload_n h0 d_Mo_call_15 0 rfl ?_
  refine v_aload_n h0 d_Mo_call_16 0 rfl ?_
  refine g_Mo_out_ h0 hC wd_477 d_Mo_call_17 ?_
  refine v_int (M 0 29) (up2_n _ _ (by omega)) ?_
  refine v_callV h0 hC (sR_N0 g) 0 (show 0 < 22 by omega) (show enR g 0 _ = _ from rfl) rfl (av := [.int (M 0 29)]) (rest := []) (m_Mo_leave (kl K) g hI (up2 M 0 27 (nI dp)) _ (by rw [up2_n _ _ (by omega)]; exact ho)) wd_687 wd_684 wd_686 ws_57 wd_6 hd_Mo_leave (by omega) (by decide) rfl rfl (Nat.le_of_ble_eq_true rfl) d_Mo_call_20 (fun r9 M9 hp9 => ?_)
  obtain ⟨rfl, rfl⟩ := hp9
  refine v_r0 ?_
  exact v_vret h0 hC hR d_Mo_call_23 (⟨rfl, rfl⟩)
set_option maxHeartbeats 4000000 in
theorem m_Mo_call_5 (l : Launch) (g : Gd) (hI : sI (sR g)) (M : Me) {c k : Nat} (hd : M 0 27 = nI 5) : CR l g y_Mo_call c_Mo_call 5 none 2 [.ref (ga g 0), .int (nI c), .int (nI k), .int (nI 1)] M (fun r M' => r = none ∧ M' = up2 M 0 30 (nI 9)) := by
  refine Ct.of hI (sR_N0 g) rfl (Nat.le_of_ble_eq_true rfl) (fun K h0 hC hR hkl hn => ?_)
  have hC : Cx (sR g) K gC_Mo _ := hC
  show V K (wp (sR g)) M 0 [(0, .ref (ga g 0)), (1, .int (nI c)), (2, .int (nI k)), (3, .int (nI 1))] []
  refine v_iload_n h0 d_Mo_call_0 3 rfl ?_
  refine v_iconst h0 d_Mo_call_1 (v := nI 2) (by decide) ?_
  refine n_icmp_ne h0 (by omega) (by omega) d_Mo_call_2 rfl (fun h2 => ?_) (fun h2 => absurd h2 (by omega))
  refine v_aload_n h0 d_Mo_call_24 0 rfl ?_
  refine g_Mo_depth_ h0 hC wd_475 d_Mo_call_25 ?_
  refine v_int (nI 5) (hd) ?_
  refine v_iconst h0 d_Mo_call_28 (v := nI 5) (by decide) ?_
  refine n_icmp_ne h0 (by omega) (by omega) d_Mo_call_29 rfl (fun h29 => absurd h29 (by omega)) (fun h29 => ?_)
  refine v_aload_n h0 d_Mo_call_32 0 rfl ?_
  refine v_bipush h0 d_Mo_call_33 (v := nI 9) (by decide) ?_
  refine p_Mo_error_ h0 hC wd_478 d_Mo_call_35 ?_
  exact v_vret h0 hC hR d_Mo_call_38 (⟨rfl, rfl⟩)
set_option maxHeartbeats 4000000 in
theorem m_Mo_call_1 (l : Launch) (g : Gd) (hI : sI (sR g)) (M : Me) {β : Me} {c k o n n2 dp : Nat} {s s2 : Nat → Int32} (hc : c < 10) (hT : TR M c s n) (hTx : TxR M β) (hk1 : k + 1 < n) (hy : kd (s (k + 1)) = 8) (hj : ¬ dfL β (nmI (s (k + 1))) 10 < 0) (hT2 : TR M (dfN β (nmI (s (k + 1)))) s2 n2) (hn2 : 1 < n2) (hy2 : kd (s2 1) = 9) (hd : M 0 27 = nI dp) (hdp : dp < 5) (ho : M 0 25 = nI (o + 1)) (ho3 : o < 300) {fu : Nat} (hf : M 0 28 = nI fu) (hfu : fu ≤ 2000) : CR l g y_Mo_call c_Mo_call 5 none 2 [.ref (ga g 0), .int (nI c), .int (nI k), .int (nI 1)] M (fun r M' => r = none ∧ M' = enF (up2 (up2 M 0 27 (nI (dp + 1))) 21 (6 * (dp + 1) + lcI (s2 1)) (M 0 29)) (dfN β (nmI (s (k + 1)))) 2 (o + 1) fu) := by
  refine Ct.of hI (sR_N0 g) rfl (Nat.le_of_ble_eq_true rfl) (fun K h0 hC hR hkl hn => ?_)
  have hC : Cx (sR g) K gC_Mo _ := hC
  show V K (wp (sR g)) M 0 [(0, .ref (ga g 0)), (1, .int (nI c)), (2, .int (nI k)), (3, .int (nI 1))] []
  refine v_iload_n h0 d_Mo_call_0 3 rfl ?_
  refine v_iconst h0 d_Mo_call_1 (v := nI 2) (by decide) ?_
  refine n_icmp_ne h0 (by omega) (by omega) d_Mo_call_2 rfl (fun h2 => ?_) (fun h2 => absurd h2 (by omega))
  refine v_aload_n h0 d_Mo_call_24 0 rfl ?_
  refine g_Mo_depth_ h0 hC wd_475 d_Mo_call_25 ?_
  refine v_int (nI dp) (hd) ?_
  refine v_iconst h0 d_Mo_call_28 (v := nI 5) (by decide) ?_
  refine n_icmp_ne h0 (by omega) (by omega) d_Mo_call_29 rfl (fun h29 => ?_) (fun h29 => absurd h29 (by omega))
  refine v_aload_n h0 d_Mo_call_39 0 rfl ?_
  refine v_aload_n h0 d_Mo_call_40 0 rfl ?_
  refine v_iload_n h0 d_Mo_call_41 1 rfl ?_
  refine v_iload_n h0 d_Mo_call_42 2 rfl ?_
  refine v_iconst h0 d_Mo_call_43 (v := nI 1) (by decide) ?_
  refine v_iadd h0 d_Mo_call_44 ?_
  refine v_int (nI (k + 1)) (nI_add k 1) ?_
  have hn24 := hT.2.1
  have hl6 := (lc_of hy2).1
  have hd10 := (df_def hj).1
  refine v_callV h0 hC (sR_N0 g) 0 (show 0 < 22 by omega) (show enR g 0 _ = _ from rfl) rfl (av := [.int (nI c), .int (nI (k + 1))]) (rest := [.ref (ga g 0)]) (m_Mo_charAt (kl K) g hI M hc (by omega) hT) wd_564 wd_561 wd_563 ws_32 wd_6 hd_Mo_charAt (by omega) (by decide) rfl rfl (Nat.le_of_ble_eq_true rfl) d_Mo_call_45 (fun r9 M9 hp9 => ?_)
  obtain ⟨rfl, rfl⟩ := hp9
  refine v_r1 ?_
  refine v_int (s (k + 1)) (if_pos hk1) ?_
  refine v_bipush h0 d_Mo_call_48 (v := nI 97) (by decide) ?_
  refine v_isub h0 d_Mo_call_50 ?_
  refine v_int (nI (nmI (s (k + 1)))) ((nm_of hy).2) ?_
  refine v_callV h0 hC (sR_N0 g) 0 (show 0 < 22 by omega) (show enR g 0 _ = _ from rfl) rfl (av := [.int (nI (nmI (s (k + 1))))]) (rest := []) (m_Mo_definer (kl K) g hI M (fun c hc => (hTx c hc).1) _) wd_631 wd_628 wd_630 ws_43 wd_6 hd_Mo_definer (by omega) (by decide) rfl rfl (Nat.le_of_ble_eq_true rfl) d_Mo_call_51 (fun r9 M9 hp9 => ?_)
  obtain ⟨rfl, rfl⟩ := hp9
  refine v_r1 ?_
  refine v_int (nI (dfN β (nmI (s (k + 1))))) ((df_def hj).2.1) ?_
  refine v_istore h0 d_Mo_call_54 (lv' := [(4, .int (nI (dfN β (nmI (s (k + 1)))))), (0, .ref (ga g 0)), (1, .int (nI c)), (2, .int (nI k)), (3, .int (nI 1))]) (lt_kn hn (by decide)) rfl ?_
  refine v_aload_n h0 d_Mo_call_56 1 rfl ?_
  refine v_dup h0 d_Mo_call_57 rfl ?_
  refine g_Mo_depth_ h0 hC wd_475 d_Mo_call_58 ?_
  refine v_int (nI dp) (hd) ?_
  refine v_iconst h0 d_Mo_call_61 (v := nI 1) (by decide) ?_
  refine v_iadd h0 d_Mo_call_62 ?_
  refine v_int (nI (dp + 1)) (nI_add dp 1) ?_
  refine p_Mo_depth_ h0 hC wd_475 d_Mo_call_63 ?_
  refine v_aload_n h0 d_Mo_call_66 1 rfl ?_
  refine g_Mo_local_ h0 hC wd_474 d_Mo_call_67 ?_
  refine v_bipush h0 d_Mo_call_70 (v := nI 6) (by decide) ?_
  refine v_aload_n h0 d_Mo_call_72 1 rfl ?_
  refine g_Mo_depth_ h0 hC wd_475 d_Mo_call_73 ?_
  refine v_int (nI (dp + 1)) (up2_s _ _ _ _) ?_
  refine v_imul h0 d_Mo_call_76 ?_
  refine v_int (nI (6 * (dp + 1))) (pk_mul 6 (dp + 1)) ?_
  refine v_aload_n h0 d_Mo_call_77 1 rfl ?_
  refine v_iload h0 d_Mo_call_78 0 rfl ?_
  refine v_iconst h0 d_Mo_call_80 (v := nI 1) (by decide) ?_
  refine v_callV h0 hC (sR_N0 g) 0 (show 0 < 22 by omega) (show enR g 0 _ = _ from rfl) rfl (av := [.int (nI (dfN β (nmI (s (k + 1))))), .int (nI 1)]) (rest := [.int (nI (6 * (dp + 1))), .ref (ga g 21)]) (m_Mo_charAt (kl K) g hI _ hd10 (by omega) (show TR (up2 M 0 27 (nI (dp + 1))) (dfN β (nmI (s (k + 1)))) s2 n2 from ⟨by rw [up2_n _ _ (by omega)]; exact hT2.1, hT2.2.1, fun j hj => by rw [up2_n _ _ (by omega)]; exact hT2.2.2.1 j hj, hT2.2.2.2⟩)) wd_564 wd_561 wd_563 ws_32 wd_6 hd_Mo_charAt (by omega) (by decide) rfl rfl (Nat.le_of_ble_eq_true rfl) d_Mo_call_81 (fun r9 M9 hp9 => ?_)
  obtain ⟨rfl, rfl⟩ := hp9
  refine v_r1 ?_
  refine v_int (s2 1) (if_pos hn2) ?_
  refine v_iadd h0 d_Mo_call_84 ?_
  refine v_bipush h0 d_Mo_call_85 (v := nI 107) (by decide) ?_
  refine v_isub h0 d_Mo_call_87 ?_
  refine v_int (nI (6 * (dp + 1) + lcI (s2 1))) (fr_l hy2 (6 * (dp + 1))) ?_
  refine v_aload_n h0 d_Mo_call_88 1 rfl ?_
  refine g_Mo_out_ h0 hC wd_477 d_Mo_call_89 ?_
  refine v_int (M 0 29) (up2_n _ _ (by omega)) ?_
  refine s_Mo_local_ h0 hC (6 * (dp + 1) + lcI (s2 1)) (rfl) (z := M 0 29) (rfl) (by omega) d_Mo_call_92 ?_
  refine v_aload_n h0 d_Mo_call_93 1 rfl ?_
  refine v_iload h0 d_Mo_call_94 0 rfl ?_
  refine v_iconst h0 d_Mo_call_96 (v := nI 2) (by decide) ?_
  refine v_callV h0 hC (sR_N0 g) 0 (show 0 < 22 by omega) (show enR g 0 _ = _ from rfl) rfl (av := [.int (nI (dfN β (nmI (s (k + 1))))), .int (nI 2)]) (rest := []) (m_Mo_enter (kl K) g hI (up2 (up2 M 0 27 (nI (dp + 1))) 21 (6 * (dp + 1) + lcI (s2 1)) (M 0 29)) (o := o + 1) (by rw [up2_n _ _ (by omega), up2_n _ _ (by omega)]; exact hf) hfu (by rw [up2_n _ _ (by omega), up2_n _ _ (by omega)]; exact ho) (by omega)) wd_679 wd_676 wd_678 ws_55 wd_6 hd_Mo_enter (by omega) (by decide) rfl rfl (Nat.le_of_ble_eq_true rfl) d_Mo_call_97 (fun r9 M9 hp9 => ?_)
  obtain ⟨rfl, rfl⟩ := hp9
  refine v_r0 ?_
  exact v_vret h0 hC hR d_Mo_call_100 (⟨rfl, rfl⟩)
