/-! the class's constructor, exactly -/
def tapX (h : aH) (a : Nat) : aH := sR (nA h 13 120) 512 a (some (hN h + 3))
theorem ec_tapeInit (l : Launch) (G : aG) (a : Nat) (h : aH) (ka0_ : hK h a = 8) (hne_ : a ≠ hN h + 3) : Ev l G 1 1 120 mX7_init 0 (en 1 [.ref a]) [] h (Ex none (tapX h a)) := by
  have ka_ : hK (nA h 13 120) a = 8 := (up1_n _ _ hne_).trans ka0_
  refine Ev_aload_n dX7_init_0 rfl (by first | exact Or.inr ⟨_, rfl⟩ | exact rv_or _ | exact Or.inl rfl) ?_
  refine Ev_objI dX7_init_1 (by omega) rfl (Nat.le_of_ble_eq_true rfl) kX7_3 ob_1 ob_2 ?_
  refine Ev_aload_n dX7_init_4 rfl (by first | exact Or.inr ⟨_, rfl⟩ | exact rv_or _ | exact Or.inl rfl) ?_
  refine Ev_bipush (v := nI 120) dX7_init_5 (by decide) ?_
  refine Ev.wide (mc' := 0 + 1) (ms' := 0 + 120) (by omega) (by first | omega | decide) ?_
  refine Ev_newa (kd := 13) 120 dX7_init_7 rfl (Or.inl rfl) ai_1 (by decide) (by omega) ?_
  refine Ev_putR (x := some (hN h + 3)) dX7_init_9 fX7_9 ⟨_, rfl, Or.inr ⟨rfl, rfl⟩⟩ ka_ rfl ?_
  refine Ev_vret dX7_init_12 rfl ?_
  exact ⟨rfl, rfl⟩
def thgX (h : aH) (a : Nat) (sl kd : Int32) (lt : Nat) : aH := sR (sI (sR (sI (sI (sR (sR (sI (nO (sR (nA h 13 4) 644 a (some (hN h + 3))) 0) 0 (hN h + 4) 0) 1 (hN h + 4) (some 1)) 645 a (some (hN h + 4))) 640 a sl) 641 a kd) 642 a none) 643 a (nI 0)) 646 a (some lt)
theorem ec_thingX (l : Launch) (G : aG) (a lt : Nat) (sl kd : Int32) (h : aH) (ka0_ : hK h a = 10) (hne_ : a < hN h + 3) : Ev l G 4 2 7 mX9_init 0 (en 5 [.ref a, .int sl, .int kd, .null, .ref lt]) [] h (Ex none (thgX h a sl kd lt)) := by
  have ka1_ : hK (nA h 13 4) a = 10 := (up1_n _ _ (by omega)).trans ka0_
  have ka3_ : hK (nO (sR (nA h 13 4) 644 a (some (hN h + 3))) 0) a = 10 := (up1_n _ _ (by show a ≠ hN h + 1 + 3; omega)).trans ka1_
  refine Ev_aload_n dX9_init_0 rfl (by first | exact Or.inr ⟨_, rfl⟩ | exact rv_or _ | exact Or.inl rfl) ?_
  refine Ev_objI dX9_init_1 (by omega) rfl (Nat.le_of_ble_eq_true rfl) kX9_3 ob_1 ob_2 ?_
  refine Ev_aload_n dX9_init_4 rfl (by first | exact Or.inr ⟨_, rfl⟩ | exact rv_or _ | exact Or.inl rfl) ?_
  refine Ev_iconst (v := nI 4) dX9_init_5 (by decide) ?_
  refine Ev.wide (mc' := 1 + 1) (ms' := 3 + 4) (by omega) (by first | omega | decide) ?_
  refine Ev_newa (kd := 13) 4 dX9_init_6 rfl (Or.inl rfl) ai_1 (by decide) (by omega) ?_
  refine Ev_putR (x := some (hN h + 3)) dX9_init_8 fX9_9 ⟨_, rfl, Or.inr ⟨rfl, rfl⟩⟩ ka1_ rfl ?_
  refine Ev_aload_n dX9_init_11 rfl (by first | exact Or.inr ⟨_, rfl⟩ | exact rv_or _ | exact Or.inl rfl) ?_
  refine Ev.wide (mc' := 0 + 1) (ms' := 0 + fn 0) (by omega) (by first | omega | decide) ?_
  refine Ev_new dX9_init_12 nX9_15 ?_
  refine Ev_dup dX9_init_15 (by first | rfl | exact okv_rv _) ?_
  refine Ev_I0 [] dX9_init_16 iJx4a65c_init_da8c8 kX9_17 rfl rfl rfl (Nat.le_of_ble_eq_true rfl) (by omega) (ej_init l G (hN h + 4) (nO (sR (nA h 13 4) 644 a (some (hN h + 3))) 0) (up1_s _ _ _)) ?_
  refine Ev_putR (x := some (hN h + 4)) dX9_init_19 fX9_18 ⟨_, rfl, Or.inr ⟨rfl, rfl⟩⟩ ka3_ rfl ?_
  refine Ev_aload_n dX9_init_22 rfl (by first | exact Or.inr ⟨_, rfl⟩ | exact rv_or _ | exact Or.inl rfl) ?_
  refine Ev_iload_n dX9_init_23 rfl ?_
  refine Ev_putI dX9_init_24 fX9_22 ⟨_, rfl, Or.inr ⟨rfl, rfl⟩⟩ (Or.inl rfl) ka3_ ?_
  refine Ev_aload_n dX9_init_27 rfl (by first | exact Or.inr ⟨_, rfl⟩ | exact rv_or _ | exact Or.inl rfl) ?_
  refine Ev_iload_n dX9_init_28 rfl ?_
  refine Ev_putI dX9_init_29 fX9_26 ⟨_, rfl, Or.inr ⟨rfl, rfl⟩⟩ (Or.inl rfl) ka3_ ?_
  refine Ev_aload_n dX9_init_32 rfl (by first | exact Or.inr ⟨_, rfl⟩ | exact rv_or _ | exact Or.inl rfl) ?_
  refine Ev_aload_n dX9_init_33 rfl (by first | exact Or.inr ⟨_, rfl⟩ | exact rv_or _ | exact Or.inl rfl) ?_
  refine Ev_putR (x := none) dX9_init_34 fX9_29 ⟨_, rfl, Or.inr ⟨rfl, rfl⟩⟩ ka3_ rfl ?_
  refine Ev_aload_n dX9_init_37 rfl (by first | exact Or.inr ⟨_, rfl⟩ | exact rv_or _ | exact Or.inl rfl) ?_
  refine Ev_aload_n dX9_init_38 rfl (by first | exact Or.inr ⟨_, rfl⟩ | exact rv_or _ | exact Or.inl rfl) ?_
  refine Ev_ifnonnull (o := none) 46 dX9_init_39 (by decide) (fun a_ z_ => by cases z_) (fun _ => ?_)
  refine Ev_iconst (v := nI 0) dX9_init_42 (by decide) ?_
  refine Ev_goto 52 dX9_init_43 (by decide) ?_
  refine Ev_putI dX9_init_52 fX9_33 ⟨_, rfl, Or.inr ⟨rfl, rfl⟩⟩ (Or.inl rfl) ka3_ ?_
  refine Ev_aload_n dX9_init_55 rfl (by first | exact Or.inr ⟨_, rfl⟩ | exact rv_or _ | exact Or.inl rfl) ?_
  refine Ev_aload dX9_init_56 rfl (by first | exact Or.inr ⟨_, rfl⟩ | exact rv_or _ | exact Or.inl rfl) ?_
  refine Ev_putR (x := some lt) dX9_init_58 fX9_36 ⟨_, rfl, Or.inl rfl⟩ ka3_ rfl ?_
  refine Ev_vret dX9_init_61 rfl ?_
  exact ⟨rfl, rfl⟩
theorem nnI (h : aH) (k a : Nat) (v : Int32) : hN (sI h k a v) = hN h := rfl
theorem nnR (h : aH) (k a : Nat) (v : Option Nat) : hN (sR h k a v) = hN h := rfl
theorem nnO (h : aH) (ci : Nat) : hN (nO h ci) = hN h + 1 := rfl
theorem nnA (h : aH) (kd n : Nat) : hN (nA h kd n) = hN h + 1 := rfl
theorem kkI (h : aH) (k a : Nat) (v : Int32) : hK (sI h k a v) = hK h := rfl
theorem kkR (h : aH) (k a : Nat) (v : Option Nat) : hK (sR h k a v) = hK h := rfl
theorem kkO (h : aH) (ci b : Nat) (hb : b ≠ hN h + 3) : hK (nO h ci) b = hK h b := up1_n _ _ hb
theorem kkA (h : aH) (kd n b : Nat) (hb : b ≠ hN h + 3) : hK (nA h kd n) b = hK h b := up1_n _ _ hb
theorem kkS (h : aH) (ci : Nat) : hK (nO h ci) (hN h + 3) = ci := up1_s _ _ _
theorem thgX_n (h : aH) (a : Nat) (sl kd : Int32) (lt : Nat) : hN (thgX h a sl kd lt) = hN h + 2 := by
  unfold thgX
  rw [nnR, nnI, nnR, nnI, nnI, nnR, nnR, nnI, nnO, nnR, nnA]
theorem thgX_k (h : aH) (a : Nat) (sl kd : Int32) (lt b : Nat) (hb : b < hN h + 3) : hK (thgX h a sl kd lt) b = hK h b := by
  unfold thgX
  rw [kkR, kkI, kkR, kkI, kkI, kkR, kkR, kkI, kkO _ _ _ (by rw [nnR, nnA]; omega), kkR, kkA _ _ _ _ (by omega)]
def modX (h : aH) (a : Nat) : aH := sR (nA (sR (thgX (nA (nO h 10) 13 0) (hN h + 3) (-1) (-1) (hN h + 4)) 320 a (some (hN h + 3))) 18 24) 321 a (some (hN h + 7))
theorem ec_modelInit (l : Launch) (G : aG) (a : Nat) (h : aH) (ka0_ : hK h a = 5) (hne_ : a < hN h + 3) : Ev l G 5 5 39 mX4_init 0 (en 1 [.ref a]) [] h (Ex none (modX h a)) := by
  have n1_ : hN (nA (nO h 10) 13 0) = hN h + 2 := by rw [nnA, nnO]
  have n2_ : hN (thgX (nA (nO h 10) 13 0) (hN h + 3) (-1) (-1) (hN h + 4)) = hN h + 4 := by rw [thgX_n, n1_]
  have kg_ : hK (nA (nO h 10) 13 0) (hN h + 3) = 10 := by rw [kkA _ _ _ _ (by rw [nnO]; omega), kkS]
  have ka1_ : hK (nA (nO h 10) 13 0) a = 5 := by rw [kkA _ _ _ _ (by rw [nnO]; omega), kkO _ _ _ (by omega)]; exact ka0_
  have ka2_ : hK (thgX (nA (nO h 10) 13 0) (hN h + 3) (-1) (-1) (hN h + 4)) a = 5 := by rw [thgX_k _ _ _ _ _ _ (by rw [n1_]; omega)]; exact ka1_
  have ka3_ : hK (nA (sR (thgX (nA (nO h 10) 13 0) (hN h + 3) (-1) (-1) (hN h + 4)) 320 a (some (hN h + 3))) 18 24) a = 5 := by rw [kkA _ _ _ _ (by rw [nnR, n2_]; omega), kkR]; exact ka2_
  refine Ev_aload_n dX4_init_0 rfl (by first | exact Or.inr ⟨_, rfl⟩ | exact rv_or _ | exact Or.inl rfl) ?_
  refine Ev_objI dX4_init_1 (by omega) rfl (Nat.le_of_ble_eq_true rfl) kX4_3 ob_1 ob_2 ?_
  refine Ev_aload_n dX4_init_4 rfl (by first | exact Or.inr ⟨_, rfl⟩ | exact rv_or _ | exact Or.inl rfl) ?_
  refine Ev.wide (mc' := 4 + 1) (ms' := 31 + fn 10) (by omega) (by first | omega | decide) ?_
  refine Ev_new dX4_init_5 nX4_9 ?_
  refine Ev_dup dX4_init_8 (by first | rfl | exact okv_rv _) ?_
  refine Ev_iconst (v := -1) dX4_init_9 (by decide) ?_
  refine Ev_iconst (v := -1) dX4_init_10 (by decide) ?_
  refine Ev_null dX4_init_11 ?_
  refine Ev_iconst (v := nI 0) dX4_init_12 (by decide) ?_
  refine Ev.wide (mc' := 3 + 1) (ms' := 31 + 0) (by omega) (by omega) ?_
  refine Ev_newa (kd := 13) 0 dX4_init_13 rfl (Or.inl rfl) ai_1 (by decide) (by omega) ?_
  refine Ev_top (y := .ref (hN h + 4)) (congrArg Value.ref (by rw [nnO])) ?_
  refine Ev_Ig (mc2 := 1) (ms2 := 24) [.int (-1), .int (-1), .null, .ref (hN h + 4)] dX4_init_15 iX9_init kX4_11 rfl rfl rfl (Nat.le_of_ble_eq_true rfl) (by omega) (by omega) (by omega) (ec_thingX l G (hN h + 3) (hN h + 4) (-1) (-1) (nA (nO h 10) 13 0) kg_ (by rw [n1_]; omega)) (fun v_ h1_ e_ => ?_)
  obtain ⟨rfl, rfl⟩ := e_
  refine Ev_putR (x := some (hN h + 3)) dX4_init_18 fX4_14 ⟨_, rfl, Or.inr ⟨rfl, rfl⟩⟩ ka2_ rfl ?_
  refine Ev_aload_n dX4_init_21 rfl (by first | exact Or.inr ⟨_, rfl⟩ | exact rv_or _ | exact Or.inl rfl) ?_
  refine Ev_bipush (v := nI 24) dX4_init_22 (by decide) ?_
  refine Ev.wide (mc' := 0 + 1) (ms' := 0 + 24) (by omega) (by first | omega | decide) ?_
  refine Ev_newq (kd := 18) 24 dX4_init_24 rfl (by omega) (by omega) qX4_9 ao_MadeMended_Thing (by decide) (by omega) ?_
  refine Ev_top (y := .ref (hN h + 7)) (congrArg Value.ref (by rw [nnR, n2_])) ?_
  refine Ev_putR (x := some (hN h + 7)) dX4_init_27 fX4_20 ⟨_, rfl, Or.inr ⟨rfl, rfl⟩⟩ ka3_ rfl ?_
  refine Ev_vret dX4_init_30 rfl ?_
  exact ⟨rfl, rfl⟩
def rulX (h : aH) (a b : Nat) : aH := sR (nA (sR (nA (sR (nA (sR (sI h 454 a (-1)) 448 a (some b)) 13 0) 449 a (some (hN h + 3))) 13 0) 450 a (some (hN h + 4))) 13 0) 451 a (some (hN h + 5))
theorem ec_ruleX (l : Launch) (G : aG) (a b : Nat) (h : aH) (ka0_ : hK h a = 7) (hne_ : a < hN h + 3) (kb_ : hK h b = 13) (lb_ : hL h b = 0) : Ev l G 1 3 0 mX6_init 0 (en 3 [.ref a, .ref b]) [] h (Ex none (rulX h a b)) := by
  have ka1_ : hK (nA (sR (sI h 454 a (-1)) 448 a (some b)) 13 0) a = 7 := (up1_n _ _ (by show a ≠ hN h + 3; omega)).trans ka0_
  have ka2_ : hK (nA (sR (nA (sR (sI h 454 a (-1)) 448 a (some b)) 13 0) 449 a (some (hN h + 3))) 13 0) a = 7 := (up1_n _ _ (by show a ≠ hN h + 1 + 3; omega)).trans ka1_
  have ka3_ : hK (nA (sR (nA (sR (nA (sR (sI h 454 a (-1)) 448 a (some b)) 13 0) 449 a (some (hN h + 3))) 13 0) 450 a (some (hN h + 4))) 13 0) a = 7 := (up1_n _ _ (by show a ≠ hN h + 1 + 1 + 3; omega)).trans ka2_
  refine Ev_aload_n dX6_init_0 rfl (by first | exact Or.inr ⟨_, rfl⟩ | exact rv_or _ | exact Or.inl rfl) ?_
  refine Ev_objI dX6_init_1 (by omega) rfl (Nat.le_of_ble_eq_true rfl) kX6_3 ob_1 ob_2 ?_
  refine Ev_aload_n dX6_init_4 rfl (by first | exact Or.inr ⟨_, rfl⟩ | exact rv_or _ | exact Or.inl rfl) ?_
  refine Ev_iconst (v := -1) dX6_init_5 (by decide) ?_
  refine Ev_putI dX6_init_6 fX6_9 ⟨_, rfl, Or.inl rfl⟩ (Or.inl rfl) ka0_ ?_
  refine Ev_aload_n dX6_init_9 rfl (by first | exact Or.inr ⟨_, rfl⟩ | exact rv_or _ | exact Or.inl rfl) ?_
  refine Ev_alen dX6_init_10 kb_ (by omega) (by omega) ?_
  refine Ev_top (y := .int (nI 0)) (by rw [show hL (sI h 454 a (-1)) b = 0 from lb_]) ?_
  refine Ev_bipush (v := nI 20) dX6_init_11 (by decide) ?_
  refine Ev_mmin dX6_init_13 (by omega) rfl (Nat.le_of_ble_eq_true rfl) kX6_15 ?_
  refine Ev_top (y := .int (nI 0)) (congrArg Value.int (mn_n (by omega) (by omega))) ?_
  refine Ev_istore_n dX6_init_16 (by decide) ?_
  refine Ev_aload_n dX6_init_17 rfl (by first | exact Or.inr ⟨_, rfl⟩ | exact rv_or _ | exact Or.inl rfl) ?_
  refine Ev_aload_n dX6_init_18 rfl (by first | exact Or.inr ⟨_, rfl⟩ | exact rv_or _ | exact Or.inl rfl) ?_
  refine Ev_putR (x := some b) dX6_init_19 fX6_21 ⟨_, rfl, Or.inr ⟨rfl, rfl⟩⟩ ka0_ rfl ?_
  refine Ev_aload_n dX6_init_22 rfl (by first | exact Or.inr ⟨_, rfl⟩ | exact rv_or _ | exact Or.inl rfl) ?_
  refine Ev_iload_n dX6_init_23 rfl ?_
  refine Ev.wide (mc' := 2 + 1) (ms' := 0 + 0) (by omega) (by omega) ?_
  refine Ev_newa (kd := 13) 0 dX6_init_24 rfl (Or.inl rfl) ai_1 (by decide) (by omega) ?_
  refine Ev_top (y := .ref (hN h + 3)) rfl ?_
  refine Ev_putR (x := some (hN h + 3)) dX6_init_26 fX6_25 ⟨_, rfl, Or.inr ⟨rfl, rfl⟩⟩ ka1_ rfl ?_
  refine Ev_aload_n dX6_init_29 rfl (by first | exact Or.inr ⟨_, rfl⟩ | exact rv_or _ | exact Or.inl rfl) ?_
  refine Ev_iload_n dX6_init_30 rfl ?_
  refine Ev.wide (mc' := 1 + 1) (ms' := 0 + 0) (by omega) (by omega) ?_
  refine Ev_newa (kd := 13) 0 dX6_init_31 rfl (Or.inl rfl) ai_1 (by decide) (by omega) ?_
  refine Ev_top (y := .ref (hN h + 4)) rfl ?_
  refine Ev_putR (x := some (hN h + 4)) dX6_init_33 fX6_28 ⟨_, rfl, Or.inr ⟨rfl, rfl⟩⟩ ka2_ rfl ?_
  refine Ev_aload_n dX6_init_36 rfl (by first | exact Or.inr ⟨_, rfl⟩ | exact rv_or _ | exact Or.inl rfl) ?_
  refine Ev_iload_n dX6_init_37 rfl ?_
  refine Ev.wide (mc' := 0 + 1) (ms' := 0 + 0) (by omega) (by omega) ?_
  refine Ev_newa (kd := 13) 0 dX6_init_38 rfl (Or.inl rfl) ai_1 (by decide) (by omega) ?_
  refine Ev_top (y := .ref (hN h + 5)) rfl ?_
  refine Ev_putR (x := some (hN h + 5)) dX6_init_40 fX6_31 ⟨_, rfl, Or.inr ⟨rfl, rfl⟩⟩ ka3_ rfl ?_
  refine Ev_vret dX6_init_43 rfl ?_
  exact ⟨rfl, rfl⟩
def texX (h : aH) (a : Nat) : aH := sR (nA (sR (nA h 16 250) 576 a (some (hN h + 3))) 13 3000) 577 a (some (hN h + 4))
theorem ec_textInit (l : Launch) (G : aG) (a : Nat) (h : aH) (ka0_ : hK h a = 9) (hne_ : a < hN h + 3) : Ev l G 1 2 3250 mX8_init 0 (en 1 [.ref a]) [] h (Ex none (texX h a)) := by
  have ka1_ : hK (nA h 16 250) a = 9 := (up1_n _ _ (by omega)).trans ka0_
  have ka2_ : hK (nA (sR (nA h 16 250) 576 a (some (hN h + 3))) 13 3000) a = 9 := (up1_n _ _ (by show a ≠ hN h + 1 + 3; omega)).trans ka1_
  refine Ev_aload_n dX8_init_0 rfl (by first | exact Or.inr ⟨_, rfl⟩ | exact rv_or _ | exact Or.inl rfl) ?_
  refine Ev_objI dX8_init_1 (by omega) rfl (Nat.le_of_ble_eq_true rfl) kX8_3 ob_1 ob_2 ?_
  refine Ev_aload_n dX8_init_4 rfl (by first | exact Or.inr ⟨_, rfl⟩ | exact rv_or _ | exact Or.inl rfl) ?_
  refine Ev_sipush (v := nI 250) dX8_init_5 (by decide) ?_
  refine Ev.wide (mc' := 1 + 1) (ms' := 3000 + 250) (by omega) (by first | omega | decide) ?_
  refine Ev_newq (kd := 16) 250 dX8_init_8 rfl (by omega) (by omega) qX8_9 ao_MadeMended_Piece (by decide) (by omega) ?_
  refine Ev_putR (x := some (hN h + 3)) dX8_init_11 fX8_11 ⟨_, rfl, Or.inr ⟨rfl, rfl⟩⟩ ka1_ rfl ?_
  refine Ev_aload_n dX8_init_14 rfl (by first | exact Or.inr ⟨_, rfl⟩ | exact rv_or _ | exact Or.inl rfl) ?_
  refine Ev_sipush (v := nI 3000) dX8_init_15 (by decide) ?_
  refine Ev.wide (mc' := 0 + 1) (ms' := 0 + 3000) (by omega) (by first | omega | decide) ?_
  refine Ev_newa (kd := 13) 3000 dX8_init_18 rfl (Or.inl rfl) ai_1 (by decide) (by omega) ?_
  refine Ev_top (y := .ref (hN h + 4)) rfl ?_
  refine Ev_putR (x := some (hN h + 4)) dX8_init_20 fX8_17 ⟨_, rfl, Or.inr ⟨rfl, rfl⟩⟩ ka2_ rfl ?_
  refine Ev_vret dX8_init_23 rfl ?_
  exact ⟨rfl, rfl⟩
def makX (h : aH) (a r t : Nat) : aH := sR (sR (sR (nA h 13 6) 256 a (some (hN h + 3))) 257 a (some r)) 258 a (some t)
theorem ec_makingInit (l : Launch) (G : aG) (a r t : Nat) (h : aH) (ka0_ : hK h a = 4) (hne_ : a < hN h + 3) : Ev l G 1 1 6 mX3_init 0 (en 3 [.ref a, .ref r, .ref t]) [] h (Ex none (makX h a r t)) := by
  have ka1_ : hK (nA h 13 6) a = 4 := (up1_n _ _ (by omega)).trans ka0_
  refine Ev_aload_n dX3_init_0 rfl (by first | exact Or.inr ⟨_, rfl⟩ | exact rv_or _ | exact Or.inl rfl) ?_
  refine Ev_objI dX3_init_1 (by omega) rfl (Nat.le_of_ble_eq_true rfl) kX3_3 ob_1 ob_2 ?_
  refine Ev_aload_n dX3_init_4 rfl (by first | exact Or.inr ⟨_, rfl⟩ | exact rv_or _ | exact Or.inl rfl) ?_
  refine Ev_bipush (v := nI 6) dX3_init_5 (by decide) ?_
  refine Ev.wide (mc' := 0 + 1) (ms' := 0 + 6) (by omega) (by first | omega | decide) ?_
  refine Ev_newa (kd := 13) 6 dX3_init_7 rfl (Or.inl rfl) ai_1 (by decide) (by omega) ?_
  refine Ev_putR (x := some (hN h + 3)) dX3_init_9 fX3_9 ⟨_, rfl, Or.inr ⟨rfl, rfl⟩⟩ ka1_ rfl ?_
  refine Ev_aload_n dX3_init_12 rfl (by first | exact Or.inr ⟨_, rfl⟩ | exact rv_or _ | exact Or.inl rfl) ?_
  refine Ev_aload_n dX3_init_13 rfl (by first | exact Or.inr ⟨_, rfl⟩ | exact rv_or _ | exact Or.inl rfl) ?_
  refine Ev_putR (x := some r) dX3_init_14 fX3_15 ⟨_, rfl, Or.inr ⟨rfl, rfl⟩⟩ ka1_ rfl ?_
  refine Ev_aload_n dX3_init_17 rfl (by first | exact Or.inr ⟨_, rfl⟩ | exact rv_or _ | exact Or.inl rfl) ?_
  refine Ev_aload_n dX3_init_18 rfl (by first | exact Or.inr ⟨_, rfl⟩ | exact rv_or _ | exact Or.inl rfl) ?_
  refine Ev_putR (x := some t) dX3_init_19 fX3_19 ⟨_, rfl, Or.inl rfl⟩ ka1_ rfl ?_
  refine Ev_vret dX3_init_22 rfl ?_
  exact ⟨rfl, rfl⟩
def lonX (h : aH) (a : Nat) : aH := sR (sR (sI (nO h 0) 0 (hN h + 3) 0) 1 (hN h + 3) (some 1)) 192 a (some (hN h + 3))
theorem ec_lonesInit (l : Launch) (G : aG) (a : Nat) (h : aH) (ka0_ : hK h a = 3) (hne_ : a < hN h + 3) : Ev l G 4 1 3 mX2_init 0 (en 1 [.ref a]) [] h (Ex none (lonX h a)) := by
  have ka1_ : hK (nO h 0) a = 3 := (up1_n _ _ (by omega)).trans ka0_
  refine Ev_aload_n dX2_init_0 rfl (by first | exact Or.inr ⟨_, rfl⟩ | exact rv_or _ | exact Or.inl rfl) ?_
  refine Ev_objI dX2_init_1 (by omega) rfl (Nat.le_of_ble_eq_true rfl) kX2_3 ob_1 ob_2 ?_
  refine Ev_aload_n dX2_init_4 rfl (by first | exact Or.inr ⟨_, rfl⟩ | exact rv_or _ | exact Or.inl rfl) ?_
  refine Ev.wide (mc' := 0 + 1) (ms' := 0 + fn 0) (by omega) (by first | omega | decide) ?_
  refine Ev_new dX2_init_5 nX2_9 ?_
  refine Ev_dup dX2_init_8 (by first | rfl | exact okv_rv _) ?_
  refine Ev_I0 [] dX2_init_9 iJx4a65c_init_da8c8 kX2_11 rfl rfl rfl (Nat.le_of_ble_eq_true rfl) (by omega) (ej_init l G (hN h + 3) (nO h 0) (up1_s _ _ _)) ?_
  refine Ev_putR (x := some (hN h + 3)) dX2_init_12 fX2_12 ⟨_, rfl, Or.inr ⟨rfl, rfl⟩⟩ ka1_ rfl ?_
  refine Ev_vret dX2_init_15 rfl ?_
  exact ⟨rfl, rfl⟩
