def ruH (h : aH) : Nat → aH
  | 0 => h
  | k + 1 => sY (ruH h k) 12 k (some 13)
def z00 : aH := nO h00 11
def z01 : aH := nO z00 8
def z02 : aH := tapX z01 4
def z03 : aH := sR z02 704 3 (some 4)
def z04 : aH := nO z03 5
def z05 : aH := modX z04 6
def z06 : aH := sR z05 705 3 (some 6)
def z07 : aH := nA z06 17 8
def z08 : aH := sR z07 706 3 (some 12)
def z09 : aH := nO z08 7
def z10 : aH := nA z09 13 0
def z11 : aH := rulX z10 13 14
def z12 : aH := ruH z11 8
def z13 : aH := nO z12 9
def z14 : aH := texX z13 18
def z15 : aH := sR z14 710 3 (some 18)
def z16 : aH := nO z15 9
def z17 : aH := texX z16 21
def z18 : aH := sR z17 711 3 (some 21)
def z19 : aH := nO z18 4
def z20 : aH := makX z19 24 12 21
def z21 : aH := sR z20 707 3 (some 24)
def z22 : aH := nO z21 3
def z23 : aH := lonX z22 26
def z24 : aH := sR z23 708 3 (some 26)
def z25 : aH := sR z24 709 3 none
theorem ruH_f (h : aH) : ∀ k, hN (ruH h k) = hN h ∧ hK (ruH h k) = hK h ∧ hL (ruH h k) = hL h ∧ hR (ruH h k) = hR h := by
  intro k
  induction k with
  | zero => exact ⟨rfl, rfl, rfl, rfl⟩
  | succ k ih_ => exact ih_
theorem ec_init48 (l : Launch) (G : aG) {mc ms : Nat} {Q : Option Value → aH → Prop} (kk_ : Ev l G 6 mc ms mX10_init 67 [.ref 3, .ref 13, .int (nI 8)] [] z12 Q) (n : Nat) : ∀ k, 8 - k < n → k ≤ 8 → Ev l G 6 mc ms mX10_init 48 [.ref 3, .ref 13, .int (nI k)] [] (ruH z11 k) Q := by
  induction n with
  | zero => intro k hk; omega
  | succ n ih_ =>
    intro k hk1_ hk2_
    have f_ := ruH_f z11 k
    have k3_ : hK (ruH z11 k) 3 = 11 := by rw [f_.2.1]; decide +kernel
    have k12_ : hK (ruH z11 k) 12 = 17 := by rw [f_.2.1]; decide +kernel
    have k13_ : hK (ruH z11 k) 13 = 7 := by rw [f_.2.1]; decide +kernel
    have l12_ : hL (ruH z11 k) 12 = 8 := by rw [f_.2.2.1]; decide +kernel
    have r12_ : hR (ruH z11 k) 706 3 = some 12 := by rw [f_.2.2.2]; decide +kernel
    refine Ev_iload_n dX10_init_48 rfl ?_
    refine Ev_bipush (v := nI 8) dX10_init_49 (by decide) ?_
    refine Ev_icmp_geN 67 dX10_init_51 (by decide) (by omega) (by omega) (fun zb51_ => ?_) (fun zb51_ => ?_)
    · have ek_ : k = 8 := by omega
      subst ek_
      exact kk_
    · refine Ev_aload_n dX10_init_54 rfl (by first | exact Or.inr ⟨_, rfl⟩ | exact rv_or _ | exact Or.inl rfl) ?_
      refine Ev_getA dX10_init_55 fX10_25 k3_ r12_ ?_
      refine Ev_iload_n dX10_init_58 rfl ?_
      refine Ev_aload_n dX10_init_59 rfl (by first | exact Or.inr ⟨_, rfl⟩ | exact rv_or _ | exact Or.inl rfl) ?_
      refine Ev_aast (b := 13) (ci := 7) k dX10_init_60 k12_ (by omega) (by omega) rfl k13_ rfl (Or.inl rfl) (hi_n (by omega)) (by rw [l12_]; omega) ?_
      refine Ev_iincN 1 dX10_init_61 (by decide) (by decide) rfl ?_
      refine Ev_goto 48 dX10_init_64 (by decide) ?_
      exact ih_ (k + 1) (by omega) (by omega)
theorem ec_init (l : Launch) (G : aG) : Ev l G 6 24 6705 mX10_init 0 (en 3 [.ref 3]) [] z00 (Ex none z25) := by
  refine Ev_aload_n dX10_init_0 rfl (by first | exact Or.inr ⟨_, rfl⟩ | exact rv_or _ | exact Or.inl rfl) ?_
  refine Ev_objI dX10_init_1 (by omega) rfl (Nat.le_of_ble_eq_true rfl) kX10_1 ob_1 ob_2 ?_
  refine Ev_aload_n dX10_init_4 rfl (by first | exact Or.inr ⟨_, rfl⟩ | exact rv_or _ | exact Or.inl rfl) ?_
  refine Ev.wide (mc' := 23 + 1) (ms' := 6703 + fn 8) (by omega) (by first | omega | decide) ?_
  refine Ev_new dX10_init_5 nX10_7 ?_
  refine Ev_top (y := .ref 4) (congrArg Value.ref (show hN z00 + 3 = 4 by decide +kernel)) ?_
  refine Ev_dup dX10_init_8 (by first | rfl | exact okv_rv _) ?_
  refine Ev_INg (mc2 := 22) (ms2 := 6583) [] dX10_init_9 iX7_init kX10_9 rfl rfl rfl (Nat.le_of_ble_eq_true rfl) (by omega) (by omega) (by omega) (ec_tapeInit l G 4 z01 (by decide +kernel) (by decide +kernel)) (fun v_ h1_ e_ => ?_)
  obtain ⟨rfl, rfl⟩ := e_
  refine Ev_putR (x := some 4) dX10_init_12 fX10_10 ⟨_, rfl, Or.inr ⟨rfl, rfl⟩⟩ (show hK z02 3 = 11 by decide +kernel) rfl ?_
  refine Ev_aload_n dX10_init_15 rfl (by first | exact Or.inr ⟨_, rfl⟩ | exact rv_or _ | exact Or.inl rfl) ?_
  refine Ev.wide (mc' := 21 + 1) (ms' := 6580 + fn 5) (by omega) (by first | omega | decide) ?_
  refine Ev_new dX10_init_16 nX10_16 ?_
  refine Ev_top (y := .ref 6) (congrArg Value.ref (show hN z03 + 3 = 6 by decide +kernel)) ?_
  refine Ev_dup dX10_init_19 (by first | rfl | exact okv_rv _) ?_
  refine Ev_INg (mc2 := 16) (ms2 := 6541) [] dX10_init_20 iX4_init kX10_18 rfl rfl rfl (Nat.le_of_ble_eq_true rfl) (by omega) (by omega) (by omega) (ec_modelInit l G 6 z04 (by decide +kernel) (by decide +kernel)) (fun v_ h1_ e_ => ?_)
  obtain ⟨rfl, rfl⟩ := e_
  refine Ev_putR (x := some 6) dX10_init_23 fX10_19 ⟨_, rfl, Or.inr ⟨rfl, rfl⟩⟩ (show hK z05 3 = 11 by decide +kernel) rfl ?_
  refine Ev_aload_n dX10_init_26 rfl (by first | exact Or.inr ⟨_, rfl⟩ | exact rv_or _ | exact Or.inl rfl) ?_
  refine Ev_bipush (v := nI 8) dX10_init_27 (by decide) ?_
  refine Ev.wide (mc' := 15 + 1) (ms' := 6533 + 8) (by omega) (by omega) ?_
  refine Ev_newq (kd := 17) 8 dX10_init_29 rfl (by omega) (by omega) qX10_23 ao_MadeMended_Rule (by decide) (by omega) ?_
  refine Ev_top (y := .ref 12) (congrArg Value.ref (show hN z06 + 3 = 12 by decide +kernel)) ?_
  refine Ev_putR (x := some 12) dX10_init_32 fX10_25 ⟨_, rfl, Or.inr ⟨rfl, rfl⟩⟩ (show hK z07 3 = 11 by decide +kernel) rfl ?_
  refine Ev.wide (mc' := 14 + 1) (ms' := 6525 + fn 7) (by omega) (by first | omega | decide) ?_
  refine Ev_new dX10_init_35 nX10_23 ?_
  refine Ev_top (y := .ref 13) (congrArg Value.ref (show hN z08 + 3 = 13 by decide +kernel)) ?_
  refine Ev_dup dX10_init_38 (by first | rfl | exact okv_rv _) ?_
  refine Ev_iconst (v := nI 0) dX10_init_39 (by decide) ?_
  refine Ev.wide (mc' := 13 + 1) (ms' := 6525 + 0) (by omega) (by omega) ?_
  refine Ev_newa (kd := 13) 0 dX10_init_40 rfl (Or.inl rfl) ai_1 (by decide) (by omega) ?_
  refine Ev_top (y := .ref 14) (congrArg Value.ref (show hN z09 + 3 = 14 by decide +kernel)) ?_
  refine Ev_Ig (mc2 := 10) (ms2 := 6525) [.ref 14] dX10_init_42 iX6_init kX10_29 rfl rfl rfl (Nat.le_of_ble_eq_true rfl) (by omega) (by omega) (by omega) (ec_ruleX l G 13 14 z10 (by decide +kernel) (by decide +kernel) (by decide +kernel) (by decide +kernel)) (fun v_ h1_ e_ => ?_)
  obtain ⟨rfl, rfl⟩ := e_
  refine Ev_astore_n dX10_init_45 (by decide) (by first | exact Or.inr ⟨_, rfl⟩ | exact rv_or _ | exact Or.inl rfl) ?_
  refine Ev_iconst (v := nI 0) dX10_init_46 (by decide) ?_
  refine Ev_istore_n dX10_init_47 (by decide) ?_
  refine (fun kk_ => ec_init48 l G kk_ 9 0 (by omega) (by omega)) ?_
  refine Ev_aload_n dX10_init_67 rfl (by first | exact Or.inr ⟨_, rfl⟩ | exact rv_or _ | exact Or.inl rfl) ?_
  refine Ev.wide (mc' := 9 + 1) (ms' := 6520 + fn 9) (by omega) (by first | omega | decide) ?_
  refine Ev_new dX10_init_68 nX10_32 ?_
  refine Ev_top (y := .ref 18) (congrArg Value.ref (show hN z12 + 3 = 18 by decide +kernel)) ?_
  refine Ev_dup dX10_init_71 (by first | rfl | exact okv_rv _) ?_
  refine Ev_INg (mc2 := 7) (ms2 := 3270) [] dX10_init_72 iX8_init kX10_34 rfl rfl rfl (Nat.le_of_ble_eq_true rfl) (by omega) (by omega) (by omega) (ec_textInit l G 18 z13 (by decide +kernel) (by decide +kernel)) (fun v_ h1_ e_ => ?_)
  obtain ⟨rfl, rfl⟩ := e_
  refine Ev_putR (x := some 18) dX10_init_75 fX10_35 ⟨_, rfl, Or.inl rfl⟩ (show hK z14 3 = 11 by decide +kernel) rfl ?_
  refine Ev_aload_n dX10_init_78 rfl (by first | exact Or.inr ⟨_, rfl⟩ | exact rv_or _ | exact Or.inl rfl) ?_
  refine Ev.wide (mc' := 6 + 1) (ms' := 3265 + fn 9) (by omega) (by first | omega | decide) ?_
  refine Ev_new dX10_init_79 nX10_32 ?_
  refine Ev_top (y := .ref 21) (congrArg Value.ref (show hN z15 + 3 = 21 by decide +kernel)) ?_
  refine Ev_dup dX10_init_82 (by first | rfl | exact okv_rv _) ?_
  refine Ev_INg (mc2 := 4) (ms2 := 15) [] dX10_init_83 iX8_init kX10_34 rfl rfl rfl (Nat.le_of_ble_eq_true rfl) (by omega) (by omega) (by omega) (ec_textInit l G 21 z16 (by decide +kernel) (by decide +kernel)) (fun v_ h1_ e_ => ?_)
  obtain ⟨rfl, rfl⟩ := e_
  refine Ev_putR (x := some 21) dX10_init_86 fX10_39 ⟨_, rfl, Or.inl rfl⟩ (show hK z17 3 = 11 by decide +kernel) rfl ?_
  refine Ev_aload_n dX10_init_89 rfl (by first | exact Or.inr ⟨_, rfl⟩ | exact rv_or _ | exact Or.inl rfl) ?_
  refine Ev.wide (mc' := 3 + 1) (ms' := 11 + fn 4) (by omega) (by first | omega | decide) ?_
  refine Ev_new dX10_init_90 nX10_42 ?_
  refine Ev_top (y := .ref 24) (congrArg Value.ref (show hN z18 + 3 = 24 by decide +kernel)) ?_
  refine Ev_dup dX10_init_93 (by first | rfl | exact okv_rv _) ?_
  refine Ev_aload_n dX10_init_94 rfl (by first | exact Or.inr ⟨_, rfl⟩ | exact rv_or _ | exact Or.inl rfl) ?_
  refine Ev_getA dX10_init_95 fX10_25 (show hK z19 3 = 11 by decide +kernel) (show hR z19 706 3 = some 12 by decide +kernel) ?_
  refine Ev_aload_n dX10_init_98 rfl (by first | exact Or.inr ⟨_, rfl⟩ | exact rv_or _ | exact Or.inl rfl) ?_
  refine Ev_getA dX10_init_99 fX10_39 (show hK z19 3 = 11 by decide +kernel) (show hR z19 711 3 = some 21 by decide +kernel) ?_
  refine Ev_Ig (mc2 := 2) (ms2 := 5) [.ref 12, .ref 21] dX10_init_102 iX3_init kX10_44 rfl rfl rfl (Nat.le_of_ble_eq_true rfl) (by omega) (by omega) (by omega) (ec_makingInit l G 24 12 21 z19 (by decide +kernel) (by decide +kernel)) (fun v_ h1_ e_ => ?_)
  obtain ⟨rfl, rfl⟩ := e_
  refine Ev_putR (x := some 24) dX10_init_105 fX10_47 ⟨_, rfl, Or.inr ⟨rfl, rfl⟩⟩ (show hK z20 3 = 11 by decide +kernel) rfl ?_
  refine Ev_aload_n dX10_init_108 rfl (by first | exact Or.inr ⟨_, rfl⟩ | exact rv_or _ | exact Or.inl rfl) ?_
  refine Ev.wide (mc' := 1 + 1) (ms' := 3 + fn 3) (by omega) (by first | omega | decide) ?_
  refine Ev_new dX10_init_109 nX10_51 ?_
  refine Ev_top (y := .ref 26) (congrArg Value.ref (show hN z21 + 3 = 26 by decide +kernel)) ?_
  refine Ev_dup dX10_init_112 (by first | rfl | exact okv_rv _) ?_
  refine Ev_INg (mc2 := 0) (ms2 := 0) [] dX10_init_113 iX2_init kX10_53 rfl rfl rfl (Nat.le_of_ble_eq_true rfl) (by omega) (by omega) (by omega) (ec_lonesInit l G 26 z22 (by decide +kernel) (by decide +kernel)) (fun v_ h1_ e_ => ?_)
  obtain ⟨rfl, rfl⟩ := e_
  refine Ev_putR (x := some 26) dX10_init_116 fX10_54 ⟨_, rfl, Or.inr ⟨rfl, rfl⟩⟩ (show hK z23 3 = 11 by decide +kernel) rfl ?_
  refine Ev_aload_n dX10_init_119 rfl (by first | exact Or.inr ⟨_, rfl⟩ | exact rv_or _ | exact Or.inl rfl) ?_
  refine Ev_null dX10_init_120 ?_
  refine Ev_putR (x := none) dX10_init_121 fX10_58 ⟨_, rfl, Or.inl rfl⟩ (show hK z24 3 = 11 by decide +kernel) rfl ?_
  refine Ev_vret dX10_init_124 rfl ?_
  exact ⟨rfl, rfl⟩
