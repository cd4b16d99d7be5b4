/-! frames by cells -/
def Sm (b : Nat) (h h' : aH) : Prop := hX h' b = hX h b ∧ hY h' b = hY h b ∧ ∀ k, hI h' k b = hI h k b ∧ hR h' k b = hR h k b
theorem Sm.rf {b : Nat} {h : aH} : Sm b h h := ⟨rfl, rfl, fun _ => ⟨rfl, rfl⟩⟩
theorem Sm.tr {b : Nat} {h h1 h2 : aH} (x : Sm b h h1) (y : Sm b h1 h2) : Sm b h h2 := ⟨y.1.trans x.1, y.2.1.trans x.2.1, fun k => ⟨(y.2.2 k).1.trans (x.2.2 k).1, (y.2.2 k).2.trans (x.2.2 k).2⟩⟩
/-- of the old cells only those that C names have changed, and none its kind or length -/
def FO (C : Nat → Prop) (h h' : aH) : Prop := hN h ≤ hN h' ∧ ∀ b, b < hN h + 3 → hK h' b = hK h b ∧ hL h' b = hL h b ∧ (¬ C b → Sm b h h')
theorem FO.rf {C : Nat → Prop} {h : aH} : FO C h h := ⟨Nat.le_refl _, fun _ _ => ⟨rfl, rfl, fun _ => Sm.rf⟩⟩
theorem FO.tr {C : Nat → Prop} {h h1 h2 : aH} (x : FO C h h1) (y : FO C h1 h2) : FO C h h2 := by
  refine ⟨Nat.le_trans x.1 y.1, fun b hb => ?_⟩
  have a := x.2 b hb
  have c := y.2 b (by have := x.1; omega)
  exact ⟨c.1.trans a.1, c.2.1.trans a.2.1, fun q => (a.2.2 q).tr (c.2.2 q)⟩
theorem FO.mo {C C' : Nat → Prop} {h h1 : aH} (x : FO C h h1) (m : ∀ b, b < hN h + 3 → C b → C' b) : FO C' h h1 := ⟨x.1, fun b hb => ⟨(x.2 b hb).1, (x.2 b hb).2.1, fun q => (x.2 b hb).2.2 (fun z => q (m b hb z))⟩⟩
theorem FO.sI {C : Nat → Prop} {h : aH} {k a : Nat} {v : Int32} (c : C a) : FO C h (sI h k a v) :=
  ⟨Nat.le_refl _, fun b _ => ⟨rfl, rfl, fun q => ⟨rfl, rfl, fun k' => ⟨up2_n _ _ (fun e => q (e ▸ c)), rfl⟩⟩⟩⟩
theorem FO.sR {C : Nat → Prop} {h : aH} {k a : Nat} {v : Option Nat} (c : C a) : FO C h (sR h k a v) :=
  ⟨Nat.le_refl _, fun b _ => ⟨rfl, rfl, fun q => ⟨rfl, rfl, fun k' => ⟨rfl, up2_n _ _ (fun e => q (e ▸ c))⟩⟩⟩⟩
theorem FO.sX {C : Nat → Prop} {h : aH} {a j : Nat} {v : Int32} (c : C a) : FO C h (sX h a j v) :=
  ⟨Nat.le_refl _, fun b _ => ⟨rfl, rfl, fun q => ⟨by funext i; exact up2_k _ _ (fun e => q (e ▸ c)), rfl, fun k' => ⟨rfl, rfl⟩⟩⟩⟩
theorem FO.sY {C : Nat → Prop} {h : aH} {a j : Nat} {v : Option Nat} (c : C a) : FO C h (sY h a j v) :=
  ⟨Nat.le_refl _, fun b _ => ⟨rfl, rfl, fun q => ⟨rfl, by funext i; exact up2_k _ _ (fun e => q (e ▸ c)), fun k' => ⟨rfl, rfl⟩⟩⟩⟩
theorem FO.sXs {C : Nat → Prop} {h : aH} {a : Nat} {f : Nat → Int32} (c : C a) : FO C h (sXs h a f) :=
  ⟨Nat.le_refl _, fun b _ => ⟨rfl, rfl, fun q => ⟨up1_n _ _ (fun e => q (e ▸ c)), rfl, fun k' => ⟨rfl, rfl⟩⟩⟩⟩
theorem FO.sYs {C : Nat → Prop} {h : aH} {a : Nat} {f : Nat → Option Nat} (c : C a) : FO C h (sYs h a f) :=
  ⟨Nat.le_refl _, fun b _ => ⟨rfl, rfl, fun q => ⟨rfl, up1_n _ _ (fun e => q (e ▸ c)), fun k' => ⟨rfl, rfl⟩⟩⟩⟩
theorem FO.nO {C : Nat → Prop} {h : aH} {ci : Nat} : FO C h (nO h ci) :=
  ⟨Nat.le_succ _, fun b hb => ⟨up1_n _ _ (by omega), rfl, fun _ => ⟨rfl, rfl, fun k => ⟨if_neg (by omega), if_neg (by omega)⟩⟩⟩⟩
theorem FO.nA {C : Nat → Prop} {h : aH} {kd n : Nat} : FO C h (nA h kd n) :=
  ⟨Nat.le_succ _, fun b hb => ⟨up1_n _ _ (by omega), up1_n _ _ (by omega), fun _ => ⟨up1_n _ _ (by omega), up1_n _ _ (by omega), fun k => ⟨rfl, rfl⟩⟩⟩⟩
theorem FO.k {C : Nat → Prop} {h h' : aH} (f : FO C h h') (hv : Hv h) {b n : Nat} (e : hK h b = n) (hn : n ≠ 99) : hK h' b = n := (f.2 b (hv b (by rw [e]; exact hn)).2).1.trans e
theorem FO.s {C : Nat → Prop} {h h' : aH} (f : FO C h h') (hv : Hv h) {b n : Nat} (e : hK h b = n) (hn : n ≠ 99) (hc : ¬ C b) : Sm b h h' := (f.2 b (hv b (by rw [e]; exact hn)).2).2.2 hc
theorem FO.l {C : Nat → Prop} {h h' : aH} (f : FO C h h') (hv : Hv h) {b n : Nat} (e : hK h b = n) (hn : n ≠ 99) : hL h' b = hL h b := (f.2 b (hv b (by rw [e]; exact hn)).2).2.1
/-! the JDK's list, with what it leaves as it was -/
def LsC (a : Nat) (h : aH) (b : Nat) : Prop := b = a ∨ hR h 1 a = some b
theorem gI_R (h : aH) (k a : Nat) (v : Option Nat) (k' b : Nat) : hI (sR h k a v) k' b = hI h k' b := rfl
theorem gI_Y (h : aH) (a j : Nat) (v : Option Nat) (k b : Nat) : hI (sY h a j v) k b = hI h k b := rfl
theorem gR_I (h : aH) (k a : Nat) (v : Int32) (k' b : Nat) : hR (sI h k a v) k' b = hR h k' b := rfl
theorem gR_X (h : aH) (a j : Nat) (v : Int32) (k b : Nat) : hR (sX h a j v) k b = hR h k b := rfl
theorem gR_Y (h : aH) (a j : Nat) (v : Option Nat) (k b : Nat) : hR (sY h a j v) k b = hR h k b := rfl
theorem gX_R (h : aH) (k a : Nat) (v : Option Nat) (r i : Nat) : hX (sR h k a v) r i = hX h r i := rfl
theorem gX_Y (h : aH) (a j : Nat) (v : Option Nat) (r i : Nat) : hX (sY h a j v) r i = hX h r i := rfl
theorem gY_I (h : aH) (k a : Nat) (v : Int32) (r i : Nat) : hY (sI h k a v) r i = hY h r i := rfl
theorem gY_R (h : aH) (k a : Nat) (v : Option Nat) (r i : Nat) : hY (sR h k a v) r i = hY h r i := rfl
theorem gY_X (h : aH) (a j : Nat) (v : Int32) (r i : Nat) : hY (sX h a j v) r i = hY h r i := rfl
theorem hR_s (h : aH) (k a : Nat) (v : Option Nat) : hR (sR h k a v) k a = v := up2_s _ _ _ _
theorem hR_o (h : aH) {k k' a b : Nat} (v : Option Nat) (e : k' ≠ k) : hR (sR h k a v) k' b = hR h k' b := up2_k _ _ e
theorem hR_a (h : aH) {k k' a b : Nat} (v : Option Nat) (e : b ≠ a) : hR (sR h k a v) k' b = hR h k' b := up2_n _ _ e
theorem hY_s (h : aH) (a j : Nat) (v : Option Nat) : hY (sY h a j v) a j = v := up2_s _ _ _ _
theorem hY_n (h : aH) {a j i : Nat} (v : Option Nat) (e : i ≠ j) : hY (sY h a j v) a i = hY h a i := up2_n _ _ e
theorem hY_o (h : aH) {a j r i : Nat} (v : Option Nat) (e : r ≠ a) : hY (sY h a j v) r i = hY h r i := up2_k _ _ e
def GR (a : Nat) (xs : List Nat) (h h' : aH) : Prop := hN h' = hN h + 1 ∧ hK h' (hN h + 3) = 15 ∧ xs.length < hL h' (hN h + 3) ∧ hL h' (hN h + 3) ≤ 100 ∧ (∀ i x, xs[i]? = some x → hY h' (hN h + 3) i = some x) ∧ hR h' 1 a = some (hN h + 3) ∧ FO (fun b => b = a) h h' ∧ ∀ k, hI h' k a = hI h k a
theorem ej_newLength (l : Launch) (G : aG) (n g : Nat) (hn : n ≤ 40) (h0 : 0 < n) (hg : g ≤ 40) (h : aH) : Ev l G 1 0 0 mJ8_newLength_cabcc 0 (en 4 [.int (nI n), .int (nI 1), .int (nI g)]) [] h (Ex (some (.int (nI (n + max 1 g)))) h) := by
  refine Ev_iload_n dJ8_newLength_cabcc_0 rfl ?_
  refine Ev_iload_n dJ8_newLength_cabcc_1 rfl ?_
  refine Ev_iload_n dJ8_newLength_cabcc_2 rfl ?_
  refine Ev_mmax dJ8_newLength_cabcc_3 (by omega) rfl (Nat.le_of_ble_eq_true rfl) kJ8_194 ?_
  rw [show (if nI 1 < nI g then nI g else nI 1) = nI (max 1 g) by
    by_cases z : 1 < g
    · rw [if_pos (nI_lt z (by omega)), Nat.max_eq_right (by omega)]
    · rw [if_neg (nI_nlt (by omega) (by omega)), Nat.max_eq_left (by omega)]]
  refine Ev_iaddN dJ8_newLength_cabcc_6 ?_
  refine Ev_istore_n dJ8_newLength_cabcc_7 (by decide) ?_
  refine Ev_iconst (v := nI 0) dJ8_newLength_cabcc_8 (by decide) ?_
  refine Ev_iload_n dJ8_newLength_cabcc_9 rfl ?_
  refine Ev_icmp_geN 21 dJ8_newLength_cabcc_10 (by decide) (by omega) (by omega) (fun zb10_ => ?_) (fun zb10_ => ?_)
  · exact False.elim (by omega)
  · refine Ev_iload_n dJ8_newLength_cabcc_13 rfl ?_
    refine Ev_ldc (v := 2147483639) dJ8_newLength_cabcc_14 cJ8_200 ?_
    refine Ev_top (y := .int (nI 2147483639)) (by decide) ?_
    refine Ev_icmp_gtN 21 dJ8_newLength_cabcc_16 (by decide) (by omega) (by omega) (fun zb16_ => ?_) (fun zb16_ => ?_)
    · exact False.elim (by omega)
    · refine Ev_iload_n dJ8_newLength_cabcc_19 rfl ?_
      refine Ev_iret dJ8_newLength_cabcc_20 rfl ?_
      exact ⟨rfl, rfl⟩
theorem ej_grow1 (l : Launch) (G : aG) (a : Nat) (xs : List Nat) (ci : Nat) (h : aH) (al_ : AL a xs ci h) (hci : lkd ci) (h40 : xs.length < 40) (hf : ∀ e, hR h 1 a = some e → e = 1 ∨ (hL h e = xs.length ∧ 0 < xs.length)) : Ev l G 3 1 60 mJx4a65c_grow_92f84 0 (en 4 [.ref a, .int (nI (xs.length + 1))]) [] h (fun v h' => v = some (.ref (hN h + 3)) ∧ GR a xs h h') := by
  refine Ev_hv (fun hv => ?_)
  have ha_ := hv a (by rw [al_.1]; decide)
  have hk2_ : hK (nA h 15 10) a = 0 := (up1_n _ _ (by omega)).trans al_.1
  obtain ⟨e, he_, ⟨rfl, rfl⟩ | ⟨hk_, h66_, hl_, hl2_, hy_⟩⟩ := al_.2.2.2.2
  · skip
    refine Ev_aload_n dJx4a65c_grow_92f84_0 rfl (by first | exact Or.inr ⟨_, rfl⟩ | exact rv_or _ | exact Or.inl rfl) ?_
    refine Ev_getA dJx4a65c_grow_92f84_1 fJx4a65c_9 al_.1 he_ ?_
    refine Ev_elen dJx4a65c_grow_92f84_4 ?_
    refine Ev_istore_n dJx4a65c_grow_92f84_5 (by decide) ?_
    refine Ev_iload_n dJx4a65c_grow_92f84_6 rfl ?_
    refine Ev_if_gtT 20 dJx4a65c_grow_92f84_7 (by decide) (fun zb7_ => ?_) (fun zb7_ => ?_)
    · exact absurd zb7_ (by decide)
    · refine Ev_aload_n dJx4a65c_grow_92f84_10 rfl (by first | exact Or.inr ⟨_, rfl⟩ | exact rv_or _ | exact Or.inl rfl) ?_
      refine Ev_getA dJx4a65c_grow_92f84_11 fJx4a65c_9 al_.1 he_ ?_
      refine Ev_gets dJx4a65c_grow_92f84_14 fJx4a65c_39 ?_
      refine Ev_acmp_eqS 45 dJx4a65c_grow_92f84_17 (by decide) ?_
      refine Ev_aload_n dJx4a65c_grow_92f84_45 rfl (by first | exact Or.inr ⟨_, rfl⟩ | exact rv_or _ | exact Or.inl rfl) ?_
      refine Ev_bipush (v := nI 10) dJx4a65c_grow_92f84_46 (by decide) ?_
      refine Ev_iload_n dJx4a65c_grow_92f84_48 rfl ?_
      refine Ev_mmax dJx4a65c_grow_92f84_49 (by omega) rfl (Nat.le_of_ble_eq_true rfl) kJx4a65c_79 ?_
      refine Ev_top (y := .int (nI 10)) (congrArg Value.int (by decide)) ?_
      refine Ev.wide (mc' := 0 + 1) (ms' := 50 + 10) (by omega) (by omega) ?_
      refine Ev_newq (kd := 15) 10 dJx4a65c_grow_92f84_52 rfl (by omega) (by omega) qJx4a65c_7 ao_java_lang_Object (by decide) (by omega) ?_
      refine Ev_dup_x1 dJx4a65c_grow_92f84_55 (by first | rfl | exact okv_rv _) (by first | rfl | exact okv_rv _) ?_
      refine Ev_putR (x := some (hN h + 3)) dJx4a65c_grow_92f84_56 fJx4a65c_9 ⟨_, rfl, Or.inl rfl⟩ hk2_ rfl ?_
      refine Ev_aret dJx4a65c_grow_92f84_59 rfl (Or.inr ⟨_, rfl⟩) (by first | exact Or.inr ⟨_, rfl⟩ | exact rv_or _ | exact Or.inl rfl) ?_
      refine ⟨rfl, rfl, up1_s _ _ _, ?_, ?_, fun i x hx => by simp at hx, hR_s _ _ _ _, FO.nA.tr (FO.sR rfl), fun k => rfl⟩
      · show 0 < up1 (hL h) (hN h + 3) 10 (hN h + 3)
        rw [up1_s]; omega
      · show up1 (hL h) (hN h + 3) 10 (hN h + 3) ≤ 100
        rw [up1_s]; omega
  · have hL_ := (hf e he_).resolve_left (by omega)
    have h0_ := hL_.2
    have hL_ := hL_.1
    refine Ev_aload_n dJx4a65c_grow_92f84_0 rfl (by first | exact Or.inr ⟨_, rfl⟩ | exact rv_or _ | exact Or.inl rfl) ?_
    refine Ev_getA dJx4a65c_grow_92f84_1 fJx4a65c_9 al_.1 he_ ?_
    refine Ev_alen dJx4a65c_grow_92f84_4 hk_ (by omega) (by omega) ?_
    rw [hL_]
    refine Ev_istore_n dJx4a65c_grow_92f84_5 (by decide) ?_
    refine Ev_iload_n dJx4a65c_grow_92f84_6 rfl ?_
    refine Ev_if_gtT 20 dJx4a65c_grow_92f84_7 (by decide) (fun zb7_ => ?_) (fun zb7_ => ?_)
    · refine Ev_iload_n dJx4a65c_grow_92f84_20 rfl ?_
      refine Ev_iload_n dJx4a65c_grow_92f84_21 rfl ?_
      refine Ev_iload_n dJx4a65c_grow_92f84_22 rfl ?_
      refine Ev_isubN dJx4a65c_grow_92f84_23 (by omega) ?_
      refine Ev_top (y := .int (nI 1)) (by rw [Nat.add_sub_cancel_left]) ?_
      refine Ev_iload_n dJx4a65c_grow_92f84_24 rfl ?_
      refine Ev_iconst (v := nI 1) dJx4a65c_grow_92f84_25 (by decide) ?_
      refine Ev_ishr dJx4a65c_grow_92f84_26 ?_
      refine Ev_top (y := .int (nI (xs.length / 2))) (by rw [pk_shrN (by omega) _ 1 (by decide), Nat.pow_one]) ?_
      refine Ev_S0 [.int (nI xs.length), .int (nI 1), .int (nI (xs.length / 2))] dJx4a65c_grow_92f84_27 sJ8_newLength_cabcc kJx4a65c_73 rfl rfl rfl (Nat.le_of_ble_eq_true rfl) (by omega) (ej_newLength l G xs.length (xs.length / 2) (by omega) (by omega) (by omega) h) ?_
      refine Ev_istore_n dJx4a65c_grow_92f84_30 (by decide) ?_
      refine Ev_aload_n dJx4a65c_grow_92f84_31 rfl (by first | exact Or.inr ⟨_, rfl⟩ | exact rv_or _ | exact Or.inl rfl) ?_
      refine Ev_aload_n dJx4a65c_grow_92f84_32 rfl (by first | exact Or.inr ⟨_, rfl⟩ | exact rv_or _ | exact Or.inl rfl) ?_
      refine Ev_getA dJx4a65c_grow_92f84_33 fJx4a65c_9 al_.1 he_ ?_
      refine Ev_iload_n dJx4a65c_grow_92f84_36 rfl ?_
      refine Ev_Sg (mc2 := 0) (ms2 := 0) [.ref e, .int (nI (xs.length + max 1 (xs.length / 2)))] dJx4a65c_grow_92f84_37 sJ7_copyOf_1904c kJx4a65c_66 rfl rfl rfl (Nat.le_of_ble_eq_true rfl) (by omega) (by omega) (by omega) (ej_copy2 l G e (xs.length + max 1 (xs.length / 2)) xs.length ci h hk_ hL_ (by omega) (by omega) hci (fun i y hi hy => ?_)) (fun v_ h1 e_ => ?_)
      · obtain ⟨x, hx⟩ : ∃ x : Nat, xs[i]? = some x := ⟨_, List.getElem?_eq_getElem hi⟩
        rw [hy_ i x hx] at hy
        rw [← Option.some.inj hy]
        exact al_.2.2.2.1 x (List.mem_of_getElem? hx)
      obtain ⟨rfl, rfl⟩ := e_
      refine Ev_dup_x1 dJx4a65c_grow_92f84_40 (by first | rfl | exact okv_rv _) (by first | rfl | exact okv_rv _) ?_
      have hkC_ : hK (hCp h e (xs.length + max 1 (xs.length / 2)) xs.length) a = 0 := (up1_n _ _ (by omega)).trans al_.1
      refine Ev_putR (x := some (hN h + 3)) dJx4a65c_grow_92f84_41 fJx4a65c_9 ⟨_, rfl, Or.inl rfl⟩ hkC_ rfl ?_
      refine Ev_aret dJx4a65c_grow_92f84_44 rfl (Or.inr ⟨_, rfl⟩) (by first | exact Or.inr ⟨_, rfl⟩ | exact rv_or _ | exact Or.inl rfl) ?_
      refine ⟨rfl, rfl, up1_s _ _ _, ?_, ?_, fun i x hx => ?_, hR_s _ _ _ _, (FO.nA (C := fun b => b = a ∨ b = hN h + 3)).tr ((FO.sYs (Or.inr rfl)).tr (FO.sR (Or.inl rfl))) |>.mo (fun b hb z => z.elim id (fun z => by omega)), fun k => rfl⟩
      · show xs.length < up1 (hL h) (hN h + 3) (xs.length + max 1 (xs.length / 2)) (hN h + 3)
        rw [up1_s]; omega
      · show up1 (hL h) (hN h + 3) (xs.length + max 1 (xs.length / 2)) (hN h + 3) ≤ 100
        rw [up1_s]; omega
      · have hi := (List.getElem?_eq_some_iff.mp hx).1
        show up1 (up1 (hY h) (hN h + 3) (fun _ => none)) (hN h + 3) (va_cpy (hY h e) (fun _ => none) 0 0 xs.length) (hN h + 3) i = some x
        rw [up1_s, pk_cpy_in (by omega) (by omega), Nat.zero_add, Nat.sub_zero]
        exact hy_ i x hx
    · exact absurd (show (0 : Int) < (nI xs.length).toInt by rw [hi_n (by omega)]; omega) zb7_
theorem ej_grow (l : Launch) (G : aG) (a : Nat) (xs : List Nat) (ci : Nat) (h : aH) (al_ : AL a xs ci h) (hci : lkd ci) (h40 : xs.length < 40) (hf : ∀ e, hR h 1 a = some e → e = 1 ∨ (hL h e = xs.length ∧ 0 < xs.length)) : Ev l G 4 1 60 mJx4a65c_grow_d5877 0 (en 1 [.ref a]) [] h (fun v h' => v = some (.ref (hN h + 3)) ∧ GR a xs h h') := by
  refine Ev_aload_n dJx4a65c_grow_d5877_0 rfl (by first | exact Or.inr ⟨_, rfl⟩ | exact rv_or _ | exact Or.inl rfl) ?_
  refine Ev_aload_n dJx4a65c_grow_d5877_1 rfl (by first | exact Or.inr ⟨_, rfl⟩ | exact rv_or _ | exact Or.inl rfl) ?_
  refine Ev_getE dJx4a65c_grow_d5877_2 fJx4a65c_48 al_.1 al_.2.1 ?_
  refine Ev_iconst (v := nI 1) dJx4a65c_grow_d5877_5 (by decide) ?_
  refine Ev_iaddN dJx4a65c_grow_d5877_6 ?_
  refine Ev_Vg (mc2 := 0) (ms2 := 0) [.int (nI (xs.length + 1))] dJx4a65c_grow_d5877_7 vJx4a65c_grow_92f84 kJx4a65c_69 al_.1 rfl rfl rfl (Nat.le_of_ble_eq_true rfl) (by omega) (by omega) (by omega) (ej_grow1 l G a xs ci h al_ hci h40 hf) (fun v_ h1 e_ => ?_)
  obtain ⟨rfl, gr_⟩ := e_
  refine Ev_aret dJx4a65c_grow_d5877_10 rfl (Or.inr ⟨_, rfl⟩) (by first | exact Or.inr ⟨_, rfl⟩ | exact rv_or _ | exact Or.inl rfl) ?_
  exact ⟨rfl, gr_⟩
