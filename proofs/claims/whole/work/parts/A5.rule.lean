theorem ec_readItems (l : Launch) (G : aG) (r b s f e_ : Nat) (bs : List Int32) (h : aH) (rx : RdX r b s f e_ bs h) (ri : RdI r s f e_ bs [] false (nI 0, -1) h) : Ev l G 5 0 0 mX6_readItems 0 (en 3 [.ref r]) [] h (fun x h' => x = none ∧ RiP r b s f e_ bs h h') := by
  have b120_ := rx.2.2.2.2
  refine Ev_iconst (v := nI 0) dX6_readItems_0 (by decide) ?_
  refine Ev_istore_n dX6_readItems_1 (by decide) ?_
  refine Ev_iconst (v := nI 0) dX6_readItems_2 (by decide) ?_
  refine Ev_istore_n dX6_readItems_3 (by decide) ?_
  exact ec_readItems_l l G r b s f e_ bs h (bs.length + 1) [] 0 false h (by omega) (Nat.le_refl _) (Nat.zero_le _) rx ri FO.rf 120 (by omega) rfl
def nR (h : aH) (k r N q : Nat) : aH := sR (nA h 13 N) k r (some q)
theorem nR_f {h : aH} {k r N q : Nat} (hq : q = hN h + 3) : hN (nR h k r N q) = hN h + 1 ∧ FO (fun c => c = r) h (nR h k r N q) ∧ (hK (nR h k r N q) q = 13 ∧ hL (nR h k r N q) q = N) ∧ hR (nR h k r N q) k r = some q ∧ (∀ k', k' ≠ k → hR (nR h k r N q) k' r = hR h k' r) ∧ ∀ k', hI (nR h k r N q) k' = hI h k' := by
  subst hq
  exact ⟨rfl, FO.nA.tr (FO.sR rfl), ⟨up1_s _ _ _, up1_s _ _ _⟩, up2_s _ _ _ _, fun k' e => up2_k _ _ e, fun _ => rfl⟩
def rIn (h : aH) (r b N : Nat) : aH := nR (nR (nR (sR (sI h 454 r (-1)) 448 r (some b)) 449 r N (hN h + 3)) 450 r N (hN h + 4)) 451 r N (hN h + 5)
/-- a rule as it is made -/
theorem rIn_f {h : aH} {r b : Nat} {bs : List Int32} (hr : r < hN h + 3) (hb : b < hN h + 3) (kr : hK h r = 7) (kb : hK h b = 13) (lb : hL h b = bs.length) (xb : ∀ k, k < bs.length → hX h b k = bs.getD k 0) (l120 : bs.length ≤ 120) (i2 : hI h 452 r = nI 0) (i3 : hI h 453 r = nI 0) (i5 : hI h 455 r = nI 0) : hN (rIn h r b (min bs.length 20)) = hN h + 3 ∧ FO (fun c => c = r) h (rIn h r b (min bs.length 20)) ∧ RdX r b (hN h + 3) (hN h + 4) (hN h + 5) bs (rIn h r b (min bs.length 20)) ∧ RdI r (hN h + 3) (hN h + 4) (hN h + 5) bs [] false (nI 0, -1) (rIn h r b (min bs.length 20)) := by
  have hbr : b ≠ r := fun z => by rw [z, kr] at kb; omega
  have f1 : FO (fun c => c = r) h (sR (sI h 454 r (-1)) 448 r (some b)) := (FO.sI (C := fun c => c = r) rfl).tr (FO.sR rfl)
  have n1 : hN (sR (sI h 454 r (-1)) 448 r (some b)) = hN h := rfl
  have r1 : hR (sR (sI h 454 r (-1)) 448 r (some b)) 448 r = some b := hR_s _ _ _ _
  have i1 : ∀ k, k ≠ 454 → hI (sR (sI h 454 r (-1)) 448 r (some b)) k r = hI h k r := fun k e => (gI_R _ _ _ _ _ _).trans (hI_o _ _ e)
  have i4 : hI (sR (sI h 454 r (-1)) 448 r (some b)) 454 r = -1 := (gI_R _ _ _ _ _ _).trans (hI_s _ _ _ _)
  unfold rIn
  generalize sR (sI h 454 r (-1)) 448 r (some b) = h1 at *
  have f2 := nR_f (h := h1) (k := 449) (r := r) (N := min bs.length 20) (q := hN h + 3) (by omega)
  generalize nR h1 449 r (min bs.length 20) (hN h + 3) = h2 at *
  have f3 := nR_f (h := h2) (k := 450) (r := r) (N := min bs.length 20) (q := hN h + 4) (by omega)
  generalize nR h2 450 r (min bs.length 20) (hN h + 4) = h3 at *
  have f4 := nR_f (h := h3) (k := 451) (r := r) (N := min bs.length 20) (q := hN h + 5) (by omega)
  generalize nR h3 451 r (min bs.length 20) (hN h + 5) = h4 at *
  obtain ⟨a1, a2, a3, a4, a5, a6⟩ := f2
  obtain ⟨b1, b2, b3, b4, b5, b6⟩ := f3
  obtain ⟨c1, c2, c3, c4, c5, c6⟩ := f4
  have fo := ((f1.tr a2).tr b2).tr c2
  have fb := fo.2 b hb
  have x3 := b2.2 (hN h + 3) (by omega)
  have x3' := c2.2 (hN h + 3) (by omega)
  have x4 := c2.2 (hN h + 4) (by omega)
  have ii : ∀ k, k ≠ 454 → hI h4 k r = hI h k r := fun k e => by rw [c6, b6, a6]; exact i1 k e
  refine ⟨by omega, fo, ⟨⟨(fo.2 r hr).1.trans kr, ?_, ?_, ?_, c4⟩, ⟨fb.1.trans kb, fb.2.1.trans lb, fun k hk => (congrFun (fb.2.2 hbr).1 k).trans (xb k hk)⟩, ⟨⟨x3'.1.trans (x3.1.trans a3.1), x3'.2.1.trans (x3.2.1.trans a3.2)⟩, ⟨x4.1.trans b3.1, x4.2.1.trans b3.2⟩, c3⟩, ⟨by omega, by omega, by omega, by omega, by omega, by omega⟩, l120⟩, ⟨(ii 452 (by decide)).trans i2, Nat.zero_le _, (ii 453 (by decide)).trans i3, by rw [c6, b6, a6]; exact i4, (ii 455 (by decide)).trans (i5.trans rfl), fun i it hi => by cases hi⟩⟩
  · rw [c5 _ (by decide), b5 _ (by decide), a5 _ (by decide)]; exact r1
  · rw [c5 _ (by decide), b5 _ (by decide)]; exact a4
  · rw [c5 _ (by decide)]; exact b4
theorem mm_n {n : Nat} (h : n ≤ 120) : (if nI 20 < nI n then nI 20 else nI n) = nI (min n 20) := by
  by_cases z : nI 20 < nI n
  · have q := Int32.lt_iff_toInt_lt.mp z
    rw [hi_n (by omega), hi_n (by omega)] at q
    rw [if_pos z, Nat.min_eq_right (by omega)]
  · have q : ¬ (nI 20).toInt < (nI n).toInt := fun y => z (Int32.lt_iff_toInt_lt.mpr y)
    rw [hi_n (by omega), hi_n (by omega)] at q
    rw [if_neg z, Nat.min_eq_left (by omega)]
theorem ec_ruleInit (l : Launch) (G : aG) (r b : Nat) (bs : List Int32) (h : aH) (kr : hK h r = 7) (kb : hK h b = 13) (lb : hL h b = bs.length) (xb : ∀ k, k < bs.length → hX h b k = bs.getD k 0) (l120 : bs.length ≤ 120) (i2 : hI h 452 r = nI 0) (i3 : hI h 453 r = nI 0) (i5 : hI h 455 r = nI 0) : Ev l G 1 3 60 mX6_init 0 (en 3 [.ref r, .ref b]) [] h (fun x h' => x = none ∧ hN h' = hN h + 3 ∧ FO (fun c => c = r) h h' ∧ RdX r b (hN h + 3) (hN h + 4) (hN h + 5) bs h' ∧ RdI r (hN h + 3) (hN h + 4) (hN h + 5) bs [] false (nI 0, -1) h') := by
  refine Ev_hv (fun hv => ?_)
  have hr_ := (hv r (by rw [kr]; decide)).2
  have hb_ := (hv b (by rw [kb]; decide)).2
  have k1_ : hK (nA (sR (sI h 454 r (-1)) 448 r (some b)) 13 (min bs.length 20)) r = 7 := (up1_n _ _ (by show r ≠ hN h + 3; omega)).trans kr
  have k2_ : hK (nA (sR (nA (sR (sI h 454 r (-1)) 448 r (some b)) 13 (min bs.length 20)) 449 r (some (hN h + 3))) 13 (min bs.length 20)) r = 7 := (up1_n _ _ (by show r ≠ hN h + 1 + 3; omega)).trans k1_
  have k3_ : hK (nA (sR (nA (sR (nA (sR (sI h 454 r (-1)) 448 r (some b)) 13 (min bs.length 20)) 449 r (some (hN h + 3))) 13 (min bs.length 20)) 450 r (some (hN h + 4))) 13 (min bs.length 20)) r = 7 := (up1_n _ _ (by show r ≠ hN h + 1 + 1 + 3; omega)).trans k2_
  refine Ev_aload_n dX6_init_0 rfl (Or.inr ⟨_, rfl⟩) ?_
  refine Ev_objI dX6_init_1 (by omega) rfl (Nat.le_of_ble_eq_true rfl) kX6_3 ob_1 ob_2 ?_
  refine Ev_aload_n dX6_init_4 rfl (by first | exact Or.inr ⟨_, rfl⟩ | exact rv_or _ | exact Or.inl rfl) ?_
  refine Ev_iconst (v := -1) dX6_init_5 (by decide) ?_
  refine Ev_putI dX6_init_6 fX6_9 ⟨_, rfl, Or.inl rfl⟩ (Or.inl rfl) kr ?_
  refine Ev_aload_n dX6_init_9 rfl (by first | exact Or.inr ⟨_, rfl⟩ | exact rv_or _ | exact Or.inl rfl) ?_
  refine Ev_alen dX6_init_10 kb (by omega) (by omega) ?_
  rw [show hL (sI h 454 r (-1)) b = bs.length from lb]
  refine Ev_bipush (v := nI 20) dX6_init_11 (by decide) ?_
  refine Ev_mmin dX6_init_13 (by omega) rfl (Nat.le_of_ble_eq_true rfl) kX6_15 ?_
  refine Ev_top (y := .int (nI (min bs.length 20))) (congrArg Value.int (mm_n l120)) ?_
  refine Ev_istore_n dX6_init_16 (by decide) ?_
  refine Ev_aload_n dX6_init_17 rfl (by first | exact Or.inr ⟨_, rfl⟩ | exact rv_or _ | exact Or.inl rfl) ?_
  refine Ev_aload_n dX6_init_18 rfl (by first | exact Or.inr ⟨_, rfl⟩ | exact rv_or _ | exact Or.inl rfl) ?_
  refine Ev_putR (x := some b) dX6_init_19 fX6_21 ⟨_, rfl, Or.inr ⟨rfl, rfl⟩⟩ kr rfl ?_
  refine Ev_aload_n dX6_init_22 rfl (by first | exact Or.inr ⟨_, rfl⟩ | exact rv_or _ | exact Or.inl rfl) ?_
  refine Ev_iload_n dX6_init_23 rfl ?_
  refine Ev.wide (mc' := 2 + 1) (ms' := 40 + min bs.length 20) (by omega) (by omega) ?_
  refine Ev_newa (kd := 13) (min bs.length 20) dX6_init_24 rfl (Or.inl rfl) ai_1 (hi_n (by omega)) (by omega) ?_
  refine Ev_putR (x := some (hN h + 3)) dX6_init_26 fX6_25 ⟨_, rfl, Or.inr ⟨rfl, rfl⟩⟩ k1_ rfl ?_
  refine Ev_aload_n dX6_init_29 rfl (by first | exact Or.inr ⟨_, rfl⟩ | exact rv_or _ | exact Or.inl rfl) ?_
  refine Ev_iload_n dX6_init_30 rfl ?_
  refine Ev.wide (mc' := 1 + 1) (ms' := 20 + min bs.length 20) (by omega) (by omega) ?_
  refine Ev_newa (kd := 13) (min bs.length 20) dX6_init_31 rfl (Or.inl rfl) ai_1 (hi_n (by omega)) (by omega) ?_
  refine Ev_putR (x := some (hN h + 4)) dX6_init_33 fX6_28 ⟨_, rfl, Or.inr ⟨rfl, rfl⟩⟩ k2_ rfl ?_
  refine Ev_aload_n dX6_init_36 rfl (by first | exact Or.inr ⟨_, rfl⟩ | exact rv_or _ | exact Or.inl rfl) ?_
  refine Ev_iload_n dX6_init_37 rfl ?_
  refine Ev.wide (mc' := 0 + 1) (ms' := 0 + min bs.length 20) (by omega) (by omega) ?_
  refine Ev_newa (kd := 13) (min bs.length 20) dX6_init_38 rfl (Or.inl rfl) ai_1 (hi_n (by omega)) (by omega) ?_
  refine Ev_putR (x := some (hN h + 5)) dX6_init_40 fX6_31 ⟨_, rfl, Or.inr ⟨rfl, rfl⟩⟩ k3_ rfl ?_
  refine Ev_vret dX6_init_43 rfl ?_
  exact ⟨rfl, rIn_f (by omega) (by omega) kr kb lb xb l120 i2 i3 i5⟩
