theorem SLn.nt (T k : Nat) : ¬ SLn (tTg T, k) := by
  have t45 := tTg_45 T
  rintro (z | z | z | z)
  · have z2 : tTg T = 6 := congrArg Prod.fst z
    omega
  all_goals (have z2 : tTg T = 9 := congrArg Prod.fst z; omega)
theorem KpF.tx {g : Gh} {ow' : Ow} {T : Nat} {ps : List Pc} {h h' : aH} (f : KpF g ow' h h') (cf : Cf h) (hv : Hv h) (wf : OwF (wO g)) (hT : T = 18 ∨ T = 21) : (CTx g T ps h → CTx (gw g ow') T ps h') ∧ Sm T h h' ∧ hY h' (T + 1) = hY h (T + 1) := by
  have tf := tx_f cf hT
  have sT : ∀ a ∈ [T, T + 1, T + 2], ¬ SLn (wO g a) := fun a ha => by
    have hw : wO g a = (9, a) := wf.1 a (by rcases hT with rfl | rfl <;> revert ha <;> revert a <;> decide)
    rw [hw]
    refine SLn.no ?_
    clear hw
    rcases hT with rfl | rfl <;> revert ha <;> revert a <;> decide
  have s0 := f.2.1.s hv tf.1 (by decide) (sT T (by simp))
  have s1 := f.2.1.s hv tf.2.2.2.1.1 (by decide) (sT (T + 1) (by simp))
  have s2 := f.2.1.s hv tf.2.2.2.2.1 (by decide) (sT (T + 2) (by simp))
  exact ⟨fun tx => tx.fo f.2.1 hv f.1 (SLn.no (by decide)) (fun k => SLn.nt T k) s1.2.1 (s0.2.2 _).1 s2.1, s0, s1.2.1⟩
theorem ec_keepLost_l (l : Launch) (G : aG) (T : Nat) (ps0 ps1 : List Pc) (g : Gh) (ln : List (List Int32 × Nat × Nat)) (fl : Nat) (h : aH) (n63_ : 63 ≤ hN h) (cf : Cf h) (wf : OwF (wO g)) (hv : Hv h) (hT : T = 18 ∨ T = 21) (t0 : CTx g T ps0 h) (lo_ : ∀ (j : Nat) (p : Pc) (q : Nat), ps0[j]? = some p → hY h (T + 1) j = some q → hI h 392 q = bI (lsB ps1 p)) (ms : Nat) : ∀ i, ps0.length - i < ms → i ≤ ps0.length → ∀ (o1 : Ow) (h1 : aH) (v3_ : Value), KpF g o1 h h1 → CLn (gw g o1) (((ps0.take i).filter (lsB ps1)).foldl kpL (ln, fl)).1 (((ps0.take i).filter (lsB ps1)).foldl kpL (ln, fl)).2 h1 → Ev l G 9 (2 * ((ps0.drop i).filter (lsB ps1)).length) (46 * ((ps0.drop i).filter (lsB ps1)).length) mX2_keepLost 2 [.ref 26, .ref T, .int (nI i), v3_] [] h1 (fun x h' => x = none ∧ ∃ ow', KpF g ow' h h' ∧ CLn (gw g ow') (lnA ps0 ps1 (ln, fl)).1 (lnA ps0 ps1 (ln, fl)).2 h') := by
  induction ms with
  | zero => intro i hi; omega
  | succ ms ih_ =>
    intro i hi1_ hi2_ o1 h1 v3_ kf_ cl_
    refine Ev_hv (fun hv1_ => ?_)
    have cf1_ := kf_.cf cf hv wf
    have wf1_ := kf_.wf n63_ wf
    have n1_ : 63 ≤ hN h1 := by have := kf_.2.1.1; omega
    have tf_ := tx_f cf1_ hT
    have kt_ := kf_.tx (ps := ps0) cf hv wf hT
    have tx1_ := kt_.1 t0
    have n250_ := tx1_.2.1
    by_cases zi_ : i < ps0.length
    · obtain ⟨P, hp_⟩ : ∃ P, ps0[i]? = some P := ⟨_, List.getElem?_eq_getElem zi_⟩
      have dr_ := drop_ps hp_
      obtain ⟨q, hy_, cpc_, cp_⟩ := tx1_.p hp_
      have hy0_ : hY h (T + 1) i = some q := by rw [← kt_.2.2]; exact hy_
      have jq_ := t0.1 i q (by omega) hy0_
      have fl1_ : hI h1 392 q = bI (lsB ps1 P) := ((kf_.2.1.s hv jq_.1 (by decide) (by rw [jq_.2]; exact SLn.nt _ _)).2.2 _).1.trans (lo_ i P q hp_ hy0_)
      have ha_ : txA T ps0 (nI i) h1 = some q := by unfold txA; rw [hi_n (by omega), if_pos ⟨by omega, by omega⟩]; exact hy_
      refine Ev_iload_n dX2_keepLost_2 rfl ?_
      refine Ev_aload_n dX2_keepLost_3 rfl (by first | exact Or.inr ⟨_, rfl⟩ | exact rv_or _ | exact Or.inl rfl) ?_
      refine Ev_getE dX2_keepLost_4 fX2_28 tf_.1 tx1_.2.2.2.1 ?_
      refine Ev_icmp_geN 66 dX2_keepLost_7 (by decide) (by omega) (by omega) (fun zb7_ => ?_) (fun zb7_ => ?_)
      · exact False.elim (by omega)
      · refine Ev_aload_n dX2_keepLost_10 rfl (by first | exact Or.inr ⟨_, rfl⟩ | exact rv_or _ | exact Or.inl rfl) ?_
        refine Ev_iload_n dX2_keepLost_11 rfl ?_
        refine Ev_V0 [.int (nI i)] dX2_keepLost_12 vX8_at kX2_34 tf_.1 rfl rfl rfl (Nat.le_of_ble_eq_true rfl) (by omega) (ec_txAt l G (nI i) (gw g o1) T ps0 h1 cf1_ hT tx1_) ?_
        rw [ha_]
        refine Ev_top (y := .ref q) rfl ?_
        refine Ev_astore_n dX2_keepLost_15 (by decide) (by first | exact Or.inr ⟨_, rfl⟩ | exact rv_or _ | exact Or.inl rfl) ?_
        refine Ev_aload_n dX2_keepLost_16 rfl (by first | exact Or.inr ⟨_, rfl⟩ | exact rv_or _ | exact Or.inl rfl) ?_
        refine Ev_ifnull (o := some (q)) 60 dX2_keepLost_17 (by decide) (fun z_ => by cases z_) (fun a_ z_ => ?_)
        refine Ev_aload_n dX2_keepLost_20 rfl (by first | exact Or.inr ⟨_, rfl⟩ | exact rv_or _ | exact Or.inl rfl) ?_
        refine Ev_getE dX2_keepLost_21 fX2_38 cp_.1.1 fl1_ ?_
        refine Ev_if_eqB 60 dX2_keepLost_24 (by decide) (fun zb24_ => ?_) (fun zb24_ => ?_)
        · skip
          refine Ev_iincN 1 dX2_keepLost_60 (by decide) (by decide) rfl ?_
          refine Ev_goto 2 dX2_keepLost_63 (by decide) ?_
          have ih2_ := ih_ (i + 1) (by omega) (by omega) o1 h1 (.ref q) kf_ (by
            rw [take_ps hp_, List.filter_append, List.filter_cons, zb24_, if_neg (by decide)]
            rw [List.filter_nil, List.append_nil]
            exact cl_)
          rw [dr_, List.filter_cons, zb24_, if_neg (by decide)]
          exact ih2_
        · obtain ⟨hb, hp2_⟩ : ∃ hb, pcH P = some hb := by
            unfold lsB at zb24_
            cases hp3_ : pcH P with
            | none => rw [hp3_] at zb24_; cases zb24_
            | some hb => exact ⟨hb, rfl⟩
          have hb2_ := cp_.2.2.1 hb hp2_
          have c2_ := cpc_.2
          rw [hp2_] at c2_
          obtain ⟨d_, hd_, k1_, -, ⟨r_, h64_, ir_⟩, b_, h65_, ib_⟩ := c2_
          refine Ev_aload_n dX2_keepLost_27 rfl (by first | exact Or.inr ⟨_, rfl⟩ | exact rv_or _ | exact Or.inl rfl) ?_
          refine Ev_getR dX2_keepLost_28 fX2_44 cp_.1.1 ?_
          refine Ev_ifnull 60 dX2_keepLost_31 (by decide) (fun zb31_ => ?_) (fun zx31_ zb31_ => ?_)
          · rw [hd_] at zb31_
            cases zb31_
          · refine Ev_aload_n dX2_keepLost_34 rfl (by first | exact Or.inr ⟨_, rfl⟩ | exact rv_or _ | exact Or.inl rfl) ?_
            have er_ : ((ps0.drop i).filter (lsB ps1)).length = ((ps0.drop (i + 1)).filter (lsB ps1)).length + 1 := by rw [dr_, List.filter_cons, zb24_, if_pos rfl]; rfl
            rw [er_]
            refine Ev.wide (mc' := (1 + 2 * ((ps0.drop (i + 1)).filter (lsB ps1)).length) + 1) (ms' := (43 + 46 * ((ps0.drop (i + 1)).filter (lsB ps1)).length) + fn 2) (by omega) (by rw [show fn 2 = 3 from rfl]; omega) ?_
            refine Ev_new dX2_keepLost_35 nX2_26 ?_
            have ql_ := FO.lt hv1_ cp_.1.1 (by decide)
            have dl_ := FO.lt hv1_ k1_ (by decide)
            have kq2_ : hK (nO h1 2) q = 6 := (up1_n _ _ (by omega)).trans cp_.1.1
            have kd2_ : hK (nO h1 2) d_ = 1 := (up1_n _ _ (by omega)).trans k1_
            have hd2_ : hR (nO h1 2) 391 q = some d_ := (if_neg (by omega)).trans hd_
            have h642_ : hR (nO h1 2) 64 d_ = some r_ := (if_neg (by omega)).trans h64_
            have i62_ : hI (nO h1 2) 386 q = nI (pcT P) := (if_neg (by omega)).trans cpc_.1.2.2.2.2.1
            have i52_ : hI (nO h1 2) 385 q = nI (pcI P) := (if_neg (by omega)).trans cpc_.1.2.2.2.1
            refine Ev_dup dX2_keepLost_38 (by first | rfl | exact okv_rv _) ?_
            refine Ev_aload_n dX2_keepLost_39 rfl (by first | exact Or.inr ⟨_, rfl⟩ | exact rv_or _ | exact Or.inl rfl) ?_
            refine Ev_getA dX2_keepLost_40 fX2_44 kq2_ hd2_ ?_
            refine Ev_getA dX2_keepLost_43 fX2_48 kd2_ h642_ ?_
            refine Ev_aload_n dX2_keepLost_46 rfl (by first | exact Or.inr ⟨_, rfl⟩ | exact rv_or _ | exact Or.inl rfl) ?_
            refine Ev_getE dX2_keepLost_47 fX2_54 kq2_ i62_ ?_
            refine Ev_aload_n dX2_keepLost_50 rfl (by first | exact Or.inr ⟨_, rfl⟩ | exact rv_or _ | exact Or.inl rfl) ?_
            refine Ev_getE dX2_keepLost_51 fX2_57 kq2_ i52_ ?_
            refine Ev_I0 [.ref r_, .int (nI (pcT P)), .int (nI (pcI P))] dX2_keepLost_54 iX1_init kX2_60 rfl rfl rfl (Nat.le_of_ble_eq_true rfl) (by omega) (ec_loneInit l G (hN h1 + 3) r_ (nI (pcT P)) (nI (pcI P)) (nO h1 2) (up1_s _ _ _)) ?_
            refine Ev_hv (fun hvB_ => ?_)
            have fB0_ : FO (fun _ => False) h1 (sI (sI (sR (nO h1 2) 128 (hN h1 + 3) (some r_)) 129 (hN h1 + 3) (nI (pcT P))) 130 (hN h1 + 3) (nI (pcI P))) := ((((FO.nO (C := fun b => b = hN h1 + 3)).tr (FO.sR rfl)).tr (FO.sI rfl)).tr (FO.sI rfl)).mo (fun b hb z => by omega)
            have eB_ : OwX (gw g o1) (up1 o1 (hN h1 + 3) (0, 0)) h1 := fun b hb => up1_n _ _ (by omega)
            have fB_ : FS (gw g o1) (fun _ => False) h1 (sI (sI (sR (nO h1 2) 128 (hN h1 + 3) (some r_)) 129 (hN h1 + 3) (nI (pcT P))) 130 (hN h1 + 3) (nI (pcI P))) := fB0_.mo (fun _ _ z => z)
            have kB_ : KpF (gw g o1) (up1 o1 (hN h1 + 3) (0, 0)) h1 (sI (sI (sR (nO h1 2) 128 (hN h1 + 3) (some r_)) 129 (hN h1 + 3) (nI (pcT P))) 130 (hN h1 + 3) (nI (pcI P))) := ⟨eB_, fB_.mo (fun _ _ z => z.elim), ((fB_.s hv1_ (ck_26 cf1_) (by decide) id).2.2 _).2⟩
            have wfB_ := kB_.wf n1_ wf1_
            have cfB_ := kB_.cf cf1_ hv1_ wf1_
            have clB_ := cl_.fo cf1_ wf1_ fB_ hv1_ eB_ (fun _ _ z => z)
            have pb_ := (tx1_.2.2.2.2.1 i P hp_).1
            have cxB_ : CL1 (up1 o1 (hN h1 + 3) (0, 0)) (hN h1 + 3) (hb.1, pcT P, pcI P) (sI (sI (sR (nO h1 2) 128 (hN h1 + 3) (some r_)) 129 (hN h1 + 3) (nI (pcT P))) 130 (hN h1 + 3) (nI (pcI P))) := ⟨⟨hb2_.1, pb_.2.2.2.2.1, by have := pb_.2.2.2.1; show pcI P ≤ 19; omega⟩, up1_s _ _ _, up1_s _ _ _, (hI_o _ _ (by decide)).trans (hI_s _ _ _ _), hI_s _ _ _ _, r_, hR_s _ _ _ _, ir_.fo fB_ hv1_ eB_ id⟩
            refine Ev_Vg (mc2 := 2 * ((ps0.drop (i + 1)).filter (lsB ps1)).length) (ms2 := 46 * ((ps0.drop (i + 1)).filter (lsB ps1)).length) [.ref (hN h1 + 3)] dX2_keepLost_57 vX2_keep kX2_63 (ck_26 cfB_) rfl rfl rfl (Nat.le_of_ble_eq_true rfl) (by omega) (by omega) (by omega) (ec_keep l G (hN h1 + 3) (hb.1, pcT P, pcI P) (gw g (up1 o1 (hN h1 + 3) (0, 0))) (((ps0.take i).filter (lsB ps1)).foldl kpL (ln, fl)).1 (((ps0.take i).filter (lsB ps1)).foldl kpL (ln, fl)).2 (sI (sI (sR (nO h1 2) 128 (hN h1 + 3) (some r_)) 129 (hN h1 + 3) (nI (pcT P))) 130 (hN h1 + 3) (nI (pcI P))) (by show 63 ≤ hN h1 + 1; omega) cfB_ wfB_ clB_ cxB_) (fun v_ hC e_ => ?_)
            obtain ⟨rfl, o2, kC_, clC_⟩ := e_
            refine Ev_iincN 1 dX2_keepLost_60 (by decide) (by decide) rfl ?_
            refine Ev_goto 2 dX2_keepLost_63 (by decide) ?_
            exact ih_ (i + 1) (by omega) (by omega) o2 hC (.ref q) ((kf_.tr kB_).tr kC_) (by
              rw [take_ps hp_, List.filter_append, List.filter_cons, zb24_, if_pos rfl, List.filter_nil, List.foldl_append]
              show CLn _ (kpL (((ps0.take i).filter (lsB ps1)).foldl kpL (ln, fl)) P).1 (kpL (((ps0.take i).filter (lsB ps1)).foldl kpL (ln, fl)) P).2 hC
              have ek_ : kpL (((ps0.take i).filter (lsB ps1)).foldl kpL (ln, fl)) P = kp1 (((ps0.take i).filter (lsB ps1)).foldl kpL (ln, fl)).1 (((ps0.take i).filter (lsB ps1)).foldl kpL (ln, fl)).2 (hb.1, pcT P, pcI P) := by unfold kpL; rw [hp2_]; rfl
              rw [ek_]
              exact clC_)
    · skip
      refine Ev_iload_n dX2_keepLost_2 rfl ?_
      refine Ev_aload_n dX2_keepLost_3 rfl (by first | exact Or.inr ⟨_, rfl⟩ | exact rv_or _ | exact Or.inl rfl) ?_
      refine Ev_getE dX2_keepLost_4 fX2_28 tf_.1 tx1_.2.2.2.1 ?_
      refine Ev_icmp_geN 66 dX2_keepLost_7 (by decide) (by omega) (by omega) (fun zb7_ => ?_) (fun zb7_ => ?_)
      · refine Ev_vret dX2_keepLost_66 rfl ?_
        have ei_ : i = ps0.length := by omega
        subst ei_
        rw [List.take_length] at cl_
        exact ⟨rfl, o1, kf_, cl_⟩
      · exact False.elim (by omega)
theorem ec_keepLost (l : Launch) (G : aG) (T : Nat) (ps0 ps1 : List Pc) (g : Gh) (ln : List (List Int32 × Nat × Nat)) (fl : Nat) (h : aH) (n63_ : 63 ≤ hN h) (cf : Cf h) (wf : OwF (wO g)) (hv : Hv h) (hT : T = 18 ∨ T = 21) (t0 : CTx g T ps0 h) (lo_ : ∀ (j : Nat) (p : Pc) (q : Nat), ps0[j]? = some p → hY h (T + 1) j = some q → hI h 392 q = bI (lsB ps1 p)) (cl : CLn g ln fl h) : Ev l G 9 500 11500 mX2_keepLost 0 (en 4 [.ref 26, .ref T]) [] h (fun x h' => x = none ∧ ∃ ow', KpF g ow' h h' ∧ CLn (gw g ow') (lnA ps0 ps1 (ln, fl)).1 (lnA ps0 ps1 (ln, fl)).2 h') := by
  refine Ev_iconst (v := nI 0) dX2_keepLost_0 (by decide) ?_
  refine Ev_istore_n dX2_keepLost_1 (by decide) ?_
  have l1_ : (ps0.filter (lsB ps1)).length ≤ 250 := by
    have := List.length_filter_le (lsB ps1) ps0
    have := t0.2.1
    omega
  exact Ev.wide (by rw [List.drop_zero]; omega) (by rw [List.drop_zero]; omega) (ec_keepLost_l l G T ps0 ps1 g ln fl h n63_ cf wf hv hT t0 lo_ (ps0.length + 1) 0 (by omega) (by omega) (wO g) h _ ⟨fun _ _ => rfl, FO.rf, rfl⟩ cl)
theorem CHd.r3 {ow : Ow} {o_ : Option (List Int32 × List Int32)} {q k : Nat} {v : Option Nat} {h : aH} (c : CHd ow o_ q h) (k1 : k ≠ 391) (k2 : k ≠ 64) (k3 : k ≠ 65) : CHd ow o_ q (sR h k 3 v) := by
  unfold CHd at c ⊢
  cases o_ with
  | none => exact (hR_o _ _ (fun z => k1 z.symm)).trans c
  | some hb =>
    obtain ⟨x, a1, a2, a3, ⟨r, a4, a5⟩, b, a6, a7⟩ := c
    exact ⟨x, (hR_o _ _ (fun z => k1 z.symm)).trans a1, a2, a3, ⟨r, (hR_o _ _ (fun z => k2 z.symm)).trans a4, a5⟩, b, (hR_o _ _ (fun z => k3 z.symm)).trans a6, a7⟩
theorem CTx.r1 {g : Gh} {T k : Nat} {ps : List Pc} {v : Option Nat} {h : aH} (tx : CTx g T ps h) (k1 : k ≠ 391) (k2 : k ≠ 64) (k3 : k ≠ 65) (k4 : k ≠ 384) : CTx g T ps (sR h k 3 v) := by
  obtain ⟨a1, a2, a3, a4, a5, a6⟩ := tx
  refine ⟨a1, a2, a3, a4, fun i p hp => ?_, a6⟩
  obtain ⟨b, q', c1, ⟨b1, b2, b3, b4, b5, b6, b7, b8, b9⟩, b10⟩ := a5 i p hp
  exact ⟨b, q', c1, ⟨b1, b2, (hR_o _ _ (fun z => k4 z.symm)).trans b3, b4, b5, b6, b7, b8, b9⟩, b10.r3 k1 k2 k3⟩
theorem CTx.r3 {g : Gh} {T : Nat} {ps : List Pc} {v v' : Option Nat} {h : aH} (tx : CTx g T ps h) (_hv : Hv h) : CTx g T ps (sR (sR h 710 3 v) 711 3 v') := (tx.r1 (by decide) (by decide) (by decide) (by decide)).r1 (by decide) (by decide) (by decide) (by decide)
theorem CLn.r1 {g : Gh} {ln : List (List Int32 × Nat × Nat)} {fl k : Nat} {v : Option Nat} {h : aH} (c : CLn g ln fl h) (k1 : k ≠ 1) (k2 : k ≠ 128) : CLn g ln fl (sR h k 3 v) := by
  obtain ⟨xs, ⟨⟨⟨a1, a2, a3, a4, e_, a5, a6⟩, b1⟩, b2, b3⟩, c2, c3, c4, c5⟩ := c
  have r1 : ∀ a, hR (sR h k 3 v) 1 a = hR h 1 a := fun a => hR_o _ _ (fun z => k1 z.symm)
  refine ⟨xs, ⟨⟨⟨a1, a2, a3, a4, e_, (r1 27).trans a5, a6⟩, fun e he => b1 e ((r1 27).symm.trans he)⟩, fun e he => b2 e ((r1 27).symm.trans he), b3⟩, c2, c3, fun i q hq => ?_, c5⟩
  obtain ⟨a, d1, d2, d3, d4, d5, d6, r, d7, d8⟩ := c4 i q hq
  exact ⟨a, d1, d2, d3, d4, d5, d6, r, (hR_o _ _ (fun z => k2 z.symm)).trans d7, d8⟩
theorem CLn.r3 {g : Gh} {ln : List (List Int32 × Nat × Nat)} {fl : Nat} {v v' : Option Nat} {h : aH} (c : CLn g ln fl h) : CLn g ln fl (sR (sR h 710 3 v) 711 3 v') := (c.r1 (by decide) (by decide)).r1 (by decide) (by decide)
def TuP (T T' : Nat) (ps0 ps1 : List Pc) (g : Gh) (ln : List (List Int32 × Nat × Nat)) (fl : Nat) (h : aH) (x : Option Value) (h' : aH) : Prop := x = some (.int (nI ps1.length)) ∧ ∃ ow', OwX g ow' h ∧ FS g STx h h' ∧ (∀ q ∈ cfR, hR h' q.1 q.2.1 = hR h q.1 q.2.1) ∧ hR h' 709 3 = hR h 709 3 ∧ hR h' 710 3 = some T' ∧ hR h' 711 3 = some T ∧ CTx (gw g ow') T' (tkA ps0 ps1) h' ∧ JK (gw g ow') T h' ∧ CLn (gw g ow') (lnA ps0 ps1 (ln, fl)).1 (lnA ps0 ps1 (ln, fl)).2 h'
theorem ec_turn (l : Launch) (G : aG) (T T' : Nat) (ps0 ps1 : List Pc) (m : Md) (g : Gh) (ln : List (List Int32 × Nat × Nat)) (fl : Nat) (h : aH) (n63_ : 63 ≤ hN h) (cf : Cf h) (wf : OwF (wO g)) (cm : CM g m h) (hT_ : (T = 18 ∧ T' = 21) ∨ (T = 21 ∧ T' = 18)) (q1_ : hR h 710 3 = some T) (q2_ : hR h 711 3 = some T') (t0 : CTx g T ps0 h) (t1 : CTx g T' ps1 h) (cl : CLn g ln fl h) (mp0 : ∀ p ∈ ps0, PcM m p) (mp1 : ∀ p ∈ ps1, PcM m p) (md0 : MkD ps0) (md1 : MkD ps1) (nh1 : ∀ p ∈ ps1, pcH p = none) : Ev l G 10 500 11500 mX10_turnToSpare 0 (en 2 [.ref 3]) [] h (TuP T T' ps0 ps1 g ln fl h) := by
  refine Ev_hv (fun hv => ?_)
  have hT1_ : T = 18 ∨ T = 21 := by omega
  have hT2_ : T' = 18 ∨ T' = 21 := by omega
  have tf_ := tx_f cf hT1_
  have tf'_ := tx_f cf hT2_
  refine Ev_aload_n dX10_turnToSpare_0 rfl (by first | exact Or.inr ⟨_, rfl⟩ | exact rv_or _ | exact Or.inl rfl) ?_
  refine Ev_getA dX10_turnToSpare_1 fX10_39 (ck_3 cf) q2_ ?_
  refine Ev_aload_n dX10_turnToSpare_4 rfl (by first | exact Or.inr ⟨_, rfl⟩ | exact rv_or _ | exact Or.inl rfl) ?_
  refine Ev_getA dX10_turnToSpare_5 fX10_35 (ck_3 cf) q1_ ?_
  refine Ev_Vz [.ref T] dX10_turnToSpare_8 vX8_takeHands kX10_224 tf'_.1 rfl rfl rfl (Nat.le_of_ble_eq_true rfl) (by omega) (ec_takeHands l G T T' ps0 ps1 m g h cf wf cm hv hT_ mp0 mp1 md0 md1 nh1 t0 t1) (fun v_ h1 e_ => ?_)
  obtain ⟨rfl, tk_, x0_, x1_, lo_⟩ := e_
  refine Ev_hv (fun hv1_ => ?_)
  have cf1_ := tk_.cf cf hv wf
  have k3_ := ck_3 cf1_
  have q11_ : hR h1 710 3 = some T := (tk_.2.1 _ _ (by decide)).trans q1_
  have q21_ : hR h1 711 3 = some T' := (tk_.2.1 _ _ (by decide)).trans q2_
  have n1_ : 63 ≤ hN h1 := by rw [tk_.1.1]; exact n63_
  have cl1_ : CLn g ln fl h1 := cl.fo cf wf tk_.2.2.2 hv (fun _ _ => rfl) (fun tg ht => by rcases ht with rfl | rfl | rfl | rfl <;> exact TkF.no (by decide) (by decide))
  have lo1_ : ∀ (j : Nat) (p : Pc) (q : Nat), ps0[j]? = some p → hY h1 (T + 1) j = some q → hI h1 392 q = bI (lsB ps1 p) := fun j p q a b => lo_ j p q a (by rw [← tk_.1.2.2.2.2]; exact b)
  refine Ev_pop dX10_turnToSpare_11 (by first | rfl | exact okv_rv _) ?_
  refine Ev_aload_n dX10_turnToSpare_12 rfl (by first | exact Or.inr ⟨_, rfl⟩ | exact rv_or _ | exact Or.inl rfl) ?_
  refine Ev_getA dX10_turnToSpare_13 fX10_54 k3_ (cr_708_3 cf1_) ?_
  refine Ev_aload_n dX10_turnToSpare_16 rfl (by first | exact Or.inr ⟨_, rfl⟩ | exact rv_or _ | exact Or.inl rfl) ?_
  refine Ev_getA dX10_turnToSpare_17 fX10_35 k3_ q11_ ?_
  refine Ev_Vg (mc2 := 0) (ms2 := 0) [.ref T] dX10_turnToSpare_20 vX2_keepLost kX10_271 (ck_26 cf1_) rfl rfl rfl (Nat.le_of_ble_eq_true rfl) (by omega) (by omega) (by omega) (ec_keepLost l G T ps0 ps1 g ln fl h1 n1_ cf1_ wf hv1_ hT1_ x0_ lo1_ cl1_) (fun v_ h2 e_ => ?_)
  obtain ⟨rfl, o2_, kf_, cl2_⟩ := e_
  have cf2_ := kf_.cf cf1_ hv1_ wf
  have k32_ := ck_3 cf2_
  have s3_ := kf_.2.1.s hv1_ (ck_3 cf1_) (by decide) (by rw [wf.1 3 (by decide)]; exact SLn.no (by decide))
  have q12_ : hR h2 710 3 = some T := (s3_.2.2 _).2.trans q11_
  have q22_ : hR h2 711 3 = some T' := (s3_.2.2 _).2.trans q21_
  have kt0_ := kf_.tx (ps := ps0) cf1_ hv1_ wf hT1_
  have kt1_ := kf_.tx (ps := tkA ps0 ps1) cf1_ hv1_ wf hT2_
  have tx2_ := kt1_.1 x1_
  have tx3_ := kt0_.1 x0_
  have kT2_ := (tx_f cf2_ hT2_).1
  refine Ev_aload_n dX10_turnToSpare_23 rfl (by first | exact Or.inr ⟨_, rfl⟩ | exact rv_or _ | exact Or.inl rfl) ?_
  refine Ev_getA dX10_turnToSpare_24 fX10_35 k32_ q12_ ?_
  refine Ev_astore_n dX10_turnToSpare_27 (by decide) (by first | exact Or.inr ⟨_, rfl⟩ | exact rv_or _ | exact Or.inl rfl) ?_
  refine Ev_aload_n dX10_turnToSpare_28 rfl (by first | exact Or.inr ⟨_, rfl⟩ | exact rv_or _ | exact Or.inl rfl) ?_
  refine Ev_aload_n dX10_turnToSpare_29 rfl (by first | exact Or.inr ⟨_, rfl⟩ | exact rv_or _ | exact Or.inl rfl) ?_
  refine Ev_getA dX10_turnToSpare_30 fX10_39 k32_ q22_ ?_
  refine Ev_putR (x := some T') dX10_turnToSpare_33 fX10_35 ⟨_, rfl, Or.inl rfl⟩ k32_ rfl ?_
  refine Ev_aload_n dX10_turnToSpare_36 rfl (by first | exact Or.inr ⟨_, rfl⟩ | exact rv_or _ | exact Or.inl rfl) ?_
  refine Ev_aload_n dX10_turnToSpare_37 rfl (by first | exact Or.inr ⟨_, rfl⟩ | exact rv_or _ | exact Or.inl rfl) ?_
  refine Ev_putR (x := some T) dX10_turnToSpare_38 fX10_39 ⟨_, rfl, Or.inl rfl⟩ k32_ rfl ?_
  refine Ev_hv (fun hv3_ => ?_)
  have hv2_ : Hv h2 := fun b hb => hv3_ b hb
  have q43_ : hR (sR (sR h2 710 3 (some T')) 711 3 (some T)) 710 3 = some T' := (hR_o _ _ (by decide)).trans (hR_s _ _ _ _)
  have c45_ : hI (sR (sR h2 710 3 (some T')) 711 3 (some T)) 579 T' = nI (tkA ps0 ps1).length := tx2_.2.2.2.1
  refine Ev_aload_n dX10_turnToSpare_41 rfl (by first | exact Or.inr ⟨_, rfl⟩ | exact rv_or _ | exact Or.inl rfl) ?_
  refine Ev_getA dX10_turnToSpare_42 fX10_35 k32_ q43_ ?_
  refine Ev_getE dX10_turnToSpare_45 fX10_234 kT2_ c45_ ?_
  refine Ev_iret dX10_turnToSpare_48 rfl ?_
  refine ⟨?_, o2_, ?_⟩
  · rw [(tkA_key ps0 ps1).1]
  have w3_ : wO g 3 = (9, 3) := wf.1 3 (by decide)
  have rF_ : ∀ k a, ¬ (a = 3 ∧ (k = 710 ∨ k = 711)) → hR (sR (sR h2 710 3 (some T')) 711 3 (some T)) k a = hR h2 k a := fun k a z => by
    by_cases y : a = 3
    · exact (hR_o _ _ (fun q => z ⟨y, Or.inr q⟩)).trans (hR_o _ _ (fun q => z ⟨y, Or.inl q⟩))
    · exact (hR_a _ _ y).trans (hR_a _ _ y)
  have f2_ : FO (fun b => STx (wO g b)) h h2 := by
    have a1 : FO (fun b => STx (wO g b)) h h1 := tk_.2.2.2.mo (fun b _ z => z.elim Or.inl (fun z => Or.inr (Or.inl z)))
    have a2 : FO (fun b => STx (wO g b)) h1 h2 := kf_.2.1.mo (fun b _ z => by
      rcases z with z | z | z | z
      · exact Or.inr (Or.inr (Or.inl (congrArg Prod.fst z)))
      all_goals (refine Or.inr (Or.inr (Or.inr ?_)); rw [z]; decide))
    exact a1.tr a2
  have f3_ : FO (fun b => STx (wO g b)) h2 (sR (sR h2 710 3 (some T')) 711 3 (some T)) := (FO.sR (by show STx (wO g 3); rw [w3_]; exact Or.inr (Or.inr (Or.inr (by decide))))).tr (FO.sR (by show STx (wO g 3); rw [w3_]; exact Or.inr (Or.inr (Or.inr (by decide)))))
  refine ⟨fun b hb => kf_.1 b (by rw [tk_.1.1]; exact hb), f2_.tr f3_, fun q hq => ?_, ?_, (hR_o _ _ (by decide)).trans (hR_s _ _ _ _), hR_s _ _ _ _, ?_, ?_, ?_⟩
  · have key : ∀ q ∈ cfR, ¬ (q.2.1 = 3 ∧ (q.1 = 710 ∨ q.1 = 711)) := by decide
    rw [rF_ _ _ (key q hq), cf2_.1 q hq, cf.1 q hq]
  · exact (rF_ _ _ (by decide)).trans ((s3_.2.2 _).2.trans (tk_.2.1 _ _ (by decide)))
  · exact tx2_.r3 hv2_
  · exact tx3_.1
  · exact cl2_.r3
