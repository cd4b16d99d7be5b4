/-! the class makes a text: a piece is opened, then filled -/
def SOp (T : Nat) (tg : Nat × Nat) : Prop := tg = (9, T) ∨ tg = (9, T + 1) ∨ tg = (9, T + 2) ∨ tg.1 = tTg T ∨ tg = (9, 24) ∨ tg = (9, 25)
def opH (h : aH) (T q n th : Nat) (it so nu wy st : Int32) : aH := sI (sR (sI (sI (sI (sI (sI (sI (sR h 384 q (some th)) 385 q it) 386 q so) 387 q nu) 388 q wy) 389 q st) 390 q (nI 0)) 391 q none) 579 T (nI (n + 1))
theorem opH_f (h : aH) (T q n th : Nat) (it so nu wy st : Int32) : FO (fun b => b = q ∨ b = T) h (opH h T q n th it so nu wy st) := ((((((((FO.rf.tr (FO.sR (Or.inl rfl))).tr (FO.sI (Or.inl rfl))).tr (FO.sI (Or.inl rfl))).tr (FO.sI (Or.inl rfl))).tr (FO.sI (Or.inl rfl))).tr (FO.sI (Or.inl rfl))).tr (FO.sI (Or.inl rfl))).tr (FO.sR (Or.inl rfl))).tr (FO.sI (Or.inr rfl))
theorem opH_1 (h : aH) (T q n th : Nat) (it so nu wy st : Int32) : hR (opH h T q n th it so nu wy st) 384 q = some th ∧ hI (opH h T q n th it so nu wy st) 385 q = it ∧ hI (opH h T q n th it so nu wy st) 386 q = so ∧ hI (opH h T q n th it so nu wy st) 387 q = nu ∧ hI (opH h T q n th it so nu wy st) 388 q = wy ∧ hI (opH h T q n th it so nu wy st) 389 q = st ∧ hI (opH h T q n th it so nu wy st) 390 q = nI 0 ∧ hR (opH h T q n th it so nu wy st) 391 q = none :=
  ⟨((gR_I _ _ _ _ _ _).trans ((hR_o _ _ (by decide)).trans ((gR_I _ _ _ _ _ _).trans ((gR_I _ _ _ _ _ _).trans ((gR_I _ _ _ _ _ _).trans ((gR_I _ _ _ _ _ _).trans ((gR_I _ _ _ _ _ _).trans ((gR_I _ _ _ _ _ _).trans (hR_s _ _ _ _))))))))), ((hI_o _ _ (by decide)).trans ((gI_R _ _ _ _ _ _).trans ((hI_o _ _ (by decide)).trans ((hI_o _ _ (by decide)).trans ((hI_o _ _ (by decide)).trans ((hI_o _ _ (by decide)).trans ((hI_o _ _ (by decide)).trans (hI_s _ _ _ _)))))))), ((hI_o _ _ (by decide)).trans ((gI_R _ _ _ _ _ _).trans ((hI_o _ _ (by decide)).trans ((hI_o _ _ (by decide)).trans ((hI_o _ _ (by decide)).trans ((hI_o _ _ (by decide)).trans (hI_s _ _ _ _))))))), ((hI_o _ _ (by decide)).trans ((gI_R _ _ _ _ _ _).trans ((hI_o _ _ (by decide)).trans ((hI_o _ _ (by decide)).trans ((hI_o _ _ (by decide)).trans (hI_s _ _ _ _)))))), ((hI_o _ _ (by decide)).trans ((gI_R _ _ _ _ _ _).trans ((hI_o _ _ (by decide)).trans ((hI_o _ _ (by decide)).trans (hI_s _ _ _ _))))), ((hI_o _ _ (by decide)).trans ((gI_R _ _ _ _ _ _).trans ((hI_o _ _ (by decide)).trans (hI_s _ _ _ _)))), ((hI_o _ _ (by decide)).trans ((gI_R _ _ _ _ _ _).trans (hI_s _ _ _ _))), ((gR_I _ _ _ _ _ _).trans (hR_s _ _ _ _))⟩
theorem opH_2 (h : aH) (T q n th : Nat) (it so nu wy st : Int32) : hI (opH h T q n th it so nu wy st) 578 T = hI h 578 T ∧ hI (opH h T q n th it so nu wy st) 580 T = hI h 580 T ∧ hI (opH h T q n th it so nu wy st) 579 T = nI (n + 1) := ⟨((hI_o _ _ (by decide)).trans ((gI_R _ _ _ _ _ _).trans ((hI_o _ _ (by decide)).trans ((hI_o _ _ (by decide)).trans ((hI_o _ _ (by decide)).trans ((hI_o _ _ (by decide)).trans ((hI_o _ _ (by decide)).trans ((hI_o _ _ (by decide)).trans (gI_R _ _ _ _ _ _))))))))), ((hI_o _ _ (by decide)).trans ((gI_R _ _ _ _ _ _).trans ((hI_o _ _ (by decide)).trans ((hI_o _ _ (by decide)).trans ((hI_o _ _ (by decide)).trans ((hI_o _ _ (by decide)).trans ((hI_o _ _ (by decide)).trans ((hI_o _ _ (by decide)).trans (gI_R _ _ _ _ _ _))))))))), hI_s _ _ _ _⟩
theorem opH_3 (h : aH) (T q n th : Nat) (it so nu wy st : Int32) {k a : Nat} (e : a ≠ q) : hR (opH h T q n th it so nu wy st) k a = hR h k a := ((gR_I _ _ _ _ _ _).trans ((hR_a _ _ e).trans ((gR_I _ _ _ _ _ _).trans ((gR_I _ _ _ _ _ _).trans ((gR_I _ _ _ _ _ _).trans ((gR_I _ _ _ _ _ _).trans ((gR_I _ _ _ _ _ _).trans ((gR_I _ _ _ _ _ _).trans (hR_a _ _ e)))))))))
theorem opH_5 (h : aH) (T q n th : Nat) (it so nu wy st : Int32) : hI (opH h T q n th it so nu wy st) 259 24 = hI h 259 24 := ((hI_o _ _ (by decide)).trans ((gI_R _ _ _ _ _ _).trans ((hI_o _ _ (by decide)).trans ((hI_o _ _ (by decide)).trans ((hI_o _ _ (by decide)).trans ((hI_o _ _ (by decide)).trans ((hI_o _ _ (by decide)).trans ((hI_o _ _ (by decide)).trans (gI_R _ _ _ _ _ _)))))))))
theorem opH_4 (h : aH) (T q n th : Nat) (it so nu wy st : Int32) : hY (opH h T q n th it so nu wy st) = hY h ∧ hX (opH h T q n th it so nu wy st) = hX h ∧ hK (opH h T q n th it so nu wy st) = hK h ∧ hL (opH h T q n th it so nu wy st) = hL h ∧ hN (opH h T q n th it so nu wy st) = hN h := ⟨rfl, rfl, rfl, rfl, rfl⟩
theorem tTg_45 (T : Nat) : tTg T = 4 ∨ tTg T = 5 := by
  unfold tTg
  split
  · exact Or.inl rfl
  · exact Or.inr rfl
/-- a text with one more piece, that has no bytes yet -/
theorem CTx.add {g : Gh} {ow' : Ow} {T q : Nat} {ps : List Pc} {p0 : Pc} {h h' : aH} (tx : CTx g T ps h) (hv : Hv h) (f : FS g (fun tg => tg = (9, T) ∨ tg = (9, T + 1) ∨ tg = (tTg T, ps.length)) h h') (e : OwX g ow' h) (hn : ps.length < 250) (hy : ∀ i, i ≠ ps.length → hY h' (T + 1) i = hY h (T + 1) i) (hq : hY h' (T + 1) ps.length = some q) (hx : hX h' (T + 2) = hX h (T + 2)) (hc : hI h' 579 T = nI (ps.length + 1)) (pb : PcB p0) (pM : pcM p0 = []) (cp : CPc (gw g ow') (tTg T, ps.length) q p0 (flat ps).length h') : CTx (gw g ow') T (ps ++ [p0]) h' := by
  obtain ⟨a1, a2, a3, a4, a5, a6⟩ := tx
  have t45 := tTg_45 T
  have ef : flat (ps ++ [p0]) = flat ps := by rw [flat_add, pM, List.append_nil]
  refine ⟨fun i q' hi hq' => ?_, by simp; omega, by rw [ef]; exact a3, by rw [hc]; simp, fun i p hp => ?_, fun k hk => ?_⟩
  · by_cases z : i = ps.length
    · subst z
      rw [hq] at hq'
      cases hq'
      exact ⟨cp.1.1, cp.1.2.1⟩
    · rw [hy i z] at hq'
      have a := a1 i q' hi hq'
      exact ⟨f.k hv a.1 (by decide), (e _ (FO.lt hv a.1 (by decide))).trans a.2⟩
  · by_cases z : i = ps.length
    · subst z
      rw [List.getElem?_append_right (Nat.le_refl _), Nat.sub_self] at hp
      cases hp
      refine ⟨pb, q, hq, ?_⟩
      rw [stt_add (Nat.le_refl _), stt_len]
      exact cp
    · have hi : i < ps.length := by
        have := (List.getElem?_eq_some_iff.mp hp).1
        simp at this; omega
      rw [List.getElem?_append_left hi] at hp
      obtain ⟨b, q', c1, c2⟩ := a5 i p hp
      refine ⟨b, q', (hy i z).trans c1, ?_⟩
      rw [stt_add (by omega)]
      refine c2.fo f hv e ?_ ?_
      · rintro (y | y | y)
        · exact absurd (congrArg Prod.fst y) (fun z2 => by have z3 : (0 : Nat) = 9 := z2; omega)
        · exact absurd (congrArg Prod.fst y) (fun z2 => by have z3 : (0 : Nat) = 9 := z2; omega)
        · exact absurd (congrArg Prod.fst y) (fun z2 => by have z3 : (0 : Nat) = tTg T := z2; omega)
      · rintro (y | y | y)
        · exact absurd (congrArg Prod.fst y) (fun z2 => by have z3 : tTg T = 9 := z2; omega)
        · exact absurd (congrArg Prod.fst y) (fun z2 => by have z3 : tTg T = 9 := z2; omega)
        · exact absurd (congrArg Prod.snd y) (fun z2 => z z2)
  · rw [ef] at hk ⊢
    rw [hx]; exact a6 k hk
theorem ec_open45 (l : Launch) (G : aG) (T q n th b : Nat) (it so nu wy : Int32) (v6_ : Value) (h : aH) (kT_ : hK h T = 9) (r_ : hR h 576 T = some (T + 1)) (hk1_ : hK h (T + 1) = 16) (hl1_ : hL h (T + 1) = 250) (cn_ : hI h 579 T = nI n) (hn_ : n < 250) (hy_ : hY h (T + 1) n = some q) (kq_ : hK h q = 6) (bt_ : hI h 578 T = nI b) : Ev l G 0 0 0 mX8_open 45 [.ref T, .ref th, .int it, .int so, .int nu, .int wy, v6_] [] h (Ex none (opH h T q n th it so nu wy (nI b))) := by
  refine Ev_aload_n dX8_open_45 rfl (by first | exact Or.inr ⟨_, rfl⟩ | exact rv_or _ | exact Or.inl rfl) ?_
  refine Ev_getA dX8_open_46 fX8_11 kT_ r_ ?_
  refine Ev_aload_n dX8_open_49 rfl (by first | exact Or.inr ⟨_, rfl⟩ | exact rv_or _ | exact Or.inl rfl) ?_
  refine Ev_getE dX8_open_50 fX8_25 kT_ (cn_) ?_
  refine Ev_aald n dX8_open_53 hk1_ (by omega) (by omega) (hi_n (by omega)) (by rw [hl1_]; omega) ?_
  rw [hy_]
  refine Ev_top (y := .ref q) rfl ?_
  refine Ev_astore dX8_open_54 (by decide) (by first | exact Or.inr ⟨_, rfl⟩ | exact rv_or _ | exact Or.inl rfl) ?_
  refine Ev_aload dX8_open_56 rfl (by first | exact Or.inr ⟨_, rfl⟩ | exact rv_or _ | exact Or.inl rfl) ?_
  refine Ev_aload_n dX8_open_58 rfl (by first | exact Or.inr ⟨_, rfl⟩ | exact rv_or _ | exact Or.inl rfl) ?_
  refine Ev_putR (x := some th) dX8_open_59 fX8_35 ⟨_, rfl, Or.inl rfl⟩ kq_ rfl ?_
  refine Ev_aload dX8_open_62 rfl (by first | exact Or.inr ⟨_, rfl⟩ | exact rv_or _ | exact Or.inl rfl) ?_
  refine Ev_iload_n dX8_open_64 rfl ?_
  refine Ev_putI dX8_open_65 fX8_39 ⟨_, rfl, Or.inl rfl⟩ (Or.inl rfl) kq_ ?_
  refine Ev_aload dX8_open_68 rfl (by first | exact Or.inr ⟨_, rfl⟩ | exact rv_or _ | exact Or.inl rfl) ?_
  refine Ev_iload_n dX8_open_70 rfl ?_
  refine Ev_putI dX8_open_71 fX8_42 ⟨_, rfl, Or.inl rfl⟩ (Or.inl rfl) kq_ ?_
  refine Ev_aload dX8_open_74 rfl (by first | exact Or.inr ⟨_, rfl⟩ | exact rv_or _ | exact Or.inl rfl) ?_
  refine Ev_iload dX8_open_76 rfl ?_
  refine Ev_putI dX8_open_78 fX8_45 ⟨_, rfl, Or.inl rfl⟩ (Or.inl rfl) kq_ ?_
  refine Ev_aload dX8_open_81 rfl (by first | exact Or.inr ⟨_, rfl⟩ | exact rv_or _ | exact Or.inl rfl) ?_
  refine Ev_iload dX8_open_83 rfl ?_
  refine Ev_putI dX8_open_85 fX8_48 ⟨_, rfl, Or.inl rfl⟩ (Or.inl rfl) kq_ ?_
  refine Ev_aload dX8_open_88 rfl (by first | exact Or.inr ⟨_, rfl⟩ | exact rv_or _ | exact Or.inl rfl) ?_
  refine Ev_aload_n dX8_open_90 rfl (by first | exact Or.inr ⟨_, rfl⟩ | exact rv_or _ | exact Or.inl rfl) ?_
  refine Ev_getE dX8_open_91 fX8_21 kT_ ((hI_o _ _ (by decide)).trans ((hI_o _ _ (by decide)).trans ((hI_o _ _ (by decide)).trans ((hI_o _ _ (by decide)).trans ((gI_R _ _ _ _ _ _).trans (bt_)))))) ?_
  refine Ev_putI dX8_open_94 fX8_51 ⟨_, rfl, Or.inl rfl⟩ (Or.inl rfl) kq_ ?_
  refine Ev_aload dX8_open_97 rfl (by first | exact Or.inr ⟨_, rfl⟩ | exact rv_or _ | exact Or.inl rfl) ?_
  refine Ev_iconst (v := nI 0) dX8_open_99 (by decide) ?_
  refine Ev_putI dX8_open_100 fX8_54 ⟨_, rfl, Or.inl rfl⟩ (Or.inl rfl) kq_ ?_
  refine Ev_aload dX8_open_103 rfl (by first | exact Or.inr ⟨_, rfl⟩ | exact rv_or _ | exact Or.inl rfl) ?_
  refine Ev_null dX8_open_105 ?_
  refine Ev_putR (x := none) dX8_open_106 fX8_57 ⟨_, rfl, Or.inl rfl⟩ kq_ rfl ?_
  refine Ev_aload_n dX8_open_109 rfl (by first | exact Or.inr ⟨_, rfl⟩ | exact rv_or _ | exact Or.inl rfl) ?_
  refine Ev_dup dX8_open_110 (by first | rfl | exact okv_rv _) ?_
  refine Ev_getE dX8_open_111 fX8_25 kT_ ((gI_R _ _ _ _ _ _).trans ((hI_o _ _ (by decide)).trans ((hI_o _ _ (by decide)).trans ((hI_o _ _ (by decide)).trans ((hI_o _ _ (by decide)).trans ((hI_o _ _ (by decide)).trans ((hI_o _ _ (by decide)).trans ((gI_R _ _ _ _ _ _).trans (cn_))))))))) ?_
  refine Ev_iconst (v := nI 1) dX8_open_114 (by decide) ?_
  refine Ev_iaddN dX8_open_115 ?_
  refine Ev_putI dX8_open_116 fX8_25 ⟨_, rfl, Or.inl rfl⟩ (Or.inl rfl) kT_ ?_
  refine Ev_vret dX8_open_119 rfl ?_
  exact ⟨rfl, rfl⟩
theorem ec_pieceInit (l : Launch) (G : aG) (q th : Nat) (h : aH) (kq_ : hK h q = 6) : Ev l G 1 0 0 mX5_init 0 (en 2 [.ref q, .ref th]) [] h (Ex none (sR h 384 q (some th))) := by
  refine Ev_aload_n dX5_init_0 rfl (by first | exact Or.inr ⟨_, rfl⟩ | exact rv_or _ | exact Or.inl rfl) ?_
  refine Ev_objI dX5_init_1 (by omega) rfl (Nat.le_of_ble_eq_true rfl) kX5_1 ob_1 ob_2 ?_
  refine Ev_aload_n dX5_init_4 rfl (by first | exact Or.inr ⟨_, rfl⟩ | exact rv_or _ | exact Or.inl rfl) ?_
  refine Ev_aload_n dX5_init_5 rfl (by first | exact Or.inr ⟨_, rfl⟩ | exact rv_or _ | exact Or.inl rfl) ?_
  refine Ev_putR (x := some th) dX5_init_6 fX5_7 ⟨_, rfl, Or.inl rfl⟩ kq_ rfl ?_
  refine Ev_vret dX5_init_9 rfl ?_
  exact ⟨rfl, rfl⟩
theorem ec_openS (l : Launch) (G : aG) (T q n th b : Nat) (it so nu wy : Int32) (h : aH) (cf : Cf h) (hT : T = 18 ∨ T = 21) (cn_ : hI h 579 T = nI n) (hn_ : n < 250) (hy_ : hY h (T + 1) n = some q) (kq_ : hK h q = 6) (bt_ : hI h 578 T = nI b) : Ev l G 2 0 0 mX8_open 0 (en 7 [.ref T, .ref th, .int it, .int so, .int nu, .int wy]) [] h (Ex none (opH h T q n th it so nu wy (nI b))) := by
  have tf_ := tx_f cf hT
  refine Ev_aload_n dX8_open_0 rfl (by first | exact Or.inr ⟨_, rfl⟩ | exact rv_or _ | exact Or.inl rfl) ?_
  refine Ev_getE dX8_open_1 fX8_25 tf_.1 cn_ ?_
  refine Ev_sipush (v := nI 250) dX8_open_4 (by decide) ?_
  refine Ev_icmp_ltN 16 dX8_open_7 (by decide) (by omega) (by omega) (fun zb7_ => ?_) (fun zb7_ => ?_)
  · refine Ev_aload_n dX8_open_16 rfl (by first | exact Or.inr ⟨_, rfl⟩ | exact rv_or _ | exact Or.inl rfl) ?_
    refine Ev_getA dX8_open_17 fX8_11 tf_.1 tf_.2.1 ?_
    refine Ev_aload_n dX8_open_20 rfl (by first | exact Or.inr ⟨_, rfl⟩ | exact rv_or _ | exact Or.inl rfl) ?_
    refine Ev_getE dX8_open_21 fX8_25 tf_.1 cn_ ?_
    refine Ev_aald n dX8_open_24 tf_.2.2.2.1.1 (by omega) (by omega) (hi_n (by omega)) (by rw [tf_.2.2.2.1.2]; omega) ?_
    rw [hy_]
    refine Ev_top (y := .ref q) rfl ?_
    refine Ev_ifnonnull (o := some (q)) 45 dX8_open_25 (by decide) (fun a_ z_ => ?_) (fun z_ => by cases z_)
    refine Ev.deep (d' := 0) (by omega) ?_
    exact ec_open45 l G T q n th b it so nu wy _ h tf_.1 tf_.2.1 tf_.2.2.2.1.1 tf_.2.2.2.1.2 cn_ hn_ hy_ kq_ bt_
  · exact False.elim (by omega)
theorem ec_openN (l : Launch) (G : aG) (T n th b : Nat) (it so nu wy : Int32) (h : aH) (cf : Cf h) (hT : T = 18 ∨ T = 21) (h63_ : 63 ≤ hN h) (cn_ : hI h 579 T = nI n) (hn_ : n < 250) (hy_ : hY h (T + 1) n = none) (bt_ : hI h 578 T = nI b) : Ev l G 2 1 9 mX8_open 0 (en 7 [.ref T, .ref th, .int it, .int so, .int nu, .int wy]) [] h (Ex none (opH (sY (sR (nO h 6) 384 (hN h + 3) (some th)) (T + 1) n (some (hN h + 3))) T (hN h + 3) n th it so nu wy (nI b))) := by
  have tf_ := tx_f cf hT
  have kA1_ : hK (nO h 6) (T + 1) = 16 := (up1_n _ _ (by omega)).trans tf_.2.2.2.1.1
  have kT2_ : hK (sY (sR (nO h 6) 384 (hN h + 3) (some th)) (T + 1) n (some (hN h + 3))) T = 9 := (up1_n _ _ (by omega)).trans tf_.1
  have rT2_ : hR (sY (sR (nO h 6) 384 (hN h + 3) (some th)) (T + 1) n (some (hN h + 3))) 576 T = some (T + 1) := by
    rw [gR_Y, hR_o _ _ (by decide)]
    exact (if_neg (by omega)).trans tf_.2.1
  have cn2_ : hI (sY (sR (nO h 6) 384 (hN h + 3) (some th)) (T + 1) n (some (hN h + 3))) 579 T = nI n := (if_neg (by omega)).trans cn_
  have bt2_ : hI (sY (sR (nO h 6) 384 (hN h + 3) (some th)) (T + 1) n (some (hN h + 3))) 578 T = nI b := (if_neg (by omega)).trans bt_
  refine Ev_aload_n dX8_open_0 rfl (by first | exact Or.inr ⟨_, rfl⟩ | exact rv_or _ | exact Or.inl rfl) ?_
  refine Ev_getE dX8_open_1 fX8_25 tf_.1 cn_ ?_
  refine Ev_sipush (v := nI 250) dX8_open_4 (by decide) ?_
  refine Ev_icmp_ltN 16 dX8_open_7 (by decide) (by omega) (by omega) (fun zb7_ => ?_) (fun zb7_ => ?_)
  · refine Ev_aload_n dX8_open_16 rfl (by first | exact Or.inr ⟨_, rfl⟩ | exact rv_or _ | exact Or.inl rfl) ?_
    refine Ev_getA dX8_open_17 fX8_11 tf_.1 tf_.2.1 ?_
    refine Ev_aload_n dX8_open_20 rfl (by first | exact Or.inr ⟨_, rfl⟩ | exact rv_or _ | exact Or.inl rfl) ?_
    refine Ev_getE dX8_open_21 fX8_25 tf_.1 cn_ ?_
    refine Ev_aald n dX8_open_24 tf_.2.2.2.1.1 (by omega) (by omega) (hi_n (by omega)) (by rw [tf_.2.2.2.1.2]; omega) ?_
    rw [hy_]
    refine Ev_ifnonnull (o := none) 45 dX8_open_25 (by decide) (fun a_ z_ => by cases z_) (fun _ => ?_)
    refine Ev_aload_n dX8_open_28 rfl (by first | exact Or.inr ⟨_, rfl⟩ | exact rv_or _ | exact Or.inl rfl) ?_
    refine Ev_getA dX8_open_29 fX8_11 tf_.1 tf_.2.1 ?_
    refine Ev_aload_n dX8_open_32 rfl (by first | exact Or.inr ⟨_, rfl⟩ | exact rv_or _ | exact Or.inl rfl) ?_
    refine Ev_getE dX8_open_33 fX8_25 tf_.1 cn_ ?_
    refine Ev.wide (mc' := 0 + 1) (ms' := 0 + fn 6) (by omega) (by decide) ?_
    refine Ev_new dX8_open_36 nX8_9 ?_
    refine Ev_dup dX8_open_39 (by first | rfl | exact okv_rv _) ?_
    refine Ev_aload_n dX8_open_40 rfl (by first | exact Or.inr ⟨_, rfl⟩ | exact rv_or _ | exact Or.inl rfl) ?_
    refine Ev_I0 [.ref th] dX8_open_41 iX5_init kX8_32 rfl rfl rfl (Nat.le_of_ble_eq_true rfl) (by omega) (ec_pieceInit l G (hN h + 3) th (nO h 6) (up1_s _ _ _)) ?_
    refine Ev_aast (b := hN h + 3) (ci := 6) n dX8_open_44 kA1_ (by omega) (by omega) rfl (up1_s _ _ _) rfl (Or.inl rfl) (hi_n (by omega)) (by show n < hL h (T + 1); rw [tf_.2.2.2.1.2]; omega) ?_
    refine Ev.deep (d' := 0) (by omega) ?_
    exact ec_open45 l G T (hN h + 3) n th b it so nu wy _ (sY (sR (nO h 6) 384 (hN h + 3) (some th)) (T + 1) n (some (hN h + 3))) kT2_ rT2_ kA1_ tf_.2.2.2.1.2 cn2_ hn_ (hY_s _ _ _ _) (up1_s _ _ _) bt2_
  · exact False.elim (by omega)
theorem ec_openF (l : Launch) (G : aG) (T th : Nat) (it so nu wy : Int32) (h : aH) (cf : Cf h) (hT : T = 18 ∨ T = 21) (cn_ : hI h 579 T = nI 250) : Ev l G 2 0 0 mX8_open 0 (en 7 [.ref T, .ref th, .int it, .int so, .int nu, .int wy]) [] h (Ex none (sI h 580 T (nI 1))) := by
  have tf_ := tx_f cf hT
  refine Ev_aload_n dX8_open_0 rfl (by first | exact Or.inr ⟨_, rfl⟩ | exact rv_or _ | exact Or.inl rfl) ?_
  refine Ev_getE dX8_open_1 fX8_25 tf_.1 cn_ ?_
  refine Ev_sipush (v := nI 250) dX8_open_4 (by decide) ?_
  refine Ev_icmp_ltN 16 dX8_open_7 (by decide) (by omega) (by omega) (fun zb7_ => ?_) (fun zb7_ => ?_)
  · exact False.elim (by omega)
  · refine Ev_aload_n dX8_open_10 rfl (by first | exact Or.inr ⟨_, rfl⟩ | exact rv_or _ | exact Or.inl rfl) ?_
    refine Ev_iconst (v := nI 1) dX8_open_11 (by decide) ?_
    refine Ev_putI dX8_open_12 fX8_28 ⟨_, rfl, Or.inl rfl⟩ (Or.inr ⟨rfl, (by decide)⟩) tf_.1 ?_
    refine Ev_vret dX8_open_15 rfl ?_
    exact ⟨rfl, rfl⟩
/-- what a step of making leaves as it was -/
def FlF (g : Gh) (ow' : Ow) (T : Nat) (h h' : aH) : Prop := OwX g ow' h ∧ FS g (SOp T) h h' ∧ ∀ k a, a ∈ [3, 4, 6, 7, 18, 21, 24, 26] → hR h' k a = hR h k a
theorem ec_open (l : Launch) (G : aG) (p0 : Pc) (nu : Nat) (g : Gh) (T : Nat) (ps : List Pc) (h : aH) (cf : Cf h) (wf : OwF (wO g)) (h63_ : 63 ≤ hN h) (hT : T = 18 ∨ T = 21) (tx : CTx g T ps h) (bt_ : hI h 578 T = nI (flat ps).length) (hn_ : ps.length < 250) (pb : PcB p0) (pM : pcM p0 = []) (pH : pcH p0 = none) (hnu : pcT p0 = 2 → nu = pcN p0) : Ev l G 2 1 9 mX8_open 0 (en 7 [.ref T, .ref (wA g (pcC p0)), .int (nI (pcI p0)), .int (nI (pcT p0)), .int (nI nu), .int (nI (wyE (pcW p0)))]) [] h (fun x h' => x = none ∧ ∃ ow', FlF g ow' T h h' ∧ CTx (gw g ow') T (ps ++ [p0]) h' ∧ hI h' 578 T = hI h 578 T ∧ hI h' 580 T = hI h 580 T ∧ hI h' 259 24 = hI h 259 24) := by
  refine Ev_hv (fun hv => ?_)
  have tf_ := tx_f cf hT
  have t45_ := tTg_45 T
  have jk_ := tx.1
  cases hy_ : hY h (T + 1) ps.length with
  | some q =>
    have jq_ := jk_ _ q hn_ hy_
    refine Ev.lift (Nat.le_refl _) (by omega) (by omega) (Ev.ex (ec_openS l G T q ps.length (wA g (pcC p0)) (flat ps).length _ _ _ _ h cf hT tx.2.2.2.1 hn_ hy_ jq_.1 bt_) ⟨rfl, wO g, ?_, ?_, ?_⟩)
    · refine ⟨fun _ _ => rfl, (opH_f _ _ _ _ _ _ _ _ _ _).mo (fun b _ z => ?_), fun k a ha => opH_3 _ _ _ _ _ _ _ _ _ _ (fun z => ?_)⟩
      · rcases z with rfl | rfl
        · exact Or.inr (Or.inr (Or.inr (Or.inl (congrArg Prod.fst jq_.2))))
        · refine Or.inl (wf.1 _ ?_)
          rcases hT with rfl | rfl <;> decide
      · have q2 := wf.1 a (by clear z; revert ha; revert a; decide)
        rw [z, jq_.2] at q2
        exact absurd (congrArg Prod.fst q2) (fun z2 => by have z3 : tTg T = 9 := z2; omega)
    · refine tx.add hv ((opH_f _ _ _ _ _ _ _ _ _ _).mo (fun b _ z => ?_)) (fun _ _ => rfl) hn_ (fun i hi => rfl) hy_ rfl (opH_2 _ _ _ _ _ _ _ _ _ _).2.2 pb pM ?_
      · rcases z with rfl | rfl
        · exact Or.inr (Or.inr jq_.2)
        · refine Or.inl (wf.1 _ ?_)
          rcases hT with rfl | rfl <;> decide
      · obtain ⟨o1, o2, o3, o4, o5, o6, o7, o8⟩ := opH_1 h T q ps.length (wA g (pcC p0)) (nI (pcI p0)) (nI (pcT p0)) (nI nu) (nI (wyE (pcW p0))) (nI (flat ps).length)
        refine ⟨⟨jq_.1, jq_.2, o1, o2, o3, fun z => by rw [← hnu z]; exact o4, o5, o6, by rw [pM]; exact o7⟩, ?_⟩
        rw [pH]; exact o8
    · exact ⟨(opH_2 _ _ _ _ _ _ _ _ _ _).1, (opH_2 _ _ _ _ _ _ _ _ _ _).2.1, opH_5 _ _ _ _ _ _ _ _ _ _⟩
  | none =>
    have e_ : OwX g (up1 (wO g) (hN h + 3) (tTg T, ps.length)) h := fun b hb => up1_n _ _ (by omega)
    have F_ : FO (fun b => b = T ∨ b = T + 1) h (opH (sY (sR (nO h 6) 384 (hN h + 3) (some (wA g (pcC p0)))) (T + 1) ps.length (some (hN h + 3))) T (hN h + 3) ps.length (wA g (pcC p0)) (nI (pcI p0)) (nI (pcT p0)) (nI nu) (nI (wyE (pcW p0))) (nI (flat ps).length)) := by
      have f1 : FO (fun b => b = T ∨ b = T + 1 ∨ b = hN h + 3) h (sY (sR (nO h 6) 384 (hN h + 3) (some (wA g (pcC p0)))) (T + 1) ps.length (some (hN h + 3))) := (FO.nO.tr (FO.sR (Or.inr (Or.inr rfl)))).tr (FO.sY (Or.inr (Or.inl rfl)))
      have f2 := (opH_f (sY (sR (nO h 6) 384 (hN h + 3) (some (wA g (pcC p0)))) (T + 1) ps.length (some (hN h + 3))) T (hN h + 3) ps.length (wA g (pcC p0)) (nI (pcI p0)) (nI (pcT p0)) (nI nu) (nI (wyE (pcW p0))) (nI (flat ps).length)).mo (C' := fun b => b = T ∨ b = T + 1 ∨ b = hN h + 3) (fun b _ z => z.elim (fun z => Or.inr (Or.inr z)) Or.inl)
      exact (f1.tr f2).mo (fun b hb z => by omega)
    refine Ev.ex (ec_openN l G T ps.length (wA g (pcC p0)) (flat ps).length _ _ _ _ h cf hT h63_ tx.2.2.2.1 hn_ hy_ bt_) ⟨rfl, up1 (wO g) (hN h + 3) (tTg T, ps.length), ?_, ?_, ?_⟩
    · refine ⟨e_, F_.mo (fun b _ z => ?_), fun k a ha => (opH_3 _ _ _ _ _ _ _ _ _ _ (fun z => ?_)).trans ((hR_a _ _ (fun z => ?_)).trans (if_neg (fun z => ?_)))⟩
      · rcases z with rfl | rfl
        · refine Or.inl (wf.1 _ ?_)
          rcases hT with rfl | rfl <;> decide
        · refine Or.inr (Or.inl (wf.1 _ ?_))
          rcases hT with rfl | rfl <;> decide
      all_goals (have : a ≤ 26 := (by clear z; revert ha; revert a; decide); omega)
    · refine tx.add (q := hN h + 3) hv (F_.mo (fun b _ z => ?_)) e_ hn_ (fun i hi => hY_n _ _ hi) (hY_s _ _ _ _) rfl (opH_2 _ _ _ _ _ _ _ _ _ _).2.2 pb pM ?_
      · rcases z with rfl | rfl
        · refine Or.inl (wf.1 _ ?_)
          rcases hT with rfl | rfl <;> decide
        · refine Or.inr (Or.inl (wf.1 _ ?_))
          rcases hT with rfl | rfl <;> decide
      · obtain ⟨o1, o2, o3, o4, o5, o6, o7, o8⟩ := opH_1 (sY (sR (nO h 6) 384 (hN h + 3) (some (wA g (pcC p0)))) (T + 1) ps.length (some (hN h + 3))) T (hN h + 3) ps.length (wA g (pcC p0)) (nI (pcI p0)) (nI (pcT p0)) (nI nu) (nI (wyE (pcW p0))) (nI (flat ps).length)
        refine ⟨⟨up1_s _ _ _, up1_s _ _ _, o1, o2, o3, fun z => by rw [← hnu z]; exact o4, o5, o6, by rw [pM]; exact o7⟩, ?_⟩
        rw [pH]; exact o8
    · exact ⟨(opH_2 _ _ _ _ _ _ _ _ _ _).1.trans (if_neg (by omega)), (opH_2 _ _ _ _ _ _ _ _ _ _).2.1.trans (if_neg (by omega)), (opH_5 _ _ _ _ _ _ _ _ _ _).trans (if_neg (by omega))⟩
theorem ec_clear (l : Launch) (G : aG) (T : Nat) (h : aH) (kT_ : hK h T = 9) : Ev l G 0 0 0 mX8_clear 0 (en 1 [.ref T]) [] h (Ex none (sI (sI (sI h 578 T (nI 0)) 579 T (nI 0)) 580 T (nI 0))) := by
  refine Ev_aload_n dX8_clear_0 rfl (by first | exact Or.inr ⟨_, rfl⟩ | exact rv_or _ | exact Or.inl rfl) ?_
  refine Ev_iconst (v := nI 0) dX8_clear_1 (by decide) ?_
  refine Ev_putI dX8_clear_2 fX8_21 ⟨_, rfl, Or.inl rfl⟩ (Or.inl rfl) kT_ ?_
  refine Ev_aload_n dX8_clear_5 rfl (by first | exact Or.inr ⟨_, rfl⟩ | exact rv_or _ | exact Or.inl rfl) ?_
  refine Ev_iconst (v := nI 0) dX8_clear_6 (by decide) ?_
  refine Ev_putI dX8_clear_7 fX8_25 ⟨_, rfl, Or.inl rfl⟩ (Or.inl rfl) kT_ ?_
  refine Ev_aload_n dX8_clear_10 rfl (by first | exact Or.inr ⟨_, rfl⟩ | exact rv_or _ | exact Or.inl rfl) ?_
  refine Ev_iconst (v := nI 0) dX8_clear_11 (by decide) ?_
  refine Ev_putI dX8_clear_12 fX8_28 ⟨_, rfl, Or.inl rfl⟩ (Or.inr ⟨rfl, (by decide)⟩) kT_ ?_
  refine Ev_vret dX8_clear_15 rfl ?_
  exact ⟨rfl, rfl⟩
