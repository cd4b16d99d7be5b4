theorem mn_n {a b : Nat} (ha : a < 2 ^ 31) (hb : b < 2 ^ 31) : (if nI b < nI a then nI b else nI a) = nI (min a b) := by
  by_cases z : b < a
  · rw [if_pos (nI_lt z (by omega)), Nat.min_eq_right (by omega)]
  · rw [if_neg (nI_nlt (by omega) (by omega)), Nat.min_eq_left (by omega)]
theorem mx_n {a b : Nat} (ha : a < 2 ^ 31) (hb : b < 2 ^ 31) : (if nI a < nI b then nI b else nI a) = nI (max a b) := by
  by_cases z : a < b
  · rw [if_pos (nI_lt z (by omega)), Nat.max_eq_right (by omega)]
  · rw [if_neg (nI_nlt (by omega) (by omega)), Nat.max_eq_left (by omega)]
theorem ec_showsLike_0 (l : Launch) (G : aG) (d k T q T' q' n : Nat) (h : aH) (hk_ : k ≤ 1000) (hn_ : n ≤ 1000) : Ev l G d 0 0 mX8_showsLike 25 [.ref T, .ref q, .ref T', .ref q', .int (nI n), .int (nI 0), .int (nI k)] [] h (Ex (some (.int (bI false))) h) := by
  refine Ev_iload dX8_showsLike_25 rfl ?_
  refine Ev_iload dX8_showsLike_27 rfl ?_
  refine Ev_icmp_geN 67 dX8_showsLike_29 (by decide) (by omega) (by omega) (fun zb29_ => ?_) (fun zb29_ => ?_)
  · refine Ev_iload dX8_showsLike_67 rfl ?_
    refine Ev_zret dX8_showsLike_69 rfl (by decide) ?_
    exact ⟨rfl, rfl⟩
  · refine Ev_iload dX8_showsLike_32 rfl ?_
    refine Ev_if_eqT 67 dX8_showsLike_34 (by decide) (fun zb34_ => ?_) (fun zb34_ => ?_)
    · refine Ev_iload dX8_showsLike_67 rfl ?_
      refine Ev_zret dX8_showsLike_69 rfl (by decide) ?_
      exact ⟨rfl, rfl⟩
    · exact absurd t0 zb34_
theorem ec_showsLike_l (l : Launch) (G : aG) (g : Gh) (T T' q q' : Nat) (p p' : Pc) (h : aH) (cp : CP1 g T q p h) (cp' : CP1 g T' q' p' h) (cf : Cf h) (hT : T = 18 ∨ T = 21) (hT' : T' = 18 ∨ T' = 21) (l1_ : (shP p).length ≤ 120) (l2_ : (shP p').length ≤ 120) (el_ : (shP p).length = (shP p').length) (ms : Nat) : ∀ k, (shP p).length - k < ms → k ≤ (shP p).length → (∀ j, j < k → (shP p).getD j 0 = (shP p').getD j 0) → Ev l G 3 0 0 mX8_showsLike 25 [.ref T, .ref q, .ref T', .ref q', .int (nI (shP p).length), .int (nI 1), .int (nI k)] [] h (Ex (some (.int (bI (decide (shP p = shP p'))))) h) := by
  induction ms with
  | zero => intro k hk; omega
  | succ ms ih_ =>
    intro k hk1_ hk2_ hq_
    refine Ev_iload dX8_showsLike_25 rfl ?_
    refine Ev_iload dX8_showsLike_27 rfl ?_
    refine Ev_icmp_geN 67 dX8_showsLike_29 (by decide) (by omega) (by omega) (fun zb29_ => ?_) (fun zb29_ => ?_)
    · refine Ev_iload dX8_showsLike_67 rfl ?_
      refine Ev_zret dX8_showsLike_69 rfl (by decide) ?_
      refine ⟨?_, rfl⟩
      rw [decide_eq_true (ext32 el_ (fun j hj => hq_ j (by omega)))]; rfl
    · refine Ev_iload dX8_showsLike_32 rfl ?_
      refine Ev_if_eqT 67 dX8_showsLike_34 (by decide) (fun zb34_ => ?_) (fun zb34_ => ?_)
      · exact absurd zb34_ (by decide)
      · refine Ev_aload_n dX8_showsLike_37 rfl (by first | exact Or.inr ⟨_, rfl⟩ | exact rv_or _ | exact Or.inl rfl) ?_
        refine Ev_aload_n dX8_showsLike_38 rfl (by first | exact Or.inr ⟨_, rfl⟩ | exact rv_or _ | exact Or.inl rfl) ?_
        refine Ev_iload dX8_showsLike_39 rfl ?_
        refine Ev_V0 [.ref q, .int (nI k)] dX8_showsLike_41 vX8_shownByte kX8_117 (tx_f cf hT).1 rfl rfl rfl (Nat.le_of_ble_eq_true rfl) (by omega) (ec_shownByte l G (nI k) g T q p h cp cf hT) ?_
        rw [elO_n (by omega) (by omega)]
        refine Ev_aload_n dX8_showsLike_44 rfl (by first | exact Or.inr ⟨_, rfl⟩ | exact rv_or _ | exact Or.inl rfl) ?_
        refine Ev_aload_n dX8_showsLike_45 rfl (by first | exact Or.inr ⟨_, rfl⟩ | exact rv_or _ | exact Or.inl rfl) ?_
        refine Ev_iload dX8_showsLike_46 rfl ?_
        refine Ev_V0 [.ref q', .int (nI k)] dX8_showsLike_48 vX8_shownByte kX8_117 (tx_f cf hT').1 rfl rfl rfl (Nat.le_of_ble_eq_true rfl) (by omega) (ec_shownByte l G (nI k) g T' q' p' h cp' cf hT') ?_
        rw [elO_n (by omega) (by omega)]
        refine Ev_icmp_neT 58 dX8_showsLike_51 (by decide) (fun zb51_ => ?_) (fun zb51_ => ?_)
        · refine Ev_iconst (v := nI 0) dX8_showsLike_58 (by decide) ?_
          refine Ev_istore dX8_showsLike_59 (by decide) ?_
          refine Ev_iincN 1 dX8_showsLike_61 (by decide) (by decide) rfl ?_
          refine Ev_goto 25 dX8_showsLike_64 (by decide) ?_
          first
          | (refine ih_ (k + 1) (by omega) (by omega) (fun j hj => ?_)
             by_cases ej_ : j = k
             · rw [ej_]; exact Int32.toInt_inj.mp zb51_
             · exact hq_ j (by omega)
             done)
          | (refine Ev.post (fun x h' e => ?_) (ec_showsLike_0 l G 3 (k + 1) T q T' q' (shP p).length h (by omega) (by omega))
             rw [decide_eq_false (fun z => zb51_ (by rw [z]))]
             exact e)
        · refine Ev_iconst (v := nI 1) dX8_showsLike_54 (by decide) ?_
          refine Ev_goto 59 dX8_showsLike_55 (by decide) ?_
          refine Ev_istore dX8_showsLike_59 (by decide) ?_
          refine Ev_iincN 1 dX8_showsLike_61 (by decide) (by decide) rfl ?_
          refine Ev_goto 25 dX8_showsLike_64 (by decide) ?_
          first
          | (refine ih_ (k + 1) (by omega) (by omega) (fun j hj => ?_)
             by_cases ej_ : j = k
             · rw [ej_]; exact Int32.toInt_inj.mp zb51_
             · exact hq_ j (by omega)
             done)
          | (refine Ev.post (fun x h' e => ?_) (ec_showsLike_0 l G 3 (k + 1) T q T' q' (shP p).length h (by omega) (by omega))
             rw [decide_eq_false (fun z => zb51_ (by rw [z]))]
             exact e)
theorem ec_showsLike (l : Launch) (G : aG) (g : Gh) (T T' q q' : Nat) (p p' : Pc) (h : aH) (cp : CP1 g T q p h) (cp' : CP1 g T' q' p' h) (cf : Cf h) (hT : T = 18 ∨ T = 21) (hT' : T' = 18 ∨ T' = 21) (l1_ : (shP p).length ≤ 120) (l2_ : (shP p').length ≤ 120) : Ev l G 3 0 0 mX8_showsLike 0 (en 7 [.ref T, .ref q, .ref T', .ref q']) [] h (Ex (some (.int (bI (decide (shP p = shP p'))))) h) := by
  refine Ev_aload_n dX8_showsLike_0 rfl (by first | exact Or.inr ⟨_, rfl⟩ | exact rv_or _ | exact Or.inl rfl) ?_
  refine Ev_V0 [] dX8_showsLike_1 vX5_shownLength kX8_91 cp.1.1 rfl rfl rfl (Nat.le_of_ble_eq_true rfl) (by omega) (ec_shownLength l G g T q p h cp) ?_
  refine Ev_istore dX8_showsLike_4 (by decide) ?_
  refine Ev_iload dX8_showsLike_6 rfl ?_
  refine Ev_aload_n dX8_showsLike_8 rfl (by first | exact Or.inr ⟨_, rfl⟩ | exact rv_or _ | exact Or.inl rfl) ?_
  refine Ev_V0 [] dX8_showsLike_9 vX5_shownLength kX8_91 cp'.1.1 rfl rfl rfl (Nat.le_of_ble_eq_true rfl) (by omega) (ec_shownLength l G g T' q' p' h cp') ?_
  refine Ev_icmp_neN 19 dX8_showsLike_12 (by decide) (by omega) (by omega) (fun zb12_ => ?_) (fun zb12_ => ?_)
  · refine Ev_iconst (v := nI 0) dX8_showsLike_19 (by decide) ?_
    refine Ev_istore dX8_showsLike_20 (by decide) ?_
    refine Ev_iconst (v := nI 0) dX8_showsLike_22 (by decide) ?_
    refine Ev_istore dX8_showsLike_23 (by decide) ?_
    first
    | exact ec_showsLike_l l G g T T' q q' p p' h cp cp' cf hT hT' l1_ l2_ zb12_ ((shP p).length + 1) 0 (by omega) (by omega) (fun j hj => absurd hj (by omega))
    | (refine Ev.post (fun x h' e => ?_) (ec_showsLike_0 l G 3 0 T q T' q' (shP p).length h (by omega) (by omega))
       rw [decide_eq_false (fun z => zb12_ (by rw [z]))]
       exact e)
  · refine Ev_iconst (v := nI 1) dX8_showsLike_15 (by decide) ?_
    refine Ev_goto 20 dX8_showsLike_16 (by decide) ?_
    refine Ev_istore dX8_showsLike_20 (by decide) ?_
    refine Ev_iconst (v := nI 0) dX8_showsLike_22 (by decide) ?_
    refine Ev_istore dX8_showsLike_23 (by decide) ?_
    first
    | exact ec_showsLike_l l G g T T' q q' p p' h cp cp' cf hT hT' l1_ l2_ zb12_ ((shP p).length + 1) 0 (by omega) (by omega) (fun j hj => absurd hj (by omega))
    | (refine Ev.post (fun x h' e => ?_) (ec_showsLike_0 l G 3 0 T q T' q' (shP p).length h (by omega) (by omega))
       rw [decide_eq_false (fun z => zb12_ (by rw [z]))]
       exact e)
theorem ec_cu_l (l : Launch) (G : aG) (g : Gh) (T T' : Nat) (ps nw : List Pc) (h : aH) (cf : Cf h) (hT : T = 18 ∨ T = 21) (hT' : T' = 18 ∨ T' = 21) (tx : CTx g T ps h) (tx' : CTx g T' nw h) (ms : Nat) : ∀ k, min nw.length ps.length - k < ms → k ≤ min nw.length ps.length → Ev l G 4 0 0 mX8_countUnlike 29 [.ref T', .ref T, .int (nI (min nw.length ps.length)), .int (nI (max nw.length ps.length - min nw.length ps.length + fb_ct (ulB ps nw) k)), .int (nI k)] [] h (Ex (some (.int (nI (ulN ps nw)))) h) := by
  have tf_ := tx_f cf hT
  have tg_ := tx_f cf hT'
  have n250_ := tx.2.1
  have m250_ := tx'.2.1
  induction ms with
  | zero => intro k hk; omega
  | succ ms ih_ =>
    intro k hk1_ hk2_
    refine Ev_iload dX8_countUnlike_29 rfl ?_
    refine Ev_iload_n dX8_countUnlike_31 rfl ?_
    refine Ev_icmp_geN 66 dX8_countUnlike_32 (by decide) (by omega) (by omega) (fun zb32_ => ?_) (fun zb32_ => ?_)
    · refine Ev_iload_n dX8_countUnlike_66 rfl ?_
      refine Ev_iret dX8_countUnlike_67 rfl ?_
      refine ⟨?_, rfl⟩
      have ek_ : k = min nw.length ps.length := by omega
      rw [ek_]
      congr 2
      unfold ulN
      have ec_ : fb_ct (ulB ps nw) nw.length = fb_ct (ulB ps nw) (min nw.length ps.length) := by
        rw [show nw.length = min nw.length ps.length + (nw.length - min nw.length ps.length) by omega, fb_ct_split, (fb_ct_zero (n := nw.length - min nw.length ps.length)).mpr (fun j hj => ?_), Nat.add_zero]
        · congr 1; omega
        · unfold ulB
          rw [List.getElem?_eq_none (by omega)]
      rw [ec_]
      congr 1
      omega
    · obtain ⟨p, hp_⟩ : ∃ p, ps[k]? = some p := ⟨_, List.getElem?_eq_getElem (by omega)⟩
      obtain ⟨r, hr_⟩ : ∃ r, nw[k]? = some r := ⟨_, List.getElem?_eq_getElem (by omega)⟩
      obtain ⟨q, hy_, -, cp_⟩ := tx.p hp_
      obtain ⟨q', hy'_, -, cp'_⟩ := tx'.p hr_
      have l1_ := sh_le (tx.2.2.2.2.1 k p hp_).1
      have l2_ := sh_le (tx'.2.2.2.2.1 k r hr_).1
      have eu_ : ulB ps nw k = !decide (shP r = shP p) := by
        unfold ulB
        rw [hp_, hr_]
        show decide (shP p ≠ shP r) = _
        by_cases z : shP p = shP r
        · rw [decide_eq_false (fun y => y z), decide_eq_true z.symm]; rfl
        · rw [decide_eq_true z, decide_eq_false (fun y => z y.symm)]; rfl
      refine Ev_aload_n dX8_countUnlike_35 rfl (by first | exact Or.inr ⟨_, rfl⟩ | exact rv_or _ | exact Or.inl rfl) ?_
      refine Ev_aload_n dX8_countUnlike_36 rfl (by first | exact Or.inr ⟨_, rfl⟩ | exact rv_or _ | exact Or.inl rfl) ?_
      refine Ev_getA dX8_countUnlike_37 fX8_11 tg_.1 tg_.2.1 ?_
      refine Ev_iload dX8_countUnlike_40 rfl ?_
      refine Ev_aald k dX8_countUnlike_42 tg_.2.2.2.1.1 (by omega) (by omega) (hi_n (by omega)) (by rw [tg_.2.2.2.1.2]; omega) ?_
      rw [hy'_]
      refine Ev_top (y := .ref q') rfl ?_
      refine Ev_aload_n dX8_countUnlike_43 rfl (by first | exact Or.inr ⟨_, rfl⟩ | exact rv_or _ | exact Or.inl rfl) ?_
      refine Ev_aload_n dX8_countUnlike_44 rfl (by first | exact Or.inr ⟨_, rfl⟩ | exact rv_or _ | exact Or.inl rfl) ?_
      refine Ev_getA dX8_countUnlike_45 fX8_11 tf_.1 tf_.2.1 ?_
      refine Ev_iload dX8_countUnlike_48 rfl ?_
      refine Ev_aald k dX8_countUnlike_50 tf_.2.2.2.1.1 (by omega) (by omega) (hi_n (by omega)) (by rw [tf_.2.2.2.1.2]; omega) ?_
      rw [hy_]
      refine Ev_top (y := .ref q) rfl ?_
      refine Ev_V0 [.ref q', .ref T, .ref q] dX8_countUnlike_51 vX8_showsLike kX8_113 tg_.1 rfl rfl rfl (Nat.le_of_ble_eq_true rfl) (by omega) (ec_showsLike l G g T' T q' q r p h cp'_ cp_ cf hT' hT l2_ l1_) ?_
      refine Ev_if_neB 60 dX8_countUnlike_54 (by decide) (fun zb54_ => ?_) (fun zb54_ => ?_)
      · refine Ev_iincN 1 dX8_countUnlike_60 (by decide) (by decide) rfl ?_
        refine Ev_goto 29 dX8_countUnlike_63 (by decide) ?_
        have fs_ := fb_ct_succ (ulB ps nw) k
        rw [eu_, zb54_] at fs_
        have ih2_ := ih_ (k + 1) (by omega) (by omega)
        rw [fs_] at ih2_
        exact ih2_
      · refine Ev_iincN 1 dX8_countUnlike_57 (by decide) (by decide) rfl ?_
        refine Ev_iincN 1 dX8_countUnlike_60 (by decide) (by decide) rfl ?_
        refine Ev_goto 29 dX8_countUnlike_63 (by decide) ?_
        have fs_ := fb_ct_succ (ulB ps nw) k
        rw [eu_, zb54_] at fs_
        have ih2_ := ih_ (k + 1) (by omega) (by omega)
        rw [fs_] at ih2_
        exact ih2_
theorem ec_countUnlike (l : Launch) (G : aG) (g : Gh) (T T' : Nat) (ps nw : List Pc) (h : aH) (cf : Cf h) (hT : T = 18 ∨ T = 21) (hT' : T' = 18 ∨ T' = 21) (tx : CTx g T ps h) (tx' : CTx g T' nw h) : Ev l G 4 0 0 mX8_countUnlike 0 (en 5 [.ref T', .ref T]) [] h (Ex (some (.int (nI (ulN ps nw)))) h) := by
  have tf_ := tx_f cf hT
  have tg_ := tx_f cf hT'
  have n250_ := tx.2.1
  have m250_ := tx'.2.1
  refine Ev_aload_n dX8_countUnlike_0 rfl (by first | exact Or.inr ⟨_, rfl⟩ | exact rv_or _ | exact Or.inl rfl) ?_
  refine Ev_getE dX8_countUnlike_1 fX8_25 tg_.1 tx'.2.2.2.1 ?_
  refine Ev_aload_n dX8_countUnlike_4 rfl (by first | exact Or.inr ⟨_, rfl⟩ | exact rv_or _ | exact Or.inl rfl) ?_
  refine Ev_getE dX8_countUnlike_5 fX8_25 tf_.1 tx.2.2.2.1 ?_
  refine Ev_mmin dX8_countUnlike_8 (by omega) rfl (Nat.le_of_ble_eq_true rfl) kX8_104 ?_
  refine Ev_top (y := .int (nI (min nw.length ps.length))) (congrArg Value.int (mn_n (by omega) (by omega))) ?_
  refine Ev_istore_n dX8_countUnlike_11 (by decide) ?_
  refine Ev_aload_n dX8_countUnlike_12 rfl (by first | exact Or.inr ⟨_, rfl⟩ | exact rv_or _ | exact Or.inl rfl) ?_
  refine Ev_getE dX8_countUnlike_13 fX8_25 tg_.1 tx'.2.2.2.1 ?_
  refine Ev_aload_n dX8_countUnlike_16 rfl (by first | exact Or.inr ⟨_, rfl⟩ | exact rv_or _ | exact Or.inl rfl) ?_
  refine Ev_getE dX8_countUnlike_17 fX8_25 tf_.1 tx.2.2.2.1 ?_
  refine Ev_mmax dX8_countUnlike_20 (by omega) rfl (Nat.le_of_ble_eq_true rfl) kX8_110 ?_
  refine Ev_top (y := .int (nI (max nw.length ps.length))) (congrArg Value.int (mx_n (by omega) (by omega))) ?_
  refine Ev_iload_n dX8_countUnlike_23 rfl ?_
  refine Ev_isubN dX8_countUnlike_24 (by omega) ?_
  refine Ev_istore_n dX8_countUnlike_25 (by decide) ?_
  refine Ev_iconst (v := nI 0) dX8_countUnlike_26 (by decide) ?_
  refine Ev_istore dX8_countUnlike_27 (by decide) ?_
  exact ec_cu_l l G g T T' ps nw h cf hT hT' tx tx' (min nw.length ps.length + 1) 0 (by omega) (by omega)
