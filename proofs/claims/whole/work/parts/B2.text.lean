def setM (p : Pc) (xs : List Int32) : Pc := (p.1, p.2.1, xs, p.2.2.2)
def pmH (h : aH) (r f T b q n : Nat) : aH := sI (sI (sXs h (T + 2) (va_cpy (hX h r) (hX h (T + 2)) f b n)) 578 T (nI (b + n))) 390 q (nI n)
theorem pmH_f (h : aH) (r f T b q n : Nat) : FO (fun b => b = T + 2 ∨ b = T ∨ b = q) h (pmH h r f T b q n) := ((FO.sXs (Or.inl rfl)).tr (FO.sI (Or.inr (Or.inl rfl)))).tr (FO.sI (Or.inr (Or.inr rfl)))
/-- the piece that was opened last is filled -/
theorem CTx.put {g : Gh} {T r f q : Nat} {ps : List Pc} {p0 : Pc} {xs : List Int32} {h : aH} (tx : CTx g T (ps ++ [p0]) h) (hv : Hv h) (wf : OwF (wO g)) (hT : T = 18 ∨ T = 21) (pM : pcM p0 = []) (hq : hY h (T + 1) ps.length = some q) (hb : (flat ps).length + xs.length ≤ 3000) (hl : xs.length ≤ 120) (hx : ∀ k, k < xs.length → hX h r (f + k) = xs.getD k 0) : CTx g T (ps ++ [setM p0 xs]) (pmH h r f T (flat ps).length q xs.length) ∧ FS g (SOp T) h (pmH h r f T (flat ps).length q xs.length) := by
  have t45 := tTg_45 T
  obtain ⟨a1, a2, a3, a4, a5, a6⟩ := tx
  have n250 : ps.length + 1 ≤ 250 := by simpa using a2
  have jq := a1 _ q (by omega) hq
  have ef0 : flat (ps ++ [p0]) = flat ps := by rw [flat_add, pM, List.append_nil]
  have ef : flat (ps ++ [setM p0 xs]) = flat ps ++ xs := by rw [flat_add]; rfl
  have wT : wO g T = (9, T) := wf.1 _ (by rcases hT with rfl | rfl <;> decide)
  have wT2 : wO g (T + 2) = (9, T + 2) := wf.1 _ (by rcases hT with rfl | rfl <;> decide)
  have f0 : FS g (fun tg => tg = (9, T + 2) ∨ tg = (9, T) ∨ tg = (tTg T, ps.length)) h (pmH h r f T (flat ps).length q xs.length) := (pmH_f _ _ _ _ _ _ _).mo (fun b _ z => by
    rcases z with rfl | rfl | rfl
    · exact Or.inl wT2
    · exact Or.inr (Or.inl wT)
    · exact Or.inr (Or.inr jq.2))
  refine ⟨⟨a1, by simpa using a2, by rw [ef]; simpa using hb, ?_, fun i p hp => ?_, fun k hk => ?_⟩, f0.mo (fun b _ z => ?_)⟩
  · rw [show (ps ++ [setM p0 xs]).length = (ps ++ [p0]).length by simp]
    exact (hI_o _ _ (by decide)).trans ((hI_o _ _ (by decide)).trans a4)
  · by_cases z : i = ps.length
    · subst z
      rw [List.getElem?_append_right (Nat.le_refl _), Nat.sub_self] at hp
      cases hp
      obtain ⟨b, q', c1, c2⟩ := a5 ps.length p0 (by rw [List.getElem?_append_right (Nat.le_refl _), Nat.sub_self]; rfl)
      have : q' = q := Option.some.inj (c1.symm.trans hq)
      subst this
      rw [stt_add (Nat.le_refl _)] at c2 ⊢
      obtain ⟨⟨b1, b2, b3, b4, b5, b6, b7, b8, b9⟩, b10⟩ := c2
      refine ⟨⟨b.1, b.2.1, b.2.2.1, b.2.2.2.1, b.2.2.2.2.1, b.2.2.2.2.2.1, hl, b.2.2.2.2.2.2.2⟩, q', c1, ⟨b1, b2, b3, (hI_o _ _ (by decide)).trans ((hI_o _ _ (by decide)).trans b4), (hI_o _ _ (by decide)).trans ((hI_o _ _ (by decide)).trans b5), fun z => (hI_o _ _ (by decide)).trans ((hI_o _ _ (by decide)).trans (b6 z)), (hI_o _ _ (by decide)).trans ((hI_o _ _ (by decide)).trans b7), (hI_o _ _ (by decide)).trans ((hI_o _ _ (by decide)).trans b8), hI_s _ _ _ _⟩, ?_⟩
      refine b10.fo f0 hv (fun _ _ => rfl) ?_ rfl
      rintro (y | y | y)
      · exact absurd (congrArg Prod.fst y) (fun z2 => by have z3 : (0 : Nat) = 9 := z2; omega)
      · exact absurd (congrArg Prod.fst y) (fun z2 => by have z3 : (0 : Nat) = 9 := z2; omega)
      · exact absurd (congrArg Prod.fst y) (fun z2 => by have z3 : (0 : Nat) = tTg T := z2; omega)
    · have hi : i < ps.length := by
        have := (List.getElem?_eq_some_iff.mp hp).1
        simp at this; omega
      rw [List.getElem?_append_left hi] at hp
      obtain ⟨b, q', c1, c2⟩ := a5 i p (by rw [List.getElem?_append_left hi]; exact hp)
      refine ⟨b, q', c1, ?_⟩
      rw [stt_add (by omega)] at c2 ⊢
      refine c2.fo f0 hv (fun _ _ => rfl) ?_ ?_
      · rintro (y | y | y)
        · exact absurd (congrArg Prod.fst y) (fun z2 => by have z3 : (0 : Nat) = 9 := z2; omega)
        · exact absurd (congrArg Prod.fst y) (fun z2 => by have z3 : (0 : Nat) = 9 := z2; omega)
        · exact absurd (congrArg Prod.fst y) (fun z2 => by have z3 : (0 : Nat) = tTg T := z2; omega)
      · rintro (y | y | y)
        · exact absurd (congrArg Prod.fst y) (fun z2 => by have z3 : tTg T = 9 := z2; omega)
        · exact absurd (congrArg Prod.fst y) (fun z2 => by have z3 : tTg T = 9 := z2; omega)
        · exact absurd (congrArg Prod.snd y) (fun z2 => z z2)
  · show up1 (hX h) (T + 2) (va_cpy (hX h r) (hX h (T + 2)) f (flat ps).length xs.length) (T + 2) k = _
    rw [up1_s]
    rw [ef] at hk ⊢
    rw [List.length_append] at hk
    by_cases z : k < (flat ps).length
    · rw [pk_cpy_out (by omega), List.getD_eq_getElem?_getD, List.getElem?_append_left z, ← List.getD_eq_getElem?_getD]
      rw [ef0] at a6
      exact a6 k z
    · rw [pk_cpy_in (by omega) (by omega), List.getD_eq_getElem?_getD, List.getElem?_append_right (by omega), ← List.getD_eq_getElem?_getD]
      exact hx _ (by omega)
  · rcases z with z | z | z
    · exact Or.inr (Or.inr (Or.inl z))
    · exact Or.inl z
    · exact Or.inr (Or.inr (Or.inr (Or.inl (congrArg Prod.fst z))))
theorem ec_putMade_s (l : Launch) (G : aG) (T r f n_ : Nat) (h : aH) (cf : Cf h) (hT : T = 18 ∨ T = 21) (kr_ : hK h r = 13) (hlr_ : f + n_ ≤ hL h r) (h1k_ : hL h r ≤ 10000) (n b q : Nat) (fu_ : hI h 580 T = nI 0) (cn_ : hI h 579 T = nI (n + 1)) (hn_ : n < 250) (bt_ : hI h 578 T = nI b) (hb_ : b + n_ ≤ 3000) (hy_ : hY h (T + 1) n = some q) (kq_ : hK h q = 6) : Ev l G 1 0 0 mX8_putMade 0 (en 5 [.ref T, .ref r, .int (nI f), .int (nI n_)]) [] h (Ex none (pmH h r f T b q n_)) := by
  have tf_ := tx_f cf hT
  refine Ev_iload_n dX8_putMade_0 rfl ?_
  refine Ev_if_ltT 20 dX8_putMade_1 (by decide) (fun zb1_ => ?_) (fun zb1_ => ?_)
  · exact absurd zb1_ (by rw [hi_n (by omega)]; omega)
  · refine Ev_iload_n dX8_putMade_4 rfl ?_
    refine Ev_if_ltT 20 dX8_putMade_5 (by decide) (fun zb5_ => ?_) (fun zb5_ => ?_)
    · exact absurd zb5_ (by rw [hi_n (by omega)]; omega)
    · refine Ev_iload_n dX8_putMade_8 rfl ?_
      refine Ev_iload_n dX8_putMade_9 rfl ?_
      refine Ev_iaddN dX8_putMade_10 ?_
      refine Ev_aload_n dX8_putMade_11 rfl (by first | exact Or.inr ⟨_, rfl⟩ | exact rv_or _ | exact Or.inl rfl) ?_
      refine Ev_alen dX8_putMade_12 kr_ (by omega) (by omega) ?_
      refine Ev_icmp_gtN 20 dX8_putMade_13 (by decide) (by omega) (by omega) (fun zb13_ => ?_) (fun zb13_ => ?_)
      · exact absurd zb13_ (by omega)
      · refine Ev_iconst (v := nI 1) dX8_putMade_16 (by decide) ?_
        refine Ev_goto 21 dX8_putMade_17 (by decide) ?_
        refine Ev_istore dX8_putMade_21 (by decide) ?_
        refine Ev_aload_n dX8_putMade_23 rfl (by first | exact Or.inr ⟨_, rfl⟩ | exact rv_or _ | exact Or.inl rfl) ?_
        refine Ev_getE dX8_putMade_24 fX8_28 tf_.1 fu_ ?_
        refine Ev_if_neT 54 dX8_putMade_27 (by decide) (fun zb27_ => ?_) (fun zb27_ => ?_)
        · exact absurd zb27_ (by decide)
        · refine Ev_aload_n dX8_putMade_30 rfl (by first | exact Or.inr ⟨_, rfl⟩ | exact rv_or _ | exact Or.inl rfl) ?_
          refine Ev_getE dX8_putMade_31 fX8_25 tf_.1 cn_ ?_
          refine Ev_if_eqT 54 dX8_putMade_34 (by decide) (fun zb34_ => ?_) (fun zb34_ => ?_)
          · exact absurd zb34_ (by rw [hi_n (by omega)]; omega)
          · refine Ev_iload dX8_putMade_37 rfl ?_
            refine Ev_if_eqT 54 dX8_putMade_39 (by decide) (fun zb39_ => ?_) (fun zb39_ => ?_)
            · exact absurd zb39_ (by decide)
            · refine Ev_aload_n dX8_putMade_42 rfl (by first | exact Or.inr ⟨_, rfl⟩ | exact rv_or _ | exact Or.inl rfl) ?_
              refine Ev_getE dX8_putMade_43 fX8_21 tf_.1 bt_ ?_
              refine Ev_iload_n dX8_putMade_46 rfl ?_
              refine Ev_iaddN dX8_putMade_47 ?_
              refine Ev_sipush (v := nI 3000) dX8_putMade_48 (by decide) ?_
              refine Ev_icmp_leN 60 dX8_putMade_51 (by decide) (by omega) (by omega) (fun zb51_ => ?_) (fun zb51_ => ?_)
              · refine Ev_aload_n dX8_putMade_60 rfl (by first | exact Or.inr ⟨_, rfl⟩ | exact rv_or _ | exact Or.inl rfl) ?_
                refine Ev_iload_n dX8_putMade_61 rfl ?_
                refine Ev_aload_n dX8_putMade_62 rfl (by first | exact Or.inr ⟨_, rfl⟩ | exact rv_or _ | exact Or.inl rfl) ?_
                refine Ev_getA dX8_putMade_63 fX8_17 tf_.1 tf_.2.2.1 ?_
                refine Ev_aload_n dX8_putMade_66 rfl (by first | exact Or.inr ⟨_, rfl⟩ | exact rv_or _ | exact Or.inl rfl) ?_
                refine Ev_getE dX8_putMade_67 fX8_21 tf_.1 bt_ ?_
                refine Ev_iload_n dX8_putMade_70 rfl ?_
                refine Ev_copyI f b n_ dX8_putMade_71 (by omega) rfl (Nat.le_of_ble_eq_true rfl) kr_ tf_.2.2.2.2.1 kX8_61 ac_1 ac_2 ac_3 (hi_n (by omega)) (hi_n (by omega)) (hi_n (by omega)) (by omega) (by rw [tf_.2.2.2.2.2]; omega) ?_
                refine Ev_aload_n dX8_putMade_74 rfl (by first | exact Or.inr ⟨_, rfl⟩ | exact rv_or _ | exact Or.inl rfl) ?_
                refine Ev_dup dX8_putMade_75 (by first | rfl | exact okv_rv _) ?_
                refine Ev_getE dX8_putMade_76 fX8_21 tf_.1 bt_ ?_
                refine Ev_iload_n dX8_putMade_79 rfl ?_
                refine Ev_iaddN dX8_putMade_80 ?_
                refine Ev_putI dX8_putMade_81 fX8_21 ⟨_, rfl, Or.inl rfl⟩ (Or.inl rfl) tf_.1 ?_
                refine Ev_aload_n dX8_putMade_84 rfl (by first | exact Or.inr ⟨_, rfl⟩ | exact rv_or _ | exact Or.inl rfl) ?_
                refine Ev_getA dX8_putMade_85 fX8_11 tf_.1 tf_.2.1 ?_
                refine Ev_aload_n dX8_putMade_88 rfl (by first | exact Or.inr ⟨_, rfl⟩ | exact rv_or _ | exact Or.inl rfl) ?_
                refine Ev_getE dX8_putMade_89 fX8_25 tf_.1 ((hI_o _ _ (by decide)).trans cn_) ?_
                refine Ev_iconst (v := nI 1) dX8_putMade_92 (by decide) ?_
                refine Ev_isubN dX8_putMade_93 (by omega) ?_
                rw [Nat.add_sub_cancel]
                refine Ev_aald n dX8_putMade_94 tf_.2.2.2.1.1 (by omega) (by omega) (hi_n (by omega)) (by show n < hL h (T + 1); rw [tf_.2.2.2.1.2]; omega) ?_
                refine Ev_top (y := .ref q) (by show rv (hY h (T + 1) n) = _; rw [hy_]; rfl) ?_
                refine Ev_iload_n dX8_putMade_95 rfl ?_
                refine Ev_putI dX8_putMade_96 fX8_54 ⟨_, rfl, Or.inl rfl⟩ (Or.inl rfl) kq_ ?_
                refine Ev_vret dX8_putMade_99 rfl ?_
                exact ⟨rfl, rfl⟩
              · exact False.elim (by omega)
theorem ec_putMade_l (l : Launch) (G : aG) (T r f n_ : Nat) (h : aH) (cf : Cf h) (hT : T = 18 ∨ T = 21) (kr_ : hK h r = 13) (hlr_ : f + n_ ≤ hL h r) (h1k_ : hL h r ≤ 10000) (n b : Nat) (fu_ : hI h 580 T = nI 0) (cn_ : hI h 579 T = nI (n + 1)) (hn_ : n < 250) (bt_ : hI h 578 T = nI b) (hb3_ : b ≤ 3000) (hb_ : ¬ b + n_ ≤ 3000) : Ev l G 1 0 0 mX8_putMade 0 (en 5 [.ref T, .ref r, .int (nI f), .int (nI n_)]) [] h (Ex none (sI h 580 T (nI 1))) := by
  have tf_ := tx_f cf hT
  refine Ev_iload_n dX8_putMade_0 rfl ?_
  refine Ev_if_ltT 20 dX8_putMade_1 (by decide) (fun zb1_ => ?_) (fun zb1_ => ?_)
  · exact absurd zb1_ (by rw [hi_n (by omega)]; omega)
  · refine Ev_iload_n dX8_putMade_4 rfl ?_
    refine Ev_if_ltT 20 dX8_putMade_5 (by decide) (fun zb5_ => ?_) (fun zb5_ => ?_)
    · exact absurd zb5_ (by rw [hi_n (by omega)]; omega)
    · refine Ev_iload_n dX8_putMade_8 rfl ?_
      refine Ev_iload_n dX8_putMade_9 rfl ?_
      refine Ev_iaddN dX8_putMade_10 ?_
      refine Ev_aload_n dX8_putMade_11 rfl (by first | exact Or.inr ⟨_, rfl⟩ | exact rv_or _ | exact Or.inl rfl) ?_
      refine Ev_alen dX8_putMade_12 kr_ (by omega) (by omega) ?_
      refine Ev_icmp_gtN 20 dX8_putMade_13 (by decide) (by omega) (by omega) (fun zb13_ => ?_) (fun zb13_ => ?_)
      · exact absurd zb13_ (by omega)
      · refine Ev_iconst (v := nI 1) dX8_putMade_16 (by decide) ?_
        refine Ev_goto 21 dX8_putMade_17 (by decide) ?_
        refine Ev_istore dX8_putMade_21 (by decide) ?_
        refine Ev_aload_n dX8_putMade_23 rfl (by first | exact Or.inr ⟨_, rfl⟩ | exact rv_or _ | exact Or.inl rfl) ?_
        refine Ev_getE dX8_putMade_24 fX8_28 tf_.1 fu_ ?_
        refine Ev_if_neT 54 dX8_putMade_27 (by decide) (fun zb27_ => ?_) (fun zb27_ => ?_)
        · exact absurd zb27_ (by decide)
        · refine Ev_aload_n dX8_putMade_30 rfl (by first | exact Or.inr ⟨_, rfl⟩ | exact rv_or _ | exact Or.inl rfl) ?_
          refine Ev_getE dX8_putMade_31 fX8_25 tf_.1 cn_ ?_
          refine Ev_if_eqT 54 dX8_putMade_34 (by decide) (fun zb34_ => ?_) (fun zb34_ => ?_)
          · exact absurd zb34_ (by rw [hi_n (by omega)]; omega)
          · refine Ev_iload dX8_putMade_37 rfl ?_
            refine Ev_if_eqT 54 dX8_putMade_39 (by decide) (fun zb39_ => ?_) (fun zb39_ => ?_)
            · exact absurd zb39_ (by decide)
            · refine Ev_aload_n dX8_putMade_42 rfl (by first | exact Or.inr ⟨_, rfl⟩ | exact rv_or _ | exact Or.inl rfl) ?_
              refine Ev_getE dX8_putMade_43 fX8_21 tf_.1 bt_ ?_
              refine Ev_iload_n dX8_putMade_46 rfl ?_
              refine Ev_iaddN dX8_putMade_47 ?_
              refine Ev_sipush (v := nI 3000) dX8_putMade_48 (by decide) ?_
              refine Ev_icmp_leN 60 dX8_putMade_51 (by decide) (by omega) (by omega) (fun zb51_ => ?_) (fun zb51_ => ?_)
              · exact False.elim (by omega)
              · refine Ev_aload_n dX8_putMade_54 rfl (by first | exact Or.inr ⟨_, rfl⟩ | exact rv_or _ | exact Or.inl rfl) ?_
                refine Ev_iconst (v := nI 1) dX8_putMade_55 (by decide) ?_
                refine Ev_putI dX8_putMade_56 fX8_28 ⟨_, rfl, Or.inl rfl⟩ (Or.inr ⟨rfl, (by decide)⟩) tf_.1 ?_
                refine Ev_vret dX8_putMade_59 rfl ?_
                exact ⟨rfl, rfl⟩
theorem ec_putMade_f (l : Launch) (G : aG) (T r f n_ : Nat) (h : aH) (cf : Cf h) (hT : T = 18 ∨ T = 21) (kr_ : hK h r = 13) (hlr_ : f + n_ ≤ hL h r) (h1k_ : hL h r ≤ 10000) (fu_ : hI h 580 T = nI 1) : Ev l G 1 0 0 mX8_putMade 0 (en 5 [.ref T, .ref r, .int (nI f), .int (nI n_)]) [] h (Ex none (sI h 580 T (nI 1))) := by
  have tf_ := tx_f cf hT
  refine Ev_iload_n dX8_putMade_0 rfl ?_
  refine Ev_if_ltT 20 dX8_putMade_1 (by decide) (fun zb1_ => ?_) (fun zb1_ => ?_)
  · exact absurd zb1_ (by rw [hi_n (by omega)]; omega)
  · refine Ev_iload_n dX8_putMade_4 rfl ?_
    refine Ev_if_ltT 20 dX8_putMade_5 (by decide) (fun zb5_ => ?_) (fun zb5_ => ?_)
    · exact absurd zb5_ (by rw [hi_n (by omega)]; omega)
    · refine Ev_iload_n dX8_putMade_8 rfl ?_
      refine Ev_iload_n dX8_putMade_9 rfl ?_
      refine Ev_iaddN dX8_putMade_10 ?_
      refine Ev_aload_n dX8_putMade_11 rfl (by first | exact Or.inr ⟨_, rfl⟩ | exact rv_or _ | exact Or.inl rfl) ?_
      refine Ev_alen dX8_putMade_12 kr_ (by omega) (by omega) ?_
      refine Ev_icmp_gtN 20 dX8_putMade_13 (by decide) (by omega) (by omega) (fun zb13_ => ?_) (fun zb13_ => ?_)
      · exact absurd zb13_ (by omega)
      · refine Ev_iconst (v := nI 1) dX8_putMade_16 (by decide) ?_
        refine Ev_goto 21 dX8_putMade_17 (by decide) ?_
        refine Ev_istore dX8_putMade_21 (by decide) ?_
        refine Ev_aload_n dX8_putMade_23 rfl (by first | exact Or.inr ⟨_, rfl⟩ | exact rv_or _ | exact Or.inl rfl) ?_
        refine Ev_getE dX8_putMade_24 fX8_28 tf_.1 fu_ ?_
        refine Ev_if_neT 54 dX8_putMade_27 (by decide) (fun zb27_ => ?_) (fun zb27_ => ?_)
        · refine Ev_aload_n dX8_putMade_54 rfl (by first | exact Or.inr ⟨_, rfl⟩ | exact rv_or _ | exact Or.inl rfl) ?_
          refine Ev_iconst (v := nI 1) dX8_putMade_55 (by decide) ?_
          refine Ev_putI dX8_putMade_56 fX8_28 ⟨_, rfl, Or.inl rfl⟩ (Or.inr ⟨rfl, (by decide)⟩) tf_.1 ?_
          refine Ev_vret dX8_putMade_59 rfl ?_
          exact ⟨rfl, rfl⟩
        · exact absurd zb27_ (by decide)
theorem nI_dec (a : Nat) : nI (a + 1) + Int32.ofInt (-1) = nI a := by
  rw [show Int32.ofInt (-1) = (0 : Int32) - nI 1 by decide, ← nI_add, Int32.add_assoc, show nI 1 + ((0 : Int32) - nI 1) = 0 by decide, Int32.add_zero]
theorem lg_iff {v j : Nat} (hv : v < 1000000) (hj : j ≤ 5) : j < lg v ↔ 10 ^ (j + 1) ≤ v := by
  rcases (show j = 0 ∨ j = 1 ∨ j = 2 ∨ j = 3 ∨ j = 4 ∨ j = 5 by omega) with rfl | rfl | rfl | rfl | rfl | rfl
  · rw [show (10 : Nat) ^ (0 + 1) = 10 from rfl]; unfold lg; repeat' split
    all_goals omega
  · rw [show (10 : Nat) ^ (1 + 1) = 100 from rfl]; unfold lg; repeat' split
    all_goals omega
  · rw [show (10 : Nat) ^ (2 + 1) = 1000 from rfl]; unfold lg; repeat' split
    all_goals omega
  · rw [show (10 : Nat) ^ (3 + 1) = 10000 from rfl]; unfold lg; repeat' split
    all_goals omega
  · rw [show (10 : Nat) ^ (4 + 1) = 100000 from rfl]; unfold lg; repeat' split
    all_goals omega
  · rw [show (10 : Nat) ^ (5 + 1) = 1000000 from rfl]; unfold lg; repeat' split
    all_goals omega
/-- the digits behind spell -/
def SpP (v : Nat) (h : aH) (x : Option Value) (h' : aH) : Prop := x = some (.int (nI (5 - lg v))) ∧ FO (fun b => b = 25) h h' ∧ ∀ k, k ≤ lg v → hX h' 25 (5 - lg v + k) = (digs v).getD k 0
theorem ec_spell_l (l : Launch) (G : aG) (v : Nat) (hv_ : v < 1000000) (h : aH) (ms : Nat) : ∀ a j, a + j = 5 → j ≤ lg v → lg v - j < ms → ∀ h1, hK h1 24 = 4 → hR h1 256 24 = some 25 → hK h1 25 = 13 → hL h1 25 = 6 → FO (fun b => b = 25) h h1 → (∀ k, k < j → hX h1 25 (5 - k) = nI (48 + v / 10 ^ k % 10)) → Ev l G 0 0 0 mX3_spell 5 [.ref 24, .int (nI v), .int (nI (a + 1)), .int (nI (v / 10 ^ j))] [] h1 (SpP v h) := by
  induction ms with
  | zero => intro a j h1 h2 h3; omega
  | succ ms ih_ =>
    intro a j aj_ jl0_ ms_ h1 k24_ r25_ k25_ l25_ fo_ dg_
    have dvb_ : v / 10 ^ j ≤ v := Nat.div_le_self _ _
    have dvs_ : v / 10 ^ j / 10 = v / 10 ^ (j + 1) := by rw [Nat.div_div_eq_div_mul, Nat.pow_succ]
    have dvb2_ : v / 10 ^ (j + 1) ≤ v := Nat.div_le_self _ _
    have lg5_ := lg_le v
    refine Ev_iinc dX3_spell_5 (by decide) rfl rfl ?_
    rw [nI_dec]
    refine Ev_aload_n dX3_spell_8 rfl (by first | exact Or.inr ⟨_, rfl⟩ | exact rv_or _ | exact Or.inl rfl) ?_
    refine Ev_getA dX3_spell_9 fX3_9 k24_ r25_ ?_
    refine Ev_iload_n dX3_spell_12 rfl ?_
    refine Ev_bipush (v := nI 48) dX3_spell_13 (by decide) ?_
    refine Ev_iload_n dX3_spell_15 rfl ?_
    refine Ev_bipush (v := nI 10) dX3_spell_16 (by decide) ?_
    refine Ev_iremN dX3_spell_18 (by omega) (by omega) (by omega) ?_
    refine Ev_iaddN dX3_spell_19 ?_
    refine Ev_iastL a dX3_spell_20 k25_ l25_ (hi_n (by omega)) (by omega) ?_
    refine Ev_iload_n dX3_spell_21 rfl ?_
    refine Ev_bipush (v := nI 10) dX3_spell_22 (by decide) ?_
    refine Ev_idivN dX3_spell_24 (by omega) (by omega) (by omega) ?_
    refine Ev_istore_n dX3_spell_25 (by decide) ?_
    refine Ev_iload_n dX3_spell_26 rfl ?_
    refine Ev_if_leT 34 dX3_spell_27 (by decide) (fun zb27_ => ?_) (fun zb27_ => ?_)
    · refine Ev_iload_n dX3_spell_34 rfl ?_
      refine Ev_iret dX3_spell_35 rfl ?_
      have jl_ : j = lg v := by
        rcases Nat.lt_or_ge j (lg v) with y | y
        · exfalso
          have y2 := (lg_iff hv_ (by omega)).mp y
          first
          | (have := lg_le v; rw [hi_n (by omega)] at zb27_; omega)
          | (have y3 : 0 < v / 10 ^ (j + 1) := Nat.div_pos y2 (Nat.pow_pos (by decide))
             rw [dvs_, hi_n (by omega)] at zb31_; omega)
        · omega
      refine ⟨by rw [show a = 5 - lg v by omega], fo_.tr (FO.sX rfl), fun k hk => ?_⟩
      rw [digs_at hk]
      by_cases y : k = 0
      · subst y
        rw [Nat.sub_zero, ← jl_, show 5 - j + 0 = a by omega]
        exact hX_s _ _ _ _
      · rw [hX_n _ _ (by omega), show 5 - lg v + k = 5 - (lg v - k) by omega]
        exact dg_ _ (by omega)
    · refine Ev_iload_n dX3_spell_30 rfl ?_
      refine Ev_if_gtT 5 dX3_spell_31 (by decide) (fun zb31_ => ?_) (fun zb31_ => ?_)
      · have z_ : 0 < v / 10 ^ (j + 1) := by
          rw [dvs_] at zb31_
          rw [hi_n (by omega)] at zb31_; omega
        have j1_ : j < lg v := (lg_iff hv_ (by omega)).mpr (by
          rcases Nat.lt_or_ge v (10 ^ (j + 1)) with y | y
          · rw [Nat.div_eq_of_lt y] at z_; omega
          · exact y)
        obtain ⟨a', rfl⟩ : ∃ a', a = a' + 1 := ⟨a - 1, by omega⟩
        rw [dvs_]
        exact ih_ a' (j + 1) (by omega) (by omega) (by omega) _ k24_ r25_ k25_ l25_ (fo_.tr (FO.sX rfl)) (fun k hk => by
          by_cases y : k = j
          · subst y
            rw [show 5 - k = a' + 1 by omega]; exact hX_s _ _ _ _
          · rw [hX_n _ _ (by omega)]; exact dg_ k (by omega))
      · refine Ev_iload_n dX3_spell_34 rfl ?_
        refine Ev_iret dX3_spell_35 rfl ?_
        have jl_ : j = lg v := by
          rcases Nat.lt_or_ge j (lg v) with y | y
          · exfalso
            have y2 := (lg_iff hv_ (by omega)).mp y
            first
            | (have := lg_le v; rw [hi_n (by omega)] at zb27_; omega)
            | (have y3 : 0 < v / 10 ^ (j + 1) := Nat.div_pos y2 (Nat.pow_pos (by decide))
               rw [dvs_, hi_n (by omega)] at zb31_; omega)
          · omega
        refine ⟨by rw [show a = 5 - lg v by omega], fo_.tr (FO.sX rfl), fun k hk => ?_⟩
        rw [digs_at hk]
        by_cases y : k = 0
        · subst y
          rw [Nat.sub_zero, ← jl_, show 5 - j + 0 = a by omega]
          exact hX_s _ _ _ _
        · rw [hX_n _ _ (by omega), show 5 - lg v + k = 5 - (lg v - k) by omega]
          exact dg_ _ (by omega)
theorem ec_spell (l : Launch) (G : aG) (v : Nat) (hv_ : v < 1000000) (h : aH) (cf : Cf h) : Ev l G 0 0 0 mX3_spell 0 (en 4 [.ref 24, .int (nI v)]) [] h (SpP v h) := by
  refine Ev_bipush (v := nI 6) dX3_spell_0 (by decide) ?_
  refine Ev_istore_n dX3_spell_2 (by decide) ?_
  refine Ev_iload_n dX3_spell_3 rfl ?_
  refine Ev_istore_n dX3_spell_4 (by decide) ?_
  have e0_ : v = v / 10 ^ 0 := by rw [Nat.pow_zero, Nat.div_one]
  have K_ := ec_spell_l l G v hv_ h (lg v + 1) 5 0 (by omega) (by omega) (by omega) h (ck_24 cf) (cr_256_24 cf) (ck_25 cf) (cl_25 cf) FO.rf (fun k hk => absurd hk (by omega))
  rw [← e0_] at K_
  exact K_
