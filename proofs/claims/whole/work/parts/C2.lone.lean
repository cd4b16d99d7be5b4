/-! a list of fewer than thirty grows -/
theorem ej_grow1s (l : Launch) (G : aG) (a : Nat) (xs : List Nat) (ci : Nat) (h : aH) (al_ : AL a xs ci h) (hci : lkd ci) (h40 : xs.length < 30) (hf : ∀ e, hR h 1 a = some e → e = 1 ∨ (hL h e = xs.length ∧ 0 < xs.length)) : Ev l G 3 1 43 mJx4a65c_grow_92f84 0 (en 4 [.ref a, .int (nI (xs.length + 1))]) [] h (fun v h' => v = some (.ref (hN h + 3)) ∧ GR a xs h h') := by
  refine Ev_hv (fun hv => ?_)
  have ha_ := hv a (by rw [al_.1]; decide)
  have hk2_ : hK (nA h 15 10) a = 0 := (up1_n _ _ (by omega)).trans al_.1
  obtain ⟨e, he_, ⟨rfl, rfl⟩ | ⟨hk_, h66_, hl_, hl2_, hy_⟩⟩ := al_.2.2.2.2
  · skip
    refine Ev_aload_n dJx4a65c_grow_92f84_0 rfl (by first | exact Or.inr ⟨_, rfl⟩ | exact rv_or _ | exact Or.inl rfl) ?_
    refine Ev_getA dJx4a65c_grow_92f84_1 fJx4a65c_9 al_.1 he_ ?_
    refine Ev_elen dJx4a65c_grow_92f84_4 ?_
    refine Ev_istore_n dJx4a65c_grow_92f84_5 (by decide) ?_
    refine Ev_iload_n dJx4a65c_grow_92f84_6 rfl ?_
    refine Ev_if_gtT 20 dJx4a65c_grow_92f84_7 (by decide) (fun zb7_ => ?_) (fun zb7_ => ?_)
    · exact absurd zb7_ (by decide)
    · refine Ev_aload_n dJx4a65c_grow_92f84_10 rfl (by first | exact Or.inr ⟨_, rfl⟩ | exact rv_or _ | exact Or.inl rfl) ?_
      refine Ev_getA dJx4a65c_grow_92f84_11 fJx4a65c_9 al_.1 he_ ?_
      refine Ev_gets dJx4a65c_grow_92f84_14 fJx4a65c_39 ?_
      refine Ev_acmp_eqS 45 dJx4a65c_grow_92f84_17 (by decide) ?_
      refine Ev_aload_n dJx4a65c_grow_92f84_45 rfl (by first | exact Or.inr ⟨_, rfl⟩ | exact rv_or _ | exact Or.inl rfl) ?_
      refine Ev_bipush (v := nI 10) dJx4a65c_grow_92f84_46 (by decide) ?_
      refine Ev_iload_n dJx4a65c_grow_92f84_48 rfl ?_
      refine Ev_mmax dJx4a65c_grow_92f84_49 (by omega) rfl (Nat.le_of_ble_eq_true rfl) kJx4a65c_79 ?_
      refine Ev_top (y := .int (nI 10)) (congrArg Value.int (by decide)) ?_
      refine Ev.wide (mc' := 0 + 1) (ms' := 33 + 10) (by omega) (by omega) ?_
      refine Ev_newq (kd := 15) 10 dJx4a65c_grow_92f84_52 rfl (by omega) (by omega) qJx4a65c_7 ao_java_lang_Object (by decide) (by omega) ?_
      refine Ev_dup_x1 dJx4a65c_grow_92f84_55 (by first | rfl | exact okv_rv _) (by first | rfl | exact okv_rv _) ?_
      refine Ev_putR (x := some (hN h + 3)) dJx4a65c_grow_92f84_56 fJx4a65c_9 ⟨_, rfl, Or.inl rfl⟩ hk2_ rfl ?_
      refine Ev_aret dJx4a65c_grow_92f84_59 rfl (Or.inr ⟨_, rfl⟩) (by first | exact Or.inr ⟨_, rfl⟩ | exact rv_or _ | exact Or.inl rfl) ?_
      refine ⟨rfl, rfl, up1_s _ _ _, ?_, ?_, fun i x hx => by simp at hx, hR_s _ _ _ _, FO.nA.tr (FO.sR rfl), fun k => rfl⟩
      · show 0 < up1 (hL h) (hN h + 3) 10 (hN h + 3)
        rw [up1_s]; omega
      · show up1 (hL h) (hN h + 3) 10 (hN h + 3) ≤ 100
        rw [up1_s]; omega
  · have hL_ := (hf e he_).resolve_left (by omega)
    have h0_ := hL_.2
    have hL_ := hL_.1
    refine Ev_aload_n dJx4a65c_grow_92f84_0 rfl (by first | exact Or.inr ⟨_, rfl⟩ | exact rv_or _ | exact Or.inl rfl) ?_
    refine Ev_getA dJx4a65c_grow_92f84_1 fJx4a65c_9 al_.1 he_ ?_
    refine Ev_alen dJx4a65c_grow_92f84_4 hk_ (by omega) (by omega) ?_
    rw [hL_]
    refine Ev_istore_n dJx4a65c_grow_92f84_5 (by decide) ?_
    refine Ev_iload_n dJx4a65c_grow_92f84_6 rfl ?_
    refine Ev_if_gtT 20 dJx4a65c_grow_92f84_7 (by decide) (fun zb7_ => ?_) (fun zb7_ => ?_)
    · refine Ev_iload_n dJx4a65c_grow_92f84_20 rfl ?_
      refine Ev_iload_n dJx4a65c_grow_92f84_21 rfl ?_
      refine Ev_iload_n dJx4a65c_grow_92f84_22 rfl ?_
      refine Ev_isubN dJx4a65c_grow_92f84_23 (by omega) ?_
      refine Ev_top (y := .int (nI 1)) (by rw [Nat.add_sub_cancel_left]) ?_
      refine Ev_iload_n dJx4a65c_grow_92f84_24 rfl ?_
      refine Ev_iconst (v := nI 1) dJx4a65c_grow_92f84_25 (by decide) ?_
      refine Ev_ishr dJx4a65c_grow_92f84_26 ?_
      refine Ev_top (y := .int (nI (xs.length / 2))) (by rw [pk_shrN (by omega) _ 1 (by decide), Nat.pow_one]) ?_
      refine Ev_S0 [.int (nI xs.length), .int (nI 1), .int (nI (xs.length / 2))] dJx4a65c_grow_92f84_27 sJ8_newLength_cabcc kJx4a65c_73 rfl rfl rfl (Nat.le_of_ble_eq_true rfl) (by omega) (ej_newLength l G xs.length (xs.length / 2) (by omega) (by omega) (by omega) h) ?_
      refine Ev_istore_n dJx4a65c_grow_92f84_30 (by decide) ?_
      refine Ev_aload_n dJx4a65c_grow_92f84_31 rfl (by first | exact Or.inr ⟨_, rfl⟩ | exact rv_or _ | exact Or.inl rfl) ?_
      refine Ev_aload_n dJx4a65c_grow_92f84_32 rfl (by first | exact Or.inr ⟨_, rfl⟩ | exact rv_or _ | exact Or.inl rfl) ?_
      refine Ev_getA dJx4a65c_grow_92f84_33 fJx4a65c_9 al_.1 he_ ?_
      refine Ev_iload_n dJx4a65c_grow_92f84_36 rfl ?_
      refine Ev_Sg (mc2 := 0) (ms2 := 0) [.ref e, .int (nI (xs.length + max 1 (xs.length / 2)))] dJx4a65c_grow_92f84_37 sJ7_copyOf_1904c kJx4a65c_66 rfl rfl rfl (Nat.le_of_ble_eq_true rfl) (by omega) (by omega) (by omega) (ej_copy2 l G e (xs.length + max 1 (xs.length / 2)) xs.length ci h hk_ hL_ (by omega) (by omega) hci (fun i y hi hy => ?_)) (fun v_ h1 e_ => ?_)
      · obtain ⟨x, hx⟩ : ∃ x : Nat, xs[i]? = some x := ⟨_, List.getElem?_eq_getElem hi⟩
        rw [hy_ i x hx] at hy
        rw [← Option.some.inj hy]
        exact al_.2.2.2.1 x (List.mem_of_getElem? hx)
      obtain ⟨rfl, rfl⟩ := e_
      refine Ev_dup_x1 dJx4a65c_grow_92f84_40 (by first | rfl | exact okv_rv _) (by first | rfl | exact okv_rv _) ?_
      have hkC_ : hK (hCp h e (xs.length + max 1 (xs.length / 2)) xs.length) a = 0 := (up1_n _ _ (by omega)).trans al_.1
      refine Ev_putR (x := some (hN h + 3)) dJx4a65c_grow_92f84_41 fJx4a65c_9 ⟨_, rfl, Or.inl rfl⟩ hkC_ rfl ?_
      refine Ev_aret dJx4a65c_grow_92f84_44 rfl (Or.inr ⟨_, rfl⟩) (by first | exact Or.inr ⟨_, rfl⟩ | exact rv_or _ | exact Or.inl rfl) ?_
      refine ⟨rfl, rfl, up1_s _ _ _, ?_, ?_, fun i x hx => ?_, hR_s _ _ _ _, (FO.nA (C := fun b => b = a ∨ b = hN h + 3)).tr ((FO.sYs (Or.inr rfl)).tr (FO.sR (Or.inl rfl))) |>.mo (fun b hb z => z.elim id (fun z => by omega)), fun k => rfl⟩
      · show xs.length < up1 (hL h) (hN h + 3) (xs.length + max 1 (xs.length / 2)) (hN h + 3)
        rw [up1_s]; omega
      · show up1 (hL h) (hN h + 3) (xs.length + max 1 (xs.length / 2)) (hN h + 3) ≤ 100
        rw [up1_s]; omega
      · have hi := (List.getElem?_eq_some_iff.mp hx).1
        show up1 (up1 (hY h) (hN h + 3) (fun _ => none)) (hN h + 3) (va_cpy (hY h e) (fun _ => none) 0 0 xs.length) (hN h + 3) i = some x
        rw [up1_s, pk_cpy_in (by omega) (by omega), Nat.zero_add, Nat.sub_zero]
        exact hy_ i x hx
    · exact absurd (show (0 : Int) < (nI xs.length).toInt by rw [hi_n (by omega)]; omega) zb7_
theorem ej_grows (l : Launch) (G : aG) (a : Nat) (xs : List Nat) (ci : Nat) (h : aH) (al_ : AL a xs ci h) (hci : lkd ci) (h40 : xs.length < 30) (hf : ∀ e, hR h 1 a = some e → e = 1 ∨ (hL h e = xs.length ∧ 0 < xs.length)) : Ev l G 4 1 43 mJx4a65c_grow_d5877 0 (en 1 [.ref a]) [] h (fun v h' => v = some (.ref (hN h + 3)) ∧ GR a xs h h') := by
  refine Ev_aload_n dJx4a65c_grow_d5877_0 rfl (by first | exact Or.inr ⟨_, rfl⟩ | exact rv_or _ | exact Or.inl rfl) ?_
  refine Ev_aload_n dJx4a65c_grow_d5877_1 rfl (by first | exact Or.inr ⟨_, rfl⟩ | exact rv_or _ | exact Or.inl rfl) ?_
  refine Ev_getE dJx4a65c_grow_d5877_2 fJx4a65c_48 al_.1 al_.2.1 ?_
  refine Ev_iconst (v := nI 1) dJx4a65c_grow_d5877_5 (by decide) ?_
  refine Ev_iaddN dJx4a65c_grow_d5877_6 ?_
  refine Ev_Vg (mc2 := 0) (ms2 := 0) [.int (nI (xs.length + 1))] dJx4a65c_grow_d5877_7 vJx4a65c_grow_92f84 kJx4a65c_69 al_.1 rfl rfl rfl (Nat.le_of_ble_eq_true rfl) (by omega) (by omega) (by omega) (ej_grow1s l G a xs ci h al_ hci h40 hf) (fun v_ h1 e_ => ?_)
  obtain ⟨rfl, gr_⟩ := e_
  refine Ev_aret dJx4a65c_grow_d5877_10 rfl (Or.inr ⟨_, rfl⟩) (by first | exact Or.inr ⟨_, rfl⟩ | exact rv_or _ | exact Or.inl rfl) ?_
  exact ⟨rfl, gr_⟩
theorem ej_add3s (l : Launch) (G : aG) (a x : Nat) (xs : List Nat) (ci : Nat) (h : aH) (al_ : AX a xs ci h) (hx_ : hK h x = ci) (hci : lkd ci) (h40 : xs.length < 30) (h63_ : 63 ≤ hN h) (e0_ : Nat) (he0_ : hR h 1 a = some e0_) : Ev l G 5 1 43 mJx4a65c_add_72be8 0 (en 4 [.ref a, .ref x, .ref e0_, .int (nI xs.length)]) [] h (fun v h' => v = none ∧ LpA a (xs ++ [x]) ci h h') := by
  refine Ev_hv (fun hv => ?_)
  obtain ⟨r, hr1_, hr2_⟩ := id hci
  obtain ⟨e, he_, ⟨rfl, hxs0_⟩ | ⟨hk_, h66_, hl_, hl2_, hy_⟩⟩ := al_.1.2.2.2.2
  · obtain rfl : (1 : Nat) = e0_ := Option.some.inj (he_.symm.trans he0_)
    have hxl_ : xs.length = 0 := by rw [hxs0_]; rfl
    have hf_ : ∀ e, hR h 1 a = some e → e = 1 ∨ (hL h e = xs.length ∧ 0 < xs.length) := fun e' h' => Or.inl (Option.some.inj (h'.symm.trans he0_))
    refine Ev_iload_n dJx4a65c_add_72be8_0 rfl ?_
    refine Ev_aload_n dJx4a65c_add_72be8_1 rfl (by first | exact Or.inr ⟨_, rfl⟩ | exact rv_or _ | exact Or.inl rfl) ?_
    refine Ev_elen dJx4a65c_add_72be8_2 ?_
    refine Ev_icmp_neN 11 dJx4a65c_add_72be8_3 (by decide) (by omega) (by omega) (fun zb3_ => ?_) (fun zb3_ => ?_)
    · exact False.elim (by omega)
    · refine Ev_aload_n dJx4a65c_add_72be8_6 rfl (by first | exact Or.inr ⟨_, rfl⟩ | exact rv_or _ | exact Or.inl rfl) ?_
      refine Ev_Vg (mc2 := 0) (ms2 := 0) [] dJx4a65c_add_72be8_7 vJx4a65c_grow_d5877 kJx4a65c_129 al_.1.1 rfl rfl rfl (Nat.le_of_ble_eq_true rfl) (by omega) (by omega) (by omega) (ej_grows l G a xs ci h al_.1 hci (by omega) hf_) (fun v_ h1 e_ => ?_)
      obtain ⟨rfl, g1_, g2_, g3_, g4_, g5_, g6_, g7_, g8_⟩ := e_
      have hxk_ : hK h1 x = ci := g7_.k hv hx_ (by have := vw_lt hr1_; omega)
      have hka_ : hK h1 a = 0 := g7_.k hv al_.1.1 (by decide)
      refine Ev_astore_n dJx4a65c_add_72be8_10 (by decide) (by first | exact Or.inr ⟨_, rfl⟩ | exact rv_or _ | exact Or.inl rfl) ?_
      refine Ev_aload_n dJx4a65c_add_72be8_11 rfl (by first | exact Or.inr ⟨_, rfl⟩ | exact rv_or _ | exact Or.inl rfl) ?_
      refine Ev_iload_n dJx4a65c_add_72be8_12 rfl ?_
      refine Ev_aload_n dJx4a65c_add_72be8_13 rfl (by first | exact Or.inr ⟨_, rfl⟩ | exact rv_or _ | exact Or.inl rfl) ?_
      refine Ev_aast (kd := 15) xs.length dJx4a65c_add_72be8_14 g2_ (by omega) (by omega) rfl hxk_ hr1_ (Or.inr hr2_) (hi_n (by omega)) (by omega) ?_
      refine Ev_aload_n dJx4a65c_add_72be8_15 rfl (by first | exact Or.inr ⟨_, rfl⟩ | exact rv_or _ | exact Or.inl rfl) ?_
      refine Ev_iload_n dJx4a65c_add_72be8_16 rfl ?_
      refine Ev_iconst (v := nI 1) dJx4a65c_add_72be8_17 (by decide) ?_
      refine Ev_iaddN dJx4a65c_add_72be8_18 ?_
      refine Ev_putI dJx4a65c_add_72be8_19 fJx4a65c_48 ⟨_, rfl, Or.inl rfl⟩ (Or.inl rfl) hka_ ?_
      refine Ev_vret dJx4a65c_add_72be8_22 rfl ?_
      refine ⟨rfl, ⟨⟨hka_, by rw [hI_s]; simp, by simp; omega, fun y hy => ?_, hN h + 3, g6_, Or.inr ⟨g2_, by omega, by simp; show xs.length + 1 ≤ hL h1 (hN h + 3); omega, g4_, fun i y hy => ?_⟩⟩, fun e' he' => ?_⟩, ?_, Or.inr ⟨g6_, g1_⟩⟩
      · rcases List.mem_append.mp hy with h2 | h2
        · exact g7_.k hv (al_.1.2.2.2.1 y h2) (by have := vw_lt hr1_; omega)
        · rw [List.mem_singleton.mp h2]; exact hxk_
      · show hY (sY h1 (hN h + 3) xs.length (some x)) (hN h + 3) i = some y
        rcases app_at hy with ⟨h3, h2⟩ | ⟨rfl, rfl⟩
        · rw [hY_n _ _ (by omega)]; exact g5_ i y h2
        · exact hY_s _ _ _ _
      · have h2 : hR h1 1 a = some e' := he'
        obtain rfl : hN h + 3 = e' := Option.some.inj (g6_.symm.trans h2)
        exact Or.inr (show 1 ≤ hL h1 (hN h + 3) by omega)
      · exact (((g7_.mo (C' := fun b => b = a ∨ b = hN h + 3) (fun b hb z => Or.inl z)).tr (FO.sY (Or.inr rfl))).tr (FO.sI (Or.inl rfl))).mo (fun b hb z => z.elim Or.inl (fun z => by omega))
  · obtain rfl : e = e0_ := Option.some.inj (he_.symm.trans he0_)
    have h10_ := (al_.2 _ he0_).resolve_left (by omega)
    by_cases z_ : xs.length = hL h e
    · have hf_ : ∀ e, hR h 1 a = some e → e = 1 ∨ (hL h e = xs.length ∧ 0 < xs.length) := fun e' h' => by obtain rfl : e = e' := Option.some.inj (he0_.symm.trans h'); exact Or.inr ⟨z_.symm, by omega⟩
      refine Ev_iload_n dJx4a65c_add_72be8_0 rfl ?_
      refine Ev_aload_n dJx4a65c_add_72be8_1 rfl (by first | exact Or.inr ⟨_, rfl⟩ | exact rv_or _ | exact Or.inl rfl) ?_
      refine Ev_alen dJx4a65c_add_72be8_2 hk_ (by omega) (by omega) ?_
      refine Ev_icmp_neN 11 dJx4a65c_add_72be8_3 (by decide) (by omega) (by omega) (fun zb3_ => ?_) (fun zb3_ => ?_)
      · exact False.elim (by omega)
      · refine Ev_aload_n dJx4a65c_add_72be8_6 rfl (by first | exact Or.inr ⟨_, rfl⟩ | exact rv_or _ | exact Or.inl rfl) ?_
        refine Ev_Vg (mc2 := 0) (ms2 := 0) [] dJx4a65c_add_72be8_7 vJx4a65c_grow_d5877 kJx4a65c_129 al_.1.1 rfl rfl rfl (Nat.le_of_ble_eq_true rfl) (by omega) (by omega) (by omega) (ej_grows l G a xs ci h al_.1 hci (by omega) hf_) (fun v_ h1 e_ => ?_)
        obtain ⟨rfl, g1_, g2_, g3_, g4_, g5_, g6_, g7_, g8_⟩ := e_
        have hxk_ : hK h1 x = ci := g7_.k hv hx_ (by have := vw_lt hr1_; omega)
        have hka_ : hK h1 a = 0 := g7_.k hv al_.1.1 (by decide)
        refine Ev_astore_n dJx4a65c_add_72be8_10 (by decide) (by first | exact Or.inr ⟨_, rfl⟩ | exact rv_or _ | exact Or.inl rfl) ?_
        refine Ev_aload_n dJx4a65c_add_72be8_11 rfl (by first | exact Or.inr ⟨_, rfl⟩ | exact rv_or _ | exact Or.inl rfl) ?_
        refine Ev_iload_n dJx4a65c_add_72be8_12 rfl ?_
        refine Ev_aload_n dJx4a65c_add_72be8_13 rfl (by first | exact Or.inr ⟨_, rfl⟩ | exact rv_or _ | exact Or.inl rfl) ?_
        refine Ev_aast (kd := 15) xs.length dJx4a65c_add_72be8_14 g2_ (by omega) (by omega) rfl hxk_ hr1_ (Or.inr hr2_) (hi_n (by omega)) (by omega) ?_
        refine Ev_aload_n dJx4a65c_add_72be8_15 rfl (by first | exact Or.inr ⟨_, rfl⟩ | exact rv_or _ | exact Or.inl rfl) ?_
        refine Ev_iload_n dJx4a65c_add_72be8_16 rfl ?_
        refine Ev_iconst (v := nI 1) dJx4a65c_add_72be8_17 (by decide) ?_
        refine Ev_iaddN dJx4a65c_add_72be8_18 ?_
        refine Ev_putI dJx4a65c_add_72be8_19 fJx4a65c_48 ⟨_, rfl, Or.inl rfl⟩ (Or.inl rfl) hka_ ?_
        refine Ev_vret dJx4a65c_add_72be8_22 rfl ?_
        refine ⟨rfl, ⟨⟨hka_, by rw [hI_s]; simp, by simp; omega, fun y hy => ?_, hN h + 3, g6_, Or.inr ⟨g2_, by omega, by simp; show xs.length + 1 ≤ hL h1 (hN h + 3); omega, g4_, fun i y hy => ?_⟩⟩, fun e' he' => ?_⟩, ?_, Or.inr ⟨g6_, g1_⟩⟩
        · rcases List.mem_append.mp hy with h2 | h2
          · exact g7_.k hv (al_.1.2.2.2.1 y h2) (by have := vw_lt hr1_; omega)
          · rw [List.mem_singleton.mp h2]; exact hxk_
        · show hY (sY h1 (hN h + 3) xs.length (some x)) (hN h + 3) i = some y
          rcases app_at hy with ⟨h3, h2⟩ | ⟨rfl, rfl⟩
          · rw [hY_n _ _ (by omega)]; exact g5_ i y h2
          · exact hY_s _ _ _ _
        · have h2 : hR h1 1 a = some e' := he'
          obtain rfl : hN h + 3 = e' := Option.some.inj (g6_.symm.trans h2)
          exact Or.inr (show 1 ≤ hL h1 (hN h + 3) by omega)
        · exact (((g7_.mo (C' := fun b => b = a ∨ b = hN h + 3) (fun b hb z => Or.inl z)).tr (FO.sY (Or.inr rfl))).tr (FO.sI (Or.inl rfl))).mo (fun b hb z => z.elim Or.inl (fun z => by omega))
    · skip
      refine Ev_iload_n dJx4a65c_add_72be8_0 rfl ?_
      refine Ev_aload_n dJx4a65c_add_72be8_1 rfl (by first | exact Or.inr ⟨_, rfl⟩ | exact rv_or _ | exact Or.inl rfl) ?_
      refine Ev_alen dJx4a65c_add_72be8_2 hk_ (by omega) (by omega) ?_
      refine Ev_icmp_neN 11 dJx4a65c_add_72be8_3 (by decide) (by omega) (by omega) (fun zb3_ => ?_) (fun zb3_ => ?_)
      · refine Ev_aload_n dJx4a65c_add_72be8_11 rfl (by first | exact Or.inr ⟨_, rfl⟩ | exact rv_or _ | exact Or.inl rfl) ?_
        refine Ev_iload_n dJx4a65c_add_72be8_12 rfl ?_
        refine Ev_aload_n dJx4a65c_add_72be8_13 rfl (by first | exact Or.inr ⟨_, rfl⟩ | exact rv_or _ | exact Or.inl rfl) ?_
        refine Ev_aast (kd := 15) xs.length dJx4a65c_add_72be8_14 hk_ (by omega) (by omega) rfl hx_ hr1_ (Or.inr hr2_) (hi_n (by omega)) (by omega) ?_
        refine Ev_aload_n dJx4a65c_add_72be8_15 rfl (by first | exact Or.inr ⟨_, rfl⟩ | exact rv_or _ | exact Or.inl rfl) ?_
        refine Ev_iload_n dJx4a65c_add_72be8_16 rfl ?_
        refine Ev_iconst (v := nI 1) dJx4a65c_add_72be8_17 (by decide) ?_
        refine Ev_iaddN dJx4a65c_add_72be8_18 ?_
        refine Ev_putI dJx4a65c_add_72be8_19 fJx4a65c_48 ⟨_, rfl, Or.inl rfl⟩ (Or.inl rfl) al_.1.1 ?_
        refine Ev_vret dJx4a65c_add_72be8_22 rfl ?_
        refine ⟨rfl, ⟨⟨al_.1.1, by rw [hI_s]; simp, by simp; omega, fun y hy => ?_, e, he_, Or.inr ⟨hk_, h66_, by simp; show xs.length + 1 ≤ hL h e; omega, hl2_, fun i y hy => ?_⟩⟩, al_.2⟩, (FO.sY (Or.inr he_)).tr (FO.sI (Or.inl rfl)), Or.inl ⟨rfl, rfl⟩⟩
        · rcases List.mem_append.mp hy with h1 | h1
          · exact al_.1.2.2.2.1 y h1
          · rw [List.mem_singleton.mp h1]; exact hx_
        · show hY (sY h e xs.length (some x)) e i = some y
          rcases app_at hy with ⟨h1, h2⟩ | ⟨rfl, rfl⟩
          · rw [hY_n _ _ (by omega)]; exact hy_ i y h2
          · exact hY_s _ _ _ _
      · exact False.elim (by omega)
theorem ej_adds (l : Launch) (G : aG) (a x : Nat) (xs : List Nat) (ci : Nat) (h : aH) (al_ : AX a xs ci h) (hx_ : hK h x = ci) (hci : lkd ci) (h40 : xs.length < 30) (h63_ : 63 ≤ hN h) : Ev l G 6 1 43 mJx4a65c_add_9ea2d 0 (en 2 [.ref a, .ref x]) [] h (fun v h' => v = some (.int (nI 1)) ∧ LpA a (xs ++ [x]) ci h h') := by
  obtain ⟨e_, he_, -⟩ := al_.1.2.2.2.2
  refine Ev_aload_n dJx4a65c_add_9ea2d_0 rfl (by first | exact Or.inr ⟨_, rfl⟩ | exact rv_or _ | exact Or.inl rfl) ?_
  refine Ev_dup dJx4a65c_add_9ea2d_1 (by first | rfl | exact okv_rv _) ?_
  refine Ev_getI dJx4a65c_add_9ea2d_2 fJx4a65c_63 al_.1.1 ?_
  refine Ev_iconst (v := nI 1) dJx4a65c_add_9ea2d_5 (by decide) ?_
  refine Ev_iadd dJx4a65c_add_9ea2d_6 ?_
  refine Ev_putI dJx4a65c_add_9ea2d_7 fJx4a65c_63 ⟨_, rfl, Or.inl rfl⟩ (Or.inl rfl) al_.1.1 ?_
  refine Ev_aload_n dJx4a65c_add_9ea2d_10 rfl (by first | exact Or.inr ⟨_, rfl⟩ | exact rv_or _ | exact Or.inl rfl) ?_
  refine Ev_aload_n dJx4a65c_add_9ea2d_11 rfl (by first | exact Or.inr ⟨_, rfl⟩ | exact rv_or _ | exact Or.inl rfl) ?_
  refine Ev_aload_n dJx4a65c_add_9ea2d_12 rfl (by first | exact Or.inr ⟨_, rfl⟩ | exact rv_or _ | exact Or.inl rfl) ?_
  refine Ev_getA dJx4a65c_add_9ea2d_13 fJx4a65c_9 al_.1.1 he_ ?_
  refine Ev_aload_n dJx4a65c_add_9ea2d_16 rfl (by first | exact Or.inr ⟨_, rfl⟩ | exact rv_or _ | exact Or.inl rfl) ?_
  refine Ev_getE dJx4a65c_add_9ea2d_17 fJx4a65c_48 al_.1.1 ((hI_o _ _ (by decide)).trans al_.1.2.1) ?_
  refine Ev_Vg (mc2 := 0) (ms2 := 0) [.ref x, .ref e_, .int (nI xs.length)] dJx4a65c_add_9ea2d_20 vJx4a65c_add_72be8 kJx4a65c_131 al_.1.1 rfl rfl rfl (Nat.le_of_ble_eq_true rfl) (by omega) (by omega) (by omega) (ej_add3s l G a x xs ci _ al_.md hx_ hci h40 h63_ e_ he_) (fun v_ h1_ z_ => ?_)
  obtain ⟨rfl, lp_⟩ := z_
  refine Ev_iconst (v := nI 1) dJx4a65c_add_9ea2d_23 (by decide) ?_
  refine Ev_zret dJx4a65c_add_9ea2d_24 rfl (by decide) ?_
  exact ⟨rfl, lp_.md⟩
theorem ec_loneInit (l : Launch) (G : aG) (a r : Nat) (s i : Int32) (h : aH) (ka_ : hK h a = 2) : Ev l G 1 0 0 mX1_init 0 (en 4 [.ref a, .ref r, .int s, .int i]) [] h (Ex none (sI (sI (sR h 128 a (some r)) 129 a s) 130 a i)) := by
  refine Ev_aload_n dX1_init_0 rfl (by first | exact Or.inr ⟨_, rfl⟩ | exact rv_or _ | exact Or.inl rfl) ?_
  refine Ev_objI dX1_init_1 (by omega) rfl (Nat.le_of_ble_eq_true rfl) kX1_1 ob_1 ob_2 ?_
  refine Ev_aload_n dX1_init_4 rfl (by first | exact Or.inr ⟨_, rfl⟩ | exact rv_or _ | exact Or.inl rfl) ?_
  refine Ev_aload_n dX1_init_5 rfl (by first | exact Or.inr ⟨_, rfl⟩ | exact rv_or _ | exact Or.inl rfl) ?_
  refine Ev_putR (x := some r) dX1_init_6 fX1_7 ⟨_, rfl, Or.inr ⟨rfl, rfl⟩⟩ ka_ rfl ?_
  refine Ev_aload_n dX1_init_9 rfl (by first | exact Or.inr ⟨_, rfl⟩ | exact rv_or _ | exact Or.inl rfl) ?_
  refine Ev_iload_n dX1_init_10 rfl ?_
  refine Ev_putI dX1_init_11 fX1_13 ⟨_, rfl, Or.inr ⟨rfl, rfl⟩⟩ (Or.inl rfl) ka_ ?_
  refine Ev_aload_n dX1_init_14 rfl (by first | exact Or.inr ⟨_, rfl⟩ | exact rv_or _ | exact Or.inl rfl) ?_
  refine Ev_iload_n dX1_init_15 rfl ?_
  refine Ev_putI dX1_init_16 fX1_17 ⟨_, rfl, Or.inr ⟨rfl, rfl⟩⟩ (Or.inl rfl) ka_ ?_
  refine Ev_vret dX1_init_19 rfl ?_
  exact ⟨rfl, rfl⟩
/-- one lone text's object -/
def CL1 (ow : Ow) (a : Nat) (q : List Int32 × Nat × Nat) (h : aH) : Prop := (q.1.length ≤ 60 ∧ q.2.1 ≤ 4 ∧ q.2.2 ≤ 19) ∧ hK h a = 2 ∧ ow a = (0, 0) ∧ hI h 129 a = nI q.2.1 ∧ hI h 130 a = nI q.2.2 ∧ ∃ r, hR h 128 a = some r ∧ IR ow r q.1 h
theorem CL1.fo {g : Gh} {ow' : Ow} {S : Nat × Nat → Prop} {a : Nat} {q : List Int32 × Nat × Nat} {h h' : aH} (c : CL1 (wO g) a q h) (f : FS g S h h') (hv : Hv h) (e : OwX g ow' h) (d : ¬ S (0, 0)) : CL1 ow' a q h' := by
  obtain ⟨b2, b3, b4, b5, b6, r, b7, b8⟩ := c
  have s := f.s hv b3 (by decide) (by rw [b4]; exact d)
  exact ⟨b2, f.k hv b3 (by decide), (e _ (FO.lt hv b3 (by decide))).trans b4, (s.2.2 _).1.trans b5, (s.2.2 _).1.trans b6, r, (s.2.2 _).2.trans b7, b8.fo f hv e d⟩
/-- the list of the lone texts, without their number -/
def CL0 (ow : Ow) (xs : List Nat) (ln : List (List Int32 × Nat × Nat)) (h : aH) : Prop := CLs ow 27 xs 2 (6, 0) h ∧ xs.length = ln.length ∧ ∀ (i : Nat) (q : List Int32 × Nat × Nat), ln[i]? = some q → ∃ a : Nat, xs[i]? = some a ∧ CL1 ow a q h
theorem CL0.drop {g : Gh} {xs : List Nat} {ln : List (List Int32 × Nat × Nat)} {k : Nat} {h h' : aH} (c : CL0 (wO g) xs ln h) (wf : OwF (wO g)) (hv : Hv h) (lr : LrA 27 k xs 2 h h') : CL0 (wO g) (xs.eraseIdx k) (ln.eraseIdx k) h' := by
  have lf := ls_fs c.1 wf lr.2.1
  refine ⟨⟨lr.1, fun e2 he2 => c.1.2.1 e2 (by rw [← lr.2.2.1]; exact he2), by decide⟩, by rw [List.length_eraseIdx, List.length_eraseIdx, c.2.1], fun i q hq => ?_⟩
  rw [List.getElem?_eraseIdx] at hq
  split at hq
  · next z =>
    obtain ⟨a, b1, b2⟩ := c.2.2 i q hq
    exact ⟨a, by rw [List.getElem?_eraseIdx, if_pos z]; exact b1, b2.fo lf hv (fun _ _ => rfl) (by unfold SLs27; simp)⟩
  · next z =>
    obtain ⟨a, b1, b2⟩ := c.2.2 (i + 1) q hq
    exact ⟨a, by rw [List.getElem?_eraseIdx, if_neg z]; exact b1, b2.fo lf hv (fun _ _ => rfl) (by unfold SLs27; simp)⟩
theorem CL0.add {g : Gh} {xs : List Nat} {ln : List (List Int32 × Nat × Nat)} {x : Nat} {q : List Int32 × Nat × Nat} {h h' : aH} (c : CL0 (wO g) xs ln h) (wf : OwF (wO g)) (hv : Hv h) (c1 : CL1 (wO g) x q h) (lp : LpA 27 (xs ++ [x]) 2 h h') : CL0 (up1 (wO g) (hN h + 3) (6, 0)) (xs ++ [x]) (ln ++ [q]) h' := by
  have lf := ls_fs c.1 wf lp.2.1
  have e : OwX g (up1 (wO g) (hN h + 3) (6, 0)) h := fun b hb => up1_n _ _ (by omega)
  refine ⟨⟨lp.1, fun e2 he2 => ?_, by decide⟩, by simp [c.2.1], fun i q' hq => ?_⟩
  · rcases lp.2.2 with ⟨z1, z2⟩ | ⟨z1, z2⟩
    · rw [z1] at he2
      rcases c.1.2.1 e2 he2 with y | y
      · exact Or.inl y
      · by_cases y2 : e2 = hN h + 3
        · exact Or.inr (by rw [y2]; exact up1_s _ _ _)
        · exact Or.inr ((up1_n _ _ y2).trans y)
    · rw [z1] at he2
      cases he2
      exact Or.inr (up1_s _ _ _)
  · by_cases z : i < ln.length
    · rw [List.getElem?_append_left z] at hq
      obtain ⟨a, b1, b2⟩ := c.2.2 i q' hq
      exact ⟨a, by rw [List.getElem?_append_left (by rw [c.2.1]; exact z)]; exact b1, b2.fo lf hv e (by unfold SLs27; simp)⟩
    · have hi := (List.getElem?_eq_some_iff.mp hq).1
      rw [List.length_append] at hi
      have ei : i = ln.length := by simp at hi; omega
      subst ei
      rw [List.getElem?_append_right (Nat.le_refl _), Nat.sub_self] at hq
      cases hq
      exact ⟨x, by rw [← c.2.1, List.getElem?_append_right (Nat.le_refl _), Nat.sub_self]; rfl, c1.fo lf hv e (by unfold SLs27; simp)⟩
theorem CLn.of {g : Gh} {xs : List Nat} {ln : List (List Int32 × Nat × Nat)} {fl : Nat} {h : aH} (c : CL0 (wO g) xs ln h) (hl : ln.length ≤ 30) (hf : hI h 193 26 = nI fl) : CLn g ln fl h := ⟨xs, c.1, c.2.1, hl, c.2.2, hf⟩
theorem CLn.to {g : Gh} {ln : List (List Int32 × Nat × Nat)} {fl : Nat} {h : aH} (c : CLn g ln fl h) : ∃ xs, CL0 (wO g) xs ln h ∧ ln.length ≤ 30 ∧ hI h 193 26 = nI fl := by
  obtain ⟨xs, a, b, d, e, f⟩ := c
  exact ⟨xs, ⟨a, b, e⟩, d, f⟩
/-- what keeping a lone text leaves as it was -/
def KpF (g : Gh) (ow' : Ow) (h h' : aH) : Prop := OwX g ow' h ∧ FS g SLn h h' ∧ hR h' 192 26 = hR h 192 26
theorem KpF.tr {g : Gh} {o1 o2 : Ow} {h h1 h2 : aH} (a : KpF g o1 h h1) (b : KpF (gw g o1) o2 h1 h2) : KpF g o2 h h2 := by
  have n1 := a.2.1.1
  refine ⟨fun x hx => (b.1 x (by omega)).trans (a.1 x hx), ⟨Nat.le_trans n1 b.2.1.1, fun x hx => ?_⟩, b.2.2.trans a.2.2⟩
  have p := a.2.1.2 x hx
  have q := b.2.1.2 x (by omega)
  refine ⟨q.1.trans p.1, q.2.1.trans p.2.1, fun z => (p.2.2 z).tr (q.2.2 (fun y => z ?_))⟩
  have e : wO (gw g o1) x = wO g x := a.1 x hx
  show SLn (wO g x)
  rw [← e]; exact y
theorem KpF.cf {g : Gh} {ow' : Ow} {h h' : aH} (f : KpF g ow' h h') (cf : Cf h) (hv : Hv h) (wf : OwF (wO g)) : Cf h' := cf.fo hv f.2.1 wf (fun q hq => by
  have key : ∀ q ∈ cfR, (q.1 = 192 ∧ q.2.1 = 26) ∨ (q.2.1 ∈ [3, 4, 6, 7, 18, 21, 24] ∧ ∃ r ∈ cfK, r.1 = q.2.1 ∧ r.2 ≠ 99) := by decide
  rcases key q hq with z | ⟨z, r, r1, r2, r3⟩
  · rw [z.1, z.2]; exact f.2.2
  · have kq : hK h q.2.1 = r.2 := by rw [← r2]; exact cf.2.1 r r1
    refine ((f.2.1.s hv kq r3 ?_).2.2 _).2
    have key2 : ∀ a ∈ [3, 4, 6, 7, 18, 21, 24], a ∈ [1, 3, 4, 5, 6, 7, 9, 10, 11, 12, 18, 19, 20, 21, 22, 23, 24, 25, 26, 27] ∧ (9, a) ∉ [((6 : Nat), (0 : Nat)), (9, 27), (9, 1), (9, 26)] := by decide
    rw [wf.1 _ (key2 _ z).1]
    exact SLn.no (key2 _ z).2)
theorem KpF.wf {g : Gh} {ow' : Ow} {h h' : aH} (f : KpF g ow' h h') (n63 : 63 ≤ hN h) (wf : OwF (wO g)) : OwF (wO (gw g ow')) := ⟨fun a ha => (f.1 a (by have : a ≤ 27 := (by revert ha; revert a; decide); omega)).trans (wf.1 a ha), fun a h1 h2 => (f.1 a (by omega)).trans (wf.2 a h1 h2)⟩
def kp1 (ln : List (List Int32 × Nat × Nat)) (fl : Nat) (q : List Int32 × Nat × Nat) : List (List Int32 × Nat × Nat) × Nat := if ln.length = 30 then (ln.eraseIdx 0 ++ [q], fl + 1) else (ln ++ [q], fl)
theorem ec_keep (l : Launch) (G : aG) (x : Nat) (q : List Int32 × Nat × Nat) (g : Gh) (ln : List (List Int32 × Nat × Nat)) (fl : Nat) (h : aH) (n63_ : 63 ≤ hN h) (cf : Cf h) (wf : OwF (wO g)) (cl : CLn g ln fl h) (cx_ : CL1 (wO g) x q h) : Ev l G 7 1 43 mX2_keep 0 (en 2 [.ref 26, .ref x]) [] h (fun y h' => y = none ∧ ∃ ow', KpF g ow' h h' ∧ CLn (gw g ow') (kp1 ln fl q).1 (kp1 ln fl q).2 h') := by
  refine Ev_hv (fun hv => ?_)
  obtain ⟨xs, c0_, l30_, fl_⟩ := cl.to
  have xl_ := c0_.2.1
  refine Ev_aload_n dX2_keep_0 rfl (by first | exact Or.inr ⟨_, rfl⟩ | exact rv_or _ | exact Or.inl rfl) ?_
  refine Ev_getA dX2_keep_1 fX2_12 (ck_26 cf) (cr_192_26 cf) ?_
  refine Ev_V0 [] dX2_keep_4 vJx4a65c_size_8abf5 kX2_18 (ck_27 cf) rfl rfl rfl (Nat.le_of_ble_eq_true rfl) (by omega) (ej_size l G 27 xs 2 h c0_.1.1.1) ?_
  refine Ev_bipush (v := nI 30) dX2_keep_7 (by decide) ?_
  refine Ev_icmp_ltN 31 dX2_keep_9 (by decide) (by omega) (by omega) (fun zb9_ => ?_) (fun zb9_ => ?_)
  · skip
    refine Ev_aload_n dX2_keep_31 rfl (by first | exact Or.inr ⟨_, rfl⟩ | exact rv_or _ | exact Or.inl rfl) ?_
    refine Ev_getA dX2_keep_32 fX2_12 (ck_26 cf) (cr_192_26 cf) ?_
    refine Ev_aload_n dX2_keep_35 rfl (by first | exact Or.inr ⟨_, rfl⟩ | exact rv_or _ | exact Or.inl rfl) ?_
    refine Ev_Vg (mc2 := 0) (ms2 := 0) [.ref x] dX2_keep_36 vJx4a65c_add_9ea2d kX2_73 (ck_27 cf) rfl rfl rfl (Nat.le_of_ble_eq_true rfl) (by omega) (by omega) (by omega) (ej_adds l G 27 x xs 2 h c0_.1.1 cx_.2.1 lkd_2 (by omega) n63_) (fun v_ hC e_ => ?_)
    obtain ⟨rfl, lp_⟩ := e_
    refine Ev_pop dX2_keep_39 (by first | rfl | exact okv_rv _) ?_
    refine Ev_vret dX2_keep_40 rfl ?_
    refine ⟨rfl, up1 (wO g) (hN h + 3) (6, 0), ⟨fun b hb => up1_n _ _ (by omega), (ls_fs c0_.1 wf lp_.2.1).mo (fun b _ z => z.elim Or.inl (fun z => z.elim (fun z => Or.inr (Or.inl z)) (fun z => Or.inr (Or.inr (Or.inl z))))), ?_⟩, ?_⟩
    · exact (((ls_fs c0_.1 wf lp_.2.1).s hv (ck_26 cf) (by decide) (by rw [wf.1 26 (by decide)]; unfold SLs27; simp)).2.2 _).2
    · unfold kp1
      rw [if_neg (by omega)]
      exact CLn.of (g := gw g (up1 (wO g) (hN h + 3) (6, 0))) (c0_.add wf hv cx_ lp_) (by rw [List.length_append]; show ln.length + 1 ≤ 30; omega) ((((ls_fs c0_.1 wf lp_.2.1).s hv (ck_26 cf) (by decide) (by rw [wf.1 26 (by decide)]; unfold SLs27; simp)).2.2 _).1.trans fl_)
  · refine Ev_aload_n dX2_keep_12 rfl (by first | exact Or.inr ⟨_, rfl⟩ | exact rv_or _ | exact Or.inl rfl) ?_
    refine Ev_getA dX2_keep_13 fX2_12 (ck_26 cf) (cr_192_26 cf) ?_
    refine Ev_iconst (v := nI 0) dX2_keep_16 (by decide) ?_
    refine Ev_Vz [.int (nI 0)] dX2_keep_17 vJx4a65c_remove_915e3 kX2_67 (ck_27 cf) rfl rfl rfl (Nat.le_of_ble_eq_true rfl) (by omega) (ej_remove l G 27 0 xs 2 h c0_.1.1 lkd_2 (by omega)) (fun v_ hA e_ => ?_)
    obtain ⟨⟨x_, rfl⟩, lr_⟩ := e_
    refine Ev_hv (fun hvA_ => ?_)
    have fA_ := ls_fs c0_.1 wf lr_.2.1
    have s26_ := fA_.s hv (ck_26 cf) (by decide) (by rw [wf.1 26 (by decide)]; unfold SLs27; simp)
    have kA26_ : hK hA 26 = 3 := fA_.k hv (ck_26 cf) (by decide)
    have kA27_ : hK hA 27 = 0 := fA_.k hv (ck_27 cf) (by decide)
    have rA_ : hR hA 192 26 = some 27 := (s26_.2.2 _).2.trans (cr_192_26 cf)
    have iA_ : hI hA 193 26 = nI fl := (s26_.2.2 _).1.trans fl_
    have c1_ := c0_.drop wf hv lr_
    have nA_ := lr_.2.2.2.1
    refine Ev_pop dX2_keep_20 (by first | rfl | exact okv_rv _) ?_
    refine Ev_aload_n dX2_keep_21 rfl (by first | exact Or.inr ⟨_, rfl⟩ | exact rv_or _ | exact Or.inl rfl) ?_
    refine Ev_dup dX2_keep_22 (by first | rfl | exact okv_rv _) ?_
    refine Ev_getE dX2_keep_23 fX2_70 kA26_ iA_ ?_
    refine Ev_iconst (v := nI 1) dX2_keep_26 (by decide) ?_
    refine Ev_iaddN dX2_keep_27 ?_
    refine Ev_putI dX2_keep_28 fX2_70 ⟨_, rfl, Or.inl rfl⟩ (Or.inl rfl) kA26_ ?_
    refine Ev_aload_n dX2_keep_31 rfl (by first | exact Or.inr ⟨_, rfl⟩ | exact rv_or _ | exact Or.inl rfl) ?_
    refine Ev_getA dX2_keep_32 fX2_12 kA26_ rA_ ?_
    refine Ev_aload_n dX2_keep_35 rfl (by first | exact Or.inr ⟨_, rfl⟩ | exact rv_or _ | exact Or.inl rfl) ?_
    have fB_ : FS g (fun tg => tg = (9, 26)) hA (sI hA 193 26 (nI (fl + 1))) := FO.sI (wf.1 26 (by decide))
    have hvB_ : Hv (sI hA 193 26 (nI (fl + 1))) := fun b hb => hvA_ b hb
    have cB_ : CL0 (wO g) (xs.eraseIdx 0) (ln.eraseIdx 0) (sI hA 193 26 (nI (fl + 1))) := ⟨c1_.1.fo fB_ hvA_ (fun _ _ => rfl) (by decide) (by rw [wf.1 27 (by decide)]; decide), c1_.2.1, fun i q' hq' => by
      obtain ⟨a, b1, b2⟩ := c1_.2.2 i q' hq'
      exact ⟨a, b1, b2.fo fB_ hvA_ (fun _ _ => rfl) (by decide)⟩⟩
    have cxB_ : CL1 (wO g) x q (sI hA 193 26 (nI (fl + 1))) := (cx_.fo fA_ hv (fun _ _ => rfl) (by unfold SLs27; simp)).fo fB_ hvA_ (fun _ _ => rfl) (by decide)
    have kxB_ := cxB_.2.1
    refine Ev_Vg (mc2 := 0) (ms2 := 0) [.ref x] dX2_keep_36 vJx4a65c_add_9ea2d kX2_73 kA27_ rfl rfl rfl (Nat.le_of_ble_eq_true rfl) (by omega) (by omega) (by omega) (ej_adds l G 27 x (xs.eraseIdx 0) 2 (sI hA 193 26 (nI (fl + 1))) cB_.1.1 kxB_ lkd_2 (by rw [List.length_eraseIdx]; split <;> omega) (by show 63 ≤ hN hA; omega)) (fun v_ hC e_ => ?_)
    obtain ⟨rfl, lp_⟩ := e_
    refine Ev_pop dX2_keep_39 (by first | rfl | exact okv_rv _) ?_
    refine Ev_vret dX2_keep_40 rfl ?_
    have e3_ : hN (sI hA 193 26 (nI (fl + 1))) + 3 = hN h + 3 := by show hN hA + 3 = hN h + 3; omega
    have fC_ := ls_fs cB_.1 wf lp_.2.1
    have s26C_ := fC_.s hvB_ (b := 26) (n := 3) kA26_ (by decide) (by rw [wf.1 26 (by decide)]; unfold SLs27; simp)
    refine ⟨rfl, up1 (wO g) (hN h + 3) (6, 0), ⟨fun b hb => up1_n _ _ (by omega), ((fA_.mo (C' := fun b => SLn (wO g b)) (fun b _ z => z.elim Or.inl (fun z => z.elim (fun z => Or.inr (Or.inl z)) (fun z => Or.inr (Or.inr (Or.inl z)))))).tr (FO.sI (Or.inr (Or.inr (Or.inr (wf.1 26 (by decide))))))).tr (fC_.mo (fun b _ z => z.elim Or.inl (fun z => z.elim (fun z => Or.inr (Or.inl z)) (fun z => Or.inr (Or.inr (Or.inl z)))))), ?_⟩, ?_⟩
    · exact (s26C_.2.2 _).2.trans (s26_.2.2 _).2
    · unfold kp1
      rw [if_pos (by omega)]
      have cC_ := cB_.add wf hvB_ cxB_ lp_
      rw [e3_] at cC_
      exact CLn.of (g := gw g (up1 (wO g) (hN h + 3) (6, 0))) cC_ (by rw [List.length_append, List.length_eraseIdx, if_pos (by omega)]; show ln.length - 1 + 1 ≤ 30; omega) ((s26C_.2.2 _).1.trans (hI_s _ _ _ _))
