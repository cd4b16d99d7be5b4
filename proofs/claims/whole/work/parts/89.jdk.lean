theorem ej_add (l : Launch) (G : aG) (a x : Nat) (xs : List Nat) (ci : Nat) (h : aH) (al_ : AX a xs ci h) (hx_ : hK h x = ci) (hci : lkd ci) (h40 : xs.length < 40) (h63_ : 63 ≤ hN h) : Ev l G 6 1 60 mJx4a65c_add_9ea2d 0 (en 2 [.ref a, .ref x]) [] h (fun v h' => v = some (.int (nI 1)) ∧ LpA a (xs ++ [x]) ci h h') := by
  obtain ⟨e_, he_, -⟩ := al_.1.2.2.2.2
  refine Ev_aload_n dJx4a65c_add_9ea2d_0 rfl (by first | exact Or.inr ⟨_, rfl⟩ | exact rv_or _ | exact Or.inl rfl) ?_
  refine Ev_dup dJx4a65c_add_9ea2d_1 (by first | rfl | exact okv_rv _) ?_
  refine Ev_getI dJx4a65c_add_9ea2d_2 fJx4a65c_63 al_.1.1 ?_
  refine Ev_iconst (v := nI 1) dJx4a65c_add_9ea2d_5 (by decide) ?_
  refine Ev_iadd dJx4a65c_add_9ea2d_6 ?_
  refine Ev_putI dJx4a65c_add_9ea2d_7 fJx4a65c_63 ⟨_, rfl, Or.inl rfl⟩ (Or.inl rfl) al_.1.1 ?_
  refine Ev_aload_n dJx4a65c_add_9ea2d_10 rfl (by first | exact Or.inr ⟨_, rfl⟩ | exact rv_or _ | exact Or.inl rfl) ?_
  refine Ev_aload_n dJx4a65c_add_9ea2d_11 rfl (by first | exact Or.inr ⟨_, rfl⟩ | exact rv_or _ | exact Or.inl rfl) ?_
  refine Ev_aload_n dJx4a65c_add_9ea2d_12 rfl (by first | exact Or.inr ⟨_, rfl⟩ | exact rv_or _ | exact Or.inl rfl) ?_
  refine Ev_getA dJx4a65c_add_9ea2d_13 fJx4a65c_9 al_.1.1 he_ ?_
  refine Ev_aload_n dJx4a65c_add_9ea2d_16 rfl (by first | exact Or.inr ⟨_, rfl⟩ | exact rv_or _ | exact Or.inl rfl) ?_
  refine Ev_getE dJx4a65c_add_9ea2d_17 fJx4a65c_48 al_.1.1 ((hI_o _ _ (by decide)).trans al_.1.2.1) ?_
  refine Ev_Vg (mc2 := 0) (ms2 := 0) [.ref x, .ref e_, .int (nI xs.length)] dJx4a65c_add_9ea2d_20 vJx4a65c_add_72be8 kJx4a65c_131 al_.1.1 rfl rfl rfl (Nat.le_of_ble_eq_true rfl) (by omega) (by omega) (by omega) (ej_add3 l G a x xs ci _ al_.md hx_ hci h40 h63_ e_ he_) (fun v_ h1_ z_ => ?_)
  obtain ⟨rfl, lp_⟩ := z_
  refine Ev_iconst (v := nI 1) dJx4a65c_add_9ea2d_23 (by decide) ?_
  refine Ev_zret dJx4a65c_add_9ea2d_24 rfl (by decide) ?_
  exact ⟨rfl, lp_.md⟩
/-- behind a removal -/
def LrA (a i : Nat) (xs : List Nat) (ci : Nat) (h h' : aH) : Prop := AX a (xs.eraseIdx i) ci h' ∧ FO (LsC a h) h h' ∧ hR h' 1 a = hR h 1 a ∧ hN h' = hN h ∧ ∃ e_, hR h 1 a = some e_ ∧ 66 ≤ e_ ∧ hK h' e_ = 15 ∧ (xs.eraseIdx i).length < hL h' e_
theorem er_at {xs : List Nat} {i k y : Nat} (h : (xs.eraseIdx i)[k]? = some y) : (k < i ∧ xs[k]? = some y) ∨ (i ≤ k ∧ xs[k + 1]? = some y) := by
  rw [List.getElem?_eraseIdx] at h
  by_cases z : k < i
  · rw [if_pos z] at h; exact Or.inl ⟨z, h⟩
  · rw [if_neg z] at h; exact Or.inr ⟨by omega, h⟩
theorem er_len {xs : List Nat} {i : Nat} (h : i < xs.length) : (xs.eraseIdx i).length = xs.length - 1 := by rw [List.length_eraseIdx, if_pos h]
/-- the list's own cells, as they come of a change of the array and of the size -/
theorem AX.by {a e_ : Nat} {xs ys : List Nat} {ci : Nat} {h h' : aH} (al_ : AX a xs ci h) (he_ : hR h 1 a = some e_) (h66_ : 66 ≤ e_) (hk_ : hK h e_ = 15) (hl2_ : hL h e_ ≤ 100) (e1 : hK h' = hK h) (e2 : hR h' 1 a = hR h 1 a) (e3 : hL h' = hL h) (e4 : hI h' 2 a = nI ys.length) (hys : ∀ y ∈ ys, hK h y = ci) (h40 : ys.length ≤ 40) (hl : ys.length ≤ hL h e_) (hy : ∀ i y, ys[i]? = some y → hY h' e_ i = some y) : AX a ys ci h' := by
  refine ⟨⟨by rw [e1]; exact al_.1.1, e4, h40, fun y q => by rw [e1]; exact hys y q, e_, e2.trans he_, Or.inr ⟨by rw [e1]; exact hk_, h66_, by rw [e3]; exact hl, by rw [e3]; exact hl2_, hy⟩⟩, fun e' he' => ?_⟩
  rw [e3]
  exact al_.2 e' (e2.symm.trans he')
theorem ej_fastRemove (l : Launch) (G : aG) (a i : Nat) (xs : List Nat) (ci : Nat) (h : aH) (al_ : AX a xs ci h) (hci : lkd ci) (hi_ : i < xs.length) (e_ : Nat) (he_ : hR h 1 a = some e_) : Ev l G 1 0 0 mJx4a65c_fastRemove_b59b0 0 (en 4 [.ref a, .ref e_, .int (nI i)]) [] h (fun v h' => v = none ∧ LrA a i xs ci h h') := by
  obtain ⟨r_, hr1_, hr2_⟩ := id hci
  obtain ⟨e2_, he2_, ⟨-, h0_⟩ | ⟨hk_, h66_, hl_, hl2_, hy_⟩⟩ := al_.1.2.2.2.2
  · rw [h0_] at hi_; exact absurd hi_ (by simp)
  obtain rfl : e_ = e2_ := Option.some.inj (he_.symm.trans he2_)
  have h40_ := al_.1.2.2.1
  by_cases z_ : i = xs.length - 1
  · skip
    refine Ev_aload_n dJx4a65c_fastRemove_b59b0_0 rfl (by first | exact Or.inr ⟨_, rfl⟩ | exact rv_or _ | exact Or.inl rfl) ?_
    refine Ev_dup dJx4a65c_fastRemove_b59b0_1 (by first | rfl | exact okv_rv _) ?_
    refine Ev_getI dJx4a65c_fastRemove_b59b0_2 fJx4a65c_63 al_.1.1 ?_
    refine Ev_iconst (v := nI 1) dJx4a65c_fastRemove_b59b0_5 (by decide) ?_
    refine Ev_iadd dJx4a65c_fastRemove_b59b0_6 ?_
    refine Ev_putI dJx4a65c_fastRemove_b59b0_7 fJx4a65c_63 ⟨_, rfl, Or.inl rfl⟩ (Or.inl rfl) al_.1.1 ?_
    refine Ev_aload_n dJx4a65c_fastRemove_b59b0_10 rfl (by first | exact Or.inr ⟨_, rfl⟩ | exact rv_or _ | exact Or.inl rfl) ?_
    refine Ev_getE dJx4a65c_fastRemove_b59b0_11 fJx4a65c_48 al_.1.1 ((hI_o _ _ (by decide)).trans al_.1.2.1) ?_
    refine Ev_iconst (v := nI 1) dJx4a65c_fastRemove_b59b0_14 (by decide) ?_
    refine Ev_isubN dJx4a65c_fastRemove_b59b0_15 (by omega) ?_
    refine Ev_dup dJx4a65c_fastRemove_b59b0_16 (by first | rfl | exact okv_rv _) ?_
    refine Ev_istore_n dJx4a65c_fastRemove_b59b0_17 (by decide) ?_
    refine Ev_iload_n dJx4a65c_fastRemove_b59b0_18 rfl ?_
    refine Ev_icmp_leN 34 dJx4a65c_fastRemove_b59b0_19 (by decide) (by omega) (by omega) (fun zb19_ => ?_) (fun zb19_ => ?_)
    · refine Ev_aload_n dJx4a65c_fastRemove_b59b0_34 rfl (by first | exact Or.inr ⟨_, rfl⟩ | exact rv_or _ | exact Or.inl rfl) ?_
      refine Ev_aload_n dJx4a65c_fastRemove_b59b0_35 rfl (by first | exact Or.inr ⟨_, rfl⟩ | exact rv_or _ | exact Or.inl rfl) ?_
      refine Ev_iload_n dJx4a65c_fastRemove_b59b0_36 rfl ?_
      refine Ev_dup_x1 dJx4a65c_fastRemove_b59b0_37 (by first | rfl | exact okv_rv _) (by first | rfl | exact okv_rv _) ?_
      refine Ev_putI dJx4a65c_fastRemove_b59b0_38 fJx4a65c_48 ⟨_, rfl, Or.inl rfl⟩ (Or.inl rfl) al_.1.1 ?_
      refine Ev_null dJx4a65c_fastRemove_b59b0_41 ?_
      refine Ev_aastN (kd := 15) (xs.length - 1) dJx4a65c_fastRemove_b59b0_42 hk_ (by omega) (by omega) (hi_n (by omega)) (show xs.length - 1 < hL h e_ by omega) ?_
      refine Ev_vret dJx4a65c_fastRemove_b59b0_43 rfl ?_
      refine ⟨rfl, al_.by he_ h66_ hk_ hl2_ rfl rfl rfl ?_ (fun y hy => al_.1.2.2.2.1 y (List.mem_of_mem_eraseIdx hy)) (by rw [er_len hi_]; omega) (by rw [er_len hi_]; omega) (fun k y hy => ?_), ?_, rfl, rfl, e_, he_, h66_, hk_, by rw [er_len hi_]; show xs.length - 1 < hL h e_; omega⟩
      · rw [er_len hi_]; exact (gI_Y _ _ _ _ _ _).trans (hI_s _ _ _ _)
      · have kl_ : k < xs.length - 1 := by have := (List.getElem?_eq_some_iff.mp hy).1; rw [er_len hi_] at this; exact this
        refine (hY_n _ _ (by omega)).trans ?_
        show hY h e_ k = some y
        rcases er_at hy with ⟨h1, h2⟩ | ⟨h1, h2⟩
        · exact hy_ k y h2
        · omega
      · exact ((FO.sI (Or.inl rfl)).tr (FO.sI (Or.inl rfl))).tr (FO.sY (Or.inr he_))
    · exact False.elim (by omega)
  · skip
    refine Ev_aload_n dJx4a65c_fastRemove_b59b0_0 rfl (by first | exact Or.inr ⟨_, rfl⟩ | exact rv_or _ | exact Or.inl rfl) ?_
    refine Ev_dup dJx4a65c_fastRemove_b59b0_1 (by first | rfl | exact okv_rv _) ?_
    refine Ev_getI dJx4a65c_fastRemove_b59b0_2 fJx4a65c_63 al_.1.1 ?_
    refine Ev_iconst (v := nI 1) dJx4a65c_fastRemove_b59b0_5 (by decide) ?_
    refine Ev_iadd dJx4a65c_fastRemove_b59b0_6 ?_
    refine Ev_putI dJx4a65c_fastRemove_b59b0_7 fJx4a65c_63 ⟨_, rfl, Or.inl rfl⟩ (Or.inl rfl) al_.1.1 ?_
    refine Ev_aload_n dJx4a65c_fastRemove_b59b0_10 rfl (by first | exact Or.inr ⟨_, rfl⟩ | exact rv_or _ | exact Or.inl rfl) ?_
    refine Ev_getE dJx4a65c_fastRemove_b59b0_11 fJx4a65c_48 al_.1.1 ((hI_o _ _ (by decide)).trans al_.1.2.1) ?_
    refine Ev_iconst (v := nI 1) dJx4a65c_fastRemove_b59b0_14 (by decide) ?_
    refine Ev_isubN dJx4a65c_fastRemove_b59b0_15 (by omega) ?_
    refine Ev_dup dJx4a65c_fastRemove_b59b0_16 (by first | rfl | exact okv_rv _) ?_
    refine Ev_istore_n dJx4a65c_fastRemove_b59b0_17 (by decide) ?_
    refine Ev_iload_n dJx4a65c_fastRemove_b59b0_18 rfl ?_
    refine Ev_icmp_leN 34 dJx4a65c_fastRemove_b59b0_19 (by decide) (by omega) (by omega) (fun zb19_ => ?_) (fun zb19_ => ?_)
    · exact False.elim (by omega)
    · refine Ev_aload_n dJx4a65c_fastRemove_b59b0_22 rfl (by first | exact Or.inr ⟨_, rfl⟩ | exact rv_or _ | exact Or.inl rfl) ?_
      refine Ev_iload_n dJx4a65c_fastRemove_b59b0_23 rfl ?_
      refine Ev_iconst (v := nI 1) dJx4a65c_fastRemove_b59b0_24 (by decide) ?_
      refine Ev_iaddN dJx4a65c_fastRemove_b59b0_25 ?_
      refine Ev_aload_n dJx4a65c_fastRemove_b59b0_26 rfl (by first | exact Or.inr ⟨_, rfl⟩ | exact rv_or _ | exact Or.inl rfl) ?_
      refine Ev_iload_n dJx4a65c_fastRemove_b59b0_27 rfl ?_
      refine Ev_iload_n dJx4a65c_fastRemove_b59b0_28 rfl ?_
      refine Ev_iload_n dJx4a65c_fastRemove_b59b0_29 rfl ?_
      refine Ev_isubN dJx4a65c_fastRemove_b59b0_30 (by omega) ?_
      refine Ev_copyQ (i + 1) i (xs.length - 1 - i) dJx4a65c_fastRemove_b59b0_31 (by omega) rfl (Nat.le_of_ble_eq_true rfl) hk_ hk_ kJx4a65c_112 ac_1 ac_2 ac_3 hr1_ hr2_ (hi_n (by omega)) (hi_n (by omega)) (hi_n (by omega)) (show i + 1 + (xs.length - 1 - i) ≤ hL h e_ by omega) (show i + (xs.length - 1 - i) ≤ hL h e_ by omega) (fun k hk y hy => ?_) ?_
      · obtain ⟨z_, hz_⟩ : ∃ z_ : Nat, xs[i + 1 + k]? = some z_ := ⟨_, List.getElem?_eq_getElem (by omega)⟩
        have hy2_ : hY h e_ (i + 1 + k) = some y := hy
        rw [hy_ _ _ hz_] at hy2_
        rw [← Option.some.inj hy2_]
        exact al_.1.2.2.2.1 z_ (List.mem_of_getElem? hz_)
      refine Ev_aload_n dJx4a65c_fastRemove_b59b0_34 rfl (by first | exact Or.inr ⟨_, rfl⟩ | exact rv_or _ | exact Or.inl rfl) ?_
      refine Ev_aload_n dJx4a65c_fastRemove_b59b0_35 rfl (by first | exact Or.inr ⟨_, rfl⟩ | exact rv_or _ | exact Or.inl rfl) ?_
      refine Ev_iload_n dJx4a65c_fastRemove_b59b0_36 rfl ?_
      refine Ev_dup_x1 dJx4a65c_fastRemove_b59b0_37 (by first | rfl | exact okv_rv _) (by first | rfl | exact okv_rv _) ?_
      refine Ev_putI dJx4a65c_fastRemove_b59b0_38 fJx4a65c_48 ⟨_, rfl, Or.inl rfl⟩ (Or.inl rfl) al_.1.1 ?_
      refine Ev_null dJx4a65c_fastRemove_b59b0_41 ?_
      refine Ev_aastN (kd := 15) (xs.length - 1) dJx4a65c_fastRemove_b59b0_42 hk_ (by omega) (by omega) (hi_n (by omega)) (show xs.length - 1 < hL h e_ by omega) ?_
      refine Ev_vret dJx4a65c_fastRemove_b59b0_43 rfl ?_
      refine ⟨rfl, al_.by he_ h66_ hk_ hl2_ rfl rfl rfl ?_ (fun y hy => al_.1.2.2.2.1 y (List.mem_of_mem_eraseIdx hy)) (by rw [er_len hi_]; omega) (by rw [er_len hi_]; omega) (fun k y hy => ?_), ?_, rfl, rfl, e_, he_, h66_, hk_, by rw [er_len hi_]; show xs.length - 1 < hL h e_; omega⟩
      · rw [er_len hi_]; exact (gI_Y _ _ _ _ _ _).trans (hI_s _ _ _ _)
      · have kl_ : k < xs.length - 1 := by have := (List.getElem?_eq_some_iff.mp hy).1; rw [er_len hi_] at this; exact this
        refine (hY_n _ _ (by omega)).trans ?_
        show up1 (hY h) e_ (va_cpy (hY h e_) (hY h e_) (i + 1) i (xs.length - 1 - i)) e_ k = some y
        rw [up1_s]
        rcases er_at hy with ⟨h1, h2⟩ | ⟨h1, h2⟩
        · rw [pk_cpy_out (by omega)]; exact hy_ k y h2
        · rw [pk_cpy_in (by omega) (by omega), show i + 1 + (k - i) = k + 1 by omega]; exact hy_ (k + 1) y h2
      · exact (((FO.sI (Or.inl rfl)).tr (FO.sYs (Or.inr he_))).tr (FO.sI (Or.inl rfl))).tr (FO.sY (Or.inr he_))
theorem ej_remove (l : Launch) (G : aG) (a i : Nat) (xs : List Nat) (ci : Nat) (h : aH) (al_ : AX a xs ci h) (hci : lkd ci) (hi_ : i < xs.length) : Ev l G 2 0 0 mJx4a65c_remove_915e3 0 (en 4 [.ref a, .int (nI i)]) [] h (fun v h' => (∃ x_, v = some (.ref x_)) ∧ LrA a i xs ci h h') := by
  obtain ⟨e_, he_, ⟨-, h0_⟩ | ⟨hk_, h66_, hl_, hl2_, hy_⟩⟩ := al_.1.2.2.2.2
  · rw [h0_] at hi_; exact absurd hi_ (by simp)
  have h40_ := al_.1.2.2.1
  obtain ⟨x_, hx_⟩ : ∃ x_ : Nat, xs[i]? = some x_ := ⟨_, List.getElem?_eq_getElem hi_⟩
  refine Ev_iload_n dJx4a65c_remove_915e3_0 rfl ?_
  refine Ev_aload_n dJx4a65c_remove_915e3_1 rfl (by first | exact Or.inr ⟨_, rfl⟩ | exact rv_or _ | exact Or.inl rfl) ?_
  refine Ev_getE dJx4a65c_remove_915e3_2 fJx4a65c_48 al_.1.1 al_.1.2.1 ?_
  refine Ev_S0 [.int (nI i), .int (nI xs.length)] dJx4a65c_remove_915e3_5 sJ15_checkIndex_7cf53 kJx4a65c_118 rfl rfl rfl (Nat.le_of_ble_eq_true rfl) (by omega) (ej_check l G i xs.length hi_ (by omega) h) ?_
  refine Ev_pop dJx4a65c_remove_915e3_8 (by first | rfl | exact okv_rv _) ?_
  refine Ev_aload_n dJx4a65c_remove_915e3_9 rfl (by first | exact Or.inr ⟨_, rfl⟩ | exact rv_or _ | exact Or.inl rfl) ?_
  refine Ev_getA dJx4a65c_remove_915e3_10 fJx4a65c_9 al_.1.1 he_ ?_
  refine Ev_astore_n dJx4a65c_remove_915e3_13 (by decide) (by first | exact Or.inr ⟨_, rfl⟩ | exact rv_or _ | exact Or.inl rfl) ?_
  refine Ev_aload_n dJx4a65c_remove_915e3_14 rfl (by first | exact Or.inr ⟨_, rfl⟩ | exact rv_or _ | exact Or.inl rfl) ?_
  refine Ev_iload_n dJx4a65c_remove_915e3_15 rfl ?_
  refine Ev_aald i dJx4a65c_remove_915e3_16 hk_ (by omega) (by omega) (hi_n (by omega)) (by omega) ?_
  rw [hy_ i x_ hx_]
  refine Ev_top (y := .ref x_) rfl ?_
  refine Ev_astore_n dJx4a65c_remove_915e3_17 (by decide) (by first | exact Or.inr ⟨_, rfl⟩ | exact rv_or _ | exact Or.inl rfl) ?_
  refine Ev_aload_n dJx4a65c_remove_915e3_18 rfl (by first | exact Or.inr ⟨_, rfl⟩ | exact rv_or _ | exact Or.inl rfl) ?_
  refine Ev_aload_n dJx4a65c_remove_915e3_19 rfl (by first | exact Or.inr ⟨_, rfl⟩ | exact rv_or _ | exact Or.inl rfl) ?_
  refine Ev_iload_n dJx4a65c_remove_915e3_20 rfl ?_
  refine Ev_Vz [.ref e_, .int (nI i)] dJx4a65c_remove_915e3_21 vJx4a65c_fastRemove_b59b0 kJx4a65c_144 al_.1.1 rfl rfl rfl (Nat.le_of_ble_eq_true rfl) (by omega) (ej_fastRemove l G a i xs ci h al_ hci hi_ e_ he_) (fun v_ h1_ z_ => ?_)
  obtain ⟨rfl, lr_⟩ := z_
  refine Ev_aload_n dJx4a65c_remove_915e3_24 rfl (by first | exact Or.inr ⟨_, rfl⟩ | exact rv_or _ | exact Or.inl rfl) ?_
  refine Ev_aret dJx4a65c_remove_915e3_25 rfl (Or.inl ⟨_, rfl⟩) (by first | exact Or.inr ⟨_, rfl⟩ | exact rv_or _ | exact Or.inl rfl) ?_
  exact ⟨⟨_, rfl⟩, lr_⟩
theorem ej_range (l : Launch) (G : aG) (a k : Nat) (xs : List Nat) (ci : Nat) (h : aH) (al_ : AX a xs ci h) (hk_ : k ≤ xs.length) : Ev l G 0 0 0 mJx4a65c_rangeCheckForAdd_d00df 0 (en 2 [.ref a, .int (nI k)]) [] h (Ex none h) := by
  have h40_ := al_.1.2.2.1
  refine Ev_iload_n dJx4a65c_rangeCheckForAdd_d00df_0 rfl ?_
  refine Ev_aload_n dJx4a65c_rangeCheckForAdd_d00df_1 rfl (by first | exact Or.inr ⟨_, rfl⟩ | exact rv_or _ | exact Or.inl rfl) ?_
  refine Ev_getE dJx4a65c_rangeCheckForAdd_d00df_2 fJx4a65c_48 al_.1.1 al_.1.2.1 ?_
  refine Ev_icmp_gtN 12 dJx4a65c_rangeCheckForAdd_d00df_5 (by decide) (by omega) (by omega) (fun zb5_ => ?_) (fun zb5_ => ?_)
  · exact False.elim (by omega)
  · refine Ev_iload_n dJx4a65c_rangeCheckForAdd_d00df_8 rfl ?_
    refine Ev_if_geT 25 dJx4a65c_rangeCheckForAdd_d00df_9 (by decide) (fun zb9_ => ?_) (fun zb9_ => ?_)
    · refine Ev_vret dJx4a65c_rangeCheckForAdd_d00df_25 rfl ?_
      exact ⟨rfl, rfl⟩
    · exact absurd (show (0 : Int) ≤ _ by rw [hi_n (by omega)]; omega) zb9_
theorem in_at {xs : List Nat} {k x j y : Nat} (hk : k ≤ xs.length) (h : (xs.insertIdx k x)[j]? = some y) : (j < k ∧ xs[j]? = some y) ∨ (j = k ∧ y = x) ∨ (k < j ∧ xs[j - 1]? = some y) := by
  rw [List.getElem?_insertIdx] at h
  by_cases z : j < k
  · rw [if_pos z] at h; exact Or.inl ⟨z, h⟩
  · rw [if_neg z] at h
    by_cases z2 : j = k
    · rw [if_pos z2, if_pos (by omega)] at h
      exact Or.inr (Or.inl ⟨z2, (Option.some.inj h).symm⟩)
    · rw [if_neg z2] at h
      exact Or.inr (Or.inr ⟨by omega, h⟩)
theorem ej_addAt (l : Launch) (G : aG) (a k x : Nat) (xs : List Nat) (ci : Nat) (h : aH) (al_ : AX a xs ci h) (hx_ : hK h x = ci) (hci : lkd ci) (hkl_ : k ≤ xs.length) (h40 : xs.length < 40) (e_ : Nat) (he_ : hR h 1 a = some e_) (h66_ : 66 ≤ e_) (hrm_ : xs.length < hL h e_) : Ev l G 1 0 0 mJx4a65c_add_7a177 0 (en 5 [.ref a, .int (nI k), .ref x]) [] h (fun v h' => v = none ∧ LpA a (xs.insertIdx k x) ci h h' ∧ hR h' 1 a = hR h 1 a ∧ hN h' = hN h) := by
  obtain ⟨r_, hr1_, hr2_⟩ := id hci
  obtain ⟨e2_, he2_, ⟨h1_, -⟩ | ⟨hk_, h66x_, hl_, hl2_, hy_⟩⟩ := al_.1.2.2.2.2
  · have := Option.some.inj (he2_.symm.trans he_); omega
  obtain rfl : e_ = e2_ := Option.some.inj (he_.symm.trans he2_)
  refine Ev_aload_n dJx4a65c_add_7a177_0 rfl (by first | exact Or.inr ⟨_, rfl⟩ | exact rv_or _ | exact Or.inl rfl) ?_
  refine Ev_iload_n dJx4a65c_add_7a177_1 rfl ?_
  refine Ev_V0 [.int (nI k)] dJx4a65c_add_7a177_2 vJx4a65c_rangeCheckForAdd_d00df kJx4a65c_135 al_.1.1 rfl rfl rfl (Nat.le_of_ble_eq_true rfl) (by omega) (ej_range l G a k xs ci h al_ hkl_) ?_
  refine Ev_aload_n dJx4a65c_add_7a177_5 rfl (by first | exact Or.inr ⟨_, rfl⟩ | exact rv_or _ | exact Or.inl rfl) ?_
  refine Ev_dup dJx4a65c_add_7a177_6 (by first | rfl | exact okv_rv _) ?_
  refine Ev_getI dJx4a65c_add_7a177_7 fJx4a65c_63 al_.1.1 ?_
  refine Ev_iconst (v := nI 1) dJx4a65c_add_7a177_10 (by decide) ?_
  refine Ev_iadd dJx4a65c_add_7a177_11 ?_
  refine Ev_putI dJx4a65c_add_7a177_12 fJx4a65c_63 ⟨_, rfl, Or.inl rfl⟩ (Or.inl rfl) al_.1.1 ?_
  refine Ev_aload_n dJx4a65c_add_7a177_15 rfl (by first | exact Or.inr ⟨_, rfl⟩ | exact rv_or _ | exact Or.inl rfl) ?_
  refine Ev_getE dJx4a65c_add_7a177_16 fJx4a65c_48 al_.1.1 ((hI_o _ _ (by decide)).trans al_.1.2.1) ?_
  refine Ev_dup dJx4a65c_add_7a177_19 (by first | rfl | exact okv_rv _) ?_
  refine Ev_istore_n dJx4a65c_add_7a177_20 (by decide) ?_
  refine Ev_aload_n dJx4a65c_add_7a177_21 rfl (by first | exact Or.inr ⟨_, rfl⟩ | exact rv_or _ | exact Or.inl rfl) ?_
  refine Ev_getA dJx4a65c_add_7a177_22 fJx4a65c_9 al_.1.1 he_ ?_
  refine Ev_dup dJx4a65c_add_7a177_25 (by first | rfl | exact okv_rv _) ?_
  refine Ev_astore dJx4a65c_add_7a177_26 (by decide) (by first | exact Or.inr ⟨_, rfl⟩ | exact rv_or _ | exact Or.inl rfl) ?_
  refine Ev_alen dJx4a65c_add_7a177_28 hk_ (by omega) (by omega) ?_
  refine Ev_top (y := .int (nI (hL h e_))) rfl ?_
  refine Ev_icmp_neN 38 dJx4a65c_add_7a177_29 (by decide) (by omega) (by omega) (fun zb29_ => ?_) (fun zb29_ => ?_)
  · refine Ev_aload dJx4a65c_add_7a177_38 rfl (by first | exact Or.inr ⟨_, rfl⟩ | exact rv_or _ | exact Or.inl rfl) ?_
    refine Ev_iload_n dJx4a65c_add_7a177_40 rfl ?_
    refine Ev_aload dJx4a65c_add_7a177_41 rfl (by first | exact Or.inr ⟨_, rfl⟩ | exact rv_or _ | exact Or.inl rfl) ?_
    refine Ev_iload_n dJx4a65c_add_7a177_43 rfl ?_
    refine Ev_iconst (v := nI 1) dJx4a65c_add_7a177_44 (by decide) ?_
    refine Ev_iaddN dJx4a65c_add_7a177_45 ?_
    refine Ev_iload_n dJx4a65c_add_7a177_46 rfl ?_
    refine Ev_iload_n dJx4a65c_add_7a177_47 rfl ?_
    refine Ev_isubN dJx4a65c_add_7a177_48 (by omega) ?_
    refine Ev_copyQ k (k + 1) (xs.length - k) dJx4a65c_add_7a177_49 (by omega) rfl (Nat.le_of_ble_eq_true rfl) hk_ hk_ kJx4a65c_112 ac_1 ac_2 ac_3 hr1_ hr2_ (hi_n (by omega)) (hi_n (by omega)) (hi_n (by omega)) (show k + (xs.length - k) ≤ hL h e_ by omega) (show k + 1 + (xs.length - k) ≤ hL h e_ by omega) (fun j hj y hy => ?_) ?_
    · obtain ⟨z_, hz_⟩ : ∃ z_ : Nat, xs[k + j]? = some z_ := ⟨_, List.getElem?_eq_getElem (by omega)⟩
      have hy2_ : hY h e_ (k + j) = some y := hy
      rw [hy_ _ _ hz_] at hy2_
      rw [← Option.some.inj hy2_]
      exact al_.1.2.2.2.1 z_ (List.mem_of_getElem? hz_)
    refine Ev_aload dJx4a65c_add_7a177_52 rfl (by first | exact Or.inr ⟨_, rfl⟩ | exact rv_or _ | exact Or.inl rfl) ?_
    refine Ev_iload_n dJx4a65c_add_7a177_54 rfl ?_
    refine Ev_aload_n dJx4a65c_add_7a177_55 rfl (by first | exact Or.inr ⟨_, rfl⟩ | exact rv_or _ | exact Or.inl rfl) ?_
    refine Ev_aast (kd := 15) k dJx4a65c_add_7a177_56 hk_ (by omega) (by omega) rfl hx_ hr1_ (Or.inr hr2_) (hi_n (by omega)) (show k < hL h e_ by omega) ?_
    refine Ev_aload_n dJx4a65c_add_7a177_57 rfl (by first | exact Or.inr ⟨_, rfl⟩ | exact rv_or _ | exact Or.inl rfl) ?_
    refine Ev_iload_n dJx4a65c_add_7a177_58 rfl ?_
    refine Ev_iconst (v := nI 1) dJx4a65c_add_7a177_59 (by decide) ?_
    refine Ev_iaddN dJx4a65c_add_7a177_60 ?_
    refine Ev_putI dJx4a65c_add_7a177_61 fJx4a65c_48 ⟨_, rfl, Or.inl rfl⟩ (Or.inl rfl) al_.1.1 ?_
    refine Ev_vret dJx4a65c_add_7a177_64 rfl ?_
    have el_ : (xs.insertIdx k x).length = xs.length + 1 := by rw [List.length_insertIdx, if_pos hkl_]
    refine ⟨rfl, ⟨al_.by he_ h66_ hk_ hl2_ rfl rfl rfl ?_ (fun y hy => ?_) (by rw [el_]; omega) (by rw [el_]; omega) (fun j y hy => ?_), ?_, Or.inl ⟨rfl, rfl⟩⟩, rfl, rfl⟩
    · rw [el_]; exact hI_s _ _ _ _
    · obtain ⟨j_, hj_⟩ := List.getElem?_of_mem hy
      rcases in_at hkl_ hj_ with ⟨-, h1⟩ | ⟨-, h1⟩ | ⟨-, h1⟩
      · exact al_.1.2.2.2.1 y (List.mem_of_getElem? h1)
      · rw [h1]; exact hx_
      · exact al_.1.2.2.2.1 y (List.mem_of_getElem? h1)
    · show hY (sY (sYs (sI h 0 a (hI h 0 a + nI 1)) e_ (va_cpy (hY h e_) (hY h e_) k (k + 1) (xs.length - k))) e_ k (some x)) e_ j = some y
      have jl_ : j < xs.length + 1 := by have := (List.getElem?_eq_some_iff.mp hy).1; rw [el_] at this; exact this
      rcases in_at hkl_ hy with ⟨h1, h2⟩ | ⟨rfl, rfl⟩ | ⟨h1, h2⟩
      · rw [hY_n _ _ (by omega)]
        show up1 (hY h) e_ (va_cpy (hY h e_) (hY h e_) k (k + 1) (xs.length - k)) e_ j = some y
        rw [up1_s, pk_cpy_out (by omega)]; exact hy_ j y h2
      · exact hY_s _ _ _ _
      · rw [hY_n _ _ (by omega)]
        show up1 (hY h) e_ (va_cpy (hY h e_) (hY h e_) k (k + 1) (xs.length - k)) e_ j = some y
        rw [up1_s, pk_cpy_in (by omega) (by omega), show k + (j - (k + 1)) = j - 1 by omega]; exact hy_ (j - 1) y h2
    · exact (((FO.sI (Or.inl rfl)).tr (FO.sYs (Or.inr he_))).tr (FO.sY (Or.inr he_))).tr (FO.sI (Or.inl rfl))
  · exact False.elim (by omega)
