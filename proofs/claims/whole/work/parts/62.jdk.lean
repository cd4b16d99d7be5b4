/-- a list of objects of one kind: the JDK's ArrayList -/
def AL (a : Nat) (xs : List Nat) (ci : Nat) (h : aH) : Prop := hK h a = 0 ∧ hI h 2 a = nI xs.length ∧ xs.length ≤ 40 ∧ (∀ x ∈ xs, hK h x = ci) ∧ ∃ e, hR h 1 a = some e ∧ ((e = 1 ∧ xs = []) ∨ (hK h e = 15 ∧ 66 ≤ e ∧ xs.length ≤ hL h e ∧ hL h e ≤ 100 ∧ ∀ i x, xs[i]? = some x → hY h e i = some x))
theorem ej_size (l : Launch) (G : aG) (a : Nat) (xs : List Nat) (ci : Nat) (h : aH) (al_ : AL a xs ci h) : Ev l G 0 0 0 mJx4a65c_size_8abf5 0 (en 1 [.ref a]) [] h (Ex (some (.int (nI xs.length))) h) := by
  refine Ev_aload_n dJx4a65c_size_8abf5_0 rfl (by first | exact Or.inr ⟨_, rfl⟩ | exact rv_or _ | exact Or.inl rfl) ?_
  refine Ev_getE dJx4a65c_size_8abf5_1 fJx4a65c_48 al_.1 al_.2.1 ?_
  refine Ev_iret dJx4a65c_size_8abf5_4 rfl ?_
  exact ⟨rfl, rfl⟩
theorem ej_check3 (l : Launch) (G : aG) (i n : Nat) (hin : i < n) (hn : n < 1000) (h : aH) : Ev l G 0 0 0 mJ3_checkIndex_8e157 0 (en 3 [.int (nI i), .int (nI n), .null]) [] h (Ex (some (.int (nI i))) h) := by
  refine Ev_iload_n dJ3_checkIndex_8e157_0 rfl ?_
  refine Ev_if_ltT 9 dJ3_checkIndex_8e157_1 (by decide) (fun zb1_ => ?_) (fun zb1_ => ?_)
  · exact absurd zb1_ (by rw [hi_n (by omega)]; omega)
  · refine Ev_iload_n dJ3_checkIndex_8e157_4 rfl ?_
    refine Ev_iload_n dJ3_checkIndex_8e157_5 rfl ?_
    refine Ev_icmp_ltN 16 dJ3_checkIndex_8e157_6 (by decide) (by omega) (by omega) (fun zb6_ => ?_) (fun zb6_ => ?_)
    · refine Ev_iload_n dJ3_checkIndex_8e157_16 rfl ?_
      refine Ev_iret dJ3_checkIndex_8e157_17 rfl ?_
      exact ⟨rfl, rfl⟩
    · exact absurd hin (by omega)
theorem ej_check (l : Launch) (G : aG) (i n : Nat) (hin : i < n) (hn : n < 1000) (h : aH) : Ev l G 1 0 0 mJ15_checkIndex_7cf53 0 (en 2 [.int (nI i), .int (nI n)]) [] h (Ex (some (.int (nI i))) h) := by
  refine Ev_iload_n dJ15_checkIndex_7cf53_0 rfl ?_
  refine Ev_iload_n dJ15_checkIndex_7cf53_1 rfl ?_
  refine Ev_null dJ15_checkIndex_7cf53_2 ?_
  refine Ev_S0 [.int (nI i), .int (nI n), .null] dJ15_checkIndex_7cf53_3 sJ3_checkIndex_8e157 kJ15_105 rfl rfl rfl (Nat.le_of_ble_eq_true rfl) (by omega) (ej_check3 l G i n hin hn h) ?_
  refine Ev_iret dJ15_checkIndex_7cf53_6 rfl ?_
  exact ⟨rfl, rfl⟩
theorem ej_elementData (l : Launch) (G : aG) (a i x : Nat) (xs : List Nat) (ci : Nat) (h : aH) (al_ : AL a xs ci h) (hx : xs[i]? = some x) : Ev l G 0 0 0 mJx4a65c_elementData_915e3 0 (en 2 [.ref a, .int (nI i)]) [] h (Ex (some (.ref x)) h) := by
  have hi : i < xs.length := (List.getElem?_eq_some_iff.mp hx).1
  have hl40 := al_.2.2.1
  obtain ⟨e, he_, ⟨-, h0⟩ | ⟨hk_, h66_, hl_, hl2_, hy0_⟩⟩ := al_.2.2.2.2
  · rw [h0] at hi; exact absurd hi (by simp)
  have hy_ := hy0_ i x hx
  refine Ev_aload_n dJx4a65c_elementData_915e3_0 rfl (by first | exact Or.inr ⟨_, rfl⟩ | exact rv_or _ | exact Or.inl rfl) ?_
  refine Ev_getA dJx4a65c_elementData_915e3_1 fJx4a65c_9 al_.1 he_ ?_
  refine Ev_iload_n dJx4a65c_elementData_915e3_4 rfl ?_
  refine Ev_aald i dJx4a65c_elementData_915e3_5 hk_ (by omega) (by omega) (hi_n (by omega)) (by omega) ?_
  rw [hy_]
  show Ev l G 0 0 0 mJx4a65c_elementData_915e3 6 _ [.ref x] h _
  refine Ev_aret dJx4a65c_elementData_915e3_6 rfl (Or.inl ⟨_, rfl⟩) (by first | exact Or.inr ⟨_, rfl⟩ | exact rv_or _ | exact Or.inl rfl) ?_
  exact ⟨rfl, rfl⟩
theorem ej_get (l : Launch) (G : aG) (a i x : Nat) (xs : List Nat) (ci : Nat) (h : aH) (al_ : AL a xs ci h) (hx : xs[i]? = some x) : Ev l G 2 0 0 mJx4a65c_get_915e3 0 (en 2 [.ref a, .int (nI i)]) [] h (Ex (some (.ref x)) h) := by
  have hi : i < xs.length := (List.getElem?_eq_some_iff.mp hx).1
  have hl40 := al_.2.2.1
  refine Ev_iload_n dJx4a65c_get_915e3_0 rfl ?_
  refine Ev_aload_n dJx4a65c_get_915e3_1 rfl (by first | exact Or.inr ⟨_, rfl⟩ | exact rv_or _ | exact Or.inl rfl) ?_
  refine Ev_getE dJx4a65c_get_915e3_2 fJx4a65c_48 al_.1 al_.2.1 ?_
  refine Ev_S0 [.int (nI i), .int (nI xs.length)] dJx4a65c_get_915e3_5 sJ15_checkIndex_7cf53 kJx4a65c_118 rfl rfl rfl (Nat.le_of_ble_eq_true rfl) (by omega) (ej_check l G i xs.length hi (by omega) h) ?_
  refine Ev_pop dJx4a65c_get_915e3_8 (by first | rfl | exact okv_rv _) ?_
  refine Ev_aload_n dJx4a65c_get_915e3_9 rfl (by first | exact Or.inr ⟨_, rfl⟩ | exact rv_or _ | exact Or.inl rfl) ?_
  refine Ev_iload_n dJx4a65c_get_915e3_10 rfl ?_
  refine Ev_V0 [.int (nI i)] dJx4a65c_get_915e3_11 vJx4a65c_elementData_915e3 kJx4a65c_123 al_.1 rfl rfl rfl (Nat.le_of_ble_eq_true rfl) (by omega) (ej_elementData l G a i x xs ci h al_ hx) ?_
  refine Ev_aret dJx4a65c_get_915e3_14 rfl (Or.inl ⟨_, rfl⟩) (by first | exact Or.inr ⟨_, rfl⟩ | exact rv_or _ | exact Or.inl rfl) ?_
  exact ⟨rfl, rfl⟩
theorem ej_init0 (l : Launch) (G : aG) (a : Nat) (h : aH) : Ev l G 1 0 0 mJxa1e45_init_da8c8 0 (en 1 [.ref a]) [] h (Ex none h) := by
  refine Ev_aload_n dJxa1e45_init_da8c8_0 rfl (Or.inr ⟨_, rfl⟩) ?_
  refine Ev_objI dJxa1e45_init_da8c8_1 (by omega) rfl (Nat.le_of_ble_eq_true rfl) kJxa1e45_1 ob_1 ob_2 ?_
  refine Ev_vret dJxa1e45_init_da8c8_4 rfl ?_
  exact ⟨rfl, rfl⟩
theorem ej_init1 (l : Launch) (G : aG) (a : Nat) (h : aH) (hk : hK h a = 0) : Ev l G 2 0 0 mJxc12de_init_da8c8 0 (en 1 [.ref a]) [] h (Ex none (sI h 0 a 0)) := by
  refine Ev_aload_n dJxc12de_init_da8c8_0 rfl (Or.inr ⟨_, rfl⟩) ?_
  refine Ev_I0 [] dJxc12de_init_da8c8_1 iJxa1e45_init_da8c8 kJxc12de_1 rfl rfl rfl (Nat.le_of_ble_eq_true rfl) (by omega) (ej_init0 l G a h) ?_
  refine Ev_aload_n dJxc12de_init_da8c8_4 rfl (Or.inr ⟨_, rfl⟩) ?_
  refine Ev_iconst (v := 0) dJxc12de_init_da8c8_5 (by decide) ?_
  refine Ev_putI dJxc12de_init_da8c8_6 fJxc12de_7 ⟨_, rfl, Or.inl rfl⟩ (Or.inl rfl) hk ?_
  refine Ev_vret dJxc12de_init_da8c8_9 rfl ?_
  exact ⟨rfl, rfl⟩
theorem ej_init (l : Launch) (G : aG) (a : Nat) (h : aH) (hk : hK h a = 0) : Ev l G 3 0 0 mJx4a65c_init_da8c8 0 (en 1 [.ref a]) [] h (Ex none (sR (sI h 0 a 0) 1 a (some 1))) := by
  refine Ev_aload_n dJx4a65c_init_da8c8_0 rfl (Or.inr ⟨_, rfl⟩) ?_
  refine Ev_I0 [] dJx4a65c_init_da8c8_1 iJxc12de_init_da8c8 kJx4a65c_1 rfl rfl rfl (Nat.le_of_ble_eq_true rfl) (by omega) (ej_init1 l G a h hk) ?_
  refine Ev_aload_n dJx4a65c_init_da8c8_4 rfl (Or.inr ⟨_, rfl⟩) ?_
  refine Ev_gets dJx4a65c_init_da8c8_5 fJx4a65c_39 ?_
  refine Ev_putR (x := some 1) dJx4a65c_init_da8c8_8 fJx4a65c_9 ⟨_, rfl, Or.inl rfl⟩ hk rfl ?_
  refine Ev_vret dJx4a65c_init_da8c8_11 rfl ?_
  exact ⟨rfl, rfl⟩
