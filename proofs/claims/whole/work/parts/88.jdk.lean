/-- a list, with an array that is not empty, or none -/
def AX (a : Nat) (xs : List Nat) (ci : Nat) (h : aH) : Prop := AL a xs ci h ∧ ∀ e, hR h 1 a = some e → e = 1 ∨ 1 ≤ hL h e
/-- what a change of a list leaves -/
def LpA (a : Nat) (xs : List Nat) (ci : Nat) (h h' : aH) : Prop := AX a xs ci h' ∧ FO (LsC a h) h h' ∧ ((hR h' 1 a = hR h 1 a ∧ hN h' = hN h) ∨ (hR h' 1 a = some (hN h + 3) ∧ hN h' = hN h + 1))
theorem AL.md {a : Nat} {xs : List Nat} {ci : Nat} {h : aH} {v : Int32} (r : AL a xs ci h) : AL a xs ci (sI h 0 a v) := ⟨r.1, (hI_o _ _ (by decide)).trans r.2.1, r.2.2.1, r.2.2.2.1, r.2.2.2.2⟩
theorem AX.md {a : Nat} {xs : List Nat} {ci : Nat} {h : aH} {v : Int32} (r : AX a xs ci h) : AX a xs ci (sI h 0 a v) := ⟨r.1.md, r.2⟩
theorem LpA.md {a : Nat} {xs : List Nat} {ci : Nat} {h h' : aH} {v : Int32} (r : LpA a xs ci (sI h 0 a v) h') : LpA a xs ci h h' := ⟨r.1, (FO.sI (Or.inl rfl)).tr r.2.1, r.2.2⟩
theorem app_at {xs : List Nat} {x y : Nat} {i : Nat} (h : (xs ++ [x])[i]? = some y) : (i < xs.length ∧ xs[i]? = some y) ∨ (i = xs.length ∧ y = x) := by
  rw [List.getElem?_append] at h
  by_cases z : i < xs.length
  · rw [if_pos z] at h; exact Or.inl ⟨z, h⟩
  · rw [if_neg z] at h
    have e : i = xs.length := by
      have := (List.getElem?_eq_some_iff.mp h).1
      simp at this
      omega
    subst e
    simp at h
    exact Or.inr ⟨rfl, h.symm⟩
theorem ej_add3 (l : Launch) (G : aG) (a x : Nat) (xs : List Nat) (ci : Nat) (h : aH) (al_ : AX a xs ci h) (hx_ : hK h x = ci) (hci : lkd ci) (h40 : xs.length < 40) (h63_ : 63 ≤ hN h) (e0_ : Nat) (he0_ : hR h 1 a = some e0_) : Ev l G 5 1 60 mJx4a65c_add_72be8 0 (en 4 [.ref a, .ref x, .ref e0_, .int (nI xs.length)]) [] h (fun v h' => v = none ∧ LpA a (xs ++ [x]) ci h h') := by
  refine Ev_hv (fun hv => ?_)
  obtain ⟨r, hr1_, hr2_⟩ := id hci
  obtain ⟨e, he_, ⟨rfl, hxs0_⟩ | ⟨hk_, h66_, hl_, hl2_, hy_⟩⟩ := al_.1.2.2.2.2
  · obtain rfl : (1 : Nat) = e0_ := Option.some.inj (he_.symm.trans he0_)
    have hxl_ : xs.length = 0 := by rw [hxs0_]; rfl
    have hf_ : ∀ e, hR h 1 a = some e → e = 1 ∨ (hL h e = xs.length ∧ 0 < xs.length) := fun e' h' => Or.inl (Option.some.inj (h'.symm.trans he0_))
    refine Ev_iload_n dJx4a65c_add_72be8_0 rfl ?_
    refine Ev_aload_n dJx4a65c_add_72be8_1 rfl (by first | exact Or.inr ⟨_, rfl⟩ | exact rv_or _ | exact Or.inl rfl) ?_
    refine Ev_elen dJx4a65c_add_72be8_2 ?_
    refine Ev_icmp_neN 11 dJx4a65c_add_72be8_3 (by decide) (by omega) (by omega) (fun zb3_ => ?_) (fun zb3_ => ?_)
    · exact False.elim (by omega)
    · refine Ev_aload_n dJx4a65c_add_72be8_6 rfl (by first | exact Or.inr ⟨_, rfl⟩ | exact rv_or _ | exact Or.inl rfl) ?_
      refine Ev_Vg (mc2 := 0) (ms2 := 0) [] dJx4a65c_add_72be8_7 vJx4a65c_grow_d5877 kJx4a65c_129 al_.1.1 rfl rfl rfl (Nat.le_of_ble_eq_true rfl) (by omega) (by omega) (by omega) (ej_grow l G a xs ci h al_.1 hci (by omega) hf_) (fun v_ h1 e_ => ?_)
      obtain ⟨rfl, g1_, g2_, g3_, g4_, g5_, g6_, g7_, g8_⟩ := e_
      have hxk_ : hK h1 x = ci := g7_.k hv hx_ (by have := vw_lt hr1_; omega)
      have hka_ : hK h1 a = 0 := g7_.k hv al_.1.1 (by decide)
      refine Ev_astore_n dJx4a65c_add_72be8_10 (by decide) (by first | exact Or.inr ⟨_, rfl⟩ | exact rv_or _ | exact Or.inl rfl) ?_
      refine Ev_aload_n dJx4a65c_add_72be8_11 rfl (by first | exact Or.inr ⟨_, rfl⟩ | exact rv_or _ | exact Or.inl rfl) ?_
      refine Ev_iload_n dJx4a65c_add_72be8_12 rfl ?_
      refine Ev_aload_n dJx4a65c_add_72be8_13 rfl (by first | exact Or.inr ⟨_, rfl⟩ | exact rv_or _ | exact Or.inl rfl) ?_
      refine Ev_aast (kd := 15) xs.length dJx4a65c_add_72be8_14 g2_ (by omega) (by omega) rfl hxk_ hr1_ (Or.inr hr2_) (hi_n (by omega)) (by omega) ?_
      refine Ev_aload_n dJx4a65c_add_72be8_15 rfl (by first | exact Or.inr ⟨_, rfl⟩ | exact rv_or _ | exact Or.inl rfl) ?_
      refine Ev_iload_n dJx4a65c_add_72be8_16 rfl ?_
      refine Ev_iconst (v := nI 1) dJx4a65c_add_72be8_17 (by decide) ?_
      refine Ev_iaddN dJx4a65c_add_72be8_18 ?_
      refine Ev_putI dJx4a65c_add_72be8_19 fJx4a65c_48 ⟨_, rfl, Or.inl rfl⟩ (Or.inl rfl) hka_ ?_
      refine Ev_vret dJx4a65c_add_72be8_22 rfl ?_
      refine ⟨rfl, ⟨⟨hka_, by rw [hI_s]; simp, by simp; omega, fun y hy => ?_, hN h + 3, g6_, Or.inr ⟨g2_, by omega, by simp; show xs.length + 1 ≤ hL h1 (hN h + 3); omega, g4_, fun i y hy => ?_⟩⟩, fun e' he' => ?_⟩, ?_, Or.inr ⟨g6_, g1_⟩⟩
      · rcases List.mem_append.mp hy with h2 | h2
        · exact g7_.k hv (al_.1.2.2.2.1 y h2) (by have := vw_lt hr1_; omega)
        · rw [List.mem_singleton.mp h2]; exact hxk_
      · show hY (sY h1 (hN h + 3) xs.length (some x)) (hN h + 3) i = some y
        rcases app_at hy with ⟨h3, h2⟩ | ⟨rfl, rfl⟩
        · rw [hY_n _ _ (by omega)]; exact g5_ i y h2
        · exact hY_s _ _ _ _
      · have h2 : hR h1 1 a = some e' := he'
        obtain rfl : hN h + 3 = e' := Option.some.inj (g6_.symm.trans h2)
        exact Or.inr (show 1 ≤ hL h1 (hN h + 3) by omega)
      · exact (((g7_.mo (C' := fun b => b = a ∨ b = hN h + 3) (fun b hb z => Or.inl z)).tr (FO.sY (Or.inr rfl))).tr (FO.sI (Or.inl rfl))).mo (fun b hb z => z.elim Or.inl (fun z => by omega))
  · obtain rfl : e = e0_ := Option.some.inj (he_.symm.trans he0_)
    have h10_ := (al_.2 _ he0_).resolve_left (by omega)
    by_cases z_ : xs.length = hL h e
    · have hf_ : ∀ e, hR h 1 a = some e → e = 1 ∨ (hL h e = xs.length ∧ 0 < xs.length) := fun e' h' => by obtain rfl : e = e' := Option.some.inj (he0_.symm.trans h'); exact Or.inr ⟨z_.symm, by omega⟩
      refine Ev_iload_n dJx4a65c_add_72be8_0 rfl ?_
      refine Ev_aload_n dJx4a65c_add_72be8_1 rfl (by first | exact Or.inr ⟨_, rfl⟩ | exact rv_or _ | exact Or.inl rfl) ?_
      refine Ev_alen dJx4a65c_add_72be8_2 hk_ (by omega) (by omega) ?_
      refine Ev_icmp_neN 11 dJx4a65c_add_72be8_3 (by decide) (by omega) (by omega) (fun zb3_ => ?_) (fun zb3_ => ?_)
      · exact False.elim (by omega)
      · refine Ev_aload_n dJx4a65c_add_72be8_6 rfl (by first | exact Or.inr ⟨_, rfl⟩ | exact rv_or _ | exact Or.inl rfl) ?_
        refine Ev_Vg (mc2 := 0) (ms2 := 0) [] dJx4a65c_add_72be8_7 vJx4a65c_grow_d5877 kJx4a65c_129 al_.1.1 rfl rfl rfl (Nat.le_of_ble_eq_true rfl) (by omega) (by omega) (by omega) (ej_grow l G a xs ci h al_.1 hci (by omega) hf_) (fun v_ h1 e_ => ?_)
        obtain ⟨rfl, g1_, g2_, g3_, g4_, g5_, g6_, g7_, g8_⟩ := e_
        have hxk_ : hK h1 x = ci := g7_.k hv hx_ (by have := vw_lt hr1_; omega)
        have hka_ : hK h1 a = 0 := g7_.k hv al_.1.1 (by decide)
        refine Ev_astore_n dJx4a65c_add_72be8_10 (by decide) (by first | exact Or.inr ⟨_, rfl⟩ | exact rv_or _ | exact Or.inl rfl) ?_
        refine Ev_aload_n dJx4a65c_add_72be8_11 rfl (by first | exact Or.inr ⟨_, rfl⟩ | exact rv_or _ | exact Or.inl rfl) ?_
        refine Ev_iload_n dJx4a65c_add_72be8_12 rfl ?_
        refine Ev_aload_n dJx4a65c_add_72be8_13 rfl (by first | exact Or.inr ⟨_, rfl⟩ | exact rv_or _ | exact Or.inl rfl) ?_
        refine Ev_aast (kd := 15) xs.length dJx4a65c_add_72be8_14 g2_ (by omega) (by omega) rfl hxk_ hr1_ (Or.inr hr2_) (hi_n (by omega)) (by omega) ?_
        refine Ev_aload_n dJx4a65c_add_72be8_15 rfl (by first | exact Or.inr ⟨_, rfl⟩ | exact rv_or _ | exact Or.inl rfl) ?_
        refine Ev_iload_n dJx4a65c_add_72be8_16 rfl ?_
        refine Ev_iconst (v := nI 1) dJx4a65c_add_72be8_17 (by decide) ?_
        refine Ev_iaddN dJx4a65c_add_72be8_18 ?_
        refine Ev_putI dJx4a65c_add_72be8_19 fJx4a65c_48 ⟨_, rfl, Or.inl rfl⟩ (Or.inl rfl) hka_ ?_
        refine Ev_vret dJx4a65c_add_72be8_22 rfl ?_
        refine ⟨rfl, ⟨⟨hka_, by rw [hI_s]; simp, by simp; omega, fun y hy => ?_, hN h + 3, g6_, Or.inr ⟨g2_, by omega, by simp; show xs.length + 1 ≤ hL h1 (hN h + 3); omega, g4_, fun i y hy => ?_⟩⟩, fun e' he' => ?_⟩, ?_, Or.inr ⟨g6_, g1_⟩⟩
        · rcases List.mem_append.mp hy with h2 | h2
          · exact g7_.k hv (al_.1.2.2.2.1 y h2) (by have := vw_lt hr1_; omega)
          · rw [List.mem_singleton.mp h2]; exact hxk_
        · show hY (sY h1 (hN h + 3) xs.length (some x)) (hN h + 3) i = some y
          rcases app_at hy with ⟨h3, h2⟩ | ⟨rfl, rfl⟩
          · rw [hY_n _ _ (by omega)]; exact g5_ i y h2
          · exact hY_s _ _ _ _
        · have h2 : hR h1 1 a = some e' := he'
          obtain rfl : hN h + 3 = e' := Option.some.inj (g6_.symm.trans h2)
          exact Or.inr (show 1 ≤ hL h1 (hN h + 3) by omega)
        · exact (((g7_.mo (C' := fun b => b = a ∨ b = hN h + 3) (fun b hb z => Or.inl z)).tr (FO.sY (Or.inr rfl))).tr (FO.sI (Or.inl rfl))).mo (fun b hb z => z.elim Or.inl (fun z => by omega))
    · skip
      refine Ev_iload_n dJx4a65c_add_72be8_0 rfl ?_
      refine Ev_aload_n dJx4a65c_add_72be8_1 rfl (by first | exact Or.inr ⟨_, rfl⟩ | exact rv_or _ | exact Or.inl rfl) ?_
      refine Ev_alen dJx4a65c_add_72be8_2 hk_ (by omega) (by omega) ?_
      refine Ev_icmp_neN 11 dJx4a65c_add_72be8_3 (by decide) (by omega) (by omega) (fun zb3_ => ?_) (fun zb3_ => ?_)
      · refine Ev_aload_n dJx4a65c_add_72be8_11 rfl (by first | exact Or.inr ⟨_, rfl⟩ | exact rv_or _ | exact Or.inl rfl) ?_
        refine Ev_iload_n dJx4a65c_add_72be8_12 rfl ?_
        refine Ev_aload_n dJx4a65c_add_72be8_13 rfl (by first | exact Or.inr ⟨_, rfl⟩ | exact rv_or _ | exact Or.inl rfl) ?_
        refine Ev_aast (kd := 15) xs.length dJx4a65c_add_72be8_14 hk_ (by omega) (by omega) rfl hx_ hr1_ (Or.inr hr2_) (hi_n (by omega)) (by omega) ?_
        refine Ev_aload_n dJx4a65c_add_72be8_15 rfl (by first | exact Or.inr ⟨_, rfl⟩ | exact rv_or _ | exact Or.inl rfl) ?_
        refine Ev_iload_n dJx4a65c_add_72be8_16 rfl ?_
        refine Ev_iconst (v := nI 1) dJx4a65c_add_72be8_17 (by decide) ?_
        refine Ev_iaddN dJx4a65c_add_72be8_18 ?_
        refine Ev_putI dJx4a65c_add_72be8_19 fJx4a65c_48 ⟨_, rfl, Or.inl rfl⟩ (Or.inl rfl) al_.1.1 ?_
        refine Ev_vret dJx4a65c_add_72be8_22 rfl ?_
        refine ⟨rfl, ⟨⟨al_.1.1, by rw [hI_s]; simp, by simp; omega, fun y hy => ?_, e, he_, Or.inr ⟨hk_, h66_, by simp; show xs.length + 1 ≤ hL h e; omega, hl2_, fun i y hy => ?_⟩⟩, al_.2⟩, (FO.sY (Or.inr he_)).tr (FO.sI (Or.inl rfl)), Or.inl ⟨rfl, rfl⟩⟩
        · rcases List.mem_append.mp hy with h1 | h1
          · exact al_.1.2.2.2.1 y h1
          · rw [List.mem_singleton.mp h1]; exact hx_
        · show hY (sY h e xs.length (some x)) e i = some y
          rcases app_at hy with ⟨h1, h2⟩ | ⟨rfl, rfl⟩
          · rw [hY_n _ _ (by omega)]; exact hy_ i y h2
          · exact hY_s _ _ _ _
      · exact False.elim (by omega)
