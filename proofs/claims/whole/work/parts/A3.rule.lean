theorem ec_blame (l : Launch) (G : aG) (x p v : Int32) (r : Nat) (h : aH) (hk_ : hK h r = 7) (hv_ : hI h 453 r = v) : Ev l G 0 0 0 mX6_blame 0 (en 3 [.ref r, .int x, .int p]) [] h (Ex none (if v = 0 then sI (sI h 453 r x) 454 r p else h)) := by
  refine Ev_aload_n dX6_blame_0 rfl (by first | exact Or.inr ⟨_, rfl⟩ | exact rv_or _ | exact Or.inl rfl) ?_
  refine Ev_getE dX6_blame_1 fX6_34 hk_ hv_ ?_
  refine Ev_if_neT 17 dX6_blame_4 (by decide) (fun zb4_ => ?_) (fun zb4_ => ?_)
  · refine Ev_vret dX6_blame_17 rfl ?_
    refine ⟨rfl, ?_⟩
    first
    | (rw [if_neg (fun z => zb4_ (by rw [z]; rfl))]; done)
    | (rw [if_pos (Int32.toInt_inj.mp zb4_)]; done)
  · refine Ev_aload_n dX6_blame_7 rfl (by first | exact Or.inr ⟨_, rfl⟩ | exact rv_or _ | exact Or.inl rfl) ?_
    refine Ev_iload_n dX6_blame_8 rfl ?_
    refine Ev_putI dX6_blame_9 fX6_34 ⟨_, rfl, Or.inl rfl⟩ (Or.inl rfl) hk_ ?_
    refine Ev_aload_n dX6_blame_12 rfl (by first | exact Or.inr ⟨_, rfl⟩ | exact rv_or _ | exact Or.inl rfl) ?_
    refine Ev_iload_n dX6_blame_13 rfl ?_
    refine Ev_putI dX6_blame_14 fX6_9 ⟨_, rfl, Or.inl rfl⟩ (Or.inl rfl) hk_ ?_
    refine Ev_vret dX6_blame_17 rfl ?_
    refine ⟨rfl, ?_⟩
    first
    | (rw [if_neg (fun z => zb4_ (by rw [z]; rfl))]; done)
    | (rw [if_pos (Int32.toInt_inj.mp zb4_)]; done)
theorem ec_addF (l : Launch) (G : aG) (a n : Nat) (so fi se : Int32) (r b s f e_ : Nat) (bs : List Int32) (h : aH) (rx : RdX r b s f e_ bs h) (ha : a < 200) (hn_ : hI h 452 r = nI n) (hn20 : n ≤ 20) (fl_ : hI h 453 r = nI 0) (hf : min bs.length 20 ≤ n) : Ev l G 1 0 0 mX6_add 0 (en 5 [.ref r, .int (nI a), .int so, .int fi, .int se]) [] h (Ex none (sI (sI h 453 r (nI 5)) 454 r (nI a))) := by
  have b120_ := rx.2.2.2.2
  refine Ev_aload_n dX6_add_0 rfl (by first | exact Or.inr ⟨_, rfl⟩ | exact rv_or _ | exact Or.inl rfl) ?_
  refine Ev_getE dX6_add_1 fX6_65 rx.1.1 hn_ ?_
  refine Ev_aload_n dX6_add_4 rfl (by first | exact Or.inr ⟨_, rfl⟩ | exact rv_or _ | exact Or.inl rfl) ?_
  refine Ev_getA dX6_add_5 fX6_25 rx.1.1 rx.1.2.2.1 ?_
  refine Ev_alen dX6_add_8 rx.2.2.1.1.1 (by omega) (by omega) ?_
  rw [rx.2.2.1.1.2]
  refine Ev_icmp_ltN 19 dX6_add_9 (by decide) (by omega) (by omega) (fun zb9_ => ?_) (fun zb9_ => ?_)
  · exact False.elim (by omega)
  · refine Ev_aload_n dX6_add_12 rfl (by first | exact Or.inr ⟨_, rfl⟩ | exact rv_or _ | exact Or.inl rfl) ?_
    refine Ev_iconst (v := nI 5) dX6_add_13 (by decide) ?_
    refine Ev_iload_n dX6_add_14 rfl ?_
    refine Ev_V0 [.int (nI 5), .int (nI a)] dX6_add_15 vX6_blame kX6_48 rx.1.1 rfl rfl rfl (Nat.le_of_ble_eq_true rfl) (by omega) (ec_blame l G (nI 5) (nI a) (nI 0) r h rx.1.1 fl_) ?_
    rw [if_pos (show nI 0 = 0 from rfl)]
    refine Ev_vret dX6_add_18 rfl ?_
    exact ⟨rfl, rfl⟩
theorem ec_addK (l : Launch) (G : aG) (a n : Nat) (so fi se : Int32) (r b s f e_ : Nat) (bs : List Int32) (h : aH) (rx : RdX r b s f e_ bs h) (ha : a < 200) (hn_ : hI h 452 r = nI n) (hn20 : n ≤ 20) (hf : n < min bs.length 20) : Ev l G 1 0 0 mX6_add 0 (en 5 [.ref r, .int (nI a), .int so, .int fi, .int se]) [] h (Ex none (sI (sX (sX (sX h s n so) f n fi) e_ n se) 452 r (nI (n + 1)))) := by
  have b120_ := rx.2.2.2.2
  refine Ev_aload_n dX6_add_0 rfl (by first | exact Or.inr ⟨_, rfl⟩ | exact rv_or _ | exact Or.inl rfl) ?_
  refine Ev_getE dX6_add_1 fX6_65 rx.1.1 hn_ ?_
  refine Ev_aload_n dX6_add_4 rfl (by first | exact Or.inr ⟨_, rfl⟩ | exact rv_or _ | exact Or.inl rfl) ?_
  refine Ev_getA dX6_add_5 fX6_25 rx.1.1 rx.1.2.2.1 ?_
  refine Ev_alen dX6_add_8 rx.2.2.1.1.1 (by omega) (by omega) ?_
  rw [rx.2.2.1.1.2]
  refine Ev_icmp_ltN 19 dX6_add_9 (by decide) (by omega) (by omega) (fun zb9_ => ?_) (fun zb9_ => ?_)
  · refine Ev_aload_n dX6_add_19 rfl (by first | exact Or.inr ⟨_, rfl⟩ | exact rv_or _ | exact Or.inl rfl) ?_
    refine Ev_getA dX6_add_20 fX6_25 rx.1.1 rx.1.2.2.1 ?_
    refine Ev_aload_n dX6_add_23 rfl (by first | exact Or.inr ⟨_, rfl⟩ | exact rv_or _ | exact Or.inl rfl) ?_
    refine Ev_getE dX6_add_24 fX6_65 rx.1.1 hn_ ?_
    refine Ev_iload_n dX6_add_27 rfl ?_
    refine Ev_iastL n dX6_add_28 rx.2.2.1.1.1 rx.2.2.1.1.2 (hi_n (by omega)) (by omega) ?_
    refine Ev_aload_n dX6_add_29 rfl (by first | exact Or.inr ⟨_, rfl⟩ | exact rv_or _ | exact Or.inl rfl) ?_
    refine Ev_getA dX6_add_30 fX6_28 rx.1.1 rx.1.2.2.2.1 ?_
    refine Ev_aload_n dX6_add_33 rfl (by first | exact Or.inr ⟨_, rfl⟩ | exact rv_or _ | exact Or.inl rfl) ?_
    refine Ev_getE dX6_add_34 fX6_65 rx.1.1 hn_ ?_
    refine Ev_iload_n dX6_add_37 rfl ?_
    refine Ev_iastL n dX6_add_38 rx.2.2.1.2.1.1 rx.2.2.1.2.1.2 (hi_n (by omega)) (by omega) ?_
    refine Ev_aload_n dX6_add_39 rfl (by first | exact Or.inr ⟨_, rfl⟩ | exact rv_or _ | exact Or.inl rfl) ?_
    refine Ev_getA dX6_add_40 fX6_31 rx.1.1 rx.1.2.2.2.2 ?_
    refine Ev_aload_n dX6_add_43 rfl (by first | exact Or.inr ⟨_, rfl⟩ | exact rv_or _ | exact Or.inl rfl) ?_
    refine Ev_getE dX6_add_44 fX6_65 rx.1.1 hn_ ?_
    refine Ev_iload dX6_add_47 rfl ?_
    refine Ev_iastL n dX6_add_49 rx.2.2.1.2.2.1 rx.2.2.1.2.2.2 (hi_n (by omega)) (by omega) ?_
    refine Ev_aload_n dX6_add_50 rfl (by first | exact Or.inr ⟨_, rfl⟩ | exact rv_or _ | exact Or.inl rfl) ?_
    refine Ev_dup dX6_add_51 (by first | rfl | exact okv_rv _) ?_
    refine Ev_getE dX6_add_52 fX6_65 rx.1.1 hn_ ?_
    refine Ev_iconst (v := nI 1) dX6_add_55 (by decide) ?_
    refine Ev_iaddN dX6_add_56 ?_
    refine Ev_putI dX6_add_57 fX6_65 ⟨_, rfl, Or.inl rfl⟩ (Or.inl rfl) rx.1.1 ?_
    refine Ev_vret dX6_add_60 rfl ?_
    exact ⟨rfl, rfl⟩
  · exact False.elim (by omega)
theorem RdX.of4 {r b s f e_ n a : Nat} {bs : List Int32} {v : Int32} {h : aH} (x : RdX r b s f e_ bs h) (ha : a = s ∨ a = f ∨ a = e_) : RdX r b s f e_ bs (sX h a n v) :=
  x.of rfl rfl rfl (hX_o _ _ (by
    obtain ⟨-, -, -, ⟨n1, n2, n3, -⟩, -⟩ := x
    rcases ha with e | e | e
    · exact fun z => n1 (z.trans e)
    · exact fun z => n2 (z.trans e)
    · exact fun z => n3 (z.trans e)))
theorem RdX.ofI {r b s f e_ n a : Nat} {bs : List Int32} {v : Int32} {h : aH} (x : RdX r b s f e_ bs h) : RdX r b s f e_ bs (sI h n a v) := x.of rfl rfl rfl rfl
theorem RdX.add {r b s f e_ n : Nat} {bs : List Int32} {so fi se : Int32} {h : aH} (x : RdX r b s f e_ bs h) : RdX r b s f e_ bs (sI (sX (sX (sX h s n so) f n fi) e_ n se) 452 r (nI (n + 1))) :=
  (((x.of4 (Or.inl rfl)).of4 (Or.inr (Or.inl rfl))).of4 (Or.inr (Or.inr rfl))).ofI
theorem RdI.add {r b s f e_ : Nat} {bs : List Int32} {its : List It} {wn : Bool} {fl : Int32 × Int32} {h : aH} {it : It} {on tw : Nat} (x : RdX r b s f e_ bs h) (i : RdI r s f e_ bs its wn fl h) (hl : its.length < 20) (ok : itOk it) (hr : itR bs it on tw) : RdI r s f e_ bs (its ++ [it]) wn fl (sI (sX (sX (sX h s its.length (nI it.1)) f its.length (nI on)) e_ its.length (nI tw)) 452 r (nI (its.length + 1))) := by
  obtain ⟨-, -, -, ⟨-, -, -, n1, n2, n3⟩, -⟩ := x
  obtain ⟨i1, i2, i3, i4, i5, i6⟩ := i
  refine ⟨by rw [hI_s]; simp, by simp; omega, by rw [hI_o _ _ (by decide), hI_sX, hI_sX, hI_sX]; exact i3, by rw [hI_o _ _ (by decide), hI_sX, hI_sX, hI_sX]; exact i4, by rw [hI_o _ _ (by decide), hI_sX, hI_sX, hI_sX]; exact i5, fun k q hq => ?_⟩
  rw [List.getElem?_append] at hq
  by_cases e : k < its.length
  · rw [if_pos e] at hq
    obtain ⟨a1, on_, tw_, a2, a3, a4, a5⟩ := i6 k q hq
    refine ⟨a1, on_, tw_, ?_, ?_, ?_, a5⟩
    · rw [gX_I, gX_X _ n2, gX_X _ n1, hX_n _ _ (by omega)]; exact a2
    · rw [gX_I, gX_X _ n3, hX_n _ _ (by omega), gX_X _ n1.symm]; exact a3
    · rw [gX_I, hX_n _ _ (by omega), gX_X _ n3.symm, gX_X _ n2.symm]; exact a4
  · rw [if_neg e] at hq
    have e0 : k = its.length := by
      have := (List.getElem?_eq_some_iff.mp hq).1
      simp at this
      omega
    subst e0
    simp at hq
    subst hq
    refine ⟨ok, on, tw, ?_, ?_, ?_, hr⟩
    · rw [gX_I, gX_X _ n2, gX_X _ n1, hX_s]
    · rw [gX_I, gX_X _ n3, hX_s]
    · rw [gX_I, hX_s]
/-- behind an item: it stands, or there are too many -/
def AdP (r b s f e_ a : Nat) (bs : List Int32) (its : List It) (wn : Bool) (it : It) (h h' : aH) : Prop := FO (Rd4 r s f e_) h h' ∧ RdX r b s f e_ bs h' ∧ ((its.length = 20 ∧ hI h' 453 r = nI 5 ∧ hI h' 454 r = nI a) ∨ (its.length < 20 ∧ RdI r s f e_ bs (its ++ [it]) wn (nI 0, -1) h'))
theorem ec_addIt (l : Launch) (G : aG) (on tw : Nat) (a : Nat) (it : It) (its : List It) (wn : Bool) (r b s f e_ : Nat) (bs : List Int32) (h : aH) (rx : RdX r b s f e_ bs h) (ha : a < bs.length) (hia : its.length ≤ a) (ri : RdI r s f e_ bs its wn (nI 0, -1) h) (ok : itOk it) (hr : itR bs it on tw) : Ev l G 1 0 0 mX6_add 0 (en 5 [.ref r, .int (nI a), .int (nI it.1), .int (nI on), .int (nI tw)]) [] h (fun x h' => x = none ∧ AdP r b s f e_ a bs its wn it h h') := by
  have b120_ := rx.2.2.2.2
  have l20_ := ri.2.1
  by_cases z : its.length < 20
  · refine Ev.post (fun x h' e => ?_) (ec_addK l G a its.length _ _ _ r b s f e_ bs h rx (by omega) ri.1 l20_ (by omega))
    obtain ⟨rfl, rfl⟩ := e
    exact ⟨rfl, (((FO.sX (Or.inr (Or.inl rfl))).tr (FO.sX (Or.inr (Or.inr (Or.inl rfl))))).tr (FO.sX (Or.inr (Or.inr (Or.inr rfl))))).tr (FO.sI (Or.inl rfl)), rx.add, Or.inr ⟨z, RdI.add rx ri z ok hr⟩⟩
  · refine Ev.post (fun x h' e => ?_) (ec_addF l G a its.length _ _ _ r b s f e_ bs h rx (by omega) ri.1 l20_ ri.2.2.1 (by omega))
    obtain ⟨rfl, rfl⟩ := e
    exact ⟨rfl, (FO.sI (Or.inl rfl)).tr (FO.sI (Or.inl rfl)), rx.of rfl rfl rfl rfl, Or.inl ⟨by omega, (hI_o _ _ (by decide)).trans (hI_s _ _ _ _), hI_s _ _ _ _⟩⟩
theorem mark_case {bs : List Int32} {a w : Nat} {it : It} (e : mark bs a = some (it, w)) : (it = (0, 0, 0, [nI 60]) ∧ sv bs (a + 1) = 60 ∧ w = 3) ∨ (it = (1, 0, 0, []) ∧ w = 3) ∨ (it = (2, (sv bs (a + 1) - 48).toNat, 0, []) ∧ (48 ≤ sv bs (a + 1) ∧ sv bs (a + 1) ≤ 51) ∧ w = 3) ∨ (it = (3, (sv bs (a + 2) - 48).toNat, (sv bs (a + 3) - 48).toNat, []) ∧ (48 ≤ sv bs (a + 2) ∧ sv bs (a + 2) ≤ 51) ∧ (48 ≤ sv bs (a + 3) ∧ sv bs (a + 3) ≤ 51) ∧ w = 5) ∨ (it = (4, 0, 0, []) ∧ w = 3) ∨ (it = (5, (sv bs (a + 1) - 97).toNat, 0, []) ∧ (97 ≤ sv bs (a + 1) ∧ sv bs (a + 1) ≤ 104) ∧ w = 3) ∨ (it = (6, (sv bs (a + 2) - 48).toNat, 0, []) ∧ (48 ≤ sv bs (a + 2) ∧ sv bs (a + 2) ≤ 51) ∧ w = 4) ∨ (it = (7, 0, 0, []) ∧ w = 3) := by
  by_cases z : sv bs (a + 2) = 62
  · rw [mark_in z] at e
    unfold mark1 at e
    by_cases h1 : sv bs (a + 1) = 60
    · rw [if_pos h1] at e; cases e; exact Or.inl ⟨rfl, h1, rfl⟩
    rw [if_neg h1] at e
    by_cases h2 : sv bs (a + 1) = 110
    · rw [if_pos h2] at e; cases e; exact Or.inr (Or.inl ⟨rfl, rfl⟩)
    rw [if_neg h2] at e
    by_cases h3 : 48 ≤ sv bs (a + 1) ∧ sv bs (a + 1) ≤ 51
    · rw [if_pos h3] at e; cases e; exact Or.inr (Or.inr (Or.inl ⟨rfl, h3, rfl⟩))
    rw [if_neg h3] at e
    by_cases h4 : sv bs (a + 1) = 61
    · rw [if_pos h4] at e; cases e; exact Or.inr (Or.inr (Or.inr (Or.inr (Or.inl ⟨rfl, rfl⟩))))
    rw [if_neg h4] at e
    by_cases h5 : 97 ≤ sv bs (a + 1) ∧ sv bs (a + 1) ≤ 104
    · rw [if_pos h5] at e; cases e; exact Or.inr (Or.inr (Or.inr (Or.inr (Or.inr (Or.inl ⟨rfl, h5, rfl⟩)))))
    rw [if_neg h5] at e
    by_cases h6 : sv bs (a + 1) = 33
    · rw [if_pos h6] at e; cases e; exact Or.inr (Or.inr (Or.inr (Or.inr (Or.inr (Or.inr (Or.inr ⟨rfl, rfl⟩))))))
    rw [if_neg h6] at e; cases e
  · rw [mark_out z] at e
    unfold mark2 at e
    by_cases h1 : sv bs (a + 1) = 63 ∧ (48 ≤ sv bs (a + 2) ∧ sv bs (a + 2) ≤ 51) ∧ sv bs (a + 3) = 62
    · rw [if_pos h1] at e; cases e; exact Or.inr (Or.inr (Or.inr (Or.inr (Or.inr (Or.inr (Or.inl ⟨rfl, h1.2.1, rfl⟩))))))
    rw [if_neg h1] at e
    by_cases h2 : sv bs (a + 1) = 43 ∧ (48 ≤ sv bs (a + 2) ∧ sv bs (a + 2) ≤ 51) ∧ (48 ≤ sv bs (a + 3) ∧ sv bs (a + 3) ≤ 51) ∧ sv bs (a + 4) = 62
    · rw [if_pos h2] at e; cases e; exact Or.inr (Or.inr (Or.inr (Or.inl ⟨rfl, h2.2.1, h2.2.2.1, rfl⟩)))
    rw [if_neg h2] at e; cases e
theorem see_sub {bs : List Int32} {k c : Nat} (h1 : (c : Int) ≤ sv bs k) (h2 : sv bs k ≤ 126) : seeL bs k - nI c = nI (sv bs k - c).toNat := by
  obtain ⟨j, hj, e⟩ := as_nI (n := 126) (x := seeL bs k) (by unfold sv at h1; omega) h2
  unfold sv at h1 h2 ⊢
  rw [e] at h1 h2 ⊢
  rw [hi_n (by omega)] at h1 h2 ⊢
  rw [pk_sub (by omega)]
  congr 1; omega
theorem ec_addMark (l : Launch) (G : aG) (w_ : Nat) (a : Nat) (it : It) (its : List It) (wn : Bool) (r b s f e_ : Nat) (bs : List Int32) (h : aH) (rx : RdX r b s f e_ bs h) (ha : a < bs.length) (hia : its.length ≤ a) (ri : RdI r s f e_ bs its wn (nI 0, -1) h) (em : mark bs a = some (it, w_)) : Ev l G 2 0 0 mX6_addMark 0 (en 3 [.ref r, .int (nI a), .int (nI it.1)]) [] h (fun x h' => x = none ∧ AdP r b s f e_ a bs its wn it h h') := by
  have b120_ := rx.2.2.2.2
  have ok_ := mark_ok em
  have ml_ := mark_len em
  rcases mark_case em with ⟨rfl, c1_, rfl⟩ | ⟨rfl, rfl⟩ | ⟨rfl, c1_, rfl⟩ | ⟨rfl, c1_, c2_, rfl⟩ | ⟨rfl, rfl⟩ | ⟨rfl, c1_, rfl⟩ | ⟨rfl, c1_, rfl⟩ | ⟨rfl, rfl⟩
  · have g60_ : bs.getD (a + 1) 0 = nI 60 := Int32.toInt_inj.mp (by rw [← sv_at (by omega), t60]; exact c1_)
    refine Ev_iload_n dX6_addMark_0 rfl ?_
    refine Ev_tableIn (off := 43) 44 dX6_addMark_1 (by show ¬ (nI 0).toInt < 0; decide) (by show ¬ (6:Int) < (nI 0).toInt; decide) (by show (#[43, 145, 56, 76, 145, 105, 125] : Array Int)[((nI 0).toInt - 0).toNat]? = some 43; decide) (by decide) ?_
    refine Ev_aload_n dX6_addMark_44 rfl (by first | exact Or.inr ⟨_, rfl⟩ | exact rv_or _ | exact Or.inl rfl) ?_
    refine Ev_iload_n dX6_addMark_45 rfl ?_
    refine Ev_iload_n dX6_addMark_46 rfl ?_
    refine Ev_iload_n dX6_addMark_47 rfl ?_
    refine Ev_iconst (v := nI 1) dX6_addMark_48 (by decide) ?_
    refine Ev_iaddN dX6_addMark_49 ?_
    refine Ev_iconst (v := nI 1) dX6_addMark_50 (by decide) ?_
    refine Ev_Vz [.int (nI a), .int (nI ((0, 0, 0, [nI 60]) : It).1), .int (nI (a + 1)), .int (nI (1))] dX6_addMark_51 vX6_add kX6_52 rx.1.1 rfl rfl rfl (Nat.le_of_ble_eq_true rfl) (by omega) (ec_addIt l G (a + 1) (1) a (0, 0, 0, [nI 60]) its wn r b s f e_ bs h rx ha hia ri ok_ ⟨fun _ => ⟨rfl, by omega, fun k hk => by rw [show k = 0 by omega]; exact g60_⟩, fun z => absurd rfl z⟩) (fun v_ h2 z_ => ?_)
    obtain ⟨rfl, ad_⟩ := z_
    refine Ev_goto 154 dX6_addMark_54 (by decide) ?_
    refine Ev_vret dX6_addMark_154 rfl ?_
    exact ⟨rfl, ad_⟩
  · refine Ev_iload_n dX6_addMark_0 rfl ?_
    refine Ev_tableIn (off := 145) 146 dX6_addMark_1 (by show ¬ (nI 1).toInt < 0; decide) (by show ¬ (6:Int) < (nI 1).toInt; decide) (by show (#[43, 145, 56, 76, 145, 105, 125] : Array Int)[((nI 1).toInt - 0).toNat]? = some 145; decide) (by decide) ?_
    refine Ev_aload_n dX6_addMark_146 rfl (by first | exact Or.inr ⟨_, rfl⟩ | exact rv_or _ | exact Or.inl rfl) ?_
    refine Ev_iload_n dX6_addMark_147 rfl ?_
    refine Ev_iload_n dX6_addMark_148 rfl ?_
    refine Ev_iconst (v := nI 0) dX6_addMark_149 (by decide) ?_
    refine Ev_iconst (v := nI 0) dX6_addMark_150 (by decide) ?_
    refine Ev_Vz [.int (nI a), .int (nI ((1, 0, 0, []) : It).1), .int (nI (0)), .int (nI (0))] dX6_addMark_151 vX6_add kX6_52 rx.1.1 rfl rfl rfl (Nat.le_of_ble_eq_true rfl) (by omega) (ec_addIt l G (0) (0) a (1, 0, 0, []) its wn r b s f e_ bs h rx ha hia ri ok_ ⟨fun z => absurd (show (1:Nat) = 0 from z) (by decide), fun _ => ⟨rfl, rfl⟩⟩) (fun v_ h2 z_ => ?_)
    obtain ⟨rfl, ad_⟩ := z_
    refine Ev_vret dX6_addMark_154 rfl ?_
    exact ⟨rfl, ad_⟩
  · refine Ev_iload_n dX6_addMark_0 rfl ?_
    refine Ev_tableIn (off := 56) 57 dX6_addMark_1 (by show ¬ (nI 2).toInt < 0; decide) (by show ¬ (6:Int) < (nI 2).toInt; decide) (by show (#[43, 145, 56, 76, 145, 105, 125] : Array Int)[((nI 2).toInt - 0).toNat]? = some 56; decide) (by decide) ?_
    refine Ev_aload_n dX6_addMark_57 rfl (by first | exact Or.inr ⟨_, rfl⟩ | exact rv_or _ | exact Or.inl rfl) ?_
    refine Ev_iload_n dX6_addMark_58 rfl ?_
    refine Ev_iload_n dX6_addMark_59 rfl ?_
    refine Ev_aload_n dX6_addMark_60 rfl (by first | exact Or.inr ⟨_, rfl⟩ | exact rv_or _ | exact Or.inl rfl) ?_
    refine Ev_iload_n dX6_addMark_61 rfl ?_
    refine Ev_iconst (v := nI 1) dX6_addMark_62 (by decide) ?_
    refine Ev_iaddN dX6_addMark_63 ?_
    refine Ev_V0 [.int (nI (a + 1))] dX6_addMark_64 vX6_byteAt kX6_62 rx.1.1 rfl rfl rfl (Nat.le_of_ble_eq_true rfl) (by omega) (ec_byteAt l G (a + 1) (by omega) r b s f e_ bs h rx) ?_
    refine Ev_bipush (v := nI 48) dX6_addMark_67 (by decide) ?_
    refine Ev_isub dX6_addMark_69 ?_
    refine Ev_top (y := .int (nI (sv bs (a + 1) - 48).toNat)) (congrArg Value.int (see_sub (by omega) (by omega))) ?_
    refine Ev_iconst (v := nI 0) dX6_addMark_70 (by decide) ?_
    refine Ev_Vz [.int (nI a), .int (nI ((2, (sv bs (a + 1) - 48).toNat, 0, []) : It).1), .int (nI ((sv bs (a + 1) - 48).toNat)), .int (nI (0))] dX6_addMark_71 vX6_add kX6_52 rx.1.1 rfl rfl rfl (Nat.le_of_ble_eq_true rfl) (by omega) (ec_addIt l G ((sv bs (a + 1) - 48).toNat) (0) a (2, (sv bs (a + 1) - 48).toNat, 0, []) its wn r b s f e_ bs h rx ha hia ri ok_ ⟨fun z => absurd (show (2:Nat) = 0 from z) (by decide), fun _ => ⟨rfl, rfl⟩⟩) (fun v_ h2 z_ => ?_)
    obtain ⟨rfl, ad_⟩ := z_
    refine Ev_goto 154 dX6_addMark_74 (by decide) ?_
    refine Ev_vret dX6_addMark_154 rfl ?_
    exact ⟨rfl, ad_⟩
  · refine Ev_iload_n dX6_addMark_0 rfl ?_
    refine Ev_tableIn (off := 76) 77 dX6_addMark_1 (by show ¬ (nI 3).toInt < 0; decide) (by show ¬ (6:Int) < (nI 3).toInt; decide) (by show (#[43, 145, 56, 76, 145, 105, 125] : Array Int)[((nI 3).toInt - 0).toNat]? = some 76; decide) (by decide) ?_
    refine Ev_aload_n dX6_addMark_77 rfl (by first | exact Or.inr ⟨_, rfl⟩ | exact rv_or _ | exact Or.inl rfl) ?_
    refine Ev_iload_n dX6_addMark_78 rfl ?_
    refine Ev_iload_n dX6_addMark_79 rfl ?_
    refine Ev_aload_n dX6_addMark_80 rfl (by first | exact Or.inr ⟨_, rfl⟩ | exact rv_or _ | exact Or.inl rfl) ?_
    refine Ev_iload_n dX6_addMark_81 rfl ?_
    refine Ev_iconst (v := nI 2) dX6_addMark_82 (by decide) ?_
    refine Ev_iaddN dX6_addMark_83 ?_
    refine Ev_V0 [.int (nI (a + 2))] dX6_addMark_84 vX6_byteAt kX6_62 rx.1.1 rfl rfl rfl (Nat.le_of_ble_eq_true rfl) (by omega) (ec_byteAt l G (a + 2) (by omega) r b s f e_ bs h rx) ?_
    refine Ev_bipush (v := nI 48) dX6_addMark_87 (by decide) ?_
    refine Ev_isub dX6_addMark_89 ?_
    refine Ev_top (y := .int (nI (sv bs (a + 2) - 48).toNat)) (congrArg Value.int (see_sub (by omega) (by omega))) ?_
    refine Ev_aload_n dX6_addMark_90 rfl (by first | exact Or.inr ⟨_, rfl⟩ | exact rv_or _ | exact Or.inl rfl) ?_
    refine Ev_iload_n dX6_addMark_91 rfl ?_
    refine Ev_iconst (v := nI 3) dX6_addMark_92 (by decide) ?_
    refine Ev_iaddN dX6_addMark_93 ?_
    refine Ev_V0 [.int (nI (a + 3))] dX6_addMark_94 vX6_byteAt kX6_62 rx.1.1 rfl rfl rfl (Nat.le_of_ble_eq_true rfl) (by omega) (ec_byteAt l G (a + 3) (by omega) r b s f e_ bs h rx) ?_
    refine Ev_bipush (v := nI 48) dX6_addMark_97 (by decide) ?_
    refine Ev_isub dX6_addMark_99 ?_
    refine Ev_top (y := .int (nI (sv bs (a + 3) - 48).toNat)) (congrArg Value.int (see_sub (by omega) (by omega))) ?_
    refine Ev_Vz [.int (nI a), .int (nI ((3, (sv bs (a + 2) - 48).toNat, (sv bs (a + 3) - 48).toNat, []) : It).1), .int (nI ((sv bs (a + 2) - 48).toNat)), .int (nI ((sv bs (a + 3) - 48).toNat))] dX6_addMark_100 vX6_add kX6_52 rx.1.1 rfl rfl rfl (Nat.le_of_ble_eq_true rfl) (by omega) (ec_addIt l G ((sv bs (a + 2) - 48).toNat) ((sv bs (a + 3) - 48).toNat) a (3, (sv bs (a + 2) - 48).toNat, (sv bs (a + 3) - 48).toNat, []) its wn r b s f e_ bs h rx ha hia ri ok_ ⟨fun z => absurd (show (3:Nat) = 0 from z) (by decide), fun _ => ⟨rfl, rfl⟩⟩) (fun v_ h2 z_ => ?_)
    obtain ⟨rfl, ad_⟩ := z_
    refine Ev_goto 154 dX6_addMark_103 (by decide) ?_
    refine Ev_vret dX6_addMark_154 rfl ?_
    exact ⟨rfl, ad_⟩
  · refine Ev_iload_n dX6_addMark_0 rfl ?_
    refine Ev_tableIn (off := 145) 146 dX6_addMark_1 (by show ¬ (nI 4).toInt < 0; decide) (by show ¬ (6:Int) < (nI 4).toInt; decide) (by show (#[43, 145, 56, 76, 145, 105, 125] : Array Int)[((nI 4).toInt - 0).toNat]? = some 145; decide) (by decide) ?_
    refine Ev_aload_n dX6_addMark_146 rfl (by first | exact Or.inr ⟨_, rfl⟩ | exact rv_or _ | exact Or.inl rfl) ?_
    refine Ev_iload_n dX6_addMark_147 rfl ?_
    refine Ev_iload_n dX6_addMark_148 rfl ?_
    refine Ev_iconst (v := nI 0) dX6_addMark_149 (by decide) ?_
    refine Ev_iconst (v := nI 0) dX6_addMark_150 (by decide) ?_
    refine Ev_Vz [.int (nI a), .int (nI ((4, 0, 0, []) : It).1), .int (nI (0)), .int (nI (0))] dX6_addMark_151 vX6_add kX6_52 rx.1.1 rfl rfl rfl (Nat.le_of_ble_eq_true rfl) (by omega) (ec_addIt l G (0) (0) a (4, 0, 0, []) its wn r b s f e_ bs h rx ha hia ri ok_ ⟨fun z => absurd (show (4:Nat) = 0 from z) (by decide), fun _ => ⟨rfl, rfl⟩⟩) (fun v_ h2 z_ => ?_)
    obtain ⟨rfl, ad_⟩ := z_
    refine Ev_vret dX6_addMark_154 rfl ?_
    exact ⟨rfl, ad_⟩
  · refine Ev_iload_n dX6_addMark_0 rfl ?_
    refine Ev_tableIn (off := 105) 106 dX6_addMark_1 (by show ¬ (nI 5).toInt < 0; decide) (by show ¬ (6:Int) < (nI 5).toInt; decide) (by show (#[43, 145, 56, 76, 145, 105, 125] : Array Int)[((nI 5).toInt - 0).toNat]? = some 105; decide) (by decide) ?_
    refine Ev_aload_n dX6_addMark_106 rfl (by first | exact Or.inr ⟨_, rfl⟩ | exact rv_or _ | exact Or.inl rfl) ?_
    refine Ev_iload_n dX6_addMark_107 rfl ?_
    refine Ev_iload_n dX6_addMark_108 rfl ?_
    refine Ev_aload_n dX6_addMark_109 rfl (by first | exact Or.inr ⟨_, rfl⟩ | exact rv_or _ | exact Or.inl rfl) ?_
    refine Ev_iload_n dX6_addMark_110 rfl ?_
    refine Ev_iconst (v := nI 1) dX6_addMark_111 (by decide) ?_
    refine Ev_iaddN dX6_addMark_112 ?_
    refine Ev_V0 [.int (nI (a + 1))] dX6_addMark_113 vX6_byteAt kX6_62 rx.1.1 rfl rfl rfl (Nat.le_of_ble_eq_true rfl) (by omega) (ec_byteAt l G (a + 1) (by omega) r b s f e_ bs h rx) ?_
    refine Ev_bipush (v := nI 97) dX6_addMark_116 (by decide) ?_
    refine Ev_isub dX6_addMark_118 ?_
    refine Ev_top (y := .int (nI (sv bs (a + 1) - 97).toNat)) (congrArg Value.int (see_sub (by omega) (by omega))) ?_
    refine Ev_iconst (v := nI 0) dX6_addMark_119 (by decide) ?_
    refine Ev_Vz [.int (nI a), .int (nI ((5, (sv bs (a + 1) - 97).toNat, 0, []) : It).1), .int (nI ((sv bs (a + 1) - 97).toNat)), .int (nI (0))] dX6_addMark_120 vX6_add kX6_52 rx.1.1 rfl rfl rfl (Nat.le_of_ble_eq_true rfl) (by omega) (ec_addIt l G ((sv bs (a + 1) - 97).toNat) (0) a (5, (sv bs (a + 1) - 97).toNat, 0, []) its wn r b s f e_ bs h rx ha hia ri ok_ ⟨fun z => absurd (show (5:Nat) = 0 from z) (by decide), fun _ => ⟨rfl, rfl⟩⟩) (fun v_ h2 z_ => ?_)
    obtain ⟨rfl, ad_⟩ := z_
    refine Ev_goto 154 dX6_addMark_123 (by decide) ?_
    refine Ev_vret dX6_addMark_154 rfl ?_
    exact ⟨rfl, ad_⟩
  · refine Ev_iload_n dX6_addMark_0 rfl ?_
    refine Ev_tableIn (off := 125) 126 dX6_addMark_1 (by show ¬ (nI 6).toInt < 0; decide) (by show ¬ (6:Int) < (nI 6).toInt; decide) (by show (#[43, 145, 56, 76, 145, 105, 125] : Array Int)[((nI 6).toInt - 0).toNat]? = some 125; decide) (by decide) ?_
    refine Ev_aload_n dX6_addMark_126 rfl (by first | exact Or.inr ⟨_, rfl⟩ | exact rv_or _ | exact Or.inl rfl) ?_
    refine Ev_iload_n dX6_addMark_127 rfl ?_
    refine Ev_iload_n dX6_addMark_128 rfl ?_
    refine Ev_aload_n dX6_addMark_129 rfl (by first | exact Or.inr ⟨_, rfl⟩ | exact rv_or _ | exact Or.inl rfl) ?_
    refine Ev_iload_n dX6_addMark_130 rfl ?_
    refine Ev_iconst (v := nI 2) dX6_addMark_131 (by decide) ?_
    refine Ev_iaddN dX6_addMark_132 ?_
    refine Ev_V0 [.int (nI (a + 2))] dX6_addMark_133 vX6_byteAt kX6_62 rx.1.1 rfl rfl rfl (Nat.le_of_ble_eq_true rfl) (by omega) (ec_byteAt l G (a + 2) (by omega) r b s f e_ bs h rx) ?_
    refine Ev_bipush (v := nI 48) dX6_addMark_136 (by decide) ?_
    refine Ev_isub dX6_addMark_138 ?_
    refine Ev_top (y := .int (nI (sv bs (a + 2) - 48).toNat)) (congrArg Value.int (see_sub (by omega) (by omega))) ?_
    refine Ev_iconst (v := nI 0) dX6_addMark_139 (by decide) ?_
    refine Ev_Vz [.int (nI a), .int (nI ((6, (sv bs (a + 2) - 48).toNat, 0, []) : It).1), .int (nI ((sv bs (a + 2) - 48).toNat)), .int (nI (0))] dX6_addMark_140 vX6_add kX6_52 rx.1.1 rfl rfl rfl (Nat.le_of_ble_eq_true rfl) (by omega) (ec_addIt l G ((sv bs (a + 2) - 48).toNat) (0) a (6, (sv bs (a + 2) - 48).toNat, 0, []) its wn r b s f e_ bs h rx ha hia ri ok_ ⟨fun z => absurd (show (6:Nat) = 0 from z) (by decide), fun _ => ⟨rfl, rfl⟩⟩) (fun v_ h2 z_ => ?_)
    obtain ⟨rfl, ad_⟩ := z_
    refine Ev_goto 154 dX6_addMark_143 (by decide) ?_
    refine Ev_vret dX6_addMark_154 rfl ?_
    exact ⟨rfl, ad_⟩
  · refine Ev_iload_n dX6_addMark_0 rfl ?_
    refine Ev_tableOut 146 dX6_addMark_1 (Or.inr (by decide)) (by decide) ?_
    refine Ev_aload_n dX6_addMark_146 rfl (by first | exact Or.inr ⟨_, rfl⟩ | exact rv_or _ | exact Or.inl rfl) ?_
    refine Ev_iload_n dX6_addMark_147 rfl ?_
    refine Ev_iload_n dX6_addMark_148 rfl ?_
    refine Ev_iconst (v := nI 0) dX6_addMark_149 (by decide) ?_
    refine Ev_iconst (v := nI 0) dX6_addMark_150 (by decide) ?_
    refine Ev_Vz [.int (nI a), .int (nI ((7, 0, 0, []) : It).1), .int (nI (0)), .int (nI (0))] dX6_addMark_151 vX6_add kX6_52 rx.1.1 rfl rfl rfl (Nat.le_of_ble_eq_true rfl) (by omega) (ec_addIt l G (0) (0) a (7, 0, 0, []) its wn r b s f e_ bs h rx ha hia ri ok_ ⟨fun z => absurd (show (7:Nat) = 0 from z) (by decide), fun _ => ⟨rfl, rfl⟩⟩) (fun v_ h2 z_ => ?_)
    obtain ⟨rfl, ad_⟩ := z_
    refine Ev_vret dX6_addMark_154 rfl ?_
    exact ⟨rfl, ad_⟩
