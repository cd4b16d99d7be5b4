/-- only int fields of which P says it, and rows of which A says it, have changed -/
def Fk (P : Nat → Nat → Prop) (A : Nat → Prop) (h h' : aH) : Prop := hN h' = hN h ∧ hK h' = hK h ∧ hR h' = hR h ∧ hL h' = hL h ∧ hY h' = hY h ∧ (∀ k a, ¬ P k a → hI h' k a = hI h k a) ∧ (∀ a, ¬ A a → hX h' a = hX h a)
theorem Fk.rf {P : Nat → Nat → Prop} {A : Nat → Prop} {h : aH} : Fk P A h h := ⟨rfl, rfl, rfl, rfl, rfl, fun _ _ _ => rfl, fun _ _ => rfl⟩
theorem Fk.tr {P : Nat → Nat → Prop} {A : Nat → Prop} {h h1 h2 : aH} (a : Fk P A h h1) (b : Fk P A h1 h2) : Fk P A h h2 :=
  ⟨b.1.trans a.1, b.2.1.trans a.2.1, b.2.2.1.trans a.2.2.1, b.2.2.2.1.trans a.2.2.2.1, b.2.2.2.2.1.trans a.2.2.2.2.1, fun k x q => (b.2.2.2.2.2.1 k x q).trans (a.2.2.2.2.2.1 k x q), fun x q => (b.2.2.2.2.2.2 x q).trans (a.2.2.2.2.2.2 x q)⟩
theorem Fk.int {P : Nat → Nat → Prop} {A : Nat → Prop} {h : aH} {k a : Nat} {v : Int32} (hk : P k a) : Fk P A h (sI h k a v) := by
  refine ⟨rfl, rfl, rfl, rfl, rfl, fun k' b q => ?_, fun _ _ => rfl⟩
  show up2 (hI h) k a v k' b = _
  unfold up2
  split
  · split
    · rename_i e1 e2
      exact absurd (by rw [e1, e2]; exact hk) q
    · rfl
  · rfl
theorem Fk.row {P : Nat → Nat → Prop} {A : Nat → Prop} {h : aH} {a j : Nat} {v : Int32} (ha : A a) : Fk P A h (sX h a j v) := by
  refine ⟨rfl, rfl, rfl, rfl, rfl, fun _ _ _ => rfl, fun b q => ?_⟩
  funext i
  show up2 (hX h) a j v b i = _
  exact if_neg (fun e => q (by rw [e]; exact ha))
theorem Cf.fk {P : Nat → Nat → Prop} {A : Nat → Prop} {h h' : aH} (r : Cf h) (f : Fk P A h h') : Cf h' := r.of f.2.1 f.2.2.1 f.2.2.2.1
/-- the class's tape -/
def CTp (tp : List Int32) (h : aH) : Prop := tp.length ≤ 120 ∧ hI h 513 4 = nI tp.length ∧ ∀ k, k < tp.length → hX h 5 k = tp.getD k 0
abbrev FTp (h h' : aH) : Prop := Fk (fun k a => k = 513 ∧ a = 4) (fun a => a = 5) h h'
theorem bySh_u {v : Int32} {s : Nat} (hs : s ≤ 24) : (v.toUInt32 >>> ((nI s).toUInt32 &&& Int32.toUInt32 31)).toInt32 &&& nI 255 = bySh v s := by
  unfold bySh
  have e : nI 255 = 255 := by decide
  rw [e]
  apply b_ext
  intro i hi
  rw [b_and, b_and, b_ushr s (by omega), b_sshr s (by omega) v hi, b_255]
  by_cases h8 : i < 8
  · rw [if_pos (by omega)]
  · simp [h8]
theorem CTp.add {tp : List Int32} {h : aH} {b : Int32} (r : CTp tp h) (hl : tp.length < 120) : CTp (tp ++ [b]) (sI (sX h 5 tp.length b) 513 4 (nI (tp.length + 1))) := by
  refine ⟨by simp; omega, by rw [hI_s]; simp, fun k hk => ?_⟩
  simp only [List.length_append, List.length_cons, List.length_nil] at hk
  show hX (sX h 5 tp.length b) 5 k = _
  by_cases e : k = tp.length
  · subst e
    rw [hX_s]
    simp [List.getD_eq_getElem?_getD]
  · rw [hX_n _ _ e, r.2.2 k (by omega)]
    simp only [List.getD_eq_getElem?_getD]
    rw [List.getElem?_append_left (by omega)]
theorem CTp.cut {tp : List Int32} {h : aH} {n : Nat} (r : CTp tp h) (hn : n ≤ tp.length) : CTp (tp.take n) (sI h 513 4 (nI n)) := by
  have := r.1
  refine ⟨by simp; omega, by rw [hI_s]; congr 1; simp; omega, fun k hk => ?_⟩
  simp only [List.length_take] at hk
  show hX h 5 k = _
  rw [r.2.2 k (by omega)]
  simp only [List.getD_eq_getElem?_getD]
  rw [List.getElem?_take_of_lt (by omega)]
theorem ev_putFour1 (l : Launch) (G : aG) {mc ms : Nat} (v : Int32) (s : Nat) (hs : s ≤ 24) (tp : List Int32) (h : aH) (cf : Cf h) (htp : CTp tp h) (hl : tp.length < 120) {Q : Option Value → aH → Prop} (kk_ : ∀ h', CTp (tp ++ [bySh v s]) h' → FTp h h' → Ev l G 0 mc ms mX7_putFour 42 [.ref 4, .int v, .int (nI s)] [] h' Q) : Ev l G 0 mc ms mX7_putFour 3 [.ref 4, .int v, .int (nI s)] [] h Q := by
  refine Ev_iload_n dX7_putFour_3 rfl ?_
  refine Ev_if_ltT 48 dX7_putFour_4 (by decide) (fun zb4_ => ?_) (fun zb4_ => ?_)
  · exact absurd zb4_ (by rw [hi_n (by omega)]; omega)
  · refine Ev_aload_n dX7_putFour_7 rfl (by first | exact Or.inr ⟨_, rfl⟩ | exact rv_or _ | exact Or.inl rfl) ?_
    refine Ev_getE dX7_putFour_8 fX7_15 (ck_4 cf) htp.2.1 ?_
    refine Ev_bipush (v := nI 120) dX7_putFour_11 (by decide) ?_
    refine Ev_icmp_geN 48 dX7_putFour_13 (by decide) (by omega) (by omega) (fun zb13_ => ?_) (fun zb13_ => ?_)
    · exact absurd zb13_ (by omega)
    · refine Ev_aload_n dX7_putFour_16 rfl (by first | exact Or.inr ⟨_, rfl⟩ | exact rv_or _ | exact Or.inl rfl) ?_
      refine Ev_getA dX7_putFour_17 fX7_9 (ck_4 cf) (cr_512_4 cf) ?_
      refine Ev_aload_n dX7_putFour_20 rfl (by first | exact Or.inr ⟨_, rfl⟩ | exact rv_or _ | exact Or.inl rfl) ?_
      refine Ev_getE dX7_putFour_21 fX7_15 (ck_4 cf) htp.2.1 ?_
      refine Ev_iload_n dX7_putFour_24 rfl ?_
      refine Ev_iload_n dX7_putFour_25 rfl ?_
      refine Ev_iushr dX7_putFour_26 ?_
      refine Ev_sipush (v := nI 255) dX7_putFour_27 (by decide) ?_
      refine Ev_iand dX7_putFour_30 ?_
      refine Ev_top (y := .int (bySh v s)) (by rw [bySh_u hs]) ?_
      refine Ev_iastL _ dX7_putFour_31 (ck_5 cf) (cl_5 cf) (hi_n (by omega)) (by omega) ?_
      refine Ev_aload_n dX7_putFour_32 rfl (by first | exact Or.inr ⟨_, rfl⟩ | exact rv_or _ | exact Or.inl rfl) ?_
      refine Ev_dup dX7_putFour_33 (by first | rfl | exact okv_rv _) ?_
      refine Ev_getE dX7_putFour_34 fX7_15 (ck_4 cf) htp.2.1 ?_
      refine Ev_iconst (v := nI 1) dX7_putFour_37 (by decide) ?_
      refine Ev_iaddN dX7_putFour_38 ?_
      refine Ev_putI dX7_putFour_39 fX7_15 ⟨_, rfl, Or.inl rfl⟩ (Or.inl rfl) (ck_4 cf) ?_
      exact kk_ _ (htp.add hl) (Fk.tr (P := fun k a => k = 513 ∧ a = 4) (A := fun a => a = 5) (Fk.row rfl) (Fk.int ⟨rfl, rfl⟩))
theorem ev_putFour (l : Launch) (G : aG) (v : Int32) (tp : List Int32) (h : aH) (cf : Cf h) (r0_ : CTp tp h) (hl : tp.length + 4 ≤ 120) : Ev l G 0 0 0 mX7_putFour 0 (en 3 [.ref 4, .int v]) [] h (fun x h' => x = none ∧ CTp (tp ++ by4 v) h' ∧ FTp h h') := by
  refine Ev_bipush (v := nI 24) dX7_putFour_0 (by decide) ?_
  refine Ev_istore_n dX7_putFour_2 (by decide) ?_
  refine ev_putFour1 l G v 24 (by decide) _ _ cf r0_ (by first | omega | (simp; omega)) (fun h1 r1_ g1_ => ?_)
  have f1_ := g1_
  refine Ev_iinc (v := nI 16) dX7_putFour_42 (by decide) rfl (by decide) ?_
  refine Ev_goto 3 dX7_putFour_45 (by decide) ?_
  refine ev_putFour1 l G v 16 (by decide) _ _ (cf.fk f1_) r1_ (by first | omega | (simp; omega)) (fun h2 r2_ g2_ => ?_)
  have f2_ := f1_.tr g2_
  refine Ev_iinc (v := nI 8) dX7_putFour_42 (by decide) rfl (by decide) ?_
  refine Ev_goto 3 dX7_putFour_45 (by decide) ?_
  refine ev_putFour1 l G v 8 (by decide) _ _ (cf.fk f2_) r2_ (by first | omega | (simp; omega)) (fun h3 r3_ g3_ => ?_)
  have f3_ := f2_.tr g3_
  refine Ev_iinc (v := nI 0) dX7_putFour_42 (by decide) rfl (by decide) ?_
  refine Ev_goto 3 dX7_putFour_45 (by decide) ?_
  refine ev_putFour1 l G v 0 (by decide) _ _ (cf.fk f3_) r3_ (by first | omega | (simp; omega)) (fun h4 r4_ g4_ => ?_)
  have f4_ := f3_.tr g4_
  refine Ev_iinc (v := -8) dX7_putFour_42 (by decide) rfl (by decide) ?_
  refine Ev_goto 3 dX7_putFour_45 (by decide) ?_
  refine Ev_iload_n dX7_putFour_3 rfl ?_
  refine Ev_if_ltT 48 dX7_putFour_4 (by decide) (fun _ => ?_) (fun z_ => absurd (by decide) z_)
  refine Ev_vret dX7_putFour_48 rfl ?_
  exact ⟨rfl, by simpa [by4] using r4_, f4_⟩
theorem ec_feed (l : Launch) (G : aG) (a b c d e : Int32) (tp : List Int32) (h : aH) (cf : Cf h) (r0_ : CTp tp h) : Ev l G 1 0 0 mX10_feed 0 (en 6 [.ref 3, .int a, .int b, .int c, .int d, .int e]) [] h (fun x h' => (120 < tp.length + 20 ∧ x = some (.int (-1)) ∧ h' = h) ∨ (tp.length + 20 ≤ 120 ∧ x = some (.int (nI (tp ++ by4 a ++ by4 b ++ by4 c ++ by4 d ++ by4 e).length)) ∧ CTp (tp ++ by4 a ++ by4 b ++ by4 c ++ by4 d ++ by4 e) h' ∧ FTp h h')) := by
  have hl0 := r0_.1
  refine Ev_aload_n dX10_feed_0 rfl (by first | exact Or.inr ⟨_, rfl⟩ | exact rv_or _ | exact Or.inl rfl) ?_
  refine Ev_getA dX10_feed_1 fX10_10 (ck_3 cf) (cr_704_3 cf) ?_
  refine Ev_getE dX10_feed_4 fX10_62 (ck_4 cf) r0_.2.1 ?_
  refine Ev_bipush (v := nI 20) dX10_feed_7 (by decide) ?_
  refine Ev_iaddN dX10_feed_9 ?_
  refine Ev_bipush (v := nI 120) dX10_feed_10 (by decide) ?_
  refine Ev_icmp_leN 17 dX10_feed_12 (by decide) (by omega) (by omega) (fun zb12_ => ?_) (fun zb12_ => ?_)
  · refine Ev_aload_n dX10_feed_17 rfl (by first | exact Or.inr ⟨_, rfl⟩ | exact rv_or _ | exact Or.inl rfl) ?_
    refine Ev_getA dX10_feed_18 fX10_10 (ck_3 cf) (cr_704_3 cf) ?_
    refine Ev_iload_n dX10_feed_21 rfl ?_
    refine Ev_Vz [.int a] dX10_feed_22 vX7_putFour kX10_66 (ck_4 cf) rfl rfl rfl (by decide) (Nat.lt_succ_self 0) (ev_putFour l G a _ _ cf r0_ (by first | omega | (simp [by4]; omega))) (fun x0_ h1 e0_ => ?_)
    obtain ⟨rfl, r1_, g1_⟩ := e0_
    have f1_ := g1_
    refine Ev_aload_n dX10_feed_25 rfl (by first | exact Or.inr ⟨_, rfl⟩ | exact rv_or _ | exact Or.inl rfl) ?_
    refine Ev_getA dX10_feed_26 fX10_10 (ck_3 (cf.fk f1_)) (cr_704_3 (cf.fk f1_)) ?_
    refine Ev_iload_n dX10_feed_29 rfl ?_
    refine Ev_Vz [.int b] dX10_feed_30 vX7_putFour kX10_66 (ck_4 (cf.fk f1_)) rfl rfl rfl (by decide) (Nat.lt_succ_self 0) (ev_putFour l G b _ _ (cf.fk f1_) r1_ (by first | omega | (simp [by4]; omega))) (fun x1_ h2 e1_ => ?_)
    obtain ⟨rfl, r2_, g2_⟩ := e1_
    have f2_ := f1_.tr g2_
    refine Ev_aload_n dX10_feed_33 rfl (by first | exact Or.inr ⟨_, rfl⟩ | exact rv_or _ | exact Or.inl rfl) ?_
    refine Ev_getA dX10_feed_34 fX10_10 (ck_3 (cf.fk f2_)) (cr_704_3 (cf.fk f2_)) ?_
    refine Ev_iload_n dX10_feed_37 rfl ?_
    refine Ev_Vz [.int c] dX10_feed_38 vX7_putFour kX10_66 (ck_4 (cf.fk f2_)) rfl rfl rfl (by decide) (Nat.lt_succ_self 0) (ev_putFour l G c _ _ (cf.fk f2_) r2_ (by first | omega | (simp [by4]; omega))) (fun x2_ h3 e2_ => ?_)
    obtain ⟨rfl, r3_, g3_⟩ := e2_
    have f3_ := f2_.tr g3_
    refine Ev_aload_n dX10_feed_41 rfl (by first | exact Or.inr ⟨_, rfl⟩ | exact rv_or _ | exact Or.inl rfl) ?_
    refine Ev_getA dX10_feed_42 fX10_10 (ck_3 (cf.fk f3_)) (cr_704_3 (cf.fk f3_)) ?_
    refine Ev_iload dX10_feed_45 rfl ?_
    refine Ev_Vz [.int d] dX10_feed_47 vX7_putFour kX10_66 (ck_4 (cf.fk f3_)) rfl rfl rfl (by decide) (Nat.lt_succ_self 0) (ev_putFour l G d _ _ (cf.fk f3_) r3_ (by first | omega | (simp [by4]; omega))) (fun x3_ h4 e3_ => ?_)
    obtain ⟨rfl, r4_, g4_⟩ := e3_
    have f4_ := f3_.tr g4_
    refine Ev_aload_n dX10_feed_50 rfl (by first | exact Or.inr ⟨_, rfl⟩ | exact rv_or _ | exact Or.inl rfl) ?_
    refine Ev_getA dX10_feed_51 fX10_10 (ck_3 (cf.fk f4_)) (cr_704_3 (cf.fk f4_)) ?_
    refine Ev_iload dX10_feed_54 rfl ?_
    refine Ev_Vz [.int e] dX10_feed_56 vX7_putFour kX10_66 (ck_4 (cf.fk f4_)) rfl rfl rfl (by decide) (Nat.lt_succ_self 0) (ev_putFour l G e _ _ (cf.fk f4_) r4_ (by first | omega | (simp [by4]; omega))) (fun x4_ h5 e4_ => ?_)
    obtain ⟨rfl, r5_, g5_⟩ := e4_
    have f5_ := f4_.tr g5_
    refine Ev_aload_n dX10_feed_59 rfl (by first | exact Or.inr ⟨_, rfl⟩ | exact rv_or _ | exact Or.inl rfl) ?_
    refine Ev_getA dX10_feed_60 fX10_10 (ck_3 (cf.fk f5_)) (cr_704_3 (cf.fk f5_)) ?_
    refine Ev_getE dX10_feed_63 fX10_62 (ck_4 (cf.fk f5_)) r5_.2.1 ?_
    refine Ev_iret dX10_feed_66 rfl ?_
    exact Or.inr ⟨by omega, rfl, by simpa using r5_, f5_⟩
  · refine Ev_iconst (v := -1) dX10_feed_15 (by decide) ?_
    refine Ev_iret dX10_feed_16 rfl ?_
    exact Or.inl ⟨by omega, rfl, rfl⟩
theorem ec_end (l : Launch) (G : aG) (n : Int32) (tp : List Int32) (h : aH) (cf : Cf h) (r0_ : CTp tp h) : Ev l G 1 0 0 mX10_end 0 (en 2 [.ref 3, .int n]) [] h (fun x h' => (¬ (0 ≤ n.toInt ∧ n.toInt ≤ tp.length) ∧ x = some (.int (-1)) ∧ h' = h) ∨ (∃ j : Nat, j ≤ tp.length ∧ n = nI j ∧ x = some (.int n) ∧ CTp (tp.take j) h' ∧ FTp h h')) := by
  have hl0 := r0_.1
  refine Ev_iload_n dX10_end_0 rfl ?_
  refine Ev_if_ltT 15 dX10_end_1 (by decide) (fun zb1_ => ?_) (fun zb1_ => ?_)
  · refine Ev_iconst (v := -1) dX10_end_15 (by decide) ?_
    refine Ev_iret dX10_end_16 rfl ?_
    first
    | exact Or.inl ⟨by omega, rfl, rfl⟩
    | (rw [hi_n (by omega)] at zb12_; exact Or.inl ⟨by omega, rfl, rfl⟩)
  · refine Ev_iload_n dX10_end_4 rfl ?_
    refine Ev_aload_n dX10_end_5 rfl (by first | exact Or.inr ⟨_, rfl⟩ | exact rv_or _ | exact Or.inl rfl) ?_
    refine Ev_getA dX10_end_6 fX10_10 (ck_3 cf) (cr_704_3 cf) ?_
    refine Ev_getE dX10_end_9 fX10_62 (ck_4 cf) r0_.2.1 ?_
    refine Ev_icmp_leT 17 dX10_end_12 (by decide) (fun zb12_ => ?_) (fun zb12_ => ?_)
    · refine Ev_aload_n dX10_end_17 rfl (by first | exact Or.inr ⟨_, rfl⟩ | exact rv_or _ | exact Or.inl rfl) ?_
      refine Ev_getA dX10_end_18 fX10_10 (ck_3 cf) (cr_704_3 cf) ?_
      refine Ev_iload_n dX10_end_21 rfl ?_
      refine Ev_putI dX10_end_22 fX10_62 ⟨_, rfl, Or.inl rfl⟩ (Or.inl rfl) (ck_4 cf) ?_
      refine Ev_iload_n dX10_end_25 rfl ?_
      refine Ev_iret dX10_end_26 rfl ?_
      rw [hi_n (by omega)] at zb12_
      obtain ⟨j, hj, ej⟩ : ∃ j : Nat, j ≤ tp.length ∧ n = nI j := ⟨n.toInt.toNat, by omega, Int32.toInt_inj.mp (by rw [hi_n (by omega)]; omega)⟩
      refine Or.inr ⟨j, hj, ej, rfl, ?_, Fk.int ⟨rfl, rfl⟩⟩
      rw [ej]
      exact r0_.cut hj
    · refine Ev_iconst (v := -1) dX10_end_15 (by decide) ?_
      refine Ev_iret dX10_end_16 rfl ?_
      first
      | exact Or.inl ⟨by omega, rfl, rfl⟩
      | (rw [hi_n (by omega)] at zb12_; exact Or.inl ⟨by omega, rfl, rfl⟩)
