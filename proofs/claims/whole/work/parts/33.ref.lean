/-- only these int fields of the reference, and these rows, have changed -/
def Fr (ks as : List Nat) (h h' : aH) : Prop := hN h' = hN h ∧ hK h' = hK h ∧ hR h' = hR h ∧ hL h' = hL h ∧ hY h' = hY h ∧ (∀ k a, ¬ (a = MO ∧ k ∈ ks) → hI h' k a = hI h k a) ∧ (∀ a, a ∉ as → hX h' a = hX h a)
theorem Fr.rf {ks as : List Nat} {h : aH} : Fr ks as h h := ⟨rfl, rfl, rfl, rfl, rfl, fun _ _ _ => rfl, fun _ _ => rfl⟩
theorem Fr.tr {ks as : List Nat} {h h1 h2 : aH} (a : Fr ks as h h1) (b : Fr ks as h1 h2) : Fr ks as h h2 :=
  ⟨b.1.trans a.1, b.2.1.trans a.2.1, b.2.2.1.trans a.2.2.1, b.2.2.2.1.trans a.2.2.2.1, b.2.2.2.2.1.trans a.2.2.2.2.1, fun k x q => (b.2.2.2.2.2.1 k x q).trans (a.2.2.2.2.2.1 k x q), fun x q => (b.2.2.2.2.2.2 x q).trans (a.2.2.2.2.2.2 x q)⟩
theorem Fr.mo {ks as ks' as' : List Nat} {h h' : aH} (a : Fr ks as h h') (h1 : ∀ k ∈ ks, k ∈ ks') (h2 : ∀ k ∈ as, k ∈ as') : Fr ks' as' h h' :=
  ⟨a.1, a.2.1, a.2.2.1, a.2.2.2.1, a.2.2.2.2.1, fun k x q => a.2.2.2.2.2.1 k x (fun z => q ⟨z.1, h1 _ z.2⟩), fun x q => a.2.2.2.2.2.2 x (fun z => q (h2 _ z))⟩
theorem Fr.int {ks as : List Nat} {h : aH} {k : Nat} {v : Int32} (hk : k ∈ ks) : Fr ks as h (sI h k MO v) := by
  refine ⟨rfl, rfl, rfl, rfl, rfl, fun k' a q => ?_, fun _ _ => rfl⟩
  show up2 (hI h) k MO v k' a = _
  unfold up2
  split
  · split
    · rename_i e1 e2
      exact absurd ⟨e2, by rw [e1]; exact hk⟩ q
    · rfl
  · rfl
theorem Fr.row {ks as : List Nat} {h : aH} {a j : Nat} {v : Int32} (ha : a ∈ as) : Fr ks as h (sX h a j v) := by
  refine ⟨rfl, rfl, rfl, rfl, rfl, fun _ _ _ => rfl, fun b q => ?_⟩
  funext i
  show up2 (hX h) a j v b i = _
  exact if_neg (fun e => q (by rw [e]; exact ha))
theorem Rf.fr {ks as : List Nat} {h h' : aH} (r : Rf h) (f : Fr ks as h h') : Rf h' := r.of f.2.1 f.2.2.1 f.2.2.2.1
theorem hI_s (h : aH) (k a : Nat) (v : Int32) : hI (sI h k a v) k a = v := up2_s _ _ _ _
theorem hX_s (h : aH) (a j : Nat) (v : Int32) : hX (sX h a j v) a j = v := up2_s _ _ _ _
theorem hX_n (h : aH) {a j i : Nat} (v : Int32) (e : i ≠ j) : hX (sX h a j v) a i = hX h a i := up2_n _ _ e
theorem hX_o (h : aH) {a b j : Nat} (v : Int32) (e : b ≠ a) : hX (sX h a j v) b = hX h b := by
  funext i; exact up2_k _ _ e
/-- the tape -/
def RTp (tp : List Int32) (h : aH) : Prop := tp.length ≤ 120 ∧ hI h 785 MO = nI tp.length ∧ ∀ k, k < tp.length → hX h 41 k = tp.getD k 0
def bySh (v : Int32) (s : Nat) : Int32 := v >>> (nI s &&& 31) &&& nI 255
def by4 (v : Int32) : List Int32 := [bySh v 24, bySh v 16, bySh v 8, bySh v 0]
theorem RTp.add {tp : List Int32} {h : aH} {b : Int32} (r : RTp tp h) (hl : tp.length < 120) : RTp (tp ++ [b]) (sI (sX h 41 tp.length b) 785 MO (nI (tp.length + 1))) := by
  refine ⟨by simp; omega, by rw [hI_s]; simp, fun k hk => ?_⟩
  simp only [List.length_append, List.length_cons, List.length_nil] at hk
  show hX (sX h 41 tp.length b) 41 k = _
  by_cases e : k = tp.length
  · subst e
    rw [hX_s]
    simp [List.getD_eq_getElem?_getD]
  · rw [hX_n _ _ e, r.2.2 k (by omega)]
    simp only [List.getD_eq_getElem?_getD]
    rw [List.getElem?_append_left (by omega)]
theorem RTp.cut {tp : List Int32} {h : aH} {n : Nat} (r : RTp tp h) (hn : n ≤ tp.length) : RTp (tp.take n) (sI h 785 MO (nI n)) := by
  have := r.1
  refine ⟨by simp; omega, by rw [hI_s]; congr 1; simp; omega, fun k hk => ?_⟩
  simp only [List.length_take] at hk
  show hX h 41 k = _
  rw [r.2.2 k (by omega)]
  simp only [List.getD_eq_getElem?_getD]
  rw [List.getElem?_take_of_lt (by omega)]
theorem ev_four1 (l : Launch) (G : aG) {mc ms : Nat} (v : Int32) (s : Nat) (hs : s ≤ 24) (tp : List Int32) (h : aH) (rf : Rf h) (htp : RTp tp h) (hl : tp.length < 120) {Q : Option Value → aH → Prop} (kk_ : ∀ h', RTp (tp ++ [bySh v s]) h' → Fr [785] [41] h h' → Ev l G 0 mc ms mX11_four 33 [.ref MO, .int v, .int (nI s)] [] h' Q) : Ev l G 0 mc ms mX11_four 3 [.ref MO, .int v, .int (nI s)] [] h Q := by
  refine Ev_iload_n dX11_four_3 rfl ?_
  refine Ev_if_ltT 39 dX11_four_4 (by decide) (fun zb4_ => ?_) (fun zb4_ => ?_)
  · exact absurd zb4_ (by rw [hi_n (by omega)]; omega)
  · refine Ev_aload_n dX11_four_7 rfl (by first | exact Or.inr ⟨_, rfl⟩ | exact rv_or _ | exact Or.inl rfl) ?_
    refine Ev_getA dX11_four_8 fX11_53 rf.1 (rr_tape rf) ?_
    refine Ev_aload_n dX11_four_11 rfl (by first | exact Or.inr ⟨_, rfl⟩ | exact rv_or _ | exact Or.inl rfl) ?_
    refine Ev_getE dX11_four_12 fX11_134 rf.1 htp.2.1 ?_
    refine Ev_iload_n dX11_four_15 rfl ?_
    refine Ev_iload_n dX11_four_16 rfl ?_
    refine Ev_ishr dX11_four_17 ?_
    refine Ev_sipush (v := nI 255) dX11_four_18 (by decide) ?_
    refine Ev_iand dX11_four_21 ?_
    refine Ev_iastL _ dX11_four_22 (rk_tape rf) (rl_tape rf) (hi_n (by omega)) (by omega) ?_
    refine Ev_aload_n dX11_four_23 rfl (by first | exact Or.inr ⟨_, rfl⟩ | exact rv_or _ | exact Or.inl rfl) ?_
    refine Ev_dup dX11_four_24 (by first | rfl | exact okv_rv _) ?_
    refine Ev_getE dX11_four_25 fX11_134 rf.1 htp.2.1 ?_
    refine Ev_iconst (v := nI 1) dX11_four_28 (by decide) ?_
    refine Ev_iaddN dX11_four_29 ?_
    refine Ev_putI dX11_four_30 fX11_134 ⟨_, rfl, Or.inl rfl⟩ (Or.inl rfl) rf.1 ?_
    have e : hI (sX h 41 tp.length (bySh v s)) 785 MO = nI tp.length := htp.2.1
    exact kk_ _ (htp.add hl) ((Fr.row (by decide)).tr (Fr.int (by decide)))
theorem ev_four (l : Launch) (G : aG) (v : Int32) (tp : List Int32) (h : aH) (rf : Rf h) (r0_ : RTp tp h) (hl : tp.length + 4 ≤ 120) : Ev l G 0 0 0 mX11_four 0 (en 3 [.ref MO, .int v]) [] h (fun x h' => x = none ∧ RTp (tp ++ by4 v) h' ∧ Fr [785] [41] h h') := by
  refine Ev_bipush (v := nI 24) dX11_four_0 (by decide) ?_
  refine Ev_istore_n dX11_four_2 (by decide) ?_
  refine ev_four1 l G v 24 (by decide) _ _ rf r0_ (by first | omega | (simp; omega)) (fun h1 r1_ g1_ => ?_)
  have f1_ := g1_
  refine Ev_iinc (v := nI 16) dX11_four_33 (by decide) rfl (by decide) ?_
  refine Ev_goto 3 dX11_four_36 (by decide) ?_
  refine ev_four1 l G v 16 (by decide) _ _ (rf.fr f1_) r1_ (by first | omega | (simp; omega)) (fun h2 r2_ g2_ => ?_)
  have f2_ := f1_.tr g2_
  refine Ev_iinc (v := nI 8) dX11_four_33 (by decide) rfl (by decide) ?_
  refine Ev_goto 3 dX11_four_36 (by decide) ?_
  refine ev_four1 l G v 8 (by decide) _ _ (rf.fr f2_) r2_ (by first | omega | (simp; omega)) (fun h3 r3_ g3_ => ?_)
  have f3_ := f2_.tr g3_
  refine Ev_iinc (v := nI 0) dX11_four_33 (by decide) rfl (by decide) ?_
  refine Ev_goto 3 dX11_four_36 (by decide) ?_
  refine ev_four1 l G v 0 (by decide) _ _ (rf.fr f3_) r3_ (by first | omega | (simp; omega)) (fun h4 r4_ g4_ => ?_)
  have f4_ := f3_.tr g4_
  refine Ev_iinc (v := -8) dX11_four_33 (by decide) rfl (by decide) ?_
  refine Ev_goto 3 dX11_four_36 (by decide) ?_
  refine Ev_iload_n dX11_four_3 rfl ?_
  refine Ev_if_ltT 39 dX11_four_4 (by decide) (fun _ => ?_) (fun z_ => absurd (by decide) z_)
  refine Ev_vret dX11_four_39 rfl ?_
  exact ⟨rfl, by simpa [by4] using r4_, f4_⟩
theorem ev_feed (l : Launch) (G : aG) (a b c d e : Int32) (tp : List Int32) (h : aH) (rf : Rf h) (r0_ : RTp tp h) : Ev l G 1 0 0 mX11_feed 0 (en 6 [.ref MO, .int a, .int b, .int c, .int d, .int e]) [] h (fun x h' => (120 < tp.length + 20 ∧ x = some (.int (-1)) ∧ h' = h) ∨ (tp.length + 20 ≤ 120 ∧ x = some (.int (nI (tp ++ by4 a ++ by4 b ++ by4 c ++ by4 d ++ by4 e).length)) ∧ RTp (tp ++ by4 a ++ by4 b ++ by4 c ++ by4 d ++ by4 e) h' ∧ Fr [785] [41] h h')) := by
  have hl0 := r0_.1
  refine Ev_aload_n dX11_feed_0 rfl (by first | exact Or.inr ⟨_, rfl⟩ | exact rv_or _ | exact Or.inl rfl) ?_
  refine Ev_getE dX11_feed_1 fX11_134 rf.1 r0_.2.1 ?_
  refine Ev_bipush (v := nI 20) dX11_feed_4 (by decide) ?_
  refine Ev_iaddN dX11_feed_6 ?_
  refine Ev_bipush (v := nI 120) dX11_feed_7 (by decide) ?_
  refine Ev_icmp_leN 14 dX11_feed_9 (by decide) (by omega) (by omega) (fun zb9_ => ?_) (fun zb9_ => ?_)
  · refine Ev_aload_n dX11_feed_14 rfl (by first | exact Or.inr ⟨_, rfl⟩ | exact rv_or _ | exact Or.inl rfl) ?_
    refine Ev_iload_n dX11_feed_15 rfl ?_
    refine Ev_Vz [.int a] dX11_feed_16 vX11_four kX11_137 rf.1 rfl rfl rfl (by decide) (Nat.lt_succ_self 0) (ev_four l G a _ _ rf r0_ (by first | omega | (simp [by4]; omega))) (fun x0_ h1 e0_ => ?_)
    obtain ⟨rfl, r1_, g1_⟩ := e0_
    have f1_ := g1_
    refine Ev_aload_n dX11_feed_19 rfl (by first | exact Or.inr ⟨_, rfl⟩ | exact rv_or _ | exact Or.inl rfl) ?_
    refine Ev_iload_n dX11_feed_20 rfl ?_
    refine Ev_Vz [.int b] dX11_feed_21 vX11_four kX11_137 (rf.fr f1_).1 rfl rfl rfl (by decide) (Nat.lt_succ_self 0) (ev_four l G b _ _ (rf.fr f1_) r1_ (by first | omega | (simp [by4]; omega))) (fun x1_ h2 e1_ => ?_)
    obtain ⟨rfl, r2_, g2_⟩ := e1_
    have f2_ := f1_.tr g2_
    refine Ev_aload_n dX11_feed_24 rfl (by first | exact Or.inr ⟨_, rfl⟩ | exact rv_or _ | exact Or.inl rfl) ?_
    refine Ev_iload_n dX11_feed_25 rfl ?_
    refine Ev_Vz [.int c] dX11_feed_26 vX11_four kX11_137 (rf.fr f2_).1 rfl rfl rfl (by decide) (Nat.lt_succ_self 0) (ev_four l G c _ _ (rf.fr f2_) r2_ (by first | omega | (simp [by4]; omega))) (fun x2_ h3 e2_ => ?_)
    obtain ⟨rfl, r3_, g3_⟩ := e2_
    have f3_ := f2_.tr g3_
    refine Ev_aload_n dX11_feed_29 rfl (by first | exact Or.inr ⟨_, rfl⟩ | exact rv_or _ | exact Or.inl rfl) ?_
    refine Ev_iload dX11_feed_30 rfl ?_
    refine Ev_Vz [.int d] dX11_feed_32 vX11_four kX11_137 (rf.fr f3_).1 rfl rfl rfl (by decide) (Nat.lt_succ_self 0) (ev_four l G d _ _ (rf.fr f3_) r3_ (by first | omega | (simp [by4]; omega))) (fun x3_ h4 e3_ => ?_)
    obtain ⟨rfl, r4_, g4_⟩ := e3_
    have f4_ := f3_.tr g4_
    refine Ev_aload_n dX11_feed_35 rfl (by first | exact Or.inr ⟨_, rfl⟩ | exact rv_or _ | exact Or.inl rfl) ?_
    refine Ev_iload dX11_feed_36 rfl ?_
    refine Ev_Vz [.int e] dX11_feed_38 vX11_four kX11_137 (rf.fr f4_).1 rfl rfl rfl (by decide) (Nat.lt_succ_self 0) (ev_four l G e _ _ (rf.fr f4_) r4_ (by first | omega | (simp [by4]; omega))) (fun x4_ h5 e4_ => ?_)
    obtain ⟨rfl, r5_, g5_⟩ := e4_
    have f5_ := f4_.tr g5_
    refine Ev_aload_n dX11_feed_41 rfl (by first | exact Or.inr ⟨_, rfl⟩ | exact rv_or _ | exact Or.inl rfl) ?_
    refine Ev_getE dX11_feed_42 fX11_134 (rf.fr f5_).1 r5_.2.1 ?_
    refine Ev_iret dX11_feed_45 rfl ?_
    exact Or.inr ⟨by omega, rfl, by simpa using r5_, f5_⟩
  · refine Ev_iconst (v := -1) dX11_feed_12 (by decide) ?_
    refine Ev_iret dX11_feed_13 rfl ?_
    exact Or.inl ⟨by omega, rfl, rfl⟩
theorem ev_end (l : Launch) (G : aG) (n : Int32) (tp : List Int32) (h : aH) (rf : Rf h) (r0_ : RTp tp h) : Ev l G 1 0 0 mX11_end 0 (en 2 [.ref MO, .int n]) [] h (fun x h' => (¬ (0 ≤ n.toInt ∧ n.toInt ≤ tp.length) ∧ x = some (.int (-1)) ∧ h' = h) ∨ (∃ j : Nat, j ≤ tp.length ∧ n = nI j ∧ x = some (.int n) ∧ RTp (tp.take j) h' ∧ Fr [785] [41] h h')) := by
  have hl0 := r0_.1
  refine Ev_iload_n dX11_end_0 rfl ?_
  refine Ev_iconst (v := nI 0) dX11_end_1 (by decide) ?_
  refine Ev_aload_n dX11_end_2 rfl (by first | exact Or.inr ⟨_, rfl⟩ | exact rv_or _ | exact Or.inl rfl) ?_
  refine Ev_getE dX11_end_3 fX11_134 rf.1 r0_.2.1 ?_
  refine Ev_S0 [.int n, .int (nI 0), .int (nI tp.length)] dX11_end_6 sX11_isIn kX11_130 rfl rfl rfl (by decide) (by omega) (ev_isIn l G _ _ _ _) ?_
  refine Ev_if_neB 14 dX11_end_9 (by decide) (fun zb9_ => ?_) (fun zb9_ => ?_)
  · have zb9_ := inB_iff.mp zb9_
    rw [t0, hi_n (by omega)] at zb9_
    refine Ev_aload_n dX11_end_14 rfl (by first | exact Or.inr ⟨_, rfl⟩ | exact rv_or _ | exact Or.inl rfl) ?_
    refine Ev_iload_n dX11_end_15 rfl ?_
    refine Ev_putI dX11_end_16 fX11_134 ⟨_, rfl, Or.inl rfl⟩ (Or.inl rfl) rf.1 ?_
    refine Ev_iload_n dX11_end_19 rfl ?_
    refine Ev_iret dX11_end_20 rfl ?_
    obtain ⟨j, hj, ej⟩ : ∃ j : Nat, j ≤ tp.length ∧ n = nI j := ⟨n.toInt.toNat, by omega, Int32.toInt_inj.mp (by rw [hi_n (by omega)]; omega)⟩
    refine Or.inr ⟨j, hj, ej, rfl, ?_, Fr.int (by decide)⟩
    rw [ej]
    exact r0_.cut hj
  · have zb9_ : ¬ (0 ≤ n.toInt ∧ n.toInt ≤ tp.length) := fun q => by
      rw [inB_iff.mpr (by rw [t0, hi_n (by omega)]; exact q)] at zb9_; cases zb9_
    refine Ev_iconst (v := -1) dX11_end_12 (by decide) ?_
    refine Ev_iret dX11_end_13 rfl ?_
    exact Or.inl ⟨zb9_, rfl, rfl⟩
