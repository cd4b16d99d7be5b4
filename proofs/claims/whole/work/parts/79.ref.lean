theorem flat_tkS {ps : List Pc} {j : Nat} {N : Pc} {o_ : Option (List Int32 × List Int32)} (h : ps[j]? = some N) : flat (tkS ps j N o_) = flat ps := by
  unfold tkS
  cases o_ with
  | none => rfl
  | some hb =>
    show flat (if pcM N = hb.1 then ps else ps.set j (setH N (some hb))) = flat ps
    split
    · rfl
    · exact flat_set h
theorem flat_tkO (ps : List Pc) (p : Pc) : flat (tkO ps p) = flat ps := by
  unfold tkO
  cases h : fnd ps p with
  | none => rfl
  | some j =>
    obtain ⟨q, hq, -⟩ := fnd_at h
    simp only [hq]
    exact flat_tkS hq
theorem flat_tkA (old : List Pc) : ∀ new : List Pc, flat (tkA old new) = flat new := by
  induction old with
  | nil => intro new; rfl
  | cons p old ih_ => intro new; exact (ih_ (tkO new p)).trans (flat_tkO new p)
theorem lsB_key {ps qs : List Pc} (k : keyL ps qs) (p : Pc) : lsB ps p = lsB qs p := by unfold lsB; rw [keyL_fnd k p]
/-- the lone texts behind a making: the lost ones are kept -/
def lnA (old new : List Pc) (s : List (List Int32 × Nat × Nat) × Nat) : List (List Int32 × Nat × Nat) × Nat := (old.filter (lsB new)).foldl kpL s
theorem RTx.fn {ps : List Pc} {h h' : aH} (r : RTx ps 0 h) (f : FN h h') : RTx ps 0 h' := by
  obtain ⟨r1, r2, r3, r4, r5⟩ := r
  refine ⟨r1, r2, f.2.1.trans r3, fun i p hp => ?_, fun k hk => ((f.2.2.2 _ (by omega)).2).trans (r5 k hk)⟩
  obtain ⟨b, a⟩ := r4 i p hp
  have hi := (List.getElem?_eq_some_iff.mp hp).1
  have l6 := b.2.1
  obtain ⟨⟨a1, a2, a3, a4, a5, a6⟩, b7, c1, c2, c3, c4⟩ := a
  have e1 : ∀ r ∈ rw1, hX h' r (250 * 0 + i) = hX h r (250 * 0 + i) := fun r hr => f.2.2.1 r hr _ (by omega)
  have e3 : ∀ r, r ∉ [42, 43, 44, 45, 46, 47, 48, 49, 50, 51, 52, 53, 57, 58, 59, 60, 61] → hX h' r = hX h r := f.1.2.2.2.2.2.2
  refine ⟨b, ⟨(e1 _ (by decide)).trans a1, (e1 _ (by decide)).trans a2, (e1 _ (by decide)).trans a3, fun z => (e1 _ (by decide)).trans (a4 z), (e1 _ (by decide)).trans a5, (e1 _ (by decide)).trans a6⟩, fun k hk => ⟨((f.2.2.2 _ (by omega)).1).trans (b7 k hk).1, ((f.2.2.2 _ (by omega)).1).trans (b7 k hk).2⟩, (e1 _ (by decide)).trans c1, (e1 _ (by decide)).trans c2, (e1 _ (by decide)).trans c3, ?_⟩
  unfold RHd at c4 ⊢
  cases hb : pcH p with
  | none => rw [hb] at c4; exact (e1 _ (by decide)).trans c4
  | some q =>
    rw [hb] at c4
    obtain ⟨d1, d2, d3, d4⟩ := c4
    exact ⟨(e1 _ (by decide)).trans d1, (congrFun (e3 _ (by decide)) _).trans d2, fun k hk => (congrFun (e3 _ (by decide)) _).trans (d3 k hk), fun k hk => (congrFun (e3 _ (by decide)) _).trans (d4 k hk)⟩
theorem RLn.fr {ln : List (List Int32 × Nat × Nat)} {fa : Nat} {h h' : aH} {ks as : List Nat} (r : RLn ln fa h) (f : Fr ks as h h') (h1 : 813 ∉ ks ∧ 818 ∉ ks) (h2 : 62 ∉ as ∧ 63 ∉ as ∧ 64 ∉ as ∧ 65 ∉ as) : RLn ln fa h' := by
  have x := f.2.2.2.2.2.2
  unfold RLn
  rw [x 62 h2.1, x 63 h2.2.1, x 64 h2.2.2.1, x 65 h2.2.2.2, f.2.2.2.2.2.1 813 MO (fun z => h1.1 z.2), f.2.2.2.2.2.1 818 MO (fun z => h1.2 z.2)]
  exact r
theorem kpL_le (s : List (List Int32 × Nat × Nat) × Nat) (p : Pc) : (kpL s p).2 ≤ s.2 + 1 := by
  unfold kpL
  split
  · omega
  · split
    · exact Nat.le_refl _
    · exact Nat.le_succ _
theorem ev_turn_l (l : Launch) (G : aG) (ps0 nw : List Pc) (s0 : List (List Int32 × Nat × Nat) × Nat) (h : aH) (rf : Rf h) (hf0 : s0.2 + 250 ≤ 200000) {Q : Option Value → aH → Prop} (kk_ : ∀ h1, Fr [813, 818] [62, 63, 64, 65] h h1 → RTx ps0 0 h1 → RTx nw 1 h1 → RLn (lnA ps0 nw s0).1 (lnA ps0 nw s0).2 h1 → Ev l G 3 0 0 mX11_turn 58 [.ref MO, .int (nI ps0.length)] [] h1 Q) (ms : Nat) : ∀ i, ps0.length - i < ms → i ≤ ps0.length → ∀ h1, Fr [813, 818] [62, 63, 64, 65] h h1 → RTx ps0 0 h1 → RTx nw 1 h1 → ∀ s, s = ((ps0.take i).filter (lsB nw)).foldl kpL s0 → s.2 ≤ s0.2 + i → RLn s.1 s.2 h1 → Ev l G 3 0 0 mX11_turn 7 [.ref MO, .int (nI i)] [] h1 Q := by
  induction ms with
  | zero => intro i hi; omega
  | succ ms ih_ =>
    intro i hi1_ hi2_ h1 fr_ r0_ r1_ s hs_ hsl_ rl_
    have rf1_ := rf.fr fr_
    have n0_ := r0_.1
    have n1_ := r1_.1
    by_cases z_ : i = ps0.length
    · subst z_
      rw [List.take_length] at hs_
      subst hs_
      refine Ev_iload_n dX11_turn_7 rfl ?_
      refine Ev_aload_n dX11_turn_8 rfl (by first | exact Or.inr ⟨_, rfl⟩ | exact rv_or _ | exact Or.inl rfl) ?_
      refine Ev_getA dX11_turn_9 fX11_56 rf1_.1 (rr_pieces rf1_) ?_
      refine Ev_iconst (v := nI 0) dX11_turn_12 (by decide) ?_
      refine Ev_ialdE _ dX11_turn_13 (rk_pieces rf1_) (rl_pieces rf1_) (hi_n (by omega)) (by omega) r0_.2.2.1 ?_
      refine Ev_icmp_geN 58 dX11_turn_14 (by decide) (by omega) (by omega) (fun zb14_ => ?_) (fun zb14_ => ?_)
      · exact kk_ h1 fr_ r0_ r1_ rl_
      · exact False.elim (by omega)
    have il_ : i < ps0.length := by omega
    obtain ⟨p, hp_⟩ : ∃ p, ps0[i]? = some p := ⟨_, List.getElem?_eq_getElem il_⟩
    obtain ⟨bp_, rp_⟩ := r0_.2.2.2.1 i p hp_
    rw [show 250 * 0 + i = i by omega] at rp_
    cases hh_ : pcH p with
    | none =>
      have e53_ : hX h1 53 i = -1 := by
        have := rp_.2.2.2.2.2; rw [hh_] at this; exact this
      have lf_ : lsB nw p = false := by unfold lsB; rw [hh_]; rfl
      refine Ev_iload_n dX11_turn_7 rfl ?_
      refine Ev_aload_n dX11_turn_8 rfl (by first | exact Or.inr ⟨_, rfl⟩ | exact rv_or _ | exact Or.inl rfl) ?_
      refine Ev_getA dX11_turn_9 fX11_56 rf1_.1 (rr_pieces rf1_) ?_
      refine Ev_iconst (v := nI 0) dX11_turn_12 (by decide) ?_
      refine Ev_ialdE _ dX11_turn_13 (rk_pieces rf1_) (rl_pieces rf1_) (hi_n (by omega)) (by omega) r0_.2.2.1 ?_
      refine Ev_icmp_geN 58 dX11_turn_14 (by decide) (by omega) (by omega) (fun zb14_ => ?_) (fun zb14_ => ?_)
      · exact False.elim (by omega)
      · refine Ev_aload_n dX11_turn_17 rfl (by first | exact Or.inr ⟨_, rfl⟩ | exact rv_or _ | exact Or.inl rfl) ?_
        refine Ev_getA dX11_turn_18 fX11_89 rf1_.1 (rr_handLong rf1_) ?_
        refine Ev_iload_n dX11_turn_21 rfl ?_
        refine Ev_ialdE _ dX11_turn_22 (rk_handLong rf1_) (rl_handLong rf1_) (hi_n (by omega)) (by omega) e53_ ?_
        refine Ev_if_ltT 52 dX11_turn_23 (by decide) (fun zb23_ => ?_) (fun zb23_ => ?_)
        · refine Ev_iincN 1 dX11_turn_52 (by decide) (by decide) rfl ?_
          refine Ev_goto 7 dX11_turn_55 (by decide) ?_
          refine ih_ (i + 1) (by omega) (by omega) _ fr_ r0_ r1_ s ?_ ?_ rl_
          · rw [take_ps hp_, List.filter_append, List.foldl_append, ← hs_]; simp [lf_]
          · omega
        · exact absurd (by decide) zb23_
    | some hb =>
      have hbl_ := bp_.2.2.2.2.2.2.2.2.2.2.2 hb hh_
      have e53_ : hX h1 53 i = nI hb.1.length := by
        have := rp_.2.2.2.2.2; rw [hh_] at this; exact this.1
      cases hf_ : fnd nw p with
      | none =>
        have lf_ : lsB nw p = true := by unfold lsB; rw [hh_, hf_]; rfl
        refine Ev_iload_n dX11_turn_7 rfl ?_
        refine Ev_aload_n dX11_turn_8 rfl (by first | exact Or.inr ⟨_, rfl⟩ | exact rv_or _ | exact Or.inl rfl) ?_
        refine Ev_getA dX11_turn_9 fX11_56 rf1_.1 (rr_pieces rf1_) ?_
        refine Ev_iconst (v := nI 0) dX11_turn_12 (by decide) ?_
        refine Ev_ialdE _ dX11_turn_13 (rk_pieces rf1_) (rl_pieces rf1_) (hi_n (by omega)) (by omega) r0_.2.2.1 ?_
        refine Ev_icmp_geN 58 dX11_turn_14 (by decide) (by omega) (by omega) (fun zb14_ => ?_) (fun zb14_ => ?_)
        · exact False.elim (by omega)
        · refine Ev_aload_n dX11_turn_17 rfl (by first | exact Or.inr ⟨_, rfl⟩ | exact rv_or _ | exact Or.inl rfl) ?_
          refine Ev_getA dX11_turn_18 fX11_89 rf1_.1 (rr_handLong rf1_) ?_
          refine Ev_iload_n dX11_turn_21 rfl ?_
          refine Ev_ialdE _ dX11_turn_22 (rk_handLong rf1_) (rl_handLong rf1_) (hi_n (by omega)) (by omega) e53_ ?_
          refine Ev_if_ltT 52 dX11_turn_23 (by decide) (fun zb23_ => ?_) (fun zb23_ => ?_)
          · exact absurd zb23_ (by rw [hi_n (by omega)]; omega)
          · refine Ev_aload_n dX11_turn_26 rfl (by first | exact Or.inr ⟨_, rfl⟩ | exact rv_or _ | exact Or.inl rfl) ?_
            refine Ev_sipush (v := nI 250) dX11_turn_27 (by decide) ?_
            refine Ev_sipush (v := nI 250) dX11_turn_30 (by decide) ?_
            refine Ev_aload_n dX11_turn_33 rfl (by first | exact Or.inr ⟨_, rfl⟩ | exact rv_or _ | exact Or.inl rfl) ?_
            refine Ev_getA dX11_turn_34 fX11_56 rf1_.1 (rr_pieces rf1_) ?_
            refine Ev_iconst (v := nI 1) dX11_turn_37 (by decide) ?_
            refine Ev_ialdE _ dX11_turn_38 (rk_pieces rf1_) (rl_pieces rf1_) (hi_n (by omega)) (by omega) r1_.2.2.1 ?_
            refine Ev_iaddN dX11_turn_39 ?_
            refine Ev_iload_n dX11_turn_40 rfl ?_
            refine Ev_V0 [.int (nI 250), .int (nI (250 + nw.length)), .int (nI i)] dX11_turn_41 vX11_sameOf kX11_233 rf1_.1 rfl rfl rfl (Nat.le_of_ble_eq_true rfl) (by omega) (ev_sameOf l G 250 nw.length i (pcA p).length (by omega) (by omega) h1 rf1_ rp_.1.2.2.2.2.1 bp_.2.1) ?_
            rw [same_eq r0_ r1_ hp_]
            rw [hf_]
            refine Ev_if_geT 52 dX11_turn_44 (by decide) (fun zb44_ => ?_) (fun zb44_ => ?_)
            · exact absurd zb44_ (by decide)
            · refine Ev_aload_n dX11_turn_47 rfl (by first | exact Or.inr ⟨_, rfl⟩ | exact rv_or _ | exact Or.inl rfl) ?_
              refine Ev_iload_n dX11_turn_48 rfl ?_
              refine Ev_Vz [.int (nI i)] dX11_turn_49 vX11_keepLone kX11_251 rf1_.1 rfl rfl rfl (Nat.le_of_ble_eq_true rfl) (by omega) (ev_keepLone l G i (stt ps0 i) p hb s.1 s.2 h1 rf1_ (by omega) bp_ rp_ hh_ rl_ (by omega)) (fun v_ h2 e_ => ?_)
              obtain ⟨rfl, f2_, r2_⟩ := e_
              refine Ev_iincN 1 dX11_turn_52 (by decide) (by decide) rfl ?_
              refine Ev_goto 7 dX11_turn_55 (by decide) ?_
              refine ih_ (i + 1) (by omega) (by omega) _ (fr_.tr f2_) (r0_.fr f2_ (by decide)) (r1_.fr f2_ (by decide)) (kpL s p) ?_ ?_ r2_
              · rw [take_ps hp_, List.filter_append, List.foldl_append, ← hs_]; simp [lf_]
              · have := kpL_le s p; omega
      | some j =>
        have lf_ : lsB nw p = false := by unfold lsB; rw [hh_, hf_]; rfl
        obtain ⟨q_, hq_, -⟩ := fnd_at hf_
        have jl_ := (List.getElem?_eq_some_iff.mp hq_).1
        refine Ev_iload_n dX11_turn_7 rfl ?_
        refine Ev_aload_n dX11_turn_8 rfl (by first | exact Or.inr ⟨_, rfl⟩ | exact rv_or _ | exact Or.inl rfl) ?_
        refine Ev_getA dX11_turn_9 fX11_56 rf1_.1 (rr_pieces rf1_) ?_
        refine Ev_iconst (v := nI 0) dX11_turn_12 (by decide) ?_
        refine Ev_ialdE _ dX11_turn_13 (rk_pieces rf1_) (rl_pieces rf1_) (hi_n (by omega)) (by omega) r0_.2.2.1 ?_
        refine Ev_icmp_geN 58 dX11_turn_14 (by decide) (by omega) (by omega) (fun zb14_ => ?_) (fun zb14_ => ?_)
        · exact False.elim (by omega)
        · refine Ev_aload_n dX11_turn_17 rfl (by first | exact Or.inr ⟨_, rfl⟩ | exact rv_or _ | exact Or.inl rfl) ?_
          refine Ev_getA dX11_turn_18 fX11_89 rf1_.1 (rr_handLong rf1_) ?_
          refine Ev_iload_n dX11_turn_21 rfl ?_
          refine Ev_ialdE _ dX11_turn_22 (rk_handLong rf1_) (rl_handLong rf1_) (hi_n (by omega)) (by omega) e53_ ?_
          refine Ev_if_ltT 52 dX11_turn_23 (by decide) (fun zb23_ => ?_) (fun zb23_ => ?_)
          · exact absurd zb23_ (by rw [hi_n (by omega)]; omega)
          · refine Ev_aload_n dX11_turn_26 rfl (by first | exact Or.inr ⟨_, rfl⟩ | exact rv_or _ | exact Or.inl rfl) ?_
            refine Ev_sipush (v := nI 250) dX11_turn_27 (by decide) ?_
            refine Ev_sipush (v := nI 250) dX11_turn_30 (by decide) ?_
            refine Ev_aload_n dX11_turn_33 rfl (by first | exact Or.inr ⟨_, rfl⟩ | exact rv_or _ | exact Or.inl rfl) ?_
            refine Ev_getA dX11_turn_34 fX11_56 rf1_.1 (rr_pieces rf1_) ?_
            refine Ev_iconst (v := nI 1) dX11_turn_37 (by decide) ?_
            refine Ev_ialdE _ dX11_turn_38 (rk_pieces rf1_) (rl_pieces rf1_) (hi_n (by omega)) (by omega) r1_.2.2.1 ?_
            refine Ev_iaddN dX11_turn_39 ?_
            refine Ev_iload_n dX11_turn_40 rfl ?_
            refine Ev_V0 [.int (nI 250), .int (nI (250 + nw.length)), .int (nI i)] dX11_turn_41 vX11_sameOf kX11_233 rf1_.1 rfl rfl rfl (Nat.le_of_ble_eq_true rfl) (by omega) (ev_sameOf l G 250 nw.length i (pcA p).length (by omega) (by omega) h1 rf1_ rp_.1.2.2.2.2.1 bp_.2.1) ?_
            rw [same_eq r0_ r1_ hp_]
            rw [hf_]
            refine Ev_if_geT 52 dX11_turn_44 (by decide) (fun zb44_ => ?_) (fun zb44_ => ?_)
            · refine Ev_iincN 1 dX11_turn_52 (by decide) (by decide) rfl ?_
              refine Ev_goto 7 dX11_turn_55 (by decide) ?_
              refine ih_ (i + 1) (by omega) (by omega) _ fr_ r0_ r1_ s ?_ ?_ rl_
              · rw [take_ps hp_, List.filter_append, List.foldl_append, ← hs_]; simp [lf_]
              · omega
            · have zz_ := zb44_
              exact absurd (show (0 : Int) ≤ (nI (250 + j)).toInt by rw [hi_n (by omega)]; omega) zz_
theorem RTx.fc {ps : List Pc} {i : Nat} {h h' : aH} (r : RTx ps 1 h) (f : FC i h h') (hi : i < 250) : RTx ps 1 h' := by
  obtain ⟨r1, r2, r3, r4, r5⟩ := r
  refine ⟨r1, r2, (congrFun (f.1.2.2.2.2.2.2 42 (by decide)) 1).trans r3, fun j p hp => ?_, fun k hk => (congrFun (f.1.2.2.2.2.2.2 52 (by decide)) _).trans (r5 k hk)⟩
  obtain ⟨b, a⟩ := r4 j p hp
  exact ⟨b, a.fc b f (by omega)⟩
theorem ev_turn_c (l : Launch) (G : aG) (nw : List Pc) (h : aH) (rf : Rf h) {Q : Option Value → aH → Prop} (kk_ : ∀ h1, Fr [] [43, 44, 45, 46, 47, 48, 49, 50, 51, 53, 54, 55, 56, 57] h h1 → hX h1 42 0 = nI nw.length → RTx nw 1 h1 → (∀ j q, nw[j]? = some q → RP1 q j (stt nw j) h1) → Ev l G 3 0 0 mX11_turn 98 [.ref MO, .int (nI nw.length)] [] h1 Q) (ms : Nat) : ∀ i, nw.length - i < ms → i ≤ nw.length → ∀ h1, Fr [] [43, 44, 45, 46, 47, 48, 49, 50, 51, 53, 54, 55, 56, 57] h h1 → hX h1 42 0 = nI nw.length → RTx nw 1 h1 → (∀ j q, j < i → nw[j]? = some q → RP1 q j (stt nw j) h1) → Ev l G 3 0 0 mX11_turn 72 [.ref MO, .int (nI i)] [] h1 Q := by
  induction ms with
  | zero => intro i hi; omega
  | succ ms ih_ =>
    intro i hi1_ hi2_ h1 fr_ e0_ r1_ c_
    have rf1_ := rf.fr fr_
    have n1_ := r1_.1
    by_cases z_ : i = nw.length
    · subst z_
      refine Ev_iload_n dX11_turn_72 rfl ?_
      refine Ev_aload_n dX11_turn_73 rfl (by first | exact Or.inr ⟨_, rfl⟩ | exact rv_or _ | exact Or.inl rfl) ?_
      refine Ev_getA dX11_turn_74 fX11_56 rf1_.1 (rr_pieces rf1_) ?_
      refine Ev_iconst (v := nI 0) dX11_turn_77 (by decide) ?_
      refine Ev_ialdE _ dX11_turn_78 (rk_pieces rf1_) (rl_pieces rf1_) (hi_n (by omega)) (by omega) e0_ ?_
      refine Ev_icmp_geN 98 dX11_turn_79 (by decide) (by omega) (by omega) (fun zb79_ => ?_) (fun zb79_ => ?_)
      · exact kk_ h1 fr_ e0_ r1_ (fun j q hq => c_ j q (List.getElem?_eq_some_iff.mp hq).1 hq)
      · exact False.elim (by omega)
    have il_ : i < nw.length := by omega
    obtain ⟨p, hp_⟩ : ∃ p, nw[i]? = some p := ⟨_, List.getElem?_eq_getElem il_⟩
    obtain ⟨bp_, rp_⟩ := r1_.2.2.2.1 i p hp_
    rw [show 250 * 1 + i = 250 + i by omega] at rp_
    refine Ev_iload_n dX11_turn_72 rfl ?_
    refine Ev_aload_n dX11_turn_73 rfl (by first | exact Or.inr ⟨_, rfl⟩ | exact rv_or _ | exact Or.inl rfl) ?_
    refine Ev_getA dX11_turn_74 fX11_56 rf1_.1 (rr_pieces rf1_) ?_
    refine Ev_iconst (v := nI 0) dX11_turn_77 (by decide) ?_
    refine Ev_ialdE _ dX11_turn_78 (rk_pieces rf1_) (rl_pieces rf1_) (hi_n (by omega)) (by omega) e0_ ?_
    refine Ev_icmp_geN 98 dX11_turn_79 (by decide) (by omega) (by omega) (fun zb79_ => ?_) (fun zb79_ => ?_)
    · exact False.elim (by omega)
    · refine Ev_aload_n dX11_turn_82 rfl (by first | exact Or.inr ⟨_, rfl⟩ | exact rv_or _ | exact Or.inl rfl) ?_
      refine Ev_sipush (v := nI 250) dX11_turn_83 (by decide) ?_
      refine Ev_iload_n dX11_turn_86 rfl ?_
      refine Ev_iaddN dX11_turn_87 ?_
      refine Ev_iload_n dX11_turn_88 rfl ?_
      refine Ev_Vz [.int (nI (250 + i)), .int (nI i)] dX11_turn_89 vX11_copy kX11_254 rf1_.1 rfl rfl rfl (Nat.le_of_ble_eq_true rfl) (by omega) (ev_copy l G i (stt nw i) p h1 rf1_ (by omega) bp_ rp_) (fun v_ h2 e_ => ?_)
      obtain ⟨rfl, f2_, r2_⟩ := e_
      refine Ev_iincN 1 dX11_turn_92 (by decide) (by decide) rfl ?_
      refine Ev_goto 72 dX11_turn_95 (by decide) ?_
      refine ih_ (i + 1) (by omega) (by omega) _ (fr_.tr f2_.1) ((congrFun (f2_.1.2.2.2.2.2.2 42 (by decide)) 0).trans e0_) (r1_.fc f2_ (by omega)) (fun j q hj hq => ?_)
      by_cases ej_ : j = i
      · subst ej_
        rw [hp_] at hq
        cases hq
        exact r2_
      · obtain ⟨bq_, rq_⟩ := r1_.2.2.2.1 j q hq
        exact (c_ j q (by omega) hq).fc bq_ f2_ ej_
theorem ev_turn_b (l : Launch) (G : aG) (n : Nat) (hn : n ≤ 3000) (h : aH) (rf : Rf h) (en_ : hI h 800 MO = nI n) {Q : Option Value → aH → Prop} (kk_ : ∀ h1, Fr [] [52] h h1 → CpF (hX h 52) (hX h 52) (hX h1 52) 0 3000 n → Ev l G 3 0 0 mX11_turn 130 [.ref MO, .int (nI n)] [] h1 Q) (ms : Nat) : ∀ k, n - k < ms → k ≤ n → ∀ h1, Fr [] [52] h h1 → CpF (hX h 52) (hX h 52) (hX h1 52) 0 3000 k → Ev l G 3 0 0 mX11_turn 100 [.ref MO, .int (nI k)] [] h1 Q := by
  induction ms with
  | zero => intro k hk; omega
  | succ ms ih_ =>
    intro k hk1_ hk2_ h1 fr_ cp_
    have rf1_ := rf.fr fr_
    have gi_ : ∀ q, ∀ {v : Int32}, hI h q MO = v → hI h1 q MO = v := fun q v e => (fr_.2.2.2.2.2.1 q MO (fun z => absurd z.2 (by simp))).trans e
    refine Ev_iload_n dX11_turn_100 rfl ?_
    refine Ev_aload_n dX11_turn_101 rfl (by first | exact Or.inr ⟨_, rfl⟩ | exact rv_or _ | exact Or.inl rfl) ?_
    refine Ev_getE dX11_turn_102 fX11_203 rf1_.1 (gi_ 800 en_) ?_
    refine Ev_icmp_geN 130 dX11_turn_105 (by decide) (by omega) (by omega) (fun zb105_ => ?_) (fun zb105_ => ?_)
    · have ek_ : k = n := by omega
      subst ek_
      exact kk_ _ fr_ cp_
    · refine Ev_aload_n dX11_turn_108 rfl (by first | exact Or.inr ⟨_, rfl⟩ | exact rv_or _ | exact Or.inl rfl) ?_
      refine Ev_getA dX11_turn_109 fX11_86 rf1_.1 (rr_bytes rf1_) ?_
      refine Ev_iload_n dX11_turn_112 rfl ?_
      refine Ev_aload_n dX11_turn_113 rfl (by first | exact Or.inr ⟨_, rfl⟩ | exact rv_or _ | exact Or.inl rfl) ?_
      refine Ev_getA dX11_turn_114 fX11_86 rf1_.1 (rr_bytes rf1_) ?_
      refine Ev_sipush (v := nI 3000) dX11_turn_117 (by decide) ?_
      refine Ev_iload_n dX11_turn_120 rfl ?_
      refine Ev_iaddN dX11_turn_121 ?_
      refine Ev_ialdL _ dX11_turn_122 (rk_bytes rf1_) (rl_bytes rf1_) (hi_n (by omega)) (by omega) ?_
      refine Ev_iastL _ dX11_turn_123 (rk_bytes rf1_) (rl_bytes rf1_) (hi_n (by omega)) (by omega) ?_
      refine Ev_iincN 1 dX11_turn_124 (by decide) (by decide) rfl ?_
      refine Ev_goto 100 dX11_turn_127 (by decide) ?_
      refine ih_ (k + 1) (by omega) (by omega) _ (fr_.tr (Fr.row (by decide))) ?_
      rw [hX_up]
      have cs_ := cp_.step (v := hX h1 52 (3000 + k)) (cp_.out (by omega))
      rw [Nat.zero_add] at cs_
      exact cs_
theorem ev_turn (l : Launch) (G : aG) (ps0 ps1 : List Pc) (ln : List (List Int32 × Nat × Nat)) (fa : Nat) (h : aH) (rf : Rf h) (r0_ : RTx ps0 0 h) (r1_ : RTx ps1 1 h) (ew_ : hI h 800 MO = nI (flat ps1).length) (rl_ : RLn ln fa h) (hf_ : fa + 250 ≤ 200000) : Ev l G 3 0 0 mX11_turn 0 (en 2 [.ref MO]) [] h (fun x h' => x = some (.int (nI ps1.length)) ∧ Fr [813, 818] [42, 43, 44, 45, 46, 47, 48, 49, 50, 51, 52, 53, 54, 55, 56, 57, 62, 63, 64, 65] h h' ∧ RTx (tkA ps0 ps1) 0 h' ∧ RLn (lnA ps0 (tkA ps0 ps1) (ln, fa)).1 (lnA ps0 (tkA ps0 ps1) (ln, fa)).2 h') := by
  refine Ev_aload_n dX11_turn_0 rfl (by first | exact Or.inr ⟨_, rfl⟩ | exact rv_or _ | exact Or.inl rfl) ?_
  refine Ev_Vz [] dX11_turn_1 vX11_takeAll kX11_248 rf.1 rfl rfl rfl (Nat.le_of_ble_eq_true rfl) (by omega) (ev_takeAll l G ps0 ps1 h rf r0_ r1_) (fun v_ h1 e_ => ?_)
  obtain ⟨rfl, f1_, r0_, r1_⟩ := e_
  have rf1_ := rf.fr f1_
  refine Ev_pop dX11_turn_4 (by first | rfl | exact okv_rv _) ?_
  refine Ev_iconst (v := nI 0) dX11_turn_5 (by decide) ?_
  refine Ev_istore_n dX11_turn_6 (by decide) ?_
  refine ev_turn_l l G ps0 (tkA ps0 ps1) (ln, fa) h1 rf1_ hf_ (fun h2 f2_ r0_ r1_ rl_ => ?_) 251 0 (by have := r0_.1; omega) (by omega) _ Fr.rf r0_ r1_ _ rfl (Nat.le_refl _) (rl_.fr f1_ (by decide) (by decide))
  have rf2_ := rf1_.fr f2_
  refine Ev_aload_n dX11_turn_58 rfl (by first | exact Or.inr ⟨_, rfl⟩ | exact rv_or _ | exact Or.inl rfl) ?_
  refine Ev_getA dX11_turn_59 fX11_56 rf2_.1 (rr_pieces rf2_) ?_
  refine Ev_iconst (v := nI 0) dX11_turn_62 (by decide) ?_
  refine Ev_aload_n dX11_turn_63 rfl (by first | exact Or.inr ⟨_, rfl⟩ | exact rv_or _ | exact Or.inl rfl) ?_
  refine Ev_getA dX11_turn_64 fX11_56 rf2_.1 (rr_pieces rf2_) ?_
  refine Ev_iconst (v := nI 1) dX11_turn_67 (by decide) ?_
  refine Ev_ialdE _ dX11_turn_68 (rk_pieces rf2_) (rl_pieces rf2_) (hi_n (by omega)) (by omega) r1_.2.2.1 ?_
  refine Ev_iastL _ dX11_turn_69 (rk_pieces rf2_) (rl_pieces rf2_) (hi_n (by omega)) (by omega) ?_
  refine Ev_iconst (v := nI 0) dX11_turn_70 (by decide) ?_
  refine Ev_istore_n dX11_turn_71 (by decide) ?_
  refine ev_turn_c l G (tkA ps0 ps1) (sX h2 42 0 (nI (tkA ps0 ps1).length)) rf2_ (fun h3 fc_ e3_ rc_ cc_ => ?_) 251 0 (by have := r1_.1; omega) (by omega) _ Fr.rf (hX_s _ _ _ _) ⟨r1_.1, r1_.2.1, (hX_n _ _ (by decide)).trans r1_.2.2.1, fun j q hq => ⟨(r1_.2.2.2.1 j q hq).1, (r1_.2.2.2.1 j q hq).2.fr (Fr.row (ks := []) (as := [42]) (by decide)) (by decide)⟩, fun k hk => (gX_X _ (by decide)).trans (r1_.2.2.2.2 k hk)⟩ (fun j q hj => by omega)
  have rf3_ : Rf h3 := Rf.fr (h := sX h2 42 0 (nI (tkA ps0 ps1).length)) rf2_ fc_
  have ew3_ : hI h3 800 MO = nI (flat (tkA ps0 ps1)).length := by
    rw [flat_tkA, fc_.2.2.2.2.2.1 800 MO (fun z => absurd z.2 (by simp)), gI_X, f2_.2.2.2.2.2.1 800 MO (fun z => absurd z.2 (by decide)), f1_.2.2.2.2.2.1 800 MO (fun z => absurd z.2 (by simp))]
    exact ew_
  refine Ev_iconst (v := nI 0) dX11_turn_98 (by decide) ?_
  refine Ev_istore_n dX11_turn_99 (by decide) ?_
  refine ev_turn_b l G (flat (tkA ps0 ps1)).length rc_.2.1 h3 rf3_ ew3_ (fun h4 fb_ cb_ => ?_) 3001 0 (by have := rc_.2.1; omega) (by omega) _ Fr.rf CpF.zero
  have rf4_ : Rf h4 := rf3_.fr fb_
  have e4_ : hX h4 42 0 = nI (tkA ps0 ps1).length := (congrFun (fb_.2.2.2.2.2.2 42 (by decide)) 0).trans e3_
  refine Ev_aload_n dX11_turn_130 rfl (by first | exact Or.inr ⟨_, rfl⟩ | exact rv_or _ | exact Or.inl rfl) ?_
  refine Ev_getA dX11_turn_131 fX11_56 rf4_.1 (rr_pieces rf4_) ?_
  refine Ev_iconst (v := nI 0) dX11_turn_134 (by decide) ?_
  refine Ev_ialdE _ dX11_turn_135 (rk_pieces rf4_) (rl_pieces rf4_) (hi_n (by omega)) (by omega) e4_ ?_
  refine Ev_iret dX11_turn_136 rfl ?_
  refine ⟨by rw [(tkA_key ps0 ps1).1], ?_, ⟨r1_.1, r1_.2.1, e4_, fun j q hq => ?_, fun k hk => ?_⟩, ?_⟩
  · exact ((((f1_.mo (by decide) (by decide)).tr (f2_.mo (by decide) (by decide))).tr (Fr.row (by decide))).tr (fc_.mo (by decide) (by decide))).tr (fb_.mo (by decide) (by decide))
  · obtain ⟨bq_, -⟩ := r1_.2.2.2.1 j q hq
    rw [show 250 * 0 + j = j by omega]
    exact ⟨bq_, (cc_ j q hq).fr fb_ (by decide)⟩
  · rw [show 3000 * 0 + k = 0 + k by omega, cb_.in hk]
    exact rc_.2.2.2.2 k hk
  · exact ((rl_.fr (Fr.row (ks := []) (as := [42]) (by decide)) (by decide) (by decide)).fr fc_ (by decide) (by decide)).fr fb_ (by decide) (by decide)
