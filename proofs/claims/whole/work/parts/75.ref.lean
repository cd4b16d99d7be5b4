theorem RTx.md2 {ps : List Pc} {w j a f : Nat} {N : Pc} {xs : List Int32} {h h' : aH} (r : RTx ps w h) (e1 : hX h' 51 = hX h 51) (e2 : hX h' 52 = hX h 52) (hw : w < 2) (hj : ps[j]? = some N) (hx : ∀ k, k < xs.length → hX h' a (f + k) = xs.getD k 0) (hl : xs.length < 1000) : isMd h' (250 * w + j) (stt ps j) a f xs.length = decide (pcM N = xs) := by
  obtain ⟨b, p⟩ := r.2.2.2.1 j N hj
  have e51 := p.2.2.2.1
  have hm := b.2.2.2.2.2.2.1
  have hjl := (List.getElem?_eq_some_iff.mp hj).1
  have h250 := r.1
  have hst := stt_le hj
  have ho : mof (250 * w + j) = 3000 * w := by
    unfold mof
    rcases (show w = 0 ∨ w = 1 by omega) with rfl | rfl
    · rw [if_pos (by omega)]
    · rw [if_neg (by omega)]
  rw [Bool.eq_iff_iff, isMd_iff, decide_eq_true_iff, e1, e2, e51, ho]
  constructor
  · rintro ⟨h1, h2⟩
    have el := nI_inj (by omega) (by omega) h1
    refine ext_getD el (fun k hk => ?_)
    have := h2 k (by omega)
    rw [Nat.add_assoc, r.2.2.2.2 _ (by omega), flat_at hj hk, hx k (by omega)] at this
    exact this
  · rintro rfl
    refine ⟨rfl, fun k hk => ?_⟩
    rw [Nat.add_assoc, r.2.2.2.2 _ (by omega), flat_at hj hk, hx k hk]
def tkS (ps : List Pc) (j : Nat) (N : Pc) (o_ : Option (List Int32 × List Int32)) : List Pc := match o_ with
  | none => ps
  | some hb => if pcM N = hb.1 then ps else ps.set j (setH N (some hb))
abbrev FK (h h' : aH) : Prop := Fr [] [53, 54, 55, 56, 57] h h'
theorem ev_takeOver (l : Launch) (G : aG) (ps0 ps1 : List Pc) (i j : Nat) (P N : Pc) (hi_ : ps0[i]? = some P) (hj_ : ps1[j]? = some N) (h : aH) (rf : Rf h) (t0_ : RTx ps0 0 h) (t1_ : RTx ps1 1 h) : Ev l G 1 0 0 mX11_takeOver 0 (en 4 [.ref MO, .int (nI (250 + j)), .int (nI i)]) [] h (fun x h' => x = none ∧ FK h h' ∧ RTx ps0 0 h' ∧ RTx (tkS ps1 j N (pcH P)) 1 h') := by
  have il_ := (List.getElem?_eq_some_iff.mp hi_).1
  have jl_ := (List.getElem?_eq_some_iff.mp hj_).1
  have n0_ := t0_.1
  have n1_ := t1_.1
  obtain ⟨pb_, pp_⟩ := t0_.2.2.2.1 i P hi_
  obtain ⟨nb_, np_⟩ := t1_.2.2.2.1 j N hj_
  rw [show 250 * 0 + i = i by omega] at pp_
  rw [show 250 * 1 + j = 250 + j by omega] at np_
  have hd_ := pp_.2.2.2.2.2
  have st_ := stt_le hj_
  have f3_ := t1_.2.1
  cases hh_ : pcH P with
  | none =>
    rw [hh_] at hd_
    have e53_ : hX h 53 i = -1 := hd_
    refine Ev_aload_n dX11_takeOver_0 rfl (by first | exact Or.inr ⟨_, rfl⟩ | exact rv_or _ | exact Or.inl rfl) ?_
    refine Ev_getA dX11_takeOver_1 fX11_89 rf.1 (rr_handLong rf) ?_
    refine Ev_iload_n dX11_takeOver_4 rfl ?_
    refine Ev_ialdE _ dX11_takeOver_5 (rk_handLong rf) (rl_handLong rf) (hi_n (by omega)) (by omega) e53_ ?_
    refine Ev_if_geT 10 dX11_takeOver_6 (by decide) (fun zb6_ => ?_) (fun zb6_ => ?_)
    · exact absurd zb6_ (by decide)
    · refine Ev_vret dX11_takeOver_9 rfl ?_
      exact ⟨rfl, Fr.rf, t0_, t1_⟩
  | some hb =>
    have hbl_ := pb_.2.2.2.2.2.2.2.2.2.2.2 hb hh_
    rw [hh_] at hd_
    have e53_ := hd_.1
    have md1_ : isMd h (250 + j) (stt ps1 j) 54 (60 * i) hb.1.length = decide (pcM N = hb.1) := by
      have := t1_.md2 (h' := h) (a := 54) (f := 60 * i) (xs := hb.1) rfl rfl (by omega) hj_ (fun k hk => hd_.2.2.1 k hk) (by omega)
      rw [show 250 * 1 + j = 250 + j by omega] at this
      exact this
    refine Ev_aload_n dX11_takeOver_0 rfl (by first | exact Or.inr ⟨_, rfl⟩ | exact rv_or _ | exact Or.inl rfl) ?_
    refine Ev_getA dX11_takeOver_1 fX11_89 rf.1 (rr_handLong rf) ?_
    refine Ev_iload_n dX11_takeOver_4 rfl ?_
    refine Ev_ialdE _ dX11_takeOver_5 (rk_handLong rf) (rl_handLong rf) (hi_n (by omega)) (by omega) e53_ ?_
    refine Ev_if_geT 10 dX11_takeOver_6 (by decide) (fun zb6_ => ?_) (fun zb6_ => ?_)
    · refine Ev_aload_n dX11_takeOver_10 rfl (by first | exact Or.inr ⟨_, rfl⟩ | exact rv_or _ | exact Or.inl rfl) ?_
      refine Ev_iload_n dX11_takeOver_11 rfl ?_
      refine Ev_aload_n dX11_takeOver_12 rfl (by first | exact Or.inr ⟨_, rfl⟩ | exact rv_or _ | exact Or.inl rfl) ?_
      refine Ev_getA dX11_takeOver_13 fX11_92 rf.1 (rr_hand rf) ?_
      refine Ev_bipush (v := nI 60) dX11_takeOver_16 (by decide) ?_
      refine Ev_iload_n dX11_takeOver_18 rfl ?_
      refine Ev_imulN dX11_takeOver_19 ?_
      refine Ev_aload_n dX11_takeOver_20 rfl (by first | exact Or.inr ⟨_, rfl⟩ | exact rv_or _ | exact Or.inl rfl) ?_
      refine Ev_getA dX11_takeOver_21 fX11_89 rf.1 (rr_handLong rf) ?_
      refine Ev_iload_n dX11_takeOver_24 rfl ?_
      refine Ev_ialdE _ dX11_takeOver_25 (rk_handLong rf) (rl_handLong rf) (hi_n (by omega)) (by omega) e53_ ?_
      refine Ev_V0 [.int (nI (250 + j)), .ref 54, .int (nI (60 * i)), .int (nI hb.1.length)] dX11_takeOver_26 vX11_isMade kX11_229 rf.1 rfl rfl rfl (Nat.le_of_ble_eq_true rfl) (by omega) (ev_isMade l G (250 + j) (stt ps1 j) 54 (60 * i) hb.1.length (by omega) h rf (rk_hand rf) np_.2.2.1 (fun z => ?_) (fun z => by rw [rl_hand rf]; omega) (by rw [rl_hand rf]; omega)) ?_
      · have := mof_le (250 + j)
        have el_ : hb.1.length = (pcM N).length := nI_inj (by omega) (by omega) (z.symm.trans np_.2.2.2.1)
        omega
      rw [md1_]
      refine Ev_if_eqB 33 dX11_takeOver_29 (by decide) (fun zb29_ => ?_) (fun zb29_ => ?_)
      · have hne_ : ¬ pcM N = hb.1 := of_decide_eq_false zb29_
        refine Ev_aload_n dX11_takeOver_33 rfl (by first | exact Or.inr ⟨_, rfl⟩ | exact rv_or _ | exact Or.inl rfl) ?_
        refine Ev_getA dX11_takeOver_34 fX11_89 rf.1 (rr_handLong rf) ?_
        refine Ev_iload_n dX11_takeOver_37 rfl ?_
        refine Ev_aload_n dX11_takeOver_38 rfl (by first | exact Or.inr ⟨_, rfl⟩ | exact rv_or _ | exact Or.inl rfl) ?_
        refine Ev_getA dX11_takeOver_39 fX11_89 rf.1 (rr_handLong rf) ?_
        refine Ev_iload_n dX11_takeOver_42 rfl ?_
        refine Ev_ialdE _ dX11_takeOver_43 (rk_handLong rf) (rl_handLong rf) (hi_n (by omega)) (by omega) e53_ ?_
        refine Ev_iastL _ dX11_takeOver_44 (rk_handLong rf) (rl_handLong rf) (hi_n (by omega)) (by omega) ?_
        refine Ev_iconst (v := nI 0) dX11_takeOver_45 (by decide) ?_
        refine Ev_istore_n dX11_takeOver_46 (by decide) ?_
        refine ev_to_h l G (250 + j) i hb.1.length (sX h 53 (250 + j) (nI hb.1.length)) rf (by omega) (by omega) hbl_.1 (by omega) ((hX_n _ _ (by omega)).trans e53_) (fun h1 fr1_ cp1_ => ?_) 61 0 (by omega) (by omega) _ Fr.rf CpF.zero
        have f1_ : FH (250 + j) h h1 := (FH.row (by decide)).tr (FH.hand fr1_ cp1_ hbl_.1)
        have rf1_ : Rf h1 := rf.fr f1_.1
        have e55b_ : hX h1 55 i = nI hb.2.length := (f1_.2.1 55 (by decide) _ (by omega)).trans hd_.2.1
        have v53a_ : hX h1 53 (250 + j) = nI hb.1.length := (congrFun (fr1_.2.2.2.2.2.2 53 (by decide)) _).trans (hX_s _ _ _ _)
        have v54a_ : ∀ k, k < hb.1.length → hX h1 54 (60 * (250 + j) + k) = hb.1.getD k 0 := fun k hk => (cp1_.in hk).trans ((gX_X _ (by decide)).trans (hd_.2.2.1 k hk))
        refine Ev_aload_n dX11_takeOver_85 rfl (by first | exact Or.inr ⟨_, rfl⟩ | exact rv_or _ | exact Or.inl rfl) ?_
        refine Ev_getA dX11_takeOver_86 fX11_95 rf1_.1 (rr_baseLong rf1_) ?_
        refine Ev_iload_n dX11_takeOver_89 rfl ?_
        refine Ev_aload_n dX11_takeOver_90 rfl (by first | exact Or.inr ⟨_, rfl⟩ | exact rv_or _ | exact Or.inl rfl) ?_
        refine Ev_getA dX11_takeOver_91 fX11_95 rf1_.1 (rr_baseLong rf1_) ?_
        refine Ev_iload_n dX11_takeOver_94 rfl ?_
        refine Ev_ialdE _ dX11_takeOver_95 (rk_baseLong rf1_) (rl_baseLong rf1_) (hi_n (by omega)) (by omega) e55b_ ?_
        refine Ev_iastL _ dX11_takeOver_96 (rk_baseLong rf1_) (rl_baseLong rf1_) (hi_n (by omega)) (by omega) ?_
        refine Ev_iconst (v := nI 0) dX11_takeOver_97 (by decide) ?_
        refine Ev_istore_n dX11_takeOver_98 (by decide) ?_
        refine ev_to_b l G (250 + j) i hb.2.length (sX h1 55 (250 + j) (nI hb.2.length)) rf1_ (by omega) (by omega) hbl_.2 (by omega) ((hX_n _ _ (by omega)).trans e55b_) (fun h3 fr3_ cp3_ => ?_) 121 0 (by omega) (by omega) _ Fr.rf CpF.zero
        have f3_3_ : FH (250 + j) h h3 := ((f1_.tr (FH.row (by decide))).tr (FH.base fr3_ cp3_ hbl_.2))
        have rf3_ : Rf h3 := rf.fr f3_3_.1
        have e55c_ : hX h3 55 i = nI hb.2.length := (f3_3_.2.1 55 (by decide) _ (by omega)).trans hd_.2.1
        have v53_ : hX h3 53 (250 + j) = nI hb.1.length := (congrFun (fr3_.2.2.2.2.2.2 53 (by decide)) _).trans ((gX_X _ (by decide)).trans v53a_)
        have v55_ : hX h3 55 (250 + j) = nI hb.2.length := (congrFun (fr3_.2.2.2.2.2.2 55 (by decide)) _).trans (hX_s _ _ _ _)
        have v54_ : ∀ k, k < hb.1.length → hX h3 54 (60 * (250 + j) + k) = hb.1.getD k 0 := fun k hk => (congrFun (fr3_.2.2.2.2.2.2 54 (by decide)) _).trans ((gX_X _ (by decide)).trans (v54a_ k hk))
        have s56_ : ∀ k, k < hb.2.length → hX h1 56 (120 * i + k) = hb.2.getD k 0 := fun k hk => (f1_.2.2.2 _ (by omega)).trans (hd_.2.2.2 k hk)
        have v56_ : ∀ k, k < hb.2.length → hX h3 56 (120 * (250 + j) + k) = hb.2.getD k 0 := fun k hk => (cp3_.in hk).trans ((gX_X _ (by decide)).trans (s56_ k hk))
        have md3_ : isMd h3 (250 + j) (stt ps1 j) 56 (120 * i) hb.2.length = decide (pcM N = hb.2) := by
          have := t1_.md2 (h' := h3) (a := 56) (f := 120 * i) (xs := hb.2) (f3_3_.1.2.2.2.2.2.2 51 (by decide)) (f3_3_.1.2.2.2.2.2.2 52 (by decide)) (by omega) hj_ (fun k hk => (f3_3_.2.2.2 _ (by omega)).trans (hd_.2.2.2 k hk)) (by omega)
          rw [show 250 * 1 + j = 250 + j by omega] at this
          exact this
        refine Ev_aload_n dX11_takeOver_137 rfl (by first | exact Or.inr ⟨_, rfl⟩ | exact rv_or _ | exact Or.inl rfl) ?_
        refine Ev_getA dX11_takeOver_138 fX11_102 rf3_.1 (rr_clash rf3_) ?_
        refine Ev_iload_n dX11_takeOver_141 rfl ?_
        refine Ev_aload_n dX11_takeOver_142 rfl (by first | exact Or.inr ⟨_, rfl⟩ | exact rv_or _ | exact Or.inl rfl) ?_
        refine Ev_iload_n dX11_takeOver_143 rfl ?_
        refine Ev_aload_n dX11_takeOver_144 rfl (by first | exact Or.inr ⟨_, rfl⟩ | exact rv_or _ | exact Or.inl rfl) ?_
        refine Ev_getA dX11_takeOver_145 fX11_99 rf3_.1 (rr_base rf3_) ?_
        refine Ev_bipush (v := nI 120) dX11_takeOver_148 (by decide) ?_
        refine Ev_iload_n dX11_takeOver_150 rfl ?_
        refine Ev_imulN dX11_takeOver_151 ?_
        refine Ev_aload_n dX11_takeOver_152 rfl (by first | exact Or.inr ⟨_, rfl⟩ | exact rv_or _ | exact Or.inl rfl) ?_
        refine Ev_getA dX11_takeOver_153 fX11_95 rf3_.1 (rr_baseLong rf3_) ?_
        refine Ev_iload_n dX11_takeOver_156 rfl ?_
        refine Ev_ialdE _ dX11_takeOver_157 (rk_baseLong rf3_) (rl_baseLong rf3_) (hi_n (by omega)) (by omega) e55c_ ?_
        refine Ev_V0 [.int (nI (250 + j)), .ref 56, .int (nI (120 * i)), .int (nI hb.2.length)] dX11_takeOver_158 vX11_isMade kX11_229 rf3_.1 rfl rfl rfl (Nat.le_of_ble_eq_true rfl) (by omega) (ev_isMade l G (250 + j) (stt ps1 j) 56 (120 * i) hb.2.length (by omega) h3 rf3_ (rk_base rf3_) ((congrFun (f3_3_.1.2.2.2.2.2.2 50 (by decide)) _).trans np_.2.2.1) (fun z => ?_) (fun z => by rw [rl_base rf3_]; omega) (by rw [rl_base rf3_]; omega)) ?_
        · have := mof_le (250 + j)
          have el_ : hb.2.length = (pcM N).length := nI_inj (by omega) (by omega) (z.symm.trans ((congrFun (f3_3_.1.2.2.2.2.2.2 51 (by decide)) _).trans np_.2.2.2.1))
          omega
        rw [md3_]
        refine Ev_if_neB 168 dX11_takeOver_161 (by decide) (fun zb161_ => ?_) (fun zb161_ => ?_)
        · refine Ev_iconst (v := nI 0) dX11_takeOver_168 (by decide) ?_
          refine Ev_zastL _ dX11_takeOver_169 (rk_clash rf3_) (rl_clash rf3_) (by first | exact Or.inl rfl | exact Or.inr rfl) (hi_n (by omega)) (by omega) ?_
          refine Ev_vret dX11_takeOver_170 rfl ?_
          have fh_ := f3_3_.tr (FH.row (q := 250 + j) (h := h3) (a := 57) (v := bI (decide (pcM N ≠ hb.2))) (by decide))
          have ev_ : (nI 0) = bI (decide (pcM N ≠ hb.2)) := by
            have zz_ := zb161_
            simp only [decide_eq_true_eq, decide_eq_false_iff_not] at zz_
            first
            | (rw [decide_eq_true (by simpa using zz_)]; rfl)
            | (rw [decide_eq_false (by simpa using zz_)]; rfl)
          rw [ev_]
          refine ⟨rfl, fh_.1, t0_.fh fh_ (fun k hk => by omega), ?_⟩
          show RTx (if pcM N = hb.1 then ps1 else ps1.set j (setH N (some hb))) 1 _
          rw [if_neg hne_]
          refine t1_.setH hj_ (by rw [show 250 * 1 + j = 250 + j by omega]; exact fh_) ?_ (by rw [show 250 * 1 + j = 250 + j by omega]; exact hX_s _ _ _ _) (fun x hx => by cases hx; exact hbl_)
          rw [show 250 * 1 + j = 250 + j by omega]
          exact ⟨(gX_X _ (by decide)).trans v53_, (gX_X _ (by decide)).trans v55_, fun k hk => (gX_X _ (by decide)).trans (v54_ k hk), fun k hk => (gX_X _ (by decide)).trans (v56_ k hk)⟩
        · refine Ev_iconst (v := nI 1) dX11_takeOver_164 (by decide) ?_
          refine Ev_goto 169 dX11_takeOver_165 (by decide) ?_
          refine Ev_zastL _ dX11_takeOver_169 (rk_clash rf3_) (rl_clash rf3_) (by first | exact Or.inl rfl | exact Or.inr rfl) (hi_n (by omega)) (by omega) ?_
          refine Ev_vret dX11_takeOver_170 rfl ?_
          have fh_ := f3_3_.tr (FH.row (q := 250 + j) (h := h3) (a := 57) (v := bI (decide (pcM N ≠ hb.2))) (by decide))
          have ev_ : (nI 1) = bI (decide (pcM N ≠ hb.2)) := by
            have zz_ := zb161_
            simp only [decide_eq_true_eq, decide_eq_false_iff_not] at zz_
            first
            | (rw [decide_eq_true (by simpa using zz_)]; rfl)
            | (rw [decide_eq_false (by simpa using zz_)]; rfl)
          rw [ev_]
          refine ⟨rfl, fh_.1, t0_.fh fh_ (fun k hk => by omega), ?_⟩
          show RTx (if pcM N = hb.1 then ps1 else ps1.set j (setH N (some hb))) 1 _
          rw [if_neg hne_]
          refine t1_.setH hj_ (by rw [show 250 * 1 + j = 250 + j by omega]; exact fh_) ?_ (by rw [show 250 * 1 + j = 250 + j by omega]; exact hX_s _ _ _ _) (fun x hx => by cases hx; exact hbl_)
          rw [show 250 * 1 + j = 250 + j by omega]
          exact ⟨(gX_X _ (by decide)).trans v53_, (gX_X _ (by decide)).trans v55_, fun k hk => (gX_X _ (by decide)).trans (v54_ k hk), fun k hk => (gX_X _ (by decide)).trans (v56_ k hk)⟩
      · refine Ev_vret dX11_takeOver_32 rfl ?_
        refine ⟨rfl, Fr.rf, t0_, ?_⟩
        show RTx (if pcM N = hb.1 then ps1 else ps1.set j (setH N (some hb))) 1 _
        rw [if_pos (of_decide_eq_true zb29_)]; exact t1_
    · exact absurd (show (0 : Int) ≤ _ by rw [hi_n (by omega)]; omega) zb6_
