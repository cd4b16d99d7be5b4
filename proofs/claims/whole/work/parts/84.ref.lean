abbrev FB (h h' : aH) : Prop := Fr [800, 810, 811, 812, 813, 818] [33, 42, 43, 44, 45, 46, 47, 48, 49, 50, 51, 52, 53, 54, 55, 56, 57, 58, 59, 60, 61, 62, 63, 64, 65] h h'
theorem FN.fb {h h' : aH} (f : FN h h') : FB h h' := f.1.mo (by decide) (by decide)
theorem nvL_le : ∀ (xs : List Int32) (v n : Nat), nvL xs v = some n → n < (v + 1) * 10 ^ xs.length := by
  intro xs
  induction xs with
  | nil => intro v n h; cases h; simp
  | cons c cs ih_ =>
    intro v n h
    have h1 : (if 48 ≤ c.toInt ∧ c.toInt ≤ 57 then nvL cs (10 * v + (c.toInt - 48).toNat) else none) = some n := h
    by_cases z : 48 ≤ c.toInt ∧ c.toInt ≤ 57
    · rw [if_pos z] at h1
      have h2 := ih_ _ _ h1
      rw [List.length_cons, Nat.pow_succ]
      have h3 : 10 * v + (c.toInt - 48).toNat + 1 ≤ (v + 1) * 10 := by omega
      have h4 := Nat.mul_le_mul_right (10 ^ cs.length) h3
      have h5 : (v + 1) * (10 ^ cs.length * 10) = (v + 1) * 10 * 10 ^ cs.length := by rw [Nat.mul_comm (10 ^ cs.length), Nat.mul_assoc]
      omega
    · rw [if_neg z] at h1; cases h1
theorem numV_le {xs : List Int32} {n : Nat} (h : numV xs = some n) : n ≤ 99999 := by
  unfold numV at h
  split at h
  · rename_i z
    have h1 := nvL_le _ _ _ h
    have h2 := (pow_b (e := xs.length) z.1.2).2
    omega
  · cases h
theorem numH_le {p : Pc} {n : Nat} (h : numH p = some n) : n ≤ 99999 := by
  unfold numH at h
  split at h
  · cases h
  · exact numV_le h
theorem sNu_back {m : Md} {c j : Nat} {v : Int32} : sNu (sNu m c j v) c j (mNu m c j) = m := by
  unfold sNu
  have e : up2 (up2 m.2.2.2.2.1 c j v) c j (mNu m c j) = m.2.2.2.2.1 := by
    funext a b
    by_cases h1 : a = c
    · subst h1
      by_cases h2 : b = j
      · subst h2; rw [up2_s]; rfl
      · rw [up2_n _ _ h2, up2_n _ _ h2]
    · rw [up2_k _ _ h1, up2_k _ _ h1]
  show (m.1, m.2.1, m.2.2.1, m.2.2.2.1, up2 (up2 m.2.2.2.2.1 c j v) c j (mNu m c j), m.2.2.2.2.2) = m
  rw [e]
/-- what can be led back: the piece and its number -/
def backQ (m : Md) (ps : List Pc) (v : Int32) : Option (Pc × Nat) := match atP ps v with
  | none => none
  | some p => if pcT p = 2 ∧ mLv m (pcS p) = some (pcC p) then (numH p).map (fun n => (p, n)) else none
theorem sNu_live {m : Md} {c j : Nat} {v : Int32} (x : Nat) : mLive (sNu m c j v) x = mLive m x := rfl
theorem ev_back (l : Launch) (G : aG) (p_ : Int32) (m : Md) (ru : Nat → List It) (ps : List Pc) (ln : List (List Int32 × Nat × Nat)) (fa : Nat) (h : aH) (rf : Rf h) (mk : MOk m) (rm : RM m h) (ru_ : RRu ru h) (t_ : RTx ps 0 h) (rl_ : RLn ln fa h) (hl_ : ∀ p ∈ ps, PcL p) (hf_ : fa + 250 ≤ 200000) : Ev l G 5 0 0 mX11_back 0 (en 6 [.ref MO, .int p_]) [] h (fun x h' => (backQ m ps p_ = none ∧ x = some (.int (-1)) ∧ h' = h) ∨ (∃ p n, backQ m ps p_ = some (p, n) ∧ ((mkNew (sNu m (pcC p) (pcN p) (nI n)) ru = none ∧ x = some (.int (-1)) ∧ RM m h' ∧ FB h h' ∧ RTx ps 0 h' ∧ RLn ln fa h') ∨ (∃ ps1, mkNew (sNu m (pcC p) (pcN p) (nI n)) ru = some ps1 ∧ x = some (.int (nI ps1.length)) ∧ RM (sNu m (pcC p) (pcN p) (nI n)) h' ∧ FB h h' ∧ RTx (tkA (ps.set p_.toInt.toNat (setH p none)) ps1) 0 h' ∧ RLn (lnA (ps.set p_.toInt.toNat (setH p none)) ps1 (ln, fa)).1 (lnA (ps.set p_.toInt.toNat (setH p none)) ps1 (ln, fa)).2 h')))) := by
  have n0_ := t_.1
  refine Ev_aload_n dX11_back_0 rfl (by first | exact Or.inr ⟨_, rfl⟩ | exact rv_or _ | exact Or.inl rfl) ?_
  refine Ev_iload_n dX11_back_1 rfl ?_
  refine Ev_V0 [.int p_] dX11_back_2 vX11_isPiece kX11_263 rf.1 rfl rfl rfl (Nat.le_of_ble_eq_true rfl) (by omega) (ev_isPiece l G p_ ps.length h rf t_.2.2.1 (by omega)) ?_
  refine Ev_if_eqB 27 dX11_back_5 (by decide) (fun zb5_ => ?_) (fun zb5_ => ?_)
  · have ea_ : atP ps p_ = none := atP_no (isPc_f zb5_)
    refine Ev_iconst (v := -1) dX11_back_27 (by decide) ?_
    refine Ev_iret dX11_back_28 rfl ?_
    refine Or.inl ⟨?_, rfl, rfl⟩
    unfold backQ
    rw [ea_]
    first
    | done
    | (show (if pcT p = 2 ∧ mLv m (pcS p) = some (pcC p) then _ else none) = none; rw [if_neg (fun z => zb15_ z.1)]; done)
    | (show (if pcT p = 2 ∧ mLv m (pcS p) = some (pcC p) then _ else none) = none; rw [if_neg (fun z => zl_ z.2)]; done)
  · have zp_ := isPc_iff.mp zb5_
    obtain ⟨i, hi0_, rfl⟩ := as_nI (n := 250) zp_.1 (by omega)
    rw [hi_n (by omega)] at zp_
    have il_ : i < ps.length := by omega
    obtain ⟨p, hp_⟩ : ∃ p, ps[i]? = some p := ⟨_, List.getElem?_eq_getElem il_⟩
    obtain ⟨bp_, rp_⟩ := t_.2.2.2.1 i p hp_
    rw [show 250 * 0 + i = i by omega] at rp_
    have ea_ : atP ps (nI i) = some p := atP_n hp_ (by omega)
    have t4x_ := bp_.2.2.2.2.1
    have s24_ := bp_.2.2.2.2.2.2.2.2.1
    refine Ev_aload_n dX11_back_8 rfl (by first | exact Or.inr ⟨_, rfl⟩ | exact rv_or _ | exact Or.inl rfl) ?_
    refine Ev_getA dX11_back_9 fX11_62 rf.1 (rr_pieceSort rf) ?_
    refine Ev_iload_n dX11_back_12 rfl ?_
    refine Ev_ialdE _ dX11_back_13 (rk_pieceSort rf) (rl_pieceSort rf) (hi_n (by omega)) (by omega) rp_.1.2.1 ?_
    refine Ev_iconst (v := nI 2) dX11_back_14 (by decide) ?_
    refine Ev_icmp_neN 27 dX11_back_15 (by decide) (by omega) (by omega) (fun zb15_ => ?_) (fun zb15_ => ?_)
    · refine Ev_iconst (v := -1) dX11_back_27 (by decide) ?_
      refine Ev_iret dX11_back_28 rfl ?_
      refine Or.inl ⟨?_, rfl, rfl⟩
      unfold backQ
      rw [ea_]
      first
      | done
      | (show (if pcT p = 2 ∧ mLv m (pcS p) = some (pcC p) then _ else none) = none; rw [if_neg (fun z => zb15_ z.1)]; done)
      | (show (if pcT p = 2 ∧ mLv m (pcS p) = some (pcC p) then _ else none) = none; rw [if_neg (fun z => zl_ z.2)]; done)
    · refine Ev_aload_n dX11_back_18 rfl (by first | exact Or.inr ⟨_, rfl⟩ | exact rv_or _ | exact Or.inl rfl) ?_
      refine Ev_iload_n dX11_back_19 rfl ?_
      refine Ev_iconst (v := nI 0) dX11_back_20 (by decide) ?_
      refine Ev_V0 [.int (nI i), .int (nI 0)] dX11_back_21 vX11_piece kX11_275 rf.1 rfl rfl rfl (Nat.le_of_ble_eq_true rfl) (by omega) (ev_piece l G (nI i) (nI 0) m ps h rf mk rm t_ hl_) ?_
      rw [show pieceF m ps (nI i) (nI 0) = (if mLv m (pcS p) = some (pcC p) then nI (pcS p) else -1) by unfold pieceF; rw [ea_]; rfl]
      refine Ev_if_geT 29 dX11_back_24 (by decide) (fun zb24_ => ?_) (fun zb24_ => ?_)
      · have zl_ : mLv m (pcS p) = some (pcC p) := Classical.byContradiction (fun z => by rw [if_neg z] at zb24_; exact absurd zb24_ (by decide))
        refine Ev_aload_n dX11_back_29 rfl (by first | exact Or.inr ⟨_, rfl⟩ | exact rv_or _ | exact Or.inl rfl) ?_
        refine Ev_iload_n dX11_back_30 rfl ?_
        cases hn_ : numH p with
        | none =>
          refine Ev_V0 [.int (nI i)] dX11_back_31 vX11_numberOf kX11_278 rf.1 rfl rfl rfl (Nat.le_of_ble_eq_true rfl) (by omega) (ev_numberOf l G i (stt ps i) p h rf (by omega) bp_ rp_) ?_
          rw [hn_]
          refine Ev_istore_n dX11_back_34 (by decide) ?_
          refine Ev_iload_n dX11_back_35 rfl ?_
          refine Ev_if_geT 41 dX11_back_36 (by decide) (fun zb36_ => ?_) (fun zb36_ => ?_)
          · exact absurd zb36_ (by decide)
          · refine Ev_iconst (v := -1) dX11_back_39 (by decide) ?_
            refine Ev_iret dX11_back_40 rfl ?_
            refine Or.inl ⟨?_, rfl, rfl⟩
            unfold backQ
            rw [ea_]
            show (if pcT p = 2 ∧ mLv m (pcS p) = some (pcC p) then _ else none) = none
            rw [hn_]
            split <;> rfl
        | some n =>
          have n9_ := numH_le hn_
          have hlv_ : mLive m (pcC p) := mk.live zl_
          have hsl_ : mSl m (pcC p) = pcS p := (mk.1 _ _ zl_).2.2
          have hj4_ : pcN p < 4 := bp_.2.2.2.2.2.1 (by omega)
          have sl_ := bp_.2.2.2.2.2.2.2.2.1
          have nv_ : hX h 33 (4 * pcS p + pcN p) = mNu m (pcC p) (pcN p) := by
            have := (rm.2.2.1 _ hlv_).2.2.1 _ hj4_
            rw [hsl_] at this; exact this
          have mk1_ : MOk (sNu m (pcC p) (pcN p) (nI n)) := mk.nu (by rw [hi_n (by omega)]; omega)
          have rm1_ : RM (sNu m (pcC p) (pcN p) (nI n)) (sX h 33 (4 * pcS p + pcN p) (nI n)) := by
            have := rm.nu (v := nI n) mk hlv_ hj4_
            rw [hsl_] at this; exact this
          have ru1_ : RRu ru (sX h 33 (4 * pcS p + pcN p) (nI n)) := ru_.fr (Fr.row (ks := []) (as := [33]) (by decide)) (by decide)
          have eb_ : backQ m ps (nI i) = some (p, n) := by
            unfold backQ
            rw [ea_]
            show (if pcT p = 2 ∧ mLv m (pcS p) = some (pcC p) then (numH p).map (fun n => (p, n)) else none) = _
            rw [if_pos ⟨by omega, zl_⟩, hn_]; rfl
          refine Ev_V0 [.int (nI i)] dX11_back_31 vX11_numberOf kX11_278 rf.1 rfl rfl rfl (Nat.le_of_ble_eq_true rfl) (by omega) (ev_numberOf l G i (stt ps i) p h rf (by omega) bp_ rp_) ?_
          rw [hn_]
          refine Ev_top (y := .int (nI n)) rfl ?_
          refine Ev_istore_n dX11_back_34 (by decide) ?_
          refine Ev_iload_n dX11_back_35 rfl ?_
          refine Ev_if_geT 41 dX11_back_36 (by decide) (fun zb36_ => ?_) (fun zb36_ => ?_)
          · refine Ev_aload_n dX11_back_41 rfl (by first | exact Or.inr ⟨_, rfl⟩ | exact rv_or _ | exact Or.inl rfl) ?_
            refine Ev_getA dX11_back_42 fX11_68 rf.1 (rr_pieceNumber rf) ?_
            refine Ev_iload_n dX11_back_45 rfl ?_
            refine Ev_ialdE _ dX11_back_46 (rk_pieceNumber rf) (rl_pieceNumber rf) (hi_n (by omega)) (by omega) (rp_.1.2.2.2.1 (by omega)) ?_
            refine Ev_istore_n dX11_back_47 (by decide) ?_
            refine Ev_aload_n dX11_back_48 rfl (by first | exact Or.inr ⟨_, rfl⟩ | exact rv_or _ | exact Or.inl rfl) ?_
            refine Ev_getA dX11_back_49 fX11_77 rf.1 (rr_thingOf rf) ?_
            refine Ev_iload_n dX11_back_52 rfl ?_
            refine Ev_ialdE _ dX11_back_53 (rk_thingOf rf) (rl_thingOf rf) (hi_n (by omega)) (by omega) rp_.1.2.2.2.2.2 ?_
            refine Ev_istore dX11_back_54 (by decide) ?_
            refine Ev_aload_n dX11_back_56 rfl (by first | exact Or.inr ⟨_, rfl⟩ | exact rv_or _ | exact Or.inl rfl) ?_
            refine Ev_getA dX11_back_57 fX11_22 rf.1 (rr_number rf) ?_
            refine Ev_iconst (v := nI 4) dX11_back_60 (by decide) ?_
            refine Ev_iload dX11_back_61 rfl ?_
            refine Ev_imulN dX11_back_63 ?_
            refine Ev_iload_n dX11_back_64 rfl ?_
            refine Ev_iaddN dX11_back_65 ?_
            refine Ev_ialdE _ dX11_back_66 (rk_number rf) (rl_number rf) (hi_n (by omega)) (by omega) nv_ ?_
            refine Ev_istore dX11_back_67 (by decide) ?_
            refine Ev_aload_n dX11_back_69 rfl (by first | exact Or.inr ⟨_, rfl⟩ | exact rv_or _ | exact Or.inl rfl) ?_
            refine Ev_getA dX11_back_70 fX11_22 rf.1 (rr_number rf) ?_
            refine Ev_iconst (v := nI 4) dX11_back_73 (by decide) ?_
            refine Ev_iload dX11_back_74 rfl ?_
            refine Ev_imulN dX11_back_76 ?_
            refine Ev_iload_n dX11_back_77 rfl ?_
            refine Ev_iaddN dX11_back_78 ?_
            refine Ev_iload_n dX11_back_79 rfl ?_
            refine Ev_iastL _ dX11_back_80 (rk_number rf) (rl_number rf) (hi_n (by omega)) (by omega) ?_
            refine Ev_aload_n dX11_back_81 rfl (by first | exact Or.inr ⟨_, rfl⟩ | exact rv_or _ | exact Or.inl rfl) ?_
            refine Ev_Vz [] dX11_back_82 vX11_makeNew kX11_257 rf.1 rfl rfl rfl (Nat.le_of_ble_eq_true rfl) (by omega) (ev_makeNew l G (sNu m (pcC p) (pcN p) (nI n)) ru (sX h 33 (4 * pcS p + pcN p) (nI n)) rf mk1_ rm1_ ru1_) (fun v_ h2 e_ => ?_)
            obtain ⟨f2_, ⟨ps1, em_, rfl, r1_, ew_⟩ | ⟨em_, rfl⟩⟩ := e_
            · have rf2_ : Rf h2 := Rf.fr (h := (sX h 33 (4 * pcS p + pcN p) (nI n))) rf f2_.1
              refine Ev_if_neT 103 dX11_back_85 (by decide) (fun zb85_ => ?_) (fun zb85_ => ?_)
              · refine Ev_aload_n dX11_back_103 rfl (by first | exact Or.inr ⟨_, rfl⟩ | exact rv_or _ | exact Or.inl rfl) ?_
                refine Ev_getA dX11_back_104 fX11_89 rf2_.1 (rr_handLong rf2_) ?_
                refine Ev_iload_n dX11_back_107 rfl ?_
                refine Ev_iconst (v := -1) dX11_back_108 (by decide) ?_
                refine Ev_iastL _ dX11_back_109 (rk_handLong rf2_) (rl_handLong rf2_) (hi_n (by omega)) (by omega) ?_
                refine Ev_aload_n dX11_back_110 rfl (by first | exact Or.inr ⟨_, rfl⟩ | exact rv_or _ | exact Or.inl rfl) ?_
                refine Ev_getA dX11_back_111 fX11_102 rf2_.1 (rr_clash rf2_) ?_
                refine Ev_iload_n dX11_back_114 rfl ?_
                refine Ev_iconst (v := nI 0) dX11_back_115 (by decide) ?_
                refine Ev_zastL _ dX11_back_116 (rk_clash rf2_) (rl_clash rf2_) (by decide) (hi_n (by omega)) (by omega) ?_
                refine Ev_aload_n dX11_back_117 rfl (by first | exact Or.inr ⟨_, rfl⟩ | exact rv_or _ | exact Or.inl rfl) ?_
                have fh_ : FH i h2 (sX (sX h2 53 i (-1)) 57 i (nI 0)) := (FH.row (by decide)).tr (FH.row (by decide))
                have rf4_ : Rf (sX (sX h2 53 i (-1)) 57 i (nI 0)) := rf2_
                have t4_ : RTx (ps.set i (setH p none)) 0 (sX (sX h2 53 i (-1)) 57 i (nI 0)) := RTx.setH ((t_.fr (Fr.row (ks := []) (as := [33]) (by decide)) (by decide)).fn f2_) hp_ (by rw [show 250 * 0 + i = i by omega]; exact fh_) (by rw [show 250 * 0 + i = i by omega]; exact (gX_X _ (by decide)).trans (hX_s _ _ _ _)) (by rw [show 250 * 0 + i = i by omega]; exact hX_s _ _ _ _) (fun x hx => by cases hx)
                refine Ev_Vz [] dX11_back_118 vX11_turn kX11_260 rf4_.1 rfl rfl rfl (Nat.le_of_ble_eq_true rfl) (by omega) (ev_turn l G (ps.set i (setH p none)) ps1 ln fa _ rf4_ t4_ (r1_.fh fh_ (fun k hk => by omega)) ((gI_X _ _ _ _ _ _).trans ((gI_X _ _ _ _ _ _).trans ew_)) (((rl_.fr (Fr.row (ks := []) (as := [33]) (by decide)) (by decide) (by decide)).fr f2_.1 (by decide) (by decide)).fr fh_.1 (by decide) (by decide)) hf_) (fun v_ h5 e_ => ?_)
                obtain ⟨rfl, f5_, r5_, l5_⟩ := e_
                rw [lnA_key] at l5_
                refine Ev_iret dX11_back_121 rfl ?_
                refine Or.inr ⟨p, n, eb_, Or.inr ⟨ps1, em_, rfl, ?_, ?_, ?_, by rw [show (nI i).toInt.toNat = i by rw [hi_n (by omega)]; rfl]; exact l5_⟩⟩
                · exact ((rm1_.fn f2_).fr fh_.1 (by decide) (by decide)).fr f5_ (by decide) (by decide)
                · exact (((Fr.row (by decide)).tr f2_.fb).tr (fh_.1.mo (by decide) (by decide))).tr (f5_.mo (by decide) (by decide))
                · rw [show (nI i).toInt.toNat = i by rw [hi_n (by omega)]; rfl]; exact r5_
              · exact absurd zb85_ (by decide)
            · have rf2_ : Rf h2 := Rf.fr (h := (sX h 33 (4 * pcS p + pcN p) (nI n))) rf f2_.1
              refine Ev_if_neT 103 dX11_back_85 (by decide) (fun zb85_ => ?_) (fun zb85_ => ?_)
              · exact absurd (by decide) zb85_
              · refine Ev_aload_n dX11_back_88 rfl (by first | exact Or.inr ⟨_, rfl⟩ | exact rv_or _ | exact Or.inl rfl) ?_
                refine Ev_getA dX11_back_89 fX11_22 rf2_.1 (rr_number rf2_) ?_
                refine Ev_iconst (v := nI 4) dX11_back_92 (by decide) ?_
                refine Ev_iload dX11_back_93 rfl ?_
                refine Ev_imulN dX11_back_95 ?_
                refine Ev_iload_n dX11_back_96 rfl ?_
                refine Ev_iaddN dX11_back_97 ?_
                refine Ev_iload dX11_back_98 rfl ?_
                refine Ev_iastL _ dX11_back_100 (rk_number rf2_) (rl_number rf2_) (hi_n (by omega)) (by omega) ?_
                refine Ev_iconst (v := -1) dX11_back_101 (by decide) ?_
                refine Ev_iret dX11_back_102 rfl ?_
                refine Or.inr ⟨p, n, eb_, Or.inl ⟨em_, rfl, ?_, ?_, ?_, ?_⟩⟩
                · have := (rm1_.fn f2_).nu (v := mNu m (pcC p) (pcN p)) mk1_ hlv_ hj4_
                  rw [sNu_back, show mSl (sNu m (pcC p) (pcN p) (nI n)) (pcC p) = pcS p from hsl_] at this
                  exact this
                · exact ((Fr.row (by decide)).tr f2_.fb).tr (Fr.row (by decide))
                · exact ((t_.fr (Fr.row (ks := []) (as := [33]) (by decide)) (by decide)).fn f2_).fr (Fr.row (ks := []) (as := [33]) (by decide)) (by decide)
                · exact ((rl_.fr (Fr.row (ks := []) (as := [33]) (by decide)) (by decide) (by decide)).fr f2_.1 (by decide) (by decide)).fr (Fr.row (ks := []) (as := [33]) (by decide)) (by decide) (by decide)
          · exact absurd (show (0 : Int) ≤ (nI n).toInt by rw [hi_n (by omega)]; omega) zb36_ --end
      · have zl_ : ¬ mLv m (pcS p) = some (pcC p) := fun z => zb24_ (by rw [if_pos z, hi_n (by omega)]; omega)
        refine Ev_iconst (v := -1) dX11_back_27 (by decide) ?_
        refine Ev_iret dX11_back_28 rfl ?_
        refine Or.inl ⟨?_, rfl, rfl⟩
        unfold backQ
        rw [ea_]
        first
        | done
        | (show (if pcT p = 2 ∧ mLv m (pcS p) = some (pcC p) then _ else none) = none; rw [if_neg (fun z => zb15_ z.1)]; done)
        | (show (if pcT p = 2 ∧ mLv m (pcS p) = some (pcC p) then _ else none) = none; rw [if_neg (fun z => zl_ z.2)]; done)
