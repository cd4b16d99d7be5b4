theorem ev_sign_c1 (l : Launch) (G : aG) (bs : List Int32) (at_ : Nat) (its : List It) (wn : Bool) (h : aH) (rf : Rf h) (pr_ : RPr bs at_ its wn h) (e62_ : sv bs (at_ + 2) = 62) (n60_ : ¬ (seeL bs (at_ + 1)).toInt = 60) (x1_ x2_ x3_ x4_ x5_ : Value) : Ev l G 1 0 0 mX11_sign 69 [.ref MO, .int (seeL bs (at_ + 1)), .int (seeL bs (at_ + 2)), .int (nI 1), x1_, x2_, x3_, x4_, x5_] [] h (fun x h' => (∃ f, 0 < f ∧ f ≤ 5 ∧ sgF bs at_ its.length wn = .inl f ∧ x = some (.int (nI f)) ∧ FPr h h' ∧ hI h' 783 MO = hI h 783 MO ∧ RTp bs h') ∨ (∃ it w wn', sgF bs at_ its.length wn = .inr (it, w, wn') ∧ x = some (.int (nI 0)) ∧ FPr h h' ∧ RPr bs (at_ + w) (its ++ [it]) wn' h')) := by
  refine Ev_iconst (v := -1) dX11_sign_69 (by decide) ?_
  refine Ev_istore dX11_sign_70 (by decide) ?_
  refine Ev_iconst (v := nI 0) dX11_sign_72 (by decide) ?_
  refine Ev_istore dX11_sign_73 (by decide) ?_
  refine Ev_iconst (v := nI 0) dX11_sign_75 (by decide) ?_
  refine Ev_istore dX11_sign_76 (by decide) ?_
  refine Ev_iconst (v := nI 3) dX11_sign_78 (by decide) ?_
  refine Ev_istore dX11_sign_79 (by decide) ?_
  refine Ev_iload_n dX11_sign_81 rfl ?_
  refine Ev_if_eqT 97 dX11_sign_82 (by decide) (fun zb82_ => ?_) (fun zb82_ => ?_)
  · exact absurd zb82_ (by decide)
  · refine Ev_iload_n dX11_sign_85 rfl ?_
    refine Ev_bipush (v := nI 110) dX11_sign_86 (by decide) ?_
    refine Ev_icmp_neT 97 dX11_sign_88 (by decide) (fun zb88_ => ?_) (fun zb88_ => ?_)
    · rw [t110] at zb88_
      refine Ev_iload_n dX11_sign_97 rfl ?_
      refine Ev_if_eqT 118 dX11_sign_98 (by decide) (fun zb98_ => ?_) (fun zb98_ => ?_)
      · exact absurd zb98_ (by decide)
      · refine Ev_iload_n dX11_sign_101 rfl ?_
        refine Ev_bipush (v := nI 48) dX11_sign_102 (by decide) ?_
        refine Ev_bipush (v := nI 51) dX11_sign_104 (by decide) ?_
        refine Ev_S0 [.int (seeL bs (at_ + 1)), .int (nI 48), .int (nI 51)] dX11_sign_106 sX11_isIn kX11_130 rfl rfl rfl (Nat.le_of_ble_eq_true rfl) (by omega) (ev_isIn l G _ _ _ _) ?_
        refine Ev_if_eqB 118 dX11_sign_109 (by decide) (fun zb109_ => ?_) (fun zb109_ => ?_)
        · have zn_ := inB_f t48 t51 zb109_
          refine Ev_iload_n dX11_sign_118 rfl ?_
          refine Ev_if_eqT 134 dX11_sign_119 (by decide) (fun zb119_ => ?_) (fun zb119_ => ?_)
          · exact absurd zb119_ (by decide)
          · refine Ev_iload_n dX11_sign_122 rfl ?_
            refine Ev_bipush (v := nI 61) dX11_sign_123 (by decide) ?_
            refine Ev_icmp_neT 134 dX11_sign_125 (by decide) (fun zb125_ => ?_) (fun zb125_ => ?_)
            · rw [t61] at zb125_
              refine Ev_iload_n dX11_sign_134 rfl ?_
              refine Ev_if_eqT 155 dX11_sign_135 (by decide) (fun zb135_ => ?_) (fun zb135_ => ?_)
              · exact absurd zb135_ (by decide)
              · refine Ev_iload_n dX11_sign_138 rfl ?_
                refine Ev_bipush (v := nI 97) dX11_sign_139 (by decide) ?_
                refine Ev_bipush (v := nI 104) dX11_sign_141 (by decide) ?_
                refine Ev_S0 [.int (seeL bs (at_ + 1)), .int (nI 97), .int (nI 104)] dX11_sign_143 sX11_isIn kX11_130 rfl rfl rfl (Nat.le_of_ble_eq_true rfl) (by omega) (ev_isIn l G _ _ _ _) ?_
                refine Ev_if_eqB 155 dX11_sign_146 (by decide) (fun zb146_ => ?_) (fun zb146_ => ?_)
                · have zk_ := inB_f t97 t104 zb146_
                  refine Ev_iload_n dX11_sign_155 rfl ?_
                  refine Ev_if_eqT 169 dX11_sign_156 (by decide) (fun zb156_ => ?_) (fun zb156_ => ?_)
                  · exact absurd zb156_ (by decide)
                  · refine Ev_iload_n dX11_sign_159 rfl ?_
                    refine Ev_bipush (v := nI 33) dX11_sign_160 (by decide) ?_
                    refine Ev_icmp_neT 169 dX11_sign_162 (by decide) (fun zb162_ => ?_) (fun zb162_ => ?_)
                    · rw [t33] at zb162_
                      have es_ : mark bs at_ = mark2 bs at_ := by
                        rw [mark2_62 e62_, mark_in e62_]
                        unfold sv mark1
                        rw [if_neg n60_, if_neg zb88_, if_neg zn_, if_neg zb125_, if_neg zk_, if_neg zb162_]; rfl
                      first
                      | (have jj_ := ev_sign_n l G bs at_ its wn h rf pr_ es_; exact jj_ _ _)
                      | (have jj_ := ev_sign_m l G bs at_ its wn h rf pr_ _ e62_ es_ (by simp); exact jj_ _ _)
                    · rw [t33] at zb162_
                      have es_ : mark1 (seeL bs (at_ + 1)).toInt = some (7, 0, 0, []) := by unfold mark1; rw [if_neg n60_, if_neg zb88_, if_neg zn_, if_neg zb125_, if_neg zk_, if_pos zb162_]
                      refine Ev_bipush (v := nI 7) dX11_sign_165 (by decide) ?_
                      refine Ev_istore dX11_sign_167 (by decide) ?_
                      first
                      | (have jj_ := ev_sign_n l G bs at_ its wn h rf pr_ es_; exact jj_ _ _)
                      | (have jj_ := ev_sign_m l G bs at_ its wn h rf pr_ _ e62_ es_ (by simp); exact jj_ _ _)
                · have zk_ := inB_t t97 t104 zb146_
                  have es_ : mark1 (seeL bs (at_ + 1)).toInt = some (5, ((seeL bs (at_ + 1)).toInt - 97).toNat, 0, []) := by unfold mark1; rw [if_neg n60_, if_neg zb88_, if_neg zn_, if_neg zb125_, if_pos zk_]
                  refine Ev_iconst (v := nI 5) dX11_sign_149 (by decide) ?_
                  refine Ev_istore dX11_sign_150 (by decide) ?_
                  refine Ev_goto 169 dX11_sign_152 (by decide) ?_
                  first
                  | (have jj_ := ev_sign_n l G bs at_ its wn h rf pr_ es_; exact jj_ _ _)
                  | (have jj_ := ev_sign_m l G bs at_ its wn h rf pr_ _ e62_ es_ (by simp); exact jj_ _ _)
            · rw [t61] at zb125_
              have es_ : mark1 (seeL bs (at_ + 1)).toInt = some (4, 0, 0, []) := by unfold mark1; rw [if_neg n60_, if_neg zb88_, if_neg zn_, if_pos zb125_]
              refine Ev_iconst (v := nI 4) dX11_sign_128 (by decide) ?_
              refine Ev_istore dX11_sign_129 (by decide) ?_
              refine Ev_goto 169 dX11_sign_131 (by decide) ?_
              first
              | (have jj_ := ev_sign_n l G bs at_ its wn h rf pr_ es_; exact jj_ _ _)
              | (have jj_ := ev_sign_m l G bs at_ its wn h rf pr_ _ e62_ es_ (by simp); exact jj_ _ _)
        · have zn_ := inB_t t48 t51 zb109_
          have es_ : mark1 (seeL bs (at_ + 1)).toInt = some (2, ((seeL bs (at_ + 1)).toInt - 48).toNat, 0, []) := by unfold mark1; rw [if_neg n60_, if_neg zb88_, if_pos zn_]
          refine Ev_iconst (v := nI 2) dX11_sign_112 (by decide) ?_
          refine Ev_istore dX11_sign_113 (by decide) ?_
          refine Ev_goto 169 dX11_sign_115 (by decide) ?_
          first
          | (have jj_ := ev_sign_n l G bs at_ its wn h rf pr_ es_; exact jj_ _ _)
          | (have jj_ := ev_sign_m l G bs at_ its wn h rf pr_ _ e62_ es_ (by simp); exact jj_ _ _)
    · rw [t110] at zb88_
      have es_ : mark1 (seeL bs (at_ + 1)).toInt = some (1, 0, 0, []) := by unfold mark1; rw [if_neg n60_, if_pos zb88_]
      refine Ev_iconst (v := nI 1) dX11_sign_91 (by decide) ?_
      refine Ev_istore dX11_sign_92 (by decide) ?_
      refine Ev_goto 169 dX11_sign_94 (by decide) ?_
      first
      | (have jj_ := ev_sign_n l G bs at_ its wn h rf pr_ es_; exact jj_ _ _)
      | (have jj_ := ev_sign_m l G bs at_ its wn h rf pr_ _ e62_ es_ (by simp); exact jj_ _ _)
theorem ev_sign_c0 (l : Launch) (G : aG) (bs : List Int32) (at_ : Nat) (its : List It) (wn : Bool) (h : aH) (rf : Rf h) (pr_ : RPr bs at_ its wn h) (e62_ : ¬ sv bs (at_ + 2) = 62) (x1_ x2_ x3_ x4_ x5_ : Value) : Ev l G 1 0 0 mX11_sign 69 [.ref MO, .int (seeL bs (at_ + 1)), .int (seeL bs (at_ + 2)), .int (nI 0), x1_, x2_, x3_, x4_, x5_] [] h (fun x h' => (∃ f, 0 < f ∧ f ≤ 5 ∧ sgF bs at_ its.length wn = .inl f ∧ x = some (.int (nI f)) ∧ FPr h h' ∧ hI h' 783 MO = hI h 783 MO ∧ RTp bs h') ∨ (∃ it w wn', sgF bs at_ its.length wn = .inr (it, w, wn') ∧ x = some (.int (nI 0)) ∧ FPr h h' ∧ RPr bs (at_ + w) (its ++ [it]) wn' h')) := by
  refine Ev_iconst (v := -1) dX11_sign_69 (by decide) ?_
  refine Ev_istore dX11_sign_70 (by decide) ?_
  refine Ev_iconst (v := nI 0) dX11_sign_72 (by decide) ?_
  refine Ev_istore dX11_sign_73 (by decide) ?_
  refine Ev_iconst (v := nI 0) dX11_sign_75 (by decide) ?_
  refine Ev_istore dX11_sign_76 (by decide) ?_
  refine Ev_iconst (v := nI 3) dX11_sign_78 (by decide) ?_
  refine Ev_istore dX11_sign_79 (by decide) ?_
  refine Ev_iload_n dX11_sign_81 rfl ?_
  refine Ev_if_eqT 97 dX11_sign_82 (by decide) (fun zb82_ => ?_) (fun zb82_ => ?_)
  · refine Ev_iload_n dX11_sign_97 rfl ?_
    refine Ev_if_eqT 118 dX11_sign_98 (by decide) (fun zb98_ => ?_) (fun zb98_ => ?_)
    · refine Ev_iload_n dX11_sign_118 rfl ?_
      refine Ev_if_eqT 134 dX11_sign_119 (by decide) (fun zb119_ => ?_) (fun zb119_ => ?_)
      · refine Ev_iload_n dX11_sign_134 rfl ?_
        refine Ev_if_eqT 155 dX11_sign_135 (by decide) (fun zb135_ => ?_) (fun zb135_ => ?_)
        · refine Ev_iload_n dX11_sign_155 rfl ?_
          refine Ev_if_eqT 169 dX11_sign_156 (by decide) (fun zb156_ => ?_) (fun zb156_ => ?_)
          · exact ev_sign_n l G bs at_ its wn h rf pr_ (mark_out e62_) _ _
          · exact absurd t0 zb156_
        · exact absurd t0 zb135_
      · exact absurd t0 zb119_
    · exact absurd t0 zb98_
  · exact absurd t0 zb82_
theorem ev_sign (l : Launch) (G : aG) (bs : List Int32) (at_ : Nat) (its : List It) (wn : Bool) (h : aH) (rf : Rf h) (pr_ : RPr bs at_ its wn h) (hlt_ : at_ < bs.length) (h60_ : bs.getD at_ 0 = nI 60) : Ev l G 1 0 0 mX11_sign 0 (en 9 [.ref MO]) [] h (fun x h' => (∃ f, 0 < f ∧ f ≤ 5 ∧ sgF bs at_ its.length wn = .inl f ∧ x = some (.int (nI f)) ∧ FPr h h' ∧ hI h' 783 MO = hI h 783 MO ∧ RTp bs h') ∨ (∃ it w wn', sgF bs at_ its.length wn = .inr (it, w, wn') ∧ x = some (.int (nI 0)) ∧ FPr h h' ∧ RPr bs (at_ + w) (its ++ [it]) wn' h')) := by
  have b120_ := pr_.1.1
  have at120_ := pr_.2.1
  refine Ev_aload_n dX11_sign_0 rfl (by first | exact Or.inr ⟨_, rfl⟩ | exact rv_or _ | exact Or.inl rfl) ?_
  refine Ev_aload_n dX11_sign_1 rfl (by first | exact Or.inr ⟨_, rfl⟩ | exact rv_or _ | exact Or.inl rfl) ?_
  refine Ev_getE dX11_sign_2 fX11_173 rf.1 pr_.2.2.1 ?_
  refine Ev_iconst (v := nI 1) dX11_sign_5 (by decide) ?_
  refine Ev_iaddN dX11_sign_6 ?_
  refine Ev_V0 [.int (nI (at_ + 1))] dX11_sign_7 vX11_see kX11_176 rf.1 rfl rfl rfl (Nat.le_of_ble_eq_true rfl) (by omega) (ev_see l G (at_ + 1) (by omega) h rf (by rw [pr_.1.2.1, hi_n (by omega)]; omega)) ?_
  rw [seeF_eq pr_.1]
  refine Ev_istore_n dX11_sign_10 (by decide) ?_
  refine Ev_aload_n dX11_sign_11 rfl (by first | exact Or.inr ⟨_, rfl⟩ | exact rv_or _ | exact Or.inl rfl) ?_
  refine Ev_aload_n dX11_sign_12 rfl (by first | exact Or.inr ⟨_, rfl⟩ | exact rv_or _ | exact Or.inl rfl) ?_
  refine Ev_getE dX11_sign_13 fX11_173 rf.1 pr_.2.2.1 ?_
  refine Ev_iconst (v := nI 2) dX11_sign_16 (by decide) ?_
  refine Ev_iaddN dX11_sign_17 ?_
  refine Ev_V0 [.int (nI (at_ + 2))] dX11_sign_18 vX11_see kX11_176 rf.1 rfl rfl rfl (Nat.le_of_ble_eq_true rfl) (by omega) (ev_see l G (at_ + 2) (by omega) h rf (by rw [pr_.1.2.1, hi_n (by omega)]; omega)) ?_
  rw [seeF_eq pr_.1]
  refine Ev_istore_n dX11_sign_21 (by decide) ?_
  refine Ev_iload_n dX11_sign_22 rfl ?_
  refine Ev_bipush (v := nI 62) dX11_sign_23 (by decide) ?_
  refine Ev_icmp_neT 32 dX11_sign_25 (by decide) (fun zb25_ => ?_) (fun zb25_ => ?_)
  · rw [t62] at zb25_
    refine Ev_iconst (v := nI 0) dX11_sign_32 (by decide) ?_
    refine Ev_istore_n dX11_sign_33 (by decide) ?_
    refine Ev_iload_n dX11_sign_34 rfl ?_
    refine Ev_if_eqT 69 dX11_sign_35 (by decide) (fun zb35_ => ?_) (fun zb35_ => ?_)
    · exact ev_sign_c0 l G bs at_ its wn h rf pr_ zb25_ _ _ _ _ _
    · exact absurd t0 zb35_
  · rw [t62] at zb25_
    refine Ev_iconst (v := nI 1) dX11_sign_28 (by decide) ?_
    refine Ev_goto 33 dX11_sign_29 (by decide) ?_
    refine Ev_istore_n dX11_sign_33 (by decide) ?_
    refine Ev_iload_n dX11_sign_34 rfl ?_
    refine Ev_if_eqT 69 dX11_sign_35 (by decide) (fun zb35_ => ?_) (fun zb35_ => ?_)
    · exact absurd zb35_ (by decide)
    · refine Ev_iload_n dX11_sign_38 rfl ?_
      refine Ev_bipush (v := nI 60) dX11_sign_39 (by decide) ?_
      refine Ev_icmp_neT 69 dX11_sign_41 (by decide) (fun zb41_ => ?_) (fun zb41_ => ?_)
      · rw [t60] at zb41_
        exact ev_sign_c1 l G bs at_ its wn h rf pr_ zb25_ zb41_ _ _ _ _ _
      · rw [t60] at zb41_
        have em_ : mark bs at_ = some ((0, 0, 0, [nI 60]), 3) := by rw [mark_in zb25_]; unfold sv mark1; rw [if_pos zb41_]; rfl
        refine Ev_aload_n dX11_sign_44 rfl (by first | exact Or.inr ⟨_, rfl⟩ | exact rv_or _ | exact Or.inl rfl) ?_
        refine Ev_iconst (v := nI 0) dX11_sign_45 (by decide) ?_
        refine Ev_aload_n dX11_sign_46 rfl (by first | exact Or.inr ⟨_, rfl⟩ | exact rv_or _ | exact Or.inl rfl) ?_
        refine Ev_getE dX11_sign_47 fX11_173 rf.1 pr_.2.2.1 ?_
        refine Ev_iconst (v := nI 1) dX11_sign_50 (by decide) ?_
        refine Ev_Vz [.int (nI 0), .int (nI at_), .int (nI 1)] dX11_sign_51 vX11_put kX11_179 rf.1 rfl rfl rfl (Nat.le_of_ble_eq_true rfl) (by omega) (ev_put l G _ _ _ its.length pr_.2.2.2.2.2.1 h rf pr_.2.2.2.1) (fun v_ h2 e_ => ?_)
        obtain ⟨hn_, rfl, rfl⟩ | ⟨hn_, rfl, pf_⟩ := e_
        · refine Ev_istore dX11_sign_54 (by decide) ?_
          refine Ev_aload_n dX11_sign_56 rfl (Or.inr ⟨_, rfl⟩) ?_
          refine Ev_dup dX11_sign_57 rfl ?_
          refine Ev_getE dX11_sign_58 fX11_173 rf.1 pr_.2.2.1 ?_
          refine Ev_iconst (v := nI 3) dX11_sign_61 (by decide) ?_
          refine Ev_iaddN dX11_sign_62 ?_
          refine Ev_putI dX11_sign_63 fX11_173 ⟨_, rfl, Or.inl rfl⟩ (Or.inl rfl) rf.1 ?_
          refine Ev_iload dX11_sign_66 rfl ?_
          refine Ev_iret dX11_sign_68 rfl ?_
          exact Or.inl ⟨5, by omega, by omega, sg_full em_ (by simp) hn_, rfl, FPr.int (by decide), hI_o _ _ (by decide), pr_.1.fp (FPr.int (by decide))⟩
        · have rf2_ := rf.fr pf_.1.1
          have r2_ := pr_.put (it := (0, 0, 0, [nI 60])) (on := at_) (tw := 1) hn_ pf_ (mark_ok em_) ⟨fun _ => ⟨rfl, by omega, fun k hk => by rw [show k = 0 by omega]; exact h60_⟩, fun z => absurd rfl z⟩
          refine Ev_istore dX11_sign_54 (by decide) ?_
          refine Ev_aload_n dX11_sign_56 rfl (Or.inr ⟨_, rfl⟩) ?_
          refine Ev_dup dX11_sign_57 rfl ?_
          refine Ev_getE dX11_sign_58 fX11_173 rf2_.1 r2_.2.2.1 ?_
          refine Ev_iconst (v := nI 3) dX11_sign_61 (by decide) ?_
          refine Ev_iaddN dX11_sign_62 ?_
          refine Ev_putI dX11_sign_63 fX11_173 ⟨_, rfl, Or.inl rfl⟩ (Or.inl rfl) rf2_.1 ?_
          refine Ev_iload dX11_sign_66 rfl ?_
          refine Ev_iret dX11_sign_68 rfl ?_
          exact Or.inr ⟨_, 3, _, sg_ok em_ (by simp) (by omega), rfl, pf_.1.tr (FPr.int (by decide)), by simpa using r2_.at (mark_len em_).1⟩
