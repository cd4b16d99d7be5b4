theorem ec_isName_l (l : Launch) (G : aG) (tp : List Int32) (h : aH) (cf : Cf h) (htp : CTp tp h) (ms : Nat) : ∀ k, tp.length - k < ms → k ≤ tp.length → (∀ j, j < k → letB (tp.getD j 0) = true) → ∀ v2_ v3_ : Value, Ev l G 0 0 0 mX7_isName 2 [.ref 4, .int (nI k), v2_, v3_] [] h (Ex (some (.int (bI (nmB tp)))) h) := by
  have b120_ := htp.1
  induction ms with
  | zero => intro k hk; omega
  | succ ms ih_ =>
    intro k hk1_ hk2_ hg_ v2_ v3_
    by_cases z_ : k = tp.length
    · subst z_
      refine Ev_iload_n dX7_isName_2 rfl ?_
      refine Ev_aload_n dX7_isName_3 rfl (by first | exact Or.inr ⟨_, rfl⟩ | exact rv_or _ | exact Or.inl rfl) ?_
      refine Ev_getE dX7_isName_4 fX7_15 (ck_4 cf) htp.2.1 ?_
      refine Ev_icmp_geN 82 dX7_isName_7 (by decide) (by omega) (by omega) (fun zb7_ => ?_) (fun zb7_ => ?_)
      · refine Ev_aload_n dX7_isName_82 rfl (by first | exact Or.inr ⟨_, rfl⟩ | exact rv_or _ | exact Or.inl rfl) ?_
        refine Ev_getE dX7_isName_83 fX7_15 (ck_4 cf) htp.2.1 ?_
        refine Ev_iconst (v := nI 1) dX7_isName_86 (by decide) ?_
        refine Ev_icmp_ltN 103 dX7_isName_87 (by decide) (by omega) (by omega) (fun zb87_ => ?_) (fun zb87_ => ?_)
        · refine Ev_iconst (v := nI 0) dX7_isName_103 (by decide) ?_
          refine Ev_zret dX7_isName_104 rfl (by decide) ?_
          refine ⟨?_, rfl⟩
          first
          | (rw [nmB_iff.mpr ⟨⟨by omega, by omega⟩, hg_⟩]; rfl)
          | (rw [show nmB tp = false by
              cases hb : nmB tp with
              | false => rfl
              | true => exact absurd (nmB_iff.mp hb).1 (by omega)]; rfl)
        · refine Ev_aload_n dX7_isName_90 rfl (by first | exact Or.inr ⟨_, rfl⟩ | exact rv_or _ | exact Or.inl rfl) ?_
          refine Ev_getE dX7_isName_91 fX7_15 (ck_4 cf) htp.2.1 ?_
          refine Ev_bipush (v := nI 6) dX7_isName_94 (by decide) ?_
          refine Ev_icmp_gtN 103 dX7_isName_96 (by decide) (by omega) (by omega) (fun zb96_ => ?_) (fun zb96_ => ?_)
          · refine Ev_iconst (v := nI 0) dX7_isName_103 (by decide) ?_
            refine Ev_zret dX7_isName_104 rfl (by decide) ?_
            refine ⟨?_, rfl⟩
            first
            | (rw [nmB_iff.mpr ⟨⟨by omega, by omega⟩, hg_⟩]; rfl)
            | (rw [show nmB tp = false by
                cases hb : nmB tp with
                | false => rfl
                | true => exact absurd (nmB_iff.mp hb).1 (by omega)]; rfl)
          · refine Ev_iconst (v := nI 1) dX7_isName_99 (by decide) ?_
            refine Ev_goto 104 dX7_isName_100 (by decide) ?_
            refine Ev_zret dX7_isName_104 rfl (by decide) ?_
            refine ⟨?_, rfl⟩
            first
            | (rw [nmB_iff.mpr ⟨⟨by omega, by omega⟩, hg_⟩]; rfl)
            | (rw [show nmB tp = false by
                cases hb : nmB tp with
                | false => rfl
                | true => exact absurd (nmB_iff.mp hb).1 (by omega)]; rfl)
      · exact False.elim (by omega)
    have kl_ : k < tp.length := by omega
    rcases (show (97 ≤ (tp.getD k 0).toInt ∧ (tp.getD k 0).toInt ≤ 122) ∨ (65 ≤ (tp.getD k 0).toInt ∧ (tp.getD k 0).toInt ≤ 90) ∨ ((tp.getD k 0).toInt < 65) ∨ (90 < (tp.getD k 0).toInt ∧ (tp.getD k 0).toInt < 97) ∨ (122 < (tp.getD k 0).toInt) by omega) with zc_ | zc_ | zc_ | zc_ | zc_
    · skip
      refine Ev_iload_n dX7_isName_2 rfl ?_
      refine Ev_aload_n dX7_isName_3 rfl (by first | exact Or.inr ⟨_, rfl⟩ | exact rv_or _ | exact Or.inl rfl) ?_
      refine Ev_getE dX7_isName_4 fX7_15 (ck_4 cf) htp.2.1 ?_
      refine Ev_icmp_geN 82 dX7_isName_7 (by decide) (by omega) (by omega) (fun zb7_ => ?_) (fun zb7_ => ?_)
      · exact False.elim (by omega)
      · refine Ev_aload_n dX7_isName_10 rfl (by first | exact Or.inr ⟨_, rfl⟩ | exact rv_or _ | exact Or.inl rfl) ?_
        refine Ev_getA dX7_isName_11 fX7_9 (ck_4 cf) (cr_512_4 cf) ?_
        refine Ev_iload_n dX7_isName_14 rfl ?_
        refine Ev_ialdE k dX7_isName_15 (ck_5 cf) (cl_5 cf) (hi_n (by omega)) (by omega) (htp.2.2 k (by omega)) ?_
        refine Ev_bipush (v := nI 97) dX7_isName_16 (by decide) ?_
        refine Ev_icmp_ltT 36 dX7_isName_18 (by decide) (fun zb18_ => ?_) (fun zb18_ => ?_)
        · exact False.elim (by rw [t97] at zb18_; omega)
        · refine Ev_aload_n dX7_isName_21 rfl (by first | exact Or.inr ⟨_, rfl⟩ | exact rv_or _ | exact Or.inl rfl) ?_
          refine Ev_getA dX7_isName_22 fX7_9 (ck_4 cf) (cr_512_4 cf) ?_
          refine Ev_iload_n dX7_isName_25 rfl ?_
          refine Ev_ialdE k dX7_isName_26 (ck_5 cf) (cl_5 cf) (hi_n (by omega)) (by omega) (htp.2.2 k (by omega)) ?_
          refine Ev_bipush (v := nI 122) dX7_isName_27 (by decide) ?_
          refine Ev_icmp_gtT 36 dX7_isName_29 (by decide) (fun zb29_ => ?_) (fun zb29_ => ?_)
          · exact False.elim (by rw [t122] at zb29_; omega)
          · refine Ev_iconst (v := nI 1) dX7_isName_32 (by decide) ?_
            refine Ev_goto 37 dX7_isName_33 (by decide) ?_
            refine Ev_istore_n dX7_isName_37 (by decide) ?_
            refine Ev_aload_n dX7_isName_38 rfl (by first | exact Or.inr ⟨_, rfl⟩ | exact rv_or _ | exact Or.inl rfl) ?_
            refine Ev_getA dX7_isName_39 fX7_9 (ck_4 cf) (cr_512_4 cf) ?_
            refine Ev_iload_n dX7_isName_42 rfl ?_
            refine Ev_ialdE k dX7_isName_43 (ck_5 cf) (cl_5 cf) (hi_n (by omega)) (by omega) (htp.2.2 k (by omega)) ?_
            refine Ev_bipush (v := nI 65) dX7_isName_44 (by decide) ?_
            refine Ev_icmp_ltT 64 dX7_isName_46 (by decide) (fun zb46_ => ?_) (fun zb46_ => ?_)
            · exact False.elim (by rw [t65] at zb46_; omega)
            · refine Ev_aload_n dX7_isName_49 rfl (by first | exact Or.inr ⟨_, rfl⟩ | exact rv_or _ | exact Or.inl rfl) ?_
              refine Ev_getA dX7_isName_50 fX7_9 (ck_4 cf) (cr_512_4 cf) ?_
              refine Ev_iload_n dX7_isName_53 rfl ?_
              refine Ev_ialdE k dX7_isName_54 (ck_5 cf) (cl_5 cf) (hi_n (by omega)) (by omega) (htp.2.2 k (by omega)) ?_
              refine Ev_bipush (v := nI 90) dX7_isName_55 (by decide) ?_
              refine Ev_icmp_gtT 64 dX7_isName_57 (by decide) (fun zb57_ => ?_) (fun zb57_ => ?_)
              · refine Ev_iconst (v := nI 0) dX7_isName_64 (by decide) ?_
                refine Ev_istore_n dX7_isName_65 (by decide) ?_
                refine Ev_iload_n dX7_isName_66 rfl ?_
                refine Ev_if_neT 76 dX7_isName_67 (by decide) (fun zb67_ => ?_) (fun zb67_ => ?_)
                · refine Ev_iincN 1 dX7_isName_76 (by decide) (by decide) rfl ?_
                  refine Ev_goto 2 dX7_isName_79 (by decide) ?_
                  exact ih_ (k + 1) (by omega) (by omega) (fun j hj => by
                    by_cases e : j = k
                    · rw [e]; exact letB_iff.mpr (by omega)
                    · exact hg_ j (by omega)) _ _
                · exact absurd zb67_ (by decide)
              · exact False.elim (by rw [t90] at zb57_; omega)
    · skip
      refine Ev_iload_n dX7_isName_2 rfl ?_
      refine Ev_aload_n dX7_isName_3 rfl (by first | exact Or.inr ⟨_, rfl⟩ | exact rv_or _ | exact Or.inl rfl) ?_
      refine Ev_getE dX7_isName_4 fX7_15 (ck_4 cf) htp.2.1 ?_
      refine Ev_icmp_geN 82 dX7_isName_7 (by decide) (by omega) (by omega) (fun zb7_ => ?_) (fun zb7_ => ?_)
      · exact False.elim (by omega)
      · refine Ev_aload_n dX7_isName_10 rfl (by first | exact Or.inr ⟨_, rfl⟩ | exact rv_or _ | exact Or.inl rfl) ?_
        refine Ev_getA dX7_isName_11 fX7_9 (ck_4 cf) (cr_512_4 cf) ?_
        refine Ev_iload_n dX7_isName_14 rfl ?_
        refine Ev_ialdE k dX7_isName_15 (ck_5 cf) (cl_5 cf) (hi_n (by omega)) (by omega) (htp.2.2 k (by omega)) ?_
        refine Ev_bipush (v := nI 97) dX7_isName_16 (by decide) ?_
        refine Ev_icmp_ltT 36 dX7_isName_18 (by decide) (fun zb18_ => ?_) (fun zb18_ => ?_)
        · refine Ev_iconst (v := nI 0) dX7_isName_36 (by decide) ?_
          refine Ev_istore_n dX7_isName_37 (by decide) ?_
          refine Ev_aload_n dX7_isName_38 rfl (by first | exact Or.inr ⟨_, rfl⟩ | exact rv_or _ | exact Or.inl rfl) ?_
          refine Ev_getA dX7_isName_39 fX7_9 (ck_4 cf) (cr_512_4 cf) ?_
          refine Ev_iload_n dX7_isName_42 rfl ?_
          refine Ev_ialdE k dX7_isName_43 (ck_5 cf) (cl_5 cf) (hi_n (by omega)) (by omega) (htp.2.2 k (by omega)) ?_
          refine Ev_bipush (v := nI 65) dX7_isName_44 (by decide) ?_
          refine Ev_icmp_ltT 64 dX7_isName_46 (by decide) (fun zb46_ => ?_) (fun zb46_ => ?_)
          · exact False.elim (by rw [t65] at zb46_; omega)
          · refine Ev_aload_n dX7_isName_49 rfl (by first | exact Or.inr ⟨_, rfl⟩ | exact rv_or _ | exact Or.inl rfl) ?_
            refine Ev_getA dX7_isName_50 fX7_9 (ck_4 cf) (cr_512_4 cf) ?_
            refine Ev_iload_n dX7_isName_53 rfl ?_
            refine Ev_ialdE k dX7_isName_54 (ck_5 cf) (cl_5 cf) (hi_n (by omega)) (by omega) (htp.2.2 k (by omega)) ?_
            refine Ev_bipush (v := nI 90) dX7_isName_55 (by decide) ?_
            refine Ev_icmp_gtT 64 dX7_isName_57 (by decide) (fun zb57_ => ?_) (fun zb57_ => ?_)
            · exact False.elim (by rw [t90] at zb57_; omega)
            · refine Ev_iconst (v := nI 1) dX7_isName_60 (by decide) ?_
              refine Ev_goto 65 dX7_isName_61 (by decide) ?_
              refine Ev_istore_n dX7_isName_65 (by decide) ?_
              refine Ev_iload_n dX7_isName_66 rfl ?_
              refine Ev_if_neT 76 dX7_isName_67 (by decide) (fun zb67_ => ?_) (fun zb67_ => ?_)
              · exact absurd (by decide) zb67_
              · refine Ev_iload_n dX7_isName_70 rfl ?_
                refine Ev_if_neT 76 dX7_isName_71 (by decide) (fun zb71_ => ?_) (fun zb71_ => ?_)
                · refine Ev_iincN 1 dX7_isName_76 (by decide) (by decide) rfl ?_
                  refine Ev_goto 2 dX7_isName_79 (by decide) ?_
                  exact ih_ (k + 1) (by omega) (by omega) (fun j hj => by
                    by_cases e : j = k
                    · rw [e]; exact letB_iff.mpr (by omega)
                    · exact hg_ j (by omega)) _ _
                · exact absurd zb71_ (by decide)
        · exact False.elim (by rw [t97] at zb18_; omega)
    · skip
      refine Ev_iload_n dX7_isName_2 rfl ?_
      refine Ev_aload_n dX7_isName_3 rfl (by first | exact Or.inr ⟨_, rfl⟩ | exact rv_or _ | exact Or.inl rfl) ?_
      refine Ev_getE dX7_isName_4 fX7_15 (ck_4 cf) htp.2.1 ?_
      refine Ev_icmp_geN 82 dX7_isName_7 (by decide) (by omega) (by omega) (fun zb7_ => ?_) (fun zb7_ => ?_)
      · exact False.elim (by omega)
      · refine Ev_aload_n dX7_isName_10 rfl (by first | exact Or.inr ⟨_, rfl⟩ | exact rv_or _ | exact Or.inl rfl) ?_
        refine Ev_getA dX7_isName_11 fX7_9 (ck_4 cf) (cr_512_4 cf) ?_
        refine Ev_iload_n dX7_isName_14 rfl ?_
        refine Ev_ialdE k dX7_isName_15 (ck_5 cf) (cl_5 cf) (hi_n (by omega)) (by omega) (htp.2.2 k (by omega)) ?_
        refine Ev_bipush (v := nI 97) dX7_isName_16 (by decide) ?_
        refine Ev_icmp_ltT 36 dX7_isName_18 (by decide) (fun zb18_ => ?_) (fun zb18_ => ?_)
        · refine Ev_iconst (v := nI 0) dX7_isName_36 (by decide) ?_
          refine Ev_istore_n dX7_isName_37 (by decide) ?_
          refine Ev_aload_n dX7_isName_38 rfl (by first | exact Or.inr ⟨_, rfl⟩ | exact rv_or _ | exact Or.inl rfl) ?_
          refine Ev_getA dX7_isName_39 fX7_9 (ck_4 cf) (cr_512_4 cf) ?_
          refine Ev_iload_n dX7_isName_42 rfl ?_
          refine Ev_ialdE k dX7_isName_43 (ck_5 cf) (cl_5 cf) (hi_n (by omega)) (by omega) (htp.2.2 k (by omega)) ?_
          refine Ev_bipush (v := nI 65) dX7_isName_44 (by decide) ?_
          refine Ev_icmp_ltT 64 dX7_isName_46 (by decide) (fun zb46_ => ?_) (fun zb46_ => ?_)
          · refine Ev_iconst (v := nI 0) dX7_isName_64 (by decide) ?_
            refine Ev_istore_n dX7_isName_65 (by decide) ?_
            refine Ev_iload_n dX7_isName_66 rfl ?_
            refine Ev_if_neT 76 dX7_isName_67 (by decide) (fun zb67_ => ?_) (fun zb67_ => ?_)
            · exact absurd (by decide) zb67_
            · refine Ev_iload_n dX7_isName_70 rfl ?_
              refine Ev_if_neT 76 dX7_isName_71 (by decide) (fun zb71_ => ?_) (fun zb71_ => ?_)
              · exact absurd (by decide) zb71_
              · refine Ev_iconst (v := nI 0) dX7_isName_74 (by decide) ?_
                refine Ev_zret dX7_isName_75 rfl (by decide) ?_
                refine ⟨?_, rfl⟩
                rw [show nmB tp = false by
                  cases hb : nmB tp with
                  | false => rfl
                  | true => exact absurd (letB_iff.mp ((nmB_iff.mp hb).2 k (by omega))) (by omega)]
                rfl
          · exact False.elim (by rw [t65] at zb46_; omega)
        · exact False.elim (by rw [t97] at zb18_; omega)
    · skip
      refine Ev_iload_n dX7_isName_2 rfl ?_
      refine Ev_aload_n dX7_isName_3 rfl (by first | exact Or.inr ⟨_, rfl⟩ | exact rv_or _ | exact Or.inl rfl) ?_
      refine Ev_getE dX7_isName_4 fX7_15 (ck_4 cf) htp.2.1 ?_
      refine Ev_icmp_geN 82 dX7_isName_7 (by decide) (by omega) (by omega) (fun zb7_ => ?_) (fun zb7_ => ?_)
      · exact False.elim (by omega)
      · refine Ev_aload_n dX7_isName_10 rfl (by first | exact Or.inr ⟨_, rfl⟩ | exact rv_or _ | exact Or.inl rfl) ?_
        refine Ev_getA dX7_isName_11 fX7_9 (ck_4 cf) (cr_512_4 cf) ?_
        refine Ev_iload_n dX7_isName_14 rfl ?_
        refine Ev_ialdE k dX7_isName_15 (ck_5 cf) (cl_5 cf) (hi_n (by omega)) (by omega) (htp.2.2 k (by omega)) ?_
        refine Ev_bipush (v := nI 97) dX7_isName_16 (by decide) ?_
        refine Ev_icmp_ltT 36 dX7_isName_18 (by decide) (fun zb18_ => ?_) (fun zb18_ => ?_)
        · refine Ev_iconst (v := nI 0) dX7_isName_36 (by decide) ?_
          refine Ev_istore_n dX7_isName_37 (by decide) ?_
          refine Ev_aload_n dX7_isName_38 rfl (by first | exact Or.inr ⟨_, rfl⟩ | exact rv_or _ | exact Or.inl rfl) ?_
          refine Ev_getA dX7_isName_39 fX7_9 (ck_4 cf) (cr_512_4 cf) ?_
          refine Ev_iload_n dX7_isName_42 rfl ?_
          refine Ev_ialdE k dX7_isName_43 (ck_5 cf) (cl_5 cf) (hi_n (by omega)) (by omega) (htp.2.2 k (by omega)) ?_
          refine Ev_bipush (v := nI 65) dX7_isName_44 (by decide) ?_
          refine Ev_icmp_ltT 64 dX7_isName_46 (by decide) (fun zb46_ => ?_) (fun zb46_ => ?_)
          · exact False.elim (by rw [t65] at zb46_; omega)
          · refine Ev_aload_n dX7_isName_49 rfl (by first | exact Or.inr ⟨_, rfl⟩ | exact rv_or _ | exact Or.inl rfl) ?_
            refine Ev_getA dX7_isName_50 fX7_9 (ck_4 cf) (cr_512_4 cf) ?_
            refine Ev_iload_n dX7_isName_53 rfl ?_
            refine Ev_ialdE k dX7_isName_54 (ck_5 cf) (cl_5 cf) (hi_n (by omega)) (by omega) (htp.2.2 k (by omega)) ?_
            refine Ev_bipush (v := nI 90) dX7_isName_55 (by decide) ?_
            refine Ev_icmp_gtT 64 dX7_isName_57 (by decide) (fun zb57_ => ?_) (fun zb57_ => ?_)
            · refine Ev_iconst (v := nI 0) dX7_isName_64 (by decide) ?_
              refine Ev_istore_n dX7_isName_65 (by decide) ?_
              refine Ev_iload_n dX7_isName_66 rfl ?_
              refine Ev_if_neT 76 dX7_isName_67 (by decide) (fun zb67_ => ?_) (fun zb67_ => ?_)
              · exact absurd (by decide) zb67_
              · refine Ev_iload_n dX7_isName_70 rfl ?_
                refine Ev_if_neT 76 dX7_isName_71 (by decide) (fun zb71_ => ?_) (fun zb71_ => ?_)
                · exact absurd (by decide) zb71_
                · refine Ev_iconst (v := nI 0) dX7_isName_74 (by decide) ?_
                  refine Ev_zret dX7_isName_75 rfl (by decide) ?_
                  refine ⟨?_, rfl⟩
                  rw [show nmB tp = false by
                    cases hb : nmB tp with
                    | false => rfl
                    | true => exact absurd (letB_iff.mp ((nmB_iff.mp hb).2 k (by omega))) (by omega)]
                  rfl
            · exact False.elim (by rw [t90] at zb57_; omega)
        · exact False.elim (by rw [t97] at zb18_; omega)
    · skip
      refine Ev_iload_n dX7_isName_2 rfl ?_
      refine Ev_aload_n dX7_isName_3 rfl (by first | exact Or.inr ⟨_, rfl⟩ | exact rv_or _ | exact Or.inl rfl) ?_
      refine Ev_getE dX7_isName_4 fX7_15 (ck_4 cf) htp.2.1 ?_
      refine Ev_icmp_geN 82 dX7_isName_7 (by decide) (by omega) (by omega) (fun zb7_ => ?_) (fun zb7_ => ?_)
      · exact False.elim (by omega)
      · refine Ev_aload_n dX7_isName_10 rfl (by first | exact Or.inr ⟨_, rfl⟩ | exact rv_or _ | exact Or.inl rfl) ?_
        refine Ev_getA dX7_isName_11 fX7_9 (ck_4 cf) (cr_512_4 cf) ?_
        refine Ev_iload_n dX7_isName_14 rfl ?_
        refine Ev_ialdE k dX7_isName_15 (ck_5 cf) (cl_5 cf) (hi_n (by omega)) (by omega) (htp.2.2 k (by omega)) ?_
        refine Ev_bipush (v := nI 97) dX7_isName_16 (by decide) ?_
        refine Ev_icmp_ltT 36 dX7_isName_18 (by decide) (fun zb18_ => ?_) (fun zb18_ => ?_)
        · exact False.elim (by rw [t97] at zb18_; omega)
        · refine Ev_aload_n dX7_isName_21 rfl (by first | exact Or.inr ⟨_, rfl⟩ | exact rv_or _ | exact Or.inl rfl) ?_
          refine Ev_getA dX7_isName_22 fX7_9 (ck_4 cf) (cr_512_4 cf) ?_
          refine Ev_iload_n dX7_isName_25 rfl ?_
          refine Ev_ialdE k dX7_isName_26 (ck_5 cf) (cl_5 cf) (hi_n (by omega)) (by omega) (htp.2.2 k (by omega)) ?_
          refine Ev_bipush (v := nI 122) dX7_isName_27 (by decide) ?_
          refine Ev_icmp_gtT 36 dX7_isName_29 (by decide) (fun zb29_ => ?_) (fun zb29_ => ?_)
          · refine Ev_iconst (v := nI 0) dX7_isName_36 (by decide) ?_
            refine Ev_istore_n dX7_isName_37 (by decide) ?_
            refine Ev_aload_n dX7_isName_38 rfl (by first | exact Or.inr ⟨_, rfl⟩ | exact rv_or _ | exact Or.inl rfl) ?_
            refine Ev_getA dX7_isName_39 fX7_9 (ck_4 cf) (cr_512_4 cf) ?_
            refine Ev_iload_n dX7_isName_42 rfl ?_
            refine Ev_ialdE k dX7_isName_43 (ck_5 cf) (cl_5 cf) (hi_n (by omega)) (by omega) (htp.2.2 k (by omega)) ?_
            refine Ev_bipush (v := nI 65) dX7_isName_44 (by decide) ?_
            refine Ev_icmp_ltT 64 dX7_isName_46 (by decide) (fun zb46_ => ?_) (fun zb46_ => ?_)
            · exact False.elim (by rw [t65] at zb46_; omega)
            · refine Ev_aload_n dX7_isName_49 rfl (by first | exact Or.inr ⟨_, rfl⟩ | exact rv_or _ | exact Or.inl rfl) ?_
              refine Ev_getA dX7_isName_50 fX7_9 (ck_4 cf) (cr_512_4 cf) ?_
              refine Ev_iload_n dX7_isName_53 rfl ?_
              refine Ev_ialdE k dX7_isName_54 (ck_5 cf) (cl_5 cf) (hi_n (by omega)) (by omega) (htp.2.2 k (by omega)) ?_
              refine Ev_bipush (v := nI 90) dX7_isName_55 (by decide) ?_
              refine Ev_icmp_gtT 64 dX7_isName_57 (by decide) (fun zb57_ => ?_) (fun zb57_ => ?_)
              · refine Ev_iconst (v := nI 0) dX7_isName_64 (by decide) ?_
                refine Ev_istore_n dX7_isName_65 (by decide) ?_
                refine Ev_iload_n dX7_isName_66 rfl ?_
                refine Ev_if_neT 76 dX7_isName_67 (by decide) (fun zb67_ => ?_) (fun zb67_ => ?_)
                · exact absurd (by decide) zb67_
                · refine Ev_iload_n dX7_isName_70 rfl ?_
                  refine Ev_if_neT 76 dX7_isName_71 (by decide) (fun zb71_ => ?_) (fun zb71_ => ?_)
                  · exact absurd (by decide) zb71_
                  · refine Ev_iconst (v := nI 0) dX7_isName_74 (by decide) ?_
                    refine Ev_zret dX7_isName_75 rfl (by decide) ?_
                    refine ⟨?_, rfl⟩
                    rw [show nmB tp = false by
                      cases hb : nmB tp with
                      | false => rfl
                      | true => exact absurd (letB_iff.mp ((nmB_iff.mp hb).2 k (by omega))) (by omega)]
                    rfl
              · exact False.elim (by rw [t90] at zb57_; omega)
          · exact False.elim (by rw [t122] at zb29_; omega)
theorem ec_isName (l : Launch) (G : aG) (tp : List Int32) (h : aH) (cf : Cf h) (htp : CTp tp h) : Ev l G 0 0 0 mX7_isName 0 (en 4 [.ref 4]) [] h (Ex (some (.int (bI (nmB tp)))) h) := by
  have b120_ := htp.1
  refine Ev_iconst (v := nI 0) dX7_isName_0 (by decide) ?_
  refine Ev_istore_n dX7_isName_1 (by decide) ?_
  exact ec_isName_l l G tp h cf htp 121 0 (by omega) (by omega) (fun j hj => by omega) _ _
/-- a new row with the tape's bytes; the tape is empty then -/
def CuT (tp : List Int32) (h h' : aH) : Prop := hN h' = hN h + 1 ∧ hK h' (hN h + 3) = 13 ∧ hL h' (hN h + 3) = tp.length ∧ (∀ k, k < tp.length → hX h' (hN h + 3) k = tp.getD k 0) ∧ FO (fun b => b = 4) h h' ∧ CTp [] h' ∧ ∀ k b, b < hN h + 3 → hR h' k b = hR h k b
theorem ec_cutAll (l : Launch) (G : aG) (tp : List Int32) (h : aH) (cf : Cf h) (htp : CTp tp h) : Ev l G 1 1 120 mX7_cutAll 0 (en 2 [.ref 4]) [] h (fun v h' => v = some (.ref (hN h + 3)) ∧ CuT tp h h') := by
  have b120_ := htp.1
  refine Ev_hv (fun hv => ?_)
  have h5_ := hv 5 (by rw [ck_5 cf]; decide)
  have c512_ : hR h 512 4 = some 5 := cr_512_4 cf
  have hk4_ : hK (nA h 13 tp.length) 4 = 8 := (up1_n _ _ (by omega)).trans (ck_4 cf)
  have hk5_ : hK (nA h 13 tp.length) 5 = 13 := (up1_n _ _ (by omega)).trans (ck_5 cf)
  have hl5_ : hL (nA h 13 tp.length) 5 = 120 := (up1_n _ _ (by omega)).trans (cl_5 cf)
  have hkn_ : hK (nA h 13 tp.length) (hN h + 3) = 13 := up1_s _ _ _
  have hln_ : hL (nA h 13 tp.length) (hN h + 3) = tp.length := up1_s _ _ _
  refine Ev_aload_n dX7_cutAll_0 rfl (by first | exact Or.inr ⟨_, rfl⟩ | exact rv_or _ | exact Or.inl rfl) ?_
  refine Ev_getE dX7_cutAll_1 fX7_15 (ck_4 cf) htp.2.1 ?_
  refine Ev.wide (mc' := 0 + 1) (ms' := 0 + tp.length) (by omega) (by omega) ?_
  refine Ev_newa (kd := 13) tp.length dX7_cutAll_4 rfl (Or.inl rfl) ai_1 (hi_n (by omega)) (by omega) ?_
  refine Ev_astore_n dX7_cutAll_6 (by decide) (by first | exact Or.inr ⟨_, rfl⟩ | exact rv_or _ | exact Or.inl rfl) ?_
  refine Ev_aload_n dX7_cutAll_7 rfl (by first | exact Or.inr ⟨_, rfl⟩ | exact rv_or _ | exact Or.inl rfl) ?_
  refine Ev_getA dX7_cutAll_8 fX7_9 hk4_ c512_ ?_
  refine Ev_iconst (v := nI 0) dX7_cutAll_11 (by decide) ?_
  refine Ev_aload_n dX7_cutAll_12 rfl (by first | exact Or.inr ⟨_, rfl⟩ | exact rv_or _ | exact Or.inl rfl) ?_
  refine Ev_iconst (v := nI 0) dX7_cutAll_13 (by decide) ?_
  refine Ev_aload_n dX7_cutAll_14 rfl (by first | exact Or.inr ⟨_, rfl⟩ | exact rv_or _ | exact Or.inl rfl) ?_
  refine Ev_getE dX7_cutAll_15 fX7_15 hk4_ htp.2.1 ?_
  refine Ev_copyI 0 0 tp.length dX7_cutAll_18 (by omega) rfl (Nat.le_of_ble_eq_true rfl) hk5_ hkn_ kX7_19 ac_1 ac_2 ac_3 t0 t0 (hi_n (by omega)) (by rw [hl5_]; omega) (by rw [hln_]; omega) ?_
  refine Ev_aload_n dX7_cutAll_21 rfl (by first | exact Or.inr ⟨_, rfl⟩ | exact rv_or _ | exact Or.inl rfl) ?_
  refine Ev_iconst (v := nI 0) dX7_cutAll_22 (by decide) ?_
  refine Ev_putI dX7_cutAll_23 fX7_15 ⟨_, rfl, Or.inl rfl⟩ (Or.inl rfl) hk4_ ?_
  refine Ev_aload_n dX7_cutAll_26 rfl (by first | exact Or.inr ⟨_, rfl⟩ | exact rv_or _ | exact Or.inl rfl) ?_
  refine Ev_aret dX7_cutAll_27 rfl (Or.inr ⟨_, rfl⟩) (by first | exact Or.inr ⟨_, rfl⟩ | exact rv_or _ | exact Or.inl rfl) ?_
  refine ⟨rfl, rfl, hkn_, hln_, fun k hk => ?_, ?_, ⟨by simp, hI_s _ _ _ _, fun j hj => by simp at hj⟩, fun k b hb => rfl⟩
  · show up1 (up1 (hX h) (hN h + 3) (fun _ => 0)) (hN h + 3) _ (hN h + 3) k = _
    rw [up1_s, pk_cpy_in (by omega) (by omega), Nat.zero_add, Nat.sub_zero]
    show up1 (hX h) (hN h + 3) (fun _ => 0) 5 k = _
    rw [up1_n _ _ (by omega)]; exact htp.2.2 k hk
  · exact ((FO.nA (C := fun b => b = 4 ∨ b = hN h + 3)).tr ((FO.sXs (Or.inr rfl)).tr (FO.sI (Or.inl rfl)))).mo (fun b hb z => z.elim id (fun z => by omega))
theorem ec_elementOf (l : Launch) (G : aG) (r : Nat) (xs : List Int32) (i : Int32) (h : aH) (hk_ : hK h r = 13) (hl_ : hL h r = xs.length) (hx_ : ∀ k, k < xs.length → hX h r k = xs.getD k 0) (hb_ : xs.length < 100000) : Ev l G 0 0 0 mX10_elementOf 0 (en 2 [.ref r, .int i]) [] h (Ex (some (.int (elO xs i.toInt))) h) := by
  refine Ev_iload_n dX10_elementOf_0 rfl ?_
  refine Ev_if_ltT 16 dX10_elementOf_1 (by decide) (fun zb1_ => ?_) (fun zb1_ => ?_)
  · refine Ev_iconst (v := -1) dX10_elementOf_16 (by decide) ?_
    refine Ev_iret dX10_elementOf_17 rfl ?_
    refine ⟨?_, rfl⟩
    first
    | (rw [elO_in hj_ (by omega)]; done)
    | (unfold elO; rw [if_neg (by omega)]; done)
  · refine Ev_iload_n dX10_elementOf_4 rfl ?_
    refine Ev_aload_n dX10_elementOf_5 rfl (by first | exact Or.inr ⟨_, rfl⟩ | exact rv_or _ | exact Or.inl rfl) ?_
    refine Ev_alen dX10_elementOf_6 hk_ (by omega) (by omega) ?_
    rw [hl_]
    refine Ev_icmp_geT 16 dX10_elementOf_7 (by decide) (fun zb7_ => ?_) (fun zb7_ => ?_)
    · rw [hi_n (by omega)] at zb7_
      refine Ev_iconst (v := -1) dX10_elementOf_16 (by decide) ?_
      refine Ev_iret dX10_elementOf_17 rfl ?_
      refine ⟨?_, rfl⟩
      first
      | (rw [elO_in hj_ (by omega)]; done)
      | (unfold elO; rw [if_neg (by omega)]; done)
    · rw [hi_n (by omega)] at zb7_
      obtain ⟨j, hj_, rfl⟩ : ∃ j : Nat, j < xs.length ∧ i = nI j := ⟨i.toInt.toNat, by omega, Int32.toInt_inj.mp (by rw [hi_n (by omega)]; omega)⟩
      refine Ev_aload_n dX10_elementOf_10 rfl (by first | exact Or.inr ⟨_, rfl⟩ | exact rv_or _ | exact Or.inl rfl) ?_
      refine Ev_iload_n dX10_elementOf_11 rfl ?_
      refine Ev_ialdE j dX10_elementOf_12 hk_ hl_ (hi_n (by omega)) hj_ (hx_ j hj_) ?_
      refine Ev_goto 17 dX10_elementOf_13 (by decide) ?_
      refine Ev_iret dX10_elementOf_17 rfl ?_
      refine ⟨?_, rfl⟩
      first
      | (rw [elO_in hj_ (by omega)]; done)
      | (unfold elO; rw [if_neg (by omega)]; done)
theorem ec_elementIn (l : Launch) (G : aG) (r j : Nat) (v : Int32) (h : aH) (hk_ : hK h r = 13) (hj_ : j < hL h r) (hb_ : hL h r < 100000) (hx_ : hX h r j = v) : Ev l G 0 0 0 mX10_elementOf 0 (en 2 [.ref r, .int (nI j)]) [] h (Ex (some (.int v)) h) := by
  refine Ev_iload_n dX10_elementOf_0 rfl ?_
  refine Ev_if_ltT 16 dX10_elementOf_1 (by decide) (fun zb1_ => ?_) (fun zb1_ => ?_)
  · exact absurd zb1_ (by rw [hi_n (by omega)]; omega)
  · refine Ev_iload_n dX10_elementOf_4 rfl ?_
    refine Ev_aload_n dX10_elementOf_5 rfl (by first | exact Or.inr ⟨_, rfl⟩ | exact rv_or _ | exact Or.inl rfl) ?_
    refine Ev_alen dX10_elementOf_6 hk_ (by omega) (by omega) ?_
    refine Ev_icmp_geN 16 dX10_elementOf_7 (by decide) (by omega) (by omega) (fun zb7_ => ?_) (fun zb7_ => ?_)
    · exact False.elim (by omega)
    · refine Ev_aload_n dX10_elementOf_10 rfl (by first | exact Or.inr ⟨_, rfl⟩ | exact rv_or _ | exact Or.inl rfl) ?_
      refine Ev_iload_n dX10_elementOf_11 rfl ?_
      refine Ev_ialdE j dX10_elementOf_12 hk_ rfl (hi_n (by omega)) hj_ hx_ ?_
      refine Ev_goto 17 dX10_elementOf_13 (by decide) ?_
      refine Ev_iret dX10_elementOf_17 rfl ?_
      exact ⟨rfl, rfl⟩
theorem t8 : (nI 8).toInt = 8 := by decide
def knB (k : Int32) : Bool := decide (0 ≤ k.toInt ∧ k.toInt ≤ 7)
def cnB (j v : Int32) : Bool := decide ((0 ≤ j.toInt ∧ j.toInt ≤ 3) ∧ 0 ≤ v.toInt ∧ v.toInt ≤ 99999)
theorem ec_isKind (l : Launch) (G : aG) (k : Int32) (h : aH) : Ev l G 0 0 0 mX10_isKind 0 (en 1 [.int k]) [] h (Ex (some (.int (bI (knB k)))) h) := by
  refine Ev_iload_n dX10_isKind_0 rfl ?_
  refine Ev_if_ltT 14 dX10_isKind_1 (by decide) (fun zb1_ => ?_) (fun zb1_ => ?_)
  · refine Ev_iconst (v := nI 0) dX10_isKind_14 (by decide) ?_
    refine Ev_zret dX10_isKind_15 rfl (by decide) ?_
    refine ⟨?_, rfl⟩
    unfold knB
    first
    | (rw [decide_eq_true (by omega)]; rfl)
    | (rw [decide_eq_false (by omega)]; rfl)
  · refine Ev_iload_n dX10_isKind_4 rfl ?_
    refine Ev_bipush (v := nI 8) dX10_isKind_5 (by decide) ?_
    refine Ev_icmp_geT 14 dX10_isKind_7 (by decide) (fun zb7_ => ?_) (fun zb7_ => ?_)
    · rw [t8] at zb7_
      refine Ev_iconst (v := nI 0) dX10_isKind_14 (by decide) ?_
      refine Ev_zret dX10_isKind_15 rfl (by decide) ?_
      refine ⟨?_, rfl⟩
      unfold knB
      first
      | (rw [decide_eq_true (by omega)]; rfl)
      | (rw [decide_eq_false (by omega)]; rfl)
    · rw [t8] at zb7_
      refine Ev_iconst (v := nI 1) dX10_isKind_10 (by decide) ?_
      refine Ev_goto 15 dX10_isKind_11 (by decide) ?_
      refine Ev_zret dX10_isKind_15 rfl (by decide) ?_
      refine ⟨?_, rfl⟩
      unfold knB
      first
      | (rw [decide_eq_true (by omega)]; rfl)
      | (rw [decide_eq_false (by omega)]; rfl)
theorem t4_ : (nI 4).toInt = 4 := by decide
theorem ec_canBeNumber (l : Launch) (G : aG) (j v : Int32) (h : aH) : Ev l G 0 0 0 mX10_canBeNumber 0 (en 2 [.int j, .int v]) [] h (Ex (some (.int (bI (cnB j v)))) h) := by
  refine Ev_iload_n dX10_canBeNumber_0 rfl ?_
  refine Ev_if_ltT 24 dX10_canBeNumber_1 (by decide) (fun zb1_ => ?_) (fun zb1_ => ?_)
  · refine Ev_iconst (v := nI 0) dX10_canBeNumber_24 (by decide) ?_
    refine Ev_zret dX10_canBeNumber_25 rfl (by decide) ?_
    refine ⟨?_, rfl⟩
    unfold cnB
    first
    | (rw [decide_eq_true (by omega)]; rfl)
    | (rw [decide_eq_false (by omega)]; rfl)
  · refine Ev_iload_n dX10_canBeNumber_4 rfl ?_
    refine Ev_iconst (v := nI 4) dX10_canBeNumber_5 (by decide) ?_
    refine Ev_icmp_geT 24 dX10_canBeNumber_6 (by decide) (fun zb6_ => ?_) (fun zb6_ => ?_)
    · rw [t4_] at zb6_
      refine Ev_iconst (v := nI 0) dX10_canBeNumber_24 (by decide) ?_
      refine Ev_zret dX10_canBeNumber_25 rfl (by decide) ?_
      refine ⟨?_, rfl⟩
      unfold cnB
      first
      | (rw [decide_eq_true (by omega)]; rfl)
      | (rw [decide_eq_false (by omega)]; rfl)
    · rw [t4_] at zb6_
      refine Ev_iload_n dX10_canBeNumber_9 rfl ?_
      refine Ev_if_ltT 24 dX10_canBeNumber_10 (by decide) (fun zb10_ => ?_) (fun zb10_ => ?_)
      · refine Ev_iconst (v := nI 0) dX10_canBeNumber_24 (by decide) ?_
        refine Ev_zret dX10_canBeNumber_25 rfl (by decide) ?_
        refine ⟨?_, rfl⟩
        unfold cnB
        first
        | (rw [decide_eq_true (by omega)]; rfl)
        | (rw [decide_eq_false (by omega)]; rfl)
      · refine Ev_iload_n dX10_canBeNumber_13 rfl ?_
        refine Ev_ldcw (v := 99999) dX10_canBeNumber_14 cX10_275 ?_
        refine Ev_top (y := .int (nI 99999)) (by decide) ?_
        refine Ev_icmp_gtT 24 dX10_canBeNumber_17 (by decide) (fun zb17_ => ?_) (fun zb17_ => ?_)
        · rw [t99999] at zb17_
          refine Ev_iconst (v := nI 0) dX10_canBeNumber_24 (by decide) ?_
          refine Ev_zret dX10_canBeNumber_25 rfl (by decide) ?_
          refine ⟨?_, rfl⟩
          unfold cnB
          first
          | (rw [decide_eq_true (by omega)]; rfl)
          | (rw [decide_eq_false (by omega)]; rfl)
        · rw [t99999] at zb17_
          refine Ev_iconst (v := nI 1) dX10_canBeNumber_20 (by decide) ?_
          refine Ev_goto 25 dX10_canBeNumber_21 (by decide) ?_
          refine Ev_zret dX10_canBeNumber_25 rfl (by decide) ?_
          refine ⟨?_, rfl⟩
          unfold cnB
          first
          | (rw [decide_eq_true (by omega)]; rfl)
          | (rw [decide_eq_false (by omega)]; rfl)
