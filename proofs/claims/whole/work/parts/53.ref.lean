theorem RPr.int {bs : List Int32} {at_ : Nat} {its : List It} {wn : Bool} {h : aH} {v : Int32} (r : RPr bs at_ its wn h) : RPr bs at_ its wn (sI h 783 MO v) :=
  ⟨r.1.fp (FPr.int (by decide)), r.2.1, (hI_o _ _ (by decide)).trans r.2.2.1, (hI_o _ _ (by decide)).trans r.2.2.2.1, (hI_o _ _ (by decide)).trans r.2.2.2.2.1, r.2.2.2.2.2.1, r.2.2.2.2.2.2⟩
theorem sgF_pos {bs : List Int32} {a n w : Nat} {it : It} {wn wn' : Bool} (e : sgF bs a n wn = .inr (it, w, wn')) : 0 < w := by
  unfold sgF at e
  cases hm : mark bs a with
  | none => rw [hm] at e; cases e
  | some q =>
    rw [hm] at e
    obtain ⟨it2, w2⟩ := q
    have h1 := (mark_len hm).2
    simp only at e
    split at e
    · cases e
    · split at e
      · cases e
      · cases e; exact h1
theorem ev_readRule_l (l : Launch) (G : aG) (bs : List Int32) (h : aH) (rf : Rf h) (n : Nat) : ∀ a, bs.length - a < n → ∀ its wn h1, RPr bs a its wn h1 → FPr h h1 → ∀ v1_ v2_ : Value, Ev l G 2 0 0 mX11_readRule 15 [.ref MO, v1_, v2_] [] h1 (fun x h' => (∃ f pl, prs bs n a its wn = .inl (f, pl) ∧ 0 < f ∧ f ≤ 5 ∧ pl ≤ 120 ∧ x = some (.int (nI f)) ∧ hI h' 783 MO = nI pl ∧ FPr h h' ∧ RTp bs h') ∨ (∃ its', prs bs n a its wn = .inr its' ∧ x = some (.int (nI 0)) ∧ FPr h h' ∧ RPr bs bs.length its' false h')) := by
  induction n with
  | zero => intro a ha; omega
  | succ n ih_ =>
    intro a ha its wn h1 pr_ fh_ v1_ v2_
    have rf1_ := rf.fr fh_.1
    have b120_ := pr_.1.1
    have al_ := pr_.2.1
    have l20_ := pr_.2.2.2.2.2.1
    refine Ev_aload_n dX11_readRule_15 rfl (by first | exact Or.inr ⟨_, rfl⟩ | exact rv_or _ | exact Or.inl rfl) ?_
    refine Ev_getE dX11_readRule_16 fX11_173 rf1_.1 pr_.2.2.1 ?_
    refine Ev_aload_n dX11_readRule_19 rfl (by first | exact Or.inr ⟨_, rfl⟩ | exact rv_or _ | exact Or.inl rfl) ?_
    refine Ev_getE dX11_readRule_20 fX11_134 rf1_.1 pr_.1.2.1 ?_
    refine Ev_icmp_geN 190 dX11_readRule_23 (by decide) (by omega) (by omega) (fun zb23_ => ?_) (fun zb23_ => ?_)
    · refine Ev_aload_n dX11_readRule_190 rfl (by first | exact Or.inr ⟨_, rfl⟩ | exact rv_or _ | exact Or.inl rfl) ?_
      refine Ev_aload_n dX11_readRule_191 rfl (by first | exact Or.inr ⟨_, rfl⟩ | exact rv_or _ | exact Or.inl rfl) ?_
      refine Ev_getE dX11_readRule_192 fX11_134 rf1_.1 pr_.1.2.1 ?_
      refine Ev_putI dX11_readRule_195 fX11_50 ⟨_, rfl, Or.inl rfl⟩ (Or.inl rfl) rf1_.1 ?_
      refine Ev_aload_n dX11_readRule_198 rfl (by first | exact Or.inr ⟨_, rfl⟩ | exact rv_or _ | exact Or.inl rfl) ?_
      refine Ev_getE dX11_readRule_199 fX11_183 rf1_.1 pr_.int.2.2.2.2.1 ?_
      refine Ev_if_eqB 209 dX11_readRule_202 (by decide) (fun zb202_ => ?_) (fun zb202_ => ?_)
      · refine Ev_iconst (v := nI 0) dX11_readRule_209 (by decide) ?_
        refine Ev_iret dX11_readRule_210 rfl ?_
        first
        | (refine Or.inl ⟨4, bs.length, by rw [prs_end (by omega), if_pos zb202_], by omega, by omega, b120_, rfl, hI_s _ _ _ _, fh_.tr (FPr.int (by decide)), pr_.1.fp (FPr.int (by decide))⟩; done)
        | (subst zb202_; have ea_ : a = bs.length := (by omega); subst ea_; exact Or.inr ⟨its, by rw [prs_end (by omega), if_neg (by decide)], rfl, fh_.tr (FPr.int (by decide)), pr_.int⟩)
      · refine Ev_iconst (v := nI 4) dX11_readRule_205 (by decide) ?_
        refine Ev_goto 210 dX11_readRule_206 (by decide) ?_
        refine Ev_iret dX11_readRule_210 rfl ?_
        first
        | (refine Or.inl ⟨4, bs.length, by rw [prs_end (by omega), if_pos zb202_], by omega, by omega, b120_, rfl, hI_s _ _ _ _, fh_.tr (FPr.int (by decide)), pr_.1.fp (FPr.int (by decide))⟩; done)
        | (subst zb202_; have ea_ : a = bs.length := (by omega); subst ea_; exact Or.inr ⟨its, by rw [prs_end (by omega), if_neg (by decide)], rfl, fh_.tr (FPr.int (by decide)), pr_.int⟩)
    · refine Ev_aload_n dX11_readRule_26 rfl (by first | exact Or.inr ⟨_, rfl⟩ | exact rv_or _ | exact Or.inl rfl) ?_
      refine Ev_aload_n dX11_readRule_27 rfl (by first | exact Or.inr ⟨_, rfl⟩ | exact rv_or _ | exact Or.inl rfl) ?_
      refine Ev_getE dX11_readRule_28 fX11_173 rf1_.1 pr_.2.2.1 ?_
      refine Ev_putI dX11_readRule_31 fX11_50 ⟨_, rfl, Or.inl rfl⟩ (Or.inl rfl) rf1_.1 ?_
      refine Ev_aload_n dX11_readRule_34 rfl (by first | exact Or.inr ⟨_, rfl⟩ | exact rv_or _ | exact Or.inl rfl) ?_
      refine Ev_getA dX11_readRule_35 fX11_53 rf1_.1 (rr_tape rf1_) ?_
      refine Ev_aload_n dX11_readRule_38 rfl (by first | exact Or.inr ⟨_, rfl⟩ | exact rv_or _ | exact Or.inl rfl) ?_
      refine Ev_getE dX11_readRule_39 fX11_173 rf1_.1 pr_.int.2.2.1 ?_
      refine Ev_ialdL _ dX11_readRule_42 (rk_tape rf1_) (rl_tape rf1_) (hi_n (by omega)) (by omega) ?_
      refine Ev_bipush (v := nI 60) dX11_readRule_43 (by decide) ?_
      refine Ev_icmp_neT 59 dX11_readRule_45 (by decide) (fun zb45_ => ?_) (fun zb45_ => ?_)
      · rw [show hX (sI h1 783 MO (nI a)) 41 a = hX h1 41 a from rfl, pr_.1.svE (by omega), t60] at zb45_
        refine Ev_aload_n dX11_readRule_59 rfl (by first | exact Or.inr ⟨_, rfl⟩ | exact rv_or _ | exact Or.inl rfl) ?_
        refine Ev_getE dX11_readRule_60 fX11_173 rf1_.1 pr_.int.2.2.1 ?_
        refine Ev_istore_n dX11_readRule_63 (by decide) ?_
        refine Ev_aload_n dX11_readRule_64 rfl (by first | exact Or.inr ⟨_, rfl⟩ | exact rv_or _ | exact Or.inl rfl) ?_
        refine Ev_getA dX11_readRule_65 fX11_53 rf1_.1 (rr_tape rf1_) ?_
        refine Ev_aload_n dX11_readRule_68 rfl (by first | exact Or.inr ⟨_, rfl⟩ | exact rv_or _ | exact Or.inl rfl) ?_
        refine Ev_getE dX11_readRule_69 fX11_173 rf1_.1 pr_.int.2.2.1 ?_
        refine Ev_ialdL _ dX11_readRule_72 (rk_tape rf1_) (rl_tape rf1_) (hi_n (by omega)) (by omega) ?_
        refine Ev_bipush (v := nI 32) dX11_readRule_73 (by decide) ?_
        refine Ev_bipush (v := nI 126) dX11_readRule_75 (by decide) ?_
        refine Ev_S0 [.int (hX h1 41 a), .int (nI 32), .int (nI 126)] dX11_readRule_77 sX11_isIn kX11_130 rfl rfl rfl (Nat.le_of_ble_eq_true rfl) (by omega) (ev_isIn l G _ _ _ _) ?_
        refine Ev_if_neB 85 dX11_readRule_80 (by decide) (fun zb80_ => ?_) (fun zb80_ => ?_)
        · have zd_ := inB_t t32 t126 zb80_
          rw [pr_.1.svE (by omega)] at zd_
          refine Ev_aload_n dX11_readRule_85 rfl (by first | exact Or.inr ⟨_, rfl⟩ | exact rv_or _ | exact Or.inl rfl) ?_
          refine Ev_iconst (v := nI 0) dX11_readRule_86 (by decide) ?_
          refine Ev_iload_n dX11_readRule_87 rfl ?_
          refine Ev_iconst (v := nI 0) dX11_readRule_88 (by decide) ?_
          refine Ev_Vz [.int (nI 0), .int (nI a), .int (nI 0)] dX11_readRule_89 vX11_put kX11_179 rf1_.1 rfl rfl rfl (Nat.le_of_ble_eq_true rfl) (by omega) (ev_put l G _ _ _ its.length pr_.2.2.2.2.2.1 (sI h1 783 MO (nI a)) rf1_ pr_.int.2.2.2.1) (fun v_ h2 e_ => ?_)
          obtain ⟨hn_, rfl, rfl⟩ | ⟨hn_, rfl, pf_⟩ := e_
          · refine Ev_istore_n dX11_readRule_92 (by decide) ?_
            refine Ev_iload_n dX11_readRule_93 rfl ?_
            refine Ev_if_eqT 99 dX11_readRule_94 (by decide) (fun z_ => absurd z_ (by decide)) (fun _ => ?_)
            refine Ev_iload_n dX11_readRule_97 rfl ?_
            refine Ev_iret dX11_readRule_98 rfl ?_
            exact Or.inl ⟨5, a, by rw [prs_w (by omega) zb45_ zd_, if_pos hn_], by omega, by omega, by omega, rfl, hI_s _ _ _ _, fh_.tr (FPr.int (by decide)), pr_.1.fp (FPr.int (by decide))⟩
          · refine Ev_istore_n dX11_readRule_92 (by decide) ?_
            refine Ev_iload_n dX11_readRule_93 rfl ?_
            refine Ev_if_eqT 99 dX11_readRule_94 (by decide) (fun _ => ?_) (fun z_ => absurd t0 z_)
            have fa_ := (fh_.tr (FPr.int (k := 783) (v := nI a) (by decide))).tr pf_.1
            have wd0_ : WdI bs a a its wn h h2 := ⟨fa_, pr_.1.fp ((FPr.int (by decide)).tr pf_.1), pf_.2.1.trans pr_.int.2.2.1, pf_.2.2.2.2.1, pf_.2.2.1.trans pr_.int.2.2.2.2.1, pf_.2.2.2.2.2.1, pf_.2.2.2.2.2.2.1, fun i q hq => by
              obtain ⟨a1, on, tw, a2, a3, a4, a5⟩ := pr_.2.2.2.2.2.2 i q hq
              have hi := (List.getElem?_eq_some_iff.mp hq).1
              have h1_ := pf_.2.2.2.2.2.2.2.2 (160 + i) (by omega)
              exact ⟨a1, on, tw, h1_.1.trans a2, h1_.2.1.trans a3, h1_.2.2.trans a4, a5⟩⟩
            refine ev_readRule_w l G bs a its wn h rf _ (gdB_iff.mpr ⟨by omega, by omega, by omega, zb45_⟩) (fun e h3 ee_ e1_ e2_ e3_ wd_ => ?_) (fun e h3 ee_ e1_ e2_ wd_ ep_ => ?_) 122 a (by omega) (by omega) (by omega) h2 wd0_ (fun j q1 q2 => by omega)
            · have rf3_ := rf.fr wd_.1.1
              refine Ev_aload_n dX11_readRule_166 rfl (by first | exact Or.inr ⟨_, rfl⟩ | exact rv_or _ | exact Or.inl rfl) ?_
              refine Ev_getA dX11_readRule_167 fX11_40 rf3_.1 (rr_two rf3_) ?_
              refine Ev_sipush (v := nI 160) dX11_readRule_170 (by decide) ?_
              refine Ev_aload_n dX11_readRule_173 rfl (by first | exact Or.inr ⟨_, rfl⟩ | exact rv_or _ | exact Or.inl rfl) ?_
              refine Ev_getE dX11_readRule_174 fX11_170 rf3_.1 wd_.2.2.2.1 ?_
              refine Ev_iaddN dX11_readRule_177 ?_
              refine Ev_iconst (v := nI 1) dX11_readRule_178 (by decide) ?_
              refine Ev_isubN dX11_readRule_179 (by omega) ?_
              refine Ev_aload_n dX11_readRule_180 rfl (by first | exact Or.inr ⟨_, rfl⟩ | exact rv_or _ | exact Or.inl rfl) ?_
              refine Ev_getE dX11_readRule_181 fX11_173 rf3_.1 wd_.2.2.1 ?_
              refine Ev_iload_n dX11_readRule_184 rfl ?_
              refine Ev_isubN dX11_readRule_185 (by omega) ?_
              refine Ev_iastL _ dX11_readRule_186 (rk_two rf3_) (rl_two rf3_) (hi_n (by omega)) (by omega) ?_
              refine Ev_goto 15 dX11_readRule_187 (by decide) ?_
              rw [prs_w (by omega) zb45_ zd_, if_neg (by omega), ee_, if_neg e3_]
              exact ih_ e (by omega) _ _ _ (wd_.fin e1_ e2_ hn_) (wd_.1.tr (FPr.row (by decide) (by omega))) _ _
            · exact Or.inl ⟨1, e, by rw [prs_w (by omega) zb45_ zd_, if_neg (by omega), ee_, if_pos ⟨e1_, e2_⟩], by omega, by omega, by omega, rfl, ep_, wd_.1, wd_.2.1⟩
        · have zd_ := inB_f t32 t126 zb80_
          rw [pr_.1.svE (by omega)] at zd_
          refine Ev_iconst (v := nI 1) dX11_readRule_83 (by decide) ?_
          refine Ev_iret dX11_readRule_84 rfl ?_
          exact Or.inl ⟨1, a, prs_bad (by omega) zb45_ zd_, by omega, by omega, by omega, rfl, hI_s _ _ _ _, fh_.tr (FPr.int (by decide)), pr_.1.fp (FPr.int (by decide))⟩
      · rw [show hX (sI h1 783 MO (nI a)) 41 a = hX h1 41 a from rfl, pr_.1.svE (by omega), t60] at zb45_
        refine Ev_aload_n dX11_readRule_48 rfl (by first | exact Or.inr ⟨_, rfl⟩ | exact rv_or _ | exact Or.inl rfl) ?_
        refine Ev_Vz [] dX11_readRule_49 vX11_sign kX11_187 rf1_.1 rfl rfl rfl (Nat.le_of_ble_eq_true rfl) (by omega) (ev_sign l G bs a its wn (sI h1 783 MO (nI a)) rf1_ pr_.int (by omega) (Int32.toInt_inj.mp (by rw [← sv_at (by omega)]; exact zb45_))) (fun v_ h2 e_ => ?_)
        obtain ⟨f, f0_, f5_, sg_, rfl, fp_, ep_, rt_⟩ | ⟨it, w_, wn', sg_, rfl, fp_, r2_⟩ := e_
        · refine Ev_istore_n dX11_readRule_52 (by decide) ?_
          refine Ev_iload_n dX11_readRule_53 rfl ?_
          refine Ev_if_eqT 15 dX11_readRule_54 (by decide) (fun z_ => absurd z_ (by rw [hi_n (by omega)]; omega)) (fun _ => ?_)
          refine Ev_iload_n dX11_readRule_57 rfl ?_
          refine Ev_iret dX11_readRule_58 rfl ?_
          exact Or.inl ⟨f, a, prs_sgF (by omega) zb45_ sg_, f0_, f5_, by omega, rfl, ep_.trans (hI_s _ _ _ _), (fh_.tr (FPr.int (by decide))).tr fp_, rt_⟩
        · refine Ev_istore_n dX11_readRule_52 (by decide) ?_
          refine Ev_iload_n dX11_readRule_53 rfl ?_
          refine Ev_if_eqT 15 dX11_readRule_54 (by decide) (fun _ => ?_) (fun z_ => absurd t0 z_)
          have ml_ := r2_.2.1
          have mw_ : 0 < w_ := sgF_pos sg_
          rw [prs_sgO (by omega) zb45_ sg_]
          exact ih_ (a + w_) (by omega) _ _ h2 r2_ ((fh_.tr (FPr.int (by decide))).tr fp_) _ _
theorem ev_readRule (l : Launch) (G : aG) (bs : List Int32) (h : aH) (rf : Rf h) (rt_ : RTp bs h) : Ev l G 2 0 0 mX11_readRule 0 (en 3 [.ref MO]) [] h (fun x h' => (∃ f pl, rdF bs = .inl (f, pl) ∧ 0 < f ∧ f ≤ 5 ∧ pl ≤ 120 ∧ x = some (.int (nI f)) ∧ hI h' 783 MO = nI pl ∧ FPr h h' ∧ RTp bs h') ∨ (∃ its', rdF bs = .inr its' ∧ x = some (.int (nI 0)) ∧ FPr h h' ∧ RPr bs bs.length its' false h')) := by
  have b120_ := rt_.1
  refine Ev_aload_n dX11_readRule_0 rfl (by first | exact Or.inr ⟨_, rfl⟩ | exact rv_or _ | exact Or.inl rfl) ?_
  refine Ev_iconst (v := nI 0) dX11_readRule_1 (by decide) ?_
  refine Ev_putI dX11_readRule_2 fX11_173 ⟨_, rfl, Or.inl rfl⟩ (Or.inl rfl) rf.1 ?_
  refine Ev_aload_n dX11_readRule_5 rfl (by first | exact Or.inr ⟨_, rfl⟩ | exact rv_or _ | exact Or.inl rfl) ?_
  refine Ev_iconst (v := nI 0) dX11_readRule_6 (by decide) ?_
  refine Ev_putI dX11_readRule_7 fX11_170 ⟨_, rfl, Or.inl rfl⟩ (Or.inl rfl) rf.1 ?_
  refine Ev_aload_n dX11_readRule_10 rfl (by first | exact Or.inr ⟨_, rfl⟩ | exact rv_or _ | exact Or.inl rfl) ?_
  refine Ev_iconst (v := nI 0) dX11_readRule_11 (by decide) ?_
  refine Ev_putI dX11_readRule_12 fX11_183 ⟨_, rfl, Or.inl rfl⟩ (Or.inr ⟨rfl, (by decide)⟩) rf.1 ?_
  exact ev_readRule_l l G bs h rf 121 0 (by omega) [] false _ ⟨rt_.fp (((FPr.int (by decide)).tr (FPr.int (by decide))).tr (FPr.int (by decide))), by omega, (hI_o _ _ (by decide)).trans ((hI_o _ _ (by decide)).trans (hI_s _ _ _ _)), (hI_o _ _ (by decide)).trans (hI_s _ _ _ _), hI_s _ _ _ _, by simp, fun i q hq => by simp at hq⟩ (((FPr.int (by decide)).tr (FPr.int (by decide))).tr (FPr.int (by decide))) _ _
