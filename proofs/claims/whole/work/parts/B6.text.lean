theorem ec_use62F (l : Launch) (G : aG) (d th cn i r T : Nat) (v2_ v3_ v5_ v7_ : Value) (h : aH) (cf : Cf h) (hT : T = 18 ∨ T = 21) (kr_ : hK h r = 7) (cn_ : hI h 452 r = nI cn) (h20_ : cn ≤ 20) (hi_ : i ≤ 100) (tg_ : hR h 258 24 = some T) (fu_ : hI h 580 T = nI 1) : Ev l G d 0 0 mX3_makeUse 62 [.ref 24, .ref th, v2_, v3_, .ref r, v5_, .int (nI i), v7_] [] h (Ex none h) := by
  have k24_ := ck_24 cf
  have kT_ := (tx_f cf hT).1
  refine Ev_iload dX3_makeUse_62 rfl ?_
  refine Ev_aload dX3_makeUse_64 rfl (by first | exact Or.inr ⟨_, rfl⟩ | exact rv_or _ | exact Or.inl rfl) ?_
  refine Ev_getE dX3_makeUse_66 fX3_63 kr_ cn_ ?_
  refine Ev_icmp_geN 196 dX3_makeUse_69 (by decide) (by omega) (by omega) (fun zb69_ => ?_) (fun zb69_ => ?_)
  · refine Ev_vret dX3_makeUse_196 rfl ?_
    exact ⟨rfl, rfl⟩
  · refine Ev_aload_n dX3_makeUse_72 rfl (by first | exact Or.inr ⟨_, rfl⟩ | exact rv_or _ | exact Or.inl rfl) ?_
    refine Ev_getA dX3_makeUse_73 fX3_19 k24_ tg_ ?_
    refine Ev_getE dX3_makeUse_76 fX3_44 kT_ fu_ ?_
    refine Ev_if_neT 196 dX3_makeUse_79 (by decide) (fun zb79_ => ?_) (fun zb79_ => ?_)
    · refine Ev_vret dX3_makeUse_196 rfl ?_
      exact ⟨rfl, rfl⟩
    · exact absurd zb79_ (by decide)
theorem ec_use_l (l : Launch) (G : aG) (n : Nat) (m : Md) (ru : Nat → List It) (T : Nat) (mk : MOk m) (hcm : mCm m ≤ 600) (hT : T = 18 ∨ T = 21) (hP : PartsC l G m ru T n) (an wy : List Nat) (c : Nat) (hn_ : n + an.length = 5) (hw_ : wy.length = an.length) (hw2_ : ∀ x ∈ wy, x < 20) (ha_ : ∀ x ∈ an, x < 600) (hc_ : mLive m c) (dp_ : mDp m c = an.length + 1) (r : Nat) : ∀ (rest : List It) (i : Nat) (sk : Bool), (ru (mKd m c)).drop i = rest → i ≤ 1000 → ∀ (u : Nat) (ps : List Pc) (g : Gh) (h : aH) (v7_ : Value), WBd g m ru h → hR h 258 24 = some T → CBt g T u ps h → RuO (wO g) (ru (mKd m c)) r h → Ev l G (2 * n + 6) (cst (fdE (mkI m (fun i kd => kcE m ru n an wy c i kd (mCh m (some c))) an wy c i sk rest) (u, ps)) ps.length) (9 * cst (fdE (mkI m (fun i kd => kcE m ru n an wy c i kd (mCh m (some c))) an wy c i sk rest) (u, ps)) ps.length) mX3_makeUse 62 [.ref 24, .ref (wA g c), .int (nI (wyE wy)), .int (nI (an.length + 1)), .ref r, .int (bI sk), .int (nI i), v7_] [] h (FlP g T h (fdE (mkI m (fun i kd => kcE m ru n an wy c i kd (mCh m (some c))) an wy c i sk rest) (u, ps))) := by
  intro rest
  induction rest with
  | nil =>
    intro i sk hd_ h1000_ u ps g h v7_ w tg_ b ro
    have hk_ := List.drop_eq_nil_iff.mp hd_
    obtain ⟨n63_, cf, wf, cm, cr⟩ := id w
    obtain ⟨⟨kr_, or_, l20_, cnr_⟩, bs, b_, s_, f_, e_, ⟨b1_, b2_, b3_, b4_⟩, b5_, b6_, b7_, b8_⟩ := id ro
    have k24_ := ck_24 cf
    have kT_ := (tx_f cf hT).1
    have t1_ := cm.1 c (mk.lt hc_)
    have fu_ := b.2.2.1
    refine Ev_iload dX3_makeUse_62 rfl ?_
    refine Ev_aload dX3_makeUse_64 rfl (by first | exact Or.inr ⟨_, rfl⟩ | exact rv_or _ | exact Or.inl rfl) ?_
    refine Ev_getE dX3_makeUse_66 fX3_63 kr_ cnr_ ?_
    refine Ev_icmp_geN 196 dX3_makeUse_69 (by decide) (by omega) (by omega) (fun zb69_ => ?_) (fun zb69_ => ?_)
    · refine Ev_vret dX3_makeUse_196 rfl ?_
      exact ⟨rfl, wO g, FlF.rf, b⟩
    · exact False.elim (by omega)
  | cons it rest ih_ =>
    intro i sk hd_ h1000_ u ps g h v7_ w tg_ b ro
    refine Ev_hv (fun hv => ?_)
    have hit_ : (ru (mKd m c))[i]? = some it := by
      have e := congrArg (fun q => q[0]?) hd_
      simpa using e
    have dr_ : (ru (mKd m c)).drop (i + 1) = rest := by
      rw [← List.drop_drop, hd_]; rfl
    have hil_ := (List.getElem?_eq_some_iff.mp hit_).1
    obtain ⟨n63_, cf, wf, cm, cr⟩ := id w
    obtain ⟨⟨kr_, or_, l20_, cnr_⟩, bs, b_, s_, f_, e_, ⟨b1_, b2_, b3_, b4_⟩, b5_, b6_, b7_, b8_⟩ := id ro
    have k24_ := ck_24 cf
    have kT_ := (tx_f cf hT).1
    have t1_ := cm.1 c (mk.lt hc_)
    have fu_ := b.2.2.1
    obtain ⟨ok_, on, tw, x1_, x2_, x3_, ir_⟩ := b8_ i it hit_
    have ok7_ := ok_.1
    have nx_ : ∀ mid h1, FlP g T h mid none h1 → Ev l G (2 * n + 6) (rst mid (mkI m (fun i kd => kcE m ru n an wy c i kd (mCh m (some c))) an wy c (i + 1) false rest)) (9 * rst mid (mkI m (fun i kd => kcE m ru n an wy c i kd (mCh m (some c))) an wy c (i + 1) false rest)) mX3_makeUse 190 [.ref 24, .ref (wA g c), .int (nI (wyE wy)), .int (nI (an.length + 1)), .ref r, .int (bI false), .int (nI i), .int (nI it.1)] [] h1 (FlP g T h (bdE mid (mkI m (fun i kd => kcE m ru n an wy c i kd (mCh m (some c))) an wy c (i + 1) false rest))) := by
      intro mid h1 e
      obtain ⟨-, o1, f1, c1⟩ := e
      have w1 := f1.wb w hv hT
      have tg1 : hR h1 258 24 = some T := (f1.2.2 _ _ (by decide)).trans tg_
      have ro1 := ro.fo f1.2.1 hv f1.1 (SOp.no (by decide) (by decide) (by decide))
      refine Ev_iincN 1 dX3_makeUse_190 (by decide) (by decide) rfl ?_
      refine Ev_goto 62 dX3_makeUse_193 (by decide) ?_
      cases mid with
      | none => exact Ev.lift (Nat.le_refl _) (by omega) (by omega) (Ev.ex (ec_use62F l G (2 * n + 6) (wA g c) (ru (mKd m c)).length (i + 1) r T _ _ _ _ h1 w1.2.1 hT ro1.1.1 ro1.1.2.2.2 l20_ (by omega) tg1 c1.2) ⟨rfl, o1, f1, c1⟩)
      | some b1 => exact Ev.post (fun v h2 e2 => FlP.of f1 e2) (ih_ (i + 1) false dr_ (by omega) b1.1 b1.2 (gw g o1) h1 _ w1 tg1 c1 ro1)
    refine Ev_iload dX3_makeUse_62 rfl ?_
    refine Ev_aload dX3_makeUse_64 rfl (by first | exact Or.inr ⟨_, rfl⟩ | exact rv_or _ | exact Or.inl rfl) ?_
    refine Ev_getE dX3_makeUse_66 fX3_63 kr_ cnr_ ?_
    refine Ev_icmp_geN 196 dX3_makeUse_69 (by decide) (by omega) (by omega) (fun zb69_ => ?_) (fun zb69_ => ?_)
    · exact False.elim (by omega)
    · refine Ev_aload_n dX3_makeUse_72 rfl (by first | exact Or.inr ⟨_, rfl⟩ | exact rv_or _ | exact Or.inl rfl) ?_
      refine Ev_getA dX3_makeUse_73 fX3_19 k24_ tg_ ?_
      refine Ev_getE dX3_makeUse_76 fX3_44 kT_ fu_ ?_
      refine Ev_if_neT 196 dX3_makeUse_79 (by decide) (fun zb79_ => ?_) (fun zb79_ => ?_)
      · exact absurd zb79_ (by decide)
      · refine Ev_aload dX3_makeUse_82 rfl (by first | exact Or.inr ⟨_, rfl⟩ | exact rv_or _ | exact Or.inl rfl) ?_
        refine Ev_getA dX3_makeUse_84 fX3_68 kr_ b2_ ?_
        refine Ev_iload dX3_makeUse_87 rfl ?_
        refine Ev_ialdE i dX3_makeUse_89 (b6_ s_ (by simp)).1 rfl (hi_n (by omega)) (by have := (b6_ s_ (by simp)).2.2; omega) x1_ ?_
        refine Ev_istore dX3_makeUse_90 (by decide) ?_
        refine Ev_iload dX3_makeUse_92 rfl ?_
        refine Ev_bipush (v := nI 6) dX3_makeUse_94 (by decide) ?_
        refine Ev_icmp_neN 127 dX3_makeUse_96 (by decide) (by omega) (by omega) (fun zb96_ => ?_) (fun zb96_ => ?_)
        · refine Ev_iload dX3_makeUse_127 rfl ?_
          refine Ev_bipush (v := nI 7) dX3_makeUse_129 (by decide) ?_
          refine Ev_icmp_neN 140 dX3_makeUse_131 (by decide) (by omega) (by omega) (fun zb131_ => ?_) (fun zb131_ => ?_)
          · refine Ev_iload dX3_makeUse_140 rfl ?_
            refine Ev_if_neB 175 dX3_makeUse_142 (by decide) (fun zb142_ => ?_) (fun zb142_ => ?_)
            · skip
              refine Ev_iload dX3_makeUse_175 rfl ?_
              refine Ev_if_neB 190 dX3_makeUse_177 (by decide) (fun zb177_ => ?_) (fun zb177_ => ?_)
              · have em_ : mkI m (fun i kd => kcE m ru n an wy c i kd (mCh m (some c))) an wy c i sk (it :: rest) = mkI m (fun i kd => kcE m ru n an wy c i kd (mCh m (some c))) an wy c (i + 1) sk rest := by
                  show (if it.1 = 6 then _ else _) = _
                  rw [if_neg (by omega), if_neg (by omega), if_pos zb142_]
                rw [em_]
                refine Ev_iincN 1 dX3_makeUse_190 (by decide) (by decide) rfl ?_
                refine Ev_goto 62 dX3_makeUse_193 (by decide) ?_
                exact ih_ (i + 1) sk dr_ (by omega) u ps g h _ w tg_ b ro
              · rw [zb142_] at zb177_
                cases zb177_
            · refine Ev_iload dX3_makeUse_145 rfl ?_
              refine Ev_iconst (v := nI 5) dX3_makeUse_147 (by decide) ?_
              refine Ev_icmp_neN 175 dX3_makeUse_148 (by decide) (by omega) (by omega) (fun zb148_ => ?_) (fun zb148_ => ?_)
              · skip
                refine Ev_iload dX3_makeUse_175 rfl ?_
                refine Ev_if_neB 190 dX3_makeUse_177 (by decide) (fun zb177_ => ?_) (fun zb177_ => ?_)
                · rw [zb142_] at zb177_
                  cases zb177_
                · refine Ev_aload_n dX3_makeUse_180 rfl (by first | exact Or.inr ⟨_, rfl⟩ | exact rv_or _ | exact Or.inl rfl) ?_
                  refine Ev_aload_n dX3_makeUse_181 rfl (by first | exact Or.inr ⟨_, rfl⟩ | exact rv_or _ | exact Or.inl rfl) ?_
                  refine Ev_aload dX3_makeUse_182 rfl (by first | exact Or.inr ⟨_, rfl⟩ | exact rv_or _ | exact Or.inl rfl) ?_
                  refine Ev_iload dX3_makeUse_184 rfl ?_
                  refine Ev_iload_n dX3_makeUse_186 rfl ?_
                  have em_ : fdE (mkI m (fun i kd => kcE m ru n an wy c i kd (mCh m (some c))) an wy c i sk (it :: rest)) (u, ps) = bdE (stE (u, ps) (some (mkP m an wy c i it))) (mkI m (fun i kd => kcE m ru n an wy c i kd (mCh m (some c))) an wy c (i + 1) false rest) := by
                    rw [← bdE_c]
                    show fdE (if it.1 = 6 then _ else _) _ = _
                    rw [if_neg (by omega), if_neg (by omega), if_neg (by rw [zb142_]; decide), if_neg zb148_, zb142_]
                  have ca_ := cst_bd (fs := mkI m (fun i kd => kcE m ru n an wy c i kd (mCh m (some c))) an wy c (i + 1) false rest) (n := ps.length) (mid := stE (u, ps) (some (mkP m an wy c i it))) (fun b1 h1 => stE_len h1 b.1.2.1)
                  rw [← em_] at ca_
                  have s4_ : it.1 ≤ 4 := by have := ok_.1; omega
                  refine Ev_Vg (mc2 := rst (stE (u, ps) (some (mkP m an wy c i it))) (mkI m (fun i kd => kcE m ru n an wy c i kd (mCh m (some c))) an wy c (i + 1) false rest)) (ms2 := 9 * rst (stE (u, ps) (some (mkP m an wy c i it))) (mkI m (fun i kd => kcE m ru n an wy c i kd (mCh m (some c))) an wy c (i + 1) false rest)) [.ref (wA g c), .ref r, .int (nI i), .int (nI (wyE wy))] dX3_makeUse_187 vX3_makePiece kX3_85 k24_ rfl rfl rfl (Nat.le_of_ble_eq_true rfl) (by omega) (by omega) (by omega) (ec_makePiece l G an wy c i r it (ru (mKd m c)) u ps g m ru T h w mk hT tg_ b hc_ ro hit_ s4_ (mkP_C mk hcm hc_ ok_ s4_ (by omega) (by omega) hw_ hw2_ ha_)) (fun v_ h1 e_ => ?_)
                  obtain ⟨rfl, e2_⟩ := e_
                  rw [em_]
                  subst zb142_
                  exact nx_ _ h1 ⟨rfl, e2_⟩
              · have on_ := (ir_.2 (by omega)).1
                subst on_
                refine Ev_aload_n dX3_makeUse_151 rfl (by first | exact Or.inr ⟨_, rfl⟩ | exact rv_or _ | exact Or.inl rfl) ?_
                refine Ev_aload_n dX3_makeUse_152 rfl (by first | exact Or.inr ⟨_, rfl⟩ | exact rv_or _ | exact Or.inl rfl) ?_
                refine Ev_aload dX3_makeUse_153 rfl (by first | exact Or.inr ⟨_, rfl⟩ | exact rv_or _ | exact Or.inl rfl) ?_
                refine Ev_getA dX3_makeUse_155 fX3_74 kr_ b3_ ?_
                refine Ev_iload dX3_makeUse_158 rfl ?_
                refine Ev_ialdE i dX3_makeUse_160 (b6_ f_ (by simp)).1 rfl (hi_n (by omega)) (by have := (b6_ f_ (by simp)).2.2; omega) x2_ ?_
                refine Ev_iload_n dX3_makeUse_161 rfl ?_
                refine Ev_bipush (v := nI 32) dX3_makeUse_162 (by decide) ?_
                refine Ev_imulN dX3_makeUse_164 ?_
                refine Ev_iload dX3_makeUse_165 rfl ?_
                refine Ev_iaddN dX3_makeUse_167 ?_
                refine Ev_iload_n dX3_makeUse_168 rfl ?_
                have em_ : fdE (mkI m (fun i kd => kcE m ru n an wy c i kd (mCh m (some c))) an wy c i sk (it :: rest)) (u, ps) = bdE (fdE (kcE m ru n an wy c i it.2.1 (mCh m (some c))) (u, ps)) (mkI m (fun i kd => kcE m ru n an wy c i kd (mCh m (some c))) an wy c (i + 1) false rest) := by
                  rw [← bdE_app]
                  show fdE (if it.1 = 6 then _ else _) _ = _
                  rw [if_neg (by omega), if_neg (by omega), if_neg (by rw [zb142_]; decide), if_pos zb148_, zb142_]
                have ca_ := cst_bd (fs := mkI m (fun i kd => kcE m ru n an wy c i kd (mCh m (some c))) an wy c (i + 1) false rest) (n := ps.length) (mid := fdE (kcE m ru n an wy c i it.2.1 (mCh m (some c))) (u, ps)) (fun b1 h1 => fdE_len h1 b.1.2.1)
                rw [← em_] at ca_
                refine Ev_Vg (mc2 := rst (fdE (kcE m ru n an wy c i it.2.1 (mCh m (some c))) (u, ps)) (mkI m (fun i kd => kcE m ru n an wy c i kd (mCh m (some c))) an wy c (i + 1) false rest)) (ms2 := 9 * rst (fdE (kcE m ru n an wy c i it.2.1 (mCh m (some c))) (u, ps)) (mkI m (fun i kd => kcE m ru n an wy c i kd (mCh m (some c))) an wy c (i + 1) false rest)) [.ref (wA g c), .int (nI it.2.1), .int (nI (wyE wy * 32 + i)), .int (nI (an.length + 1))] dX3_makeUse_169 vX3_makeParts kX3_81 k24_ rfl rfl rfl (Nat.le_of_ble_eq_true rfl) (by omega) (by omega) (by omega) (hP an wy c i it.2.1 u ps g h (by omega) hw_ hw2_ ha_ (by omega) (ok_.2.2.2.1 zb148_) hc_ dp_ w tg_ b) (fun v_ h1 e_ => ?_)
                obtain ⟨rfl, e2_⟩ := e_
                rw [em_]
                subst zb142_
                refine Ev_goto 190 dX3_makeUse_172 (by decide) ?_
                exact nx_ _ h1 ⟨rfl, e2_⟩
          · refine Ev_iconst (v := nI 0) dX3_makeUse_134 (by decide) ?_
            refine Ev_istore dX3_makeUse_135 (by decide) ?_
            refine Ev_goto 190 dX3_makeUse_137 (by decide) ?_
            have em_ : mkI m (fun i kd => kcE m ru n an wy c i kd (mCh m (some c))) an wy c i sk (it :: rest) = mkI m (fun i kd => kcE m ru n an wy c i kd (mCh m (some c))) an wy c (i + 1) false rest := by
              show (if it.1 = 6 then _ else _) = _
              rw [if_neg (by omega), if_pos zb131_]
            rw [em_]
            refine Ev_iincN 1 dX3_makeUse_190 (by decide) (by decide) rfl ?_
            refine Ev_goto 62 dX3_makeUse_193 (by decide) ?_
            exact ih_ (i + 1) false dr_ (by omega) u ps g h _ w tg_ b ro
        · have on_ := (ir_.2 (by omega)).1
          subst on_
          have j1_ := ok_.2.1 (Or.inr (Or.inr zb96_))
          have nv1_ := nuV_n mk hc_ j1_
          obtain ⟨l1_, -, -⟩ := t1_.2.2.2 hc_
          refine Ev_aload_n dX3_makeUse_99 rfl (by first | exact Or.inr ⟨_, rfl⟩ | exact rv_or _ | exact Or.inl rfl) ?_
          refine Ev_getA dX3_makeUse_100 fX3_71 t1_.1.1 t1_.1.2.2.2.2.2.2.1 ?_
          refine Ev_aload dX3_makeUse_103 rfl (by first | exact Or.inr ⟨_, rfl⟩ | exact rv_or _ | exact Or.inl rfl) ?_
          refine Ev_getA dX3_makeUse_105 fX3_74 kr_ b3_ ?_
          refine Ev_iload dX3_makeUse_108 rfl ?_
          refine Ev_ialdE i dX3_makeUse_110 (b6_ f_ (by simp)).1 rfl (hi_n (by omega)) (by have := (b6_ f_ (by simp)).2.2; omega) x2_ ?_
          refine Ev_SN0 [.ref (wN g c), .int (nI it.2.1)] dX3_makeUse_111 sX10_elementOf kX3_77 rfl rfl rfl (Nat.le_of_ble_eq_true rfl) (by omega) (ec_elementIn l G (wN g c) it.2.1 (nI (nuV m c it.2.1)) h t1_.2.1.1 (by rw [t1_.2.1.2.1]; omega) (by rw [t1_.2.1.2.1]; omega) ((l1_ it.2.1 (by omega)).trans nv1_.1)) ?_
          refine Ev_if_gtT 121 dX3_makeUse_114 (by decide) (fun zb114_ => ?_) (fun zb114_ => ?_)
          · refine Ev_iconst (v := nI 0) dX3_makeUse_121 (by decide) ?_
            refine Ev_istore dX3_makeUse_122 (by decide) ?_
            refine Ev_goto 190 dX3_makeUse_124 (by decide) ?_
            have em_ : mkI m (fun i kd => kcE m ru n an wy c i kd (mCh m (some c))) an wy c i sk (it :: rest) = mkI m (fun i kd => kcE m ru n an wy c i kd (mCh m (some c))) an wy c (i + 1) (decide (nuV m c it.2.1 = 0)) rest := by
              show (if it.1 = 6 then _ else _) = _
              rw [if_pos zb96_]
            rw [em_]
            have nv2_ := nv1_.2
            rw [hi_n (by omega)] at zb114_
            have eb_ : bI (decide (nuV m c it.2.1 = 0)) = nI 0 := by rw [decide_eq_false (by omega)]; rfl
            rw [← eb_]
            refine Ev_iincN 1 dX3_makeUse_190 (by decide) (by decide) rfl ?_
            refine Ev_goto 62 dX3_makeUse_193 (by decide) ?_
            exact ih_ (i + 1) (decide (nuV m c it.2.1 = 0)) dr_ (by omega) u ps g h _ w tg_ b ro
          · refine Ev_iconst (v := nI 1) dX3_makeUse_117 (by decide) ?_
            refine Ev_goto 122 dX3_makeUse_118 (by decide) ?_
            refine Ev_istore dX3_makeUse_122 (by decide) ?_
            refine Ev_goto 190 dX3_makeUse_124 (by decide) ?_
            have em_ : mkI m (fun i kd => kcE m ru n an wy c i kd (mCh m (some c))) an wy c i sk (it :: rest) = mkI m (fun i kd => kcE m ru n an wy c i kd (mCh m (some c))) an wy c (i + 1) (decide (nuV m c it.2.1 = 0)) rest := by
              show (if it.1 = 6 then _ else _) = _
              rw [if_pos zb96_]
            rw [em_]
            have nv2_ := nv1_.2
            rw [hi_n (by omega)] at zb114_
            have eb_ : bI (decide (nuV m c it.2.1 = 0)) = nI 1 := by rw [decide_eq_true (by omega)]; rfl
            rw [← eb_]
            refine Ev_iincN 1 dX3_makeUse_190 (by decide) (by decide) rfl ?_
            refine Ev_goto 62 dX3_makeUse_193 (by decide) ?_
            exact ih_ (i + 1) (decide (nuV m c it.2.1 = 0)) dr_ (by omega) u ps g h _ w tg_ b ro
theorem ec_use_s (l : Launch) (G : aG) (n : Nat) (m : Md) (ru : Nat → List It) (T : Nat) (mk : MOk m) (hcm : mCm m ≤ 600) (hT : T = 18 ∨ T = 21) (hP : PartsC l G m ru T n) : UseC l G m ru T (n + 1) := by
  intro an wy c u ps g h hn0_ hw_ hw2_ ha_ hc_ dp_ w tg_ b
  refine Ev_hv (fun hv => ?_)
  have hn_ : n + an.length = 5 := by omega
  obtain ⟨n63_, cf, wf, cm, cr⟩ := id w
  have k24_ := ck_24 cf
  have kT_ := (tx_f cf hT).1
  have t1_ := cm.1 c (mk.lt hc_)
  have u2_ := b.2.2.2.2
  have kd8_ := (mk.2.1 c (mk.lt hc_)).2.1
  have kn_ : knB (nI (mKd m c)) = true := by
    unfold knB
    rw [hi_n (by omega)]
    exact decide_eq_true ⟨by omega, by omega⟩
  obtain ⟨r, hr_, ro⟩ := cr (mKd m c) kd8_
  refine Ev_aload_n dX3_makeUse_0 rfl (by first | exact Or.inr ⟨_, rfl⟩ | exact rv_or _ | exact Or.inl rfl) ?_
  refine Ev_getE dX3_makeUse_1 fX3_23 k24_ b.2.2.2.1 ?_
  refine Ev_sipush (v := nI 2000) dX3_makeUse_4 (by decide) ?_
  refine Ev_icmp_geN 26 dX3_makeUse_7 (by decide) (by omega) (by omega) (fun zb7_ => ?_) (fun zb7_ => ?_)
  · refine Ev_aload_n dX3_makeUse_26 rfl (by first | exact Or.inr ⟨_, rfl⟩ | exact rv_or _ | exact Or.inl rfl) ?_
    refine Ev_getA dX3_makeUse_27 fX3_19 k24_ tg_ ?_
    refine Ev_iconst (v := nI 1) dX3_makeUse_30 (by decide) ?_
    refine Ev_putI dX3_makeUse_31 fX3_44 ⟨_, rfl, Or.inl rfl⟩ (Or.inr ⟨rfl, (by decide)⟩) kT_ ?_
    refine Ev_vret dX3_makeUse_34 rfl ?_
    have en_ : fdE (mkU m ru (n + 1) an wy c) (u, ps) = none := fdE_c0 (if_neg (by show ¬ u < 2000; omega))
    rw [en_]
    exact ⟨rfl, wO g, FlF.full wf hT, CBf.of b.1.1⟩
  · refine Ev_iload_n dX3_makeUse_10 rfl ?_
    refine Ev_bipush (v := nI 6) dX3_makeUse_11 (by decide) ?_
    refine Ev_icmp_gtN 26 dX3_makeUse_13 (by decide) (by omega) (by omega) (fun zb13_ => ?_) (fun zb13_ => ?_)
    · exact False.elim (by omega)
    · refine Ev_aload_n dX3_makeUse_16 rfl (by first | exact Or.inr ⟨_, rfl⟩ | exact rv_or _ | exact Or.inl rfl) ?_
      refine Ev_getE dX3_makeUse_17 fX3_56 t1_.1.1 t1_.1.2.2.2.1 ?_
      refine Ev_SN0 [.int (nI (mKd m c))] dX3_makeUse_20 sX10_isKind kX3_59 rfl rfl rfl (Nat.le_of_ble_eq_true rfl) (by omega) (ec_isKind l G (nI (mKd m c)) h) ?_
      rw [kn_]
      refine Ev_if_neB 35 dX3_makeUse_23 (by decide) (fun zb23_ => ?_) (fun zb23_ => ?_)
      · refine Ev_aload_n dX3_makeUse_35 rfl (by first | exact Or.inr ⟨_, rfl⟩ | exact rv_or _ | exact Or.inl rfl) ?_
        refine Ev_dup dX3_makeUse_36 (by first | rfl | exact okv_rv _) ?_
        refine Ev_getE dX3_makeUse_37 fX3_23 k24_ b.2.2.2.1 ?_
        refine Ev_iconst (v := nI 1) dX3_makeUse_40 (by decide) ?_
        refine Ev_iaddN dX3_makeUse_41 ?_
        refine Ev_putI dX3_makeUse_42 fX3_23 ⟨_, rfl, Or.inl rfl⟩ (Or.inl rfl) k24_ ?_
        refine Ev_aload_n dX3_makeUse_45 rfl (by first | exact Or.inr ⟨_, rfl⟩ | exact rv_or _ | exact Or.inl rfl) ?_
        refine Ev_getA dX3_makeUse_46 fX3_15 k24_ (cr_257_24 cf) ?_
        refine Ev_aload_n dX3_makeUse_49 rfl (by first | exact Or.inr ⟨_, rfl⟩ | exact rv_or _ | exact Or.inl rfl) ?_
        refine Ev_getE dX3_makeUse_50 fX3_56 t1_.1.1 t1_.1.2.2.2.1 ?_
        refine Ev_aald (mKd m c) dX3_makeUse_53 (ck_12 cf) (by omega) (by omega) (hi_n (by omega)) (by show mKd m c < hL h 12; rw [cl_12 cf]; omega) ?_
        refine Ev_top (y := .ref r) (by show rv (hY h 12 (mKd m c)) = _; rw [hr_]; rfl) ?_
        refine Ev_astore dX3_makeUse_54 (by decide) (by first | exact Or.inr ⟨_, rfl⟩ | exact rv_or _ | exact Or.inl rfl) ?_
        refine Ev_iconst (v := nI 0) dX3_makeUse_56 (by decide) ?_
        refine Ev_istore dX3_makeUse_57 (by decide) ?_
        refine Ev_iconst (v := nI 0) dX3_makeUse_59 (by decide) ?_
        refine Ev_istore dX3_makeUse_60 (by decide) ?_
        have en_ : fdE (mkU m ru (n + 1) an wy c) (u, ps) = fdE (mkI m (fun i kd => kcE m ru n an wy c i kd (mCh m (some c))) an wy c 0 false (ru (mKd m c))) (u + 1, ps) := fdE_c1 (if_pos (show u < 2000 by omega))
        have fU_ : FlF g (wO g) T h (sI h 259 24 (nI (u + 1))) := ⟨fun _ _ => rfl, FO.sI (Or.inr (Or.inr (Or.inr (Or.inr (Or.inl (wf.1 24 (by decide))))))), fun _ _ _ => rfl⟩
        have bU_ : CBt g T (u + 1) ps (sI h 259 24 (nI (u + 1))) := by
          have s24_ : ∀ q : Nat, q ≠ 24 → Sm q h (sI h 259 24 (nI (u + 1))) := fun q hq => ⟨rfl, rfl, fun k => ⟨hI_a _ _ hq, rfl⟩⟩
          have fS_ : FS g (fun tg => tg = (9, 24)) h (sI h 259 24 (nI (u + 1))) := FO.sI (wf.1 24 (by decide))
          have t45_ := tTg_45 T
          refine ⟨b.1.fo fS_ hv (fun _ _ => rfl) (by decide) (fun k z => by have z2 : tTg T = 9 := congrArg Prod.fst z; omega) rfl (hI_o _ _ (by decide)) rfl, (hI_o _ _ (by decide)).trans b.2.1, (hI_o _ _ (by decide)).trans b.2.2.1, hI_s _ _ _ _, by omega⟩
        rw [en_]
        refine Ev.post (fun v h2 e2 => FlP.of fU_ e2) ?_
        exact ec_use_l l G n m ru T mk hcm hT hP an wy c hn_ hw_ hw2_ ha_ hc_ dp_ r (ru (mKd m c)) 0 false rfl (by omega) (u + 1) ps g (sI h 259 24 (nI (u + 1))) _ (fU_.wb w hv hT) tg_ bU_ (ro.fo fU_.2.1 hv fU_.1 (SOp.no (by decide) (by decide) (by decide)))
      · cases zb23_
theorem ec_makeUse (l : Launch) (G : aG) (m : Md) (ru : Nat → List It) (T : Nat) (mk : MOk m) (hcm : mCm m ≤ 600) (hT : T = 18 ∨ T = 21) (n : Nat) : UseC l G m ru T n := by
  induction n with
  | zero =>
    intro an wy c u ps g h hn0_ hw_ hw2_ ha_ hc_ dp_ w tg_ b
    have := (mk.2.1 c (mk.lt hc_)).2.2.2.1
    omega
  | succ n ih_ => exact ec_use_s l G n m ru T mk hcm hT (ec_makeParts l G n m ru T mk hcm hT ih_)
