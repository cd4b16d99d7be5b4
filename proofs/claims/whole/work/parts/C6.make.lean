theorem ec_touch (l : Launch) (G : aG) (t j_ v_ wh : Int32) (g : Gh) (tp : List Int32) (m : Md) (ru : Nat → List It) (fa : Int32 × Int32) (ps : List Pc) (ln : List (List Int32 × Nat × Nat)) (fl : Nat) (h : aH) (cs : CS g tp m ru fa ps ln fl h) (mk : MOk m) (hcm : mCm m ≤ 600) (mp_ : ∀ p ∈ ps, PcM m p) (md_ : MkD ps) : Ev l G 19 250 2250 mX10_touch 0 (en 7 [.ref 3, .int t, .int j_, .int v_, .int wh]) [] h (fun x h' => (¬ (okNum m t j_ v_ ∧ 0 ≤ wh.toInt ∧ wh.toInt ≤ 3) ∧ x = some (.int (-1)) ∧ h' = h) ∨ (∃ c j v, mLive m c ∧ j < 4 ∧ v ≤ 99999 ∧ t = nI (mSl m c) ∧ j_ = nI j ∧ v_ = nI v ∧ (0 ≤ wh.toInt ∧ wh.toInt ≤ 3) ∧ (∃ g', CS g' tp m ru fa ps ln fl h' ∧ FX h h') ∧ ((mkNew (sNu m c j (nI v)) ru = none ∧ x = some (.int (-1))) ∨ (∃ ps1, mkNew (sNu m c j (nI v)) ru = some ps1 ∧ x = some (.int (touF ps ps1 wh.toInt)))))) := by
  have n63_ := cs.1.1
  have cf := cs.1.2.1
  have wf := cs.1.2.2
  have cm := cs.2.2.1
  have ct := cs.2.1
  obtain ⟨T, T', hTT_, q1_, q2_, tx, jk_⟩ := cs.2.2.2.2.2.1
  have hT : T = 18 ∨ T = 21 := by omega
  have hT'_ : T' = 18 ∨ T' = 21 := by omega
  have tf_ := tx_f cf hT
  have n250_ := tx.2.1
  refine Ev_hv (fun hv => ?_)
  by_cases zt_ : isT m t
  · obtain ⟨c, hc_, rfl⟩ := zt_
    have t1_ := cm.th mk hc_
    refine Ev_aload_n dX10_touch_0 rfl (by first | exact Or.inr ⟨_, rfl⟩ | exact rv_or _ | exact Or.inl rfl) ?_
    refine Ev_getA dX10_touch_1 fX10_19 (ck_3 cf) (cr_705_3 cf) ?_
    refine Ev_iload_n dX10_touch_4 rfl ?_
    refine Ev_V0 [.int (nI (mSl m c))] dX10_touch_5 vX4_at kX10_74 (ck_6 cf) rfl rfl rfl (Nat.le_of_ble_eq_true rfl) (by omega) (ec_at l G (nI (mSl m c)) g m h cf cm) ?_
    rw [atM_some mk hc_]
    refine Ev_top (y := .ref (wA g c)) rfl ?_
    refine Ev_astore dX10_touch_8 (by decide) (by first | exact Or.inr ⟨_, rfl⟩ | exact rv_or _ | exact Or.inl rfl) ?_
    refine Ev_aload dX10_touch_10 rfl (by first | exact Or.inr ⟨_, rfl⟩ | exact rv_or _ | exact Or.inl rfl) ?_
    refine Ev_ifnull (o := some (wA g c)) 45 dX10_touch_12 (by decide) (fun z_ => by cases z_) (fun a_ z_ => ?_)
    refine Ev_iload_n dX10_touch_15 rfl ?_
    refine Ev_iload_n dX10_touch_16 rfl ?_
    refine Ev_S0 [.int j_, .int v_] dX10_touch_17 sX10_canBeNumber kX10_106 rfl rfl rfl (Nat.le_of_ble_eq_true rfl) (by omega) (ec_canBeNumber l G j_ v_ h) ?_
    refine Ev_if_eqB 45 dX10_touch_20 (by decide) (fun zb20_ => ?_) (fun zb20_ => ?_)
    · refine Ev_iconst (v := -1) dX10_touch_45 (by decide) ?_
      refine Ev_iret dX10_touch_46 rfl ?_
      refine Or.inl ⟨fun z => ?_, rfl, rfl⟩
      first
      | (exact absurd ⟨z.1.2.1, z.1.2.2⟩ (of_decide_eq_false zb20_); done)
      | (have := z.2.1; omega)
      | (have := z.2.2; omega)
    · have zc_ : (0 ≤ j_.toInt ∧ j_.toInt ≤ 3) ∧ 0 ≤ v_.toInt ∧ v_.toInt ≤ 99999 := of_decide_eq_true zb20_
      obtain ⟨jj, hj_, rfl⟩ := as_nI (n := 3) zc_.1.1 (by omega)
      obtain ⟨vv, hvv_, rfl⟩ := as_nI (n := 99999) zc_.2.1 (by omega)
      refine Ev_iload dX10_touch_23 rfl ?_
      refine Ev_if_ltT 45 dX10_touch_25 (by decide) (fun zb25_ => ?_) (fun zb25_ => ?_)
      · refine Ev_iconst (v := -1) dX10_touch_45 (by decide) ?_
        refine Ev_iret dX10_touch_46 rfl ?_
        refine Or.inl ⟨fun z => ?_, rfl, rfl⟩
        first
        | (exact absurd ⟨z.1.2.1, z.1.2.2⟩ (of_decide_eq_false zb20_); done)
        | (have := z.2.1; omega)
        | (have := z.2.2; omega)
      · refine Ev_iload dX10_touch_28 rfl ?_
        refine Ev_iconst (v := nI 3) dX10_touch_30 (by decide) ?_
        refine Ev_icmp_gtT 45 dX10_touch_31 (by decide) (fun zb31_ => ?_) (fun zb31_ => ?_)
        · rw [show (nI 3).toInt = 3 from by decide] at zb31_
          refine Ev_iconst (v := -1) dX10_touch_45 (by decide) ?_
          refine Ev_iret dX10_touch_46 rfl ?_
          refine Or.inl ⟨fun z => ?_, rfl, rfl⟩
          first
          | (exact absurd ⟨z.1.2.1, z.1.2.2⟩ (of_decide_eq_false zb20_); done)
          | (have := z.2.1; omega)
          | (have := z.2.2; omega)
        · rw [show (nI 3).toInt = 3 from by decide] at zb31_
          refine Ev_aload_n dX10_touch_34 rfl (by first | exact Or.inr ⟨_, rfl⟩ | exact rv_or _ | exact Or.inl rfl) ?_
          refine Ev_aload dX10_touch_35 rfl (by first | exact Or.inr ⟨_, rfl⟩ | exact rv_or _ | exact Or.inl rfl) ?_
          refine Ev_iload_n dX10_touch_37 rfl ?_
          refine Ev_iload_n dX10_touch_38 rfl ?_
          refine Ev_Vg (mc2 := 0) (ms2 := 0) [.ref (wA g c), .int (nI jj), .int (nI vv)] dX10_touch_39 vX10_fillSpareWith kX10_220 (ck_3 cf) rfl rfl rfl (Nat.le_of_ble_eq_true rfl) (by omega) (by omega) (by omega) (ec_fillSpareWith l G c jj (nI vv) g tp m ru fa ps ln fl h cs mk hcm (fun p hp => (mp_ p hp).1) hc_ (by omega) (by rw [hi_n (by omega)]; omega) T' hT'_ q2_) (fun v_ h1 e_ => ?_)
          obtain ⟨rfl, o1_, e1_, f1_, r1_, hm_⟩ := e_
          refine Ev_hv (fun hv1_ => ?_)
          refine Ev_if_neB 47 dX10_touch_42 (by decide) (fun zb42_ => ?_) (fun zb42_ => ?_)
          · skip
            obtain ⟨ps1, em_, tx1_⟩ : ∃ ps1, mkNew (sNu m c jj (nI vv)) ru = some ps1 ∧ CTx (gw g o1_) T' ps1 h1 := by
              rcases hm_ with z | z
              · exact z
              · rw [z.1] at zb42_; cases zb42_
            have mo_ := mkNew_ok (mk.nu (by rw [hi_n (by omega)]; omega)) em_
            have mpn_ : ∀ p ∈ ps1, PcM m p := fun p hp => PcM.cg (m := sNu m c jj (nI vv)) rfl (Nat.le_refl (mCm m)) (mo_.1 p hp)
            obtain ⟨cs1_, fx1_, q11_, q21_, t0_, hy1_⟩ := cs.filled hv hTT_ q1_ q2_ e1_ f1_ r1_ tx1_.1
            have cf1_ := cs1_.1.2.1
            have wf1_ := cs1_.1.2.2
            refine Ev_aload_n dX10_touch_47 rfl (by first | exact Or.inr ⟨_, rfl⟩ | exact rv_or _ | exact Or.inl rfl) ?_
            refine Ev_getA dX10_touch_48 fX10_39 (ck_3 cf1_) q21_ ?_
            refine Ev_aload_n dX10_touch_51 rfl (by first | exact Or.inr ⟨_, rfl⟩ | exact rv_or _ | exact Or.inl rfl) ?_
            refine Ev_getA dX10_touch_52 fX10_35 (ck_3 cf1_) q11_ ?_
            refine Ev_Vz [.ref T] dX10_touch_55 vX8_takeHands kX10_224 (tx_f cf1_ hT'_).1 rfl rfl rfl (Nat.le_of_ble_eq_true rfl) (by omega) (ec_takeHands l G T T' ps ps1 m (gw g o1_) h1 cf1_ wf1_ cs1_.2.2.1 hv1_ hTT_ mp_ mpn_ md_ mo_.2.2 mo_.2.1 t0_ tx1_) (fun v_ h2 e_ => ?_)
            obtain ⟨rfl, tk_, x0_, x1_, lo_⟩ := e_
            have cf2_ := tk_.cf cf1_ hv1_ wf1_
            have q12_ : hR h2 710 3 = some T := (tk_.2.1 _ _ (by decide)).trans q11_
            have q22_ : hR h2 711 3 = some T' := (tk_.2.1 _ _ (by decide)).trans q21_
            have cs2_ := cs1_.text hv1_ (h' := h2) (ow' := o1_) (ps' := ps) (ln' := ln) (fl' := fl) (tk_.2.2.2.mo (fun b _ z => z.elim Or.inl (fun z => Or.inr (Or.inl z)))) (fun _ _ => rfl) (fun q hq => tk_.2.1 _ _ (by have key : ∀ q ∈ cfR, q.1 ≠ 391 := (by decide); exact key q hq)) (tk_.2.1 _ _ (by decide)) ⟨T, T', hTT_, q12_, q22_, x0_, x1_.1⟩ (cs1_.2.2.2.2.2.2.fo cf1_ wf1_ tk_.2.2.2 hv1_ (fun _ _ => rfl) (fun tg ht => by rcases ht with rfl | rfl | rfl | rfl <;> exact TkF.no (by decide) (by decide)))
            have n250b_ := x1_.2.1
            refine Ev_istore dX10_touch_58 (by decide) ?_
            refine Ev_iload dX10_touch_60 rfl ?_
            by_cases zs_ : wh.toInt < 0 ∨ 2 < wh.toInt
            · refine Ev_tableOut 111 dX10_touch_62 zs_ (by decide) ?_
              refine Ev_aload_n dX10_touch_111 rfl (by first | exact Or.inr ⟨_, rfl⟩ | exact rv_or _ | exact Or.inl rfl) ?_
              refine Ev_getA dX10_touch_112 fX10_39 (ck_3 cf2_) q22_ ?_
              refine Ev_getE dX10_touch_115 fX10_234 (tx_f cf2_ hT'_).1 x1_.2.2.2.1 ?_
              refine Ev_iret dX10_touch_118 rfl ?_
              refine Or.inr ⟨c, jj, vv, hc_, by omega, by omega, rfl, rfl, rfl, ⟨by omega, by omega⟩, ⟨gw g o1_, cs2_.1, fx1_.tr cs2_.2⟩, Or.inr ⟨ps1, em_, ?_⟩⟩
              unfold touF
              rw [if_neg (by omega), if_neg (by omega), if_neg (by omega), (tkA_key ps ps1).1]
            · rcases (show wh.toInt = 0 ∨ wh.toInt = 1 ∨ wh.toInt = 2 by omega) with zw_ | zw_ | zw_
              · refine Ev_tableIn (off := 26) 88 dX10_touch_62 (by rw [zw_]; decide) (by rw [zw_]; decide) (by rw [zw_]; rfl) (by decide) ?_
                refine Ev_aload_n dX10_touch_88 rfl (by first | exact Or.inr ⟨_, rfl⟩ | exact rv_or _ | exact Or.inl rfl) ?_
                refine Ev_getA dX10_touch_89 fX10_39 (ck_3 cf2_) q22_ ?_
                refine Ev_aload_n dX10_touch_92 rfl (by first | exact Or.inr ⟨_, rfl⟩ | exact rv_or _ | exact Or.inl rfl) ?_
                refine Ev_getA dX10_touch_93 fX10_35 (ck_3 cf2_) q12_ ?_
                refine Ev_V0 [.ref T] dX10_touch_96 vX8_countUnlike kX10_228 (tx_f cf2_ hT'_).1 rfl rfl rfl (Nat.le_of_ble_eq_true rfl) (by omega) (ec_countUnlike l G (gw g o1_) T T' ps (tkA ps ps1) h2 cf2_ hT hT'_ x0_ x1_) ?_
                refine Ev_iret dX10_touch_99 rfl ?_
                refine Or.inr ⟨c, jj, vv, hc_, by omega, by omega, rfl, rfl, rfl, ⟨by omega, by omega⟩, ⟨gw g o1_, cs2_.1, fx1_.tr cs2_.2⟩, Or.inr ⟨ps1, em_, ?_⟩⟩
                unfold touF
                rw [zw_, if_pos rfl]
              · refine Ev_tableIn (off := 38) 100 dX10_touch_62 (by rw [zw_]; decide) (by rw [zw_]; decide) (by rw [zw_]; rfl) (by decide) ?_
                refine Ev_aload_n dX10_touch_100 rfl (by first | exact Or.inr ⟨_, rfl⟩ | exact rv_or _ | exact Or.inl rfl) ?_
                refine Ev_getA dX10_touch_101 fX10_39 (ck_3 cf2_) q22_ ?_
                refine Ev_V0 [] dX10_touch_104 vX8_countClashes kX10_231 (tx_f cf2_ hT'_).1 rfl rfl rfl (Nat.le_of_ble_eq_true rfl) (by omega) (ec_countClashes l G (gw g o1_) T' (tkA ps ps1) h2 cf2_ hT'_ x1_) ?_
                refine Ev_iret dX10_touch_107 rfl ?_
                refine Or.inr ⟨c, jj, vv, hc_, by omega, by omega, rfl, rfl, rfl, ⟨by omega, by omega⟩, ⟨gw g o1_, cs2_.1, fx1_.tr cs2_.2⟩, Or.inr ⟨ps1, em_, ?_⟩⟩
                unfold touF
                rw [zw_, if_neg (by decide), if_pos rfl]
              · refine Ev_tableIn (off := 46) 108 dX10_touch_62 (by rw [zw_]; decide) (by rw [zw_]; decide) (by rw [zw_]; rfl) (by decide) ?_
                refine Ev_iload dX10_touch_108 rfl ?_
                refine Ev_iret dX10_touch_110 rfl ?_
                refine Or.inr ⟨c, jj, vv, hc_, by omega, by omega, rfl, rfl, rfl, ⟨by omega, by omega⟩, ⟨gw g o1_, cs2_.1, fx1_.tr cs2_.2⟩, Or.inr ⟨ps1, em_, ?_⟩⟩
                unfold touF
                rw [zw_, if_neg (by decide), if_neg (by decide), if_pos rfl]
          · skip
            obtain ⟨em_, jk1_⟩ : mkNew (sNu m c jj (nI vv)) ru = none ∧ JK (gw g o1_) T' h1 := by
              rcases hm_ with ⟨ps1, z, -⟩ | z
              · rw [z] at zb42_; cases zb42_
              · exact z
            obtain ⟨cs1_, fx1_, q11_, q21_, t0_, hy1_⟩ := cs.filled hv hTT_ q1_ q2_ e1_ f1_ r1_ jk1_
            refine Ev_iconst (v := -1) dX10_touch_45 (by decide) ?_
            refine Ev_iret dX10_touch_46 rfl ?_
            exact Or.inr ⟨c, jj, vv, hc_, by omega, by omega, rfl, rfl, rfl, ⟨by omega, by omega⟩, ⟨gw g o1_, cs1_, fx1_⟩, Or.inl ⟨em_, rfl⟩⟩
  · skip
    refine Ev_aload_n dX10_touch_0 rfl (by first | exact Or.inr ⟨_, rfl⟩ | exact rv_or _ | exact Or.inl rfl) ?_
    refine Ev_getA dX10_touch_1 fX10_19 (ck_3 cf) (cr_705_3 cf) ?_
    refine Ev_iload_n dX10_touch_4 rfl ?_
    refine Ev_V0 [.int t] dX10_touch_5 vX4_at kX10_74 (ck_6 cf) rfl rfl rfl (Nat.le_of_ble_eq_true rfl) (by omega) (ec_at l G t g m h cf cm) ?_
    rw [atM_none mk zt_]
    refine Ev_astore dX10_touch_8 (by decide) (by first | exact Or.inr ⟨_, rfl⟩ | exact rv_or _ | exact Or.inl rfl) ?_
    refine Ev_aload dX10_touch_10 rfl (by first | exact Or.inr ⟨_, rfl⟩ | exact rv_or _ | exact Or.inl rfl) ?_
    refine Ev_ifnull (o := none) 45 dX10_touch_12 (by decide) (fun _ => ?_) (fun a_ z_ => by cases z_)
    refine Ev_iconst (v := -1) dX10_touch_45 (by decide) ?_
    refine Ev_iret dX10_touch_46 rfl ?_
    exact Or.inl ⟨fun z => zt_ z.1.1, rfl, rfl⟩
theorem ec_back (l : Launch) (G : aG) (p_ : Int32) (g : Gh) (tp : List Int32) (m : Md) (ru : Nat → List It) (fa : Int32 × Int32) (ps : List Pc) (ln : List (List Int32 × Nat × Nat)) (fl : Nat) (h : aH) (cs : CS g tp m ru fa ps ln fl h) (mk : MOk m) (hcm : mCm m ≤ 600) (mp_ : ∀ p ∈ ps, PcM m p) (md_ : MkD ps) : Ev l G 19 750 13750 mX10_back 0 (en 4 [.ref 3, .int p_]) [] h (fun x h' => (backQ m ps p_ = none ∧ x = some (.int (-1)) ∧ h' = h) ∨ (∃ p n, backQ m ps p_ = some (p, n) ∧ ((mkNew (sNu m (pcC p) (pcN p) (nI n)) ru = none ∧ x = some (.int (-1)) ∧ ∃ g', CS g' tp m ru fa ps ln fl h' ∧ FX h h') ∨ (∃ ps1, mkNew (sNu m (pcC p) (pcN p) (nI n)) ru = some ps1 ∧ x = some (.int (nI ps1.length)) ∧ ∃ g', CS g' tp (sNu m (pcC p) (pcN p) (nI n)) ru fa (tkA (ps.set p_.toInt.toNat (setH p none)) ps1) (lnA (ps.set p_.toInt.toNat (setH p none)) ps1 (ln, fl)).1 (lnA (ps.set p_.toInt.toNat (setH p none)) ps1 (ln, fl)).2 h' ∧ FX h h')))) := by
  have n63_ := cs.1.1
  have cf := cs.1.2.1
  have wf := cs.1.2.2
  have cm := cs.2.2.1
  have ct := cs.2.1
  obtain ⟨T, T', hTT_, q1_, q2_, tx, jk_⟩ := cs.2.2.2.2.2.1
  have hT : T = 18 ∨ T = 21 := by omega
  have hT'_ : T' = 18 ∨ T' = 21 := by omega
  have tf_ := tx_f cf hT
  have n250_ := tx.2.1
  refine Ev_hv (fun hv => ?_)
  by_cases zi_ : 0 ≤ p_.toInt ∧ p_.toInt < ps.length
  · skip
    obtain ⟨i, hi_, rfl⟩ := as_nI (n := 249) (x := p_) (by omega) (by omega)
    rw [hi_n (by omega)] at zi_
    obtain ⟨p, hp_⟩ : ∃ p, ps[i]? = some p := ⟨_, List.getElem?_eq_getElem (by omega)⟩
    obtain ⟨q, hy_, cpc_, cp_⟩ := tx.p hp_
    have ha_ : txA T ps (nI i) h = some q := by unfold txA; rw [hi_n (by omega), if_pos ⟨by omega, by omega⟩]; exact hy_
    have at_ := atP_n hp_ (by omega)
    have hpm_ : p ∈ ps := List.mem_of_getElem? hp_
    have pm_ := mp_ p hpm_
    have pb_ := (tx.2.2.2.2.1 i p hp_).1
    have t1_ := cm.1 _ pm_.1
    have s4_ := pb_.2.2.2.2.1
    cases hp2_ : pcH p with
    | none =>
      have hd_ : hR h 391 q = none := by have c2_ := cpc_.2; rw [hp2_] at c2_; exact c2_
      refine Ev_aload_n dX10_back_0 rfl (by first | exact Or.inr ⟨_, rfl⟩ | exact rv_or _ | exact Or.inl rfl) ?_
      refine Ev_getA dX10_back_1 fX10_35 (ck_3 cf) q1_ ?_
      refine Ev_iload_n dX10_back_4 rfl ?_
      refine Ev_V0 [.int (nI i)] dX10_back_5 vX8_at kX10_148 tf_.1 rfl rfl rfl (Nat.le_of_ble_eq_true rfl) (by omega) (ec_txAt l G (nI i) g T ps h cf hT tx) ?_
      rw [ha_]
      refine Ev_top (y := .ref q) rfl ?_
      refine Ev_astore_n dX10_back_8 (by decide) (by first | exact Or.inr ⟨_, rfl⟩ | exact rv_or _ | exact Or.inl rfl) ?_
      refine Ev_aload_n dX10_back_9 rfl (by first | exact Or.inr ⟨_, rfl⟩ | exact rv_or _ | exact Or.inl rfl) ?_
      refine Ev_ifnull (o := some (q)) 38 dX10_back_10 (by decide) (fun z_ => by cases z_) (fun a_ z_ => ?_)
      refine Ev_aload_n dX10_back_13 rfl (by first | exact Or.inr ⟨_, rfl⟩ | exact rv_or _ | exact Or.inl rfl) ?_
      refine Ev_getE dX10_back_14 fX10_165 cp_.1.1 cpc_.1.2.2.2.2.1 ?_
      refine Ev_iconst (v := nI 2) dX10_back_17 (by decide) ?_
      refine Ev_icmp_neN 38 dX10_back_18 (by decide) (by omega) (by omega) (fun zb18_ => ?_) (fun zb18_ => ?_)
      · refine Ev_iconst (v := -1) dX10_back_38 (by decide) ?_
        refine Ev_iret dX10_back_39 rfl ?_
        refine Or.inl ⟨?_, rfl, rfl⟩
        unfold backQ
        rw [at_]
        show (if pcT p = 2 ∧ mLv m (pcS p) = some (pcC p) then _ else none) = none
        split
        · unfold numH; rw [hp2_]; rfl
        · rfl
      · refine Ev_aload_n dX10_back_21 rfl (by first | exact Or.inr ⟨_, rfl⟩ | exact rv_or _ | exact Or.inl rfl) ?_
        refine Ev_getR dX10_back_22 fX10_172 cp_.1.1 ?_
        refine Ev_ifnull 38 dX10_back_25 (by decide) (fun zb25_ => ?_) (fun zx25_ zb25_ => ?_)
        · refine Ev_iconst (v := -1) dX10_back_38 (by decide) ?_
          refine Ev_iret dX10_back_39 rfl ?_
          refine Or.inl ⟨?_, rfl, rfl⟩
          unfold backQ
          rw [at_]
          show (if pcT p = 2 ∧ mLv m (pcS p) = some (pcC p) then _ else none) = none
          split
          · unfold numH; rw [hp2_]; rfl
          · rfl
        · rw [hd_] at zb25_
          cases zb25_
    | some hb =>
      have hb2_ := cp_.2.2.1 hb hp2_
      have c2_ := cpc_.2
      rw [hp2_] at c2_
      obtain ⟨d_, hd_, k1_, -, ⟨r_, h64_, ir_⟩, b_, h65_, ib_⟩ := c2_
      cases nv_ : numV hb.1 with
      | none =>
        refine Ev_aload_n dX10_back_0 rfl (by first | exact Or.inr ⟨_, rfl⟩ | exact rv_or _ | exact Or.inl rfl) ?_
        refine Ev_getA dX10_back_1 fX10_35 (ck_3 cf) q1_ ?_
        refine Ev_iload_n dX10_back_4 rfl ?_
        refine Ev_V0 [.int (nI i)] dX10_back_5 vX8_at kX10_148 tf_.1 rfl rfl rfl (Nat.le_of_ble_eq_true rfl) (by omega) (ec_txAt l G (nI i) g T ps h cf hT tx) ?_
        rw [ha_]
        refine Ev_top (y := .ref q) rfl ?_
        refine Ev_astore_n dX10_back_8 (by decide) (by first | exact Or.inr ⟨_, rfl⟩ | exact rv_or _ | exact Or.inl rfl) ?_
        refine Ev_aload_n dX10_back_9 rfl (by first | exact Or.inr ⟨_, rfl⟩ | exact rv_or _ | exact Or.inl rfl) ?_
        refine Ev_ifnull (o := some (q)) 38 dX10_back_10 (by decide) (fun z_ => by cases z_) (fun a_ z_ => ?_)
        refine Ev_aload_n dX10_back_13 rfl (by first | exact Or.inr ⟨_, rfl⟩ | exact rv_or _ | exact Or.inl rfl) ?_
        refine Ev_getE dX10_back_14 fX10_165 cp_.1.1 cpc_.1.2.2.2.2.1 ?_
        refine Ev_iconst (v := nI 2) dX10_back_17 (by decide) ?_
        refine Ev_icmp_neN 38 dX10_back_18 (by decide) (by omega) (by omega) (fun zb18_ => ?_) (fun zb18_ => ?_)
        · refine Ev_iconst (v := -1) dX10_back_38 (by decide) ?_
          refine Ev_iret dX10_back_39 rfl ?_
          refine Or.inl ⟨?_, rfl, rfl⟩
          unfold backQ
          rw [at_]
          show (if pcT p = 2 ∧ mLv m (pcS p) = some (pcC p) then _ else none) = none
          rw [if_neg ?_]
          rintro ⟨z1, z2⟩
          first
          | exact zb18_ z1
          | exact goB_t pm_ zb35_ z2
        · refine Ev_aload_n dX10_back_21 rfl (by first | exact Or.inr ⟨_, rfl⟩ | exact rv_or _ | exact Or.inl rfl) ?_
          refine Ev_getR dX10_back_22 fX10_172 cp_.1.1 ?_
          refine Ev_ifnull 38 dX10_back_25 (by decide) (fun zb25_ => ?_) (fun zx25_ zb25_ => ?_)
          · rw [hd_] at zb25_
            cases zb25_
          · refine Ev_aload_n dX10_back_28 rfl (by first | exact Or.inr ⟨_, rfl⟩ | exact rv_or _ | exact Or.inl rfl) ?_
            refine Ev_getA dX10_back_29 fX10_151 cp_.1.1 cpc_.1.2.2.1 ?_
            refine Ev_getE dX10_back_32 fX10_156 t1_.1.1 t1_.1.2.2.2.2.2.2.2.2 ?_
            refine Ev_if_eqB 40 dX10_back_35 (by decide) (fun zb35_ => ?_) (fun zb35_ => ?_)
            · refine Ev_aload_n dX10_back_40 rfl (by first | exact Or.inr ⟨_, rfl⟩ | exact rv_or _ | exact Or.inl rfl) ?_
              refine Ev_getA dX10_back_41 fX10_172 cp_.1.1 hd_ ?_
              refine Ev_getA dX10_back_44 fX10_210 k1_ h64_ ?_
              refine Ev_S0 [.ref r_] dX10_back_47 sX10_valueOf kX10_213 rfl rfl rfl (Nat.le_of_ble_eq_true rfl) (by omega) (ec_valueOf l G r_ hb.1 h ir_.1 ir_.2.1 ir_.2.2.2 (by omega)) ?_
              rw [nv_]
              refine Ev_top (y := .int (-1)) rfl ?_
              refine Ev_istore_n dX10_back_50 (by decide) ?_
              refine Ev_iload_n dX10_back_51 rfl ?_
              refine Ev_iconst (v := -1) dX10_back_52 (by decide) ?_
              refine Ev_icmp_eqT 72 dX10_back_53 (by decide) (fun zb53_ => ?_) (fun zb53_ => ?_)
              · refine Ev_iconst (v := -1) dX10_back_72 (by decide) ?_
                refine Ev_iret dX10_back_73 rfl ?_
                refine Or.inl ⟨?_, rfl, rfl⟩
                unfold backQ
                rw [at_]
                show (if pcT p = 2 ∧ mLv m (pcS p) = some (pcC p) then _ else none) = none
                rw [if_pos ⟨zb18_, goB_f pm_ zb35_⟩]
                unfold numH
                rw [hp2_]
                show (numV hb.1).map _ = none
                rw [nv_]; rfl
              · exact absurd rfl zb53_
            · refine Ev_iconst (v := -1) dX10_back_38 (by decide) ?_
              refine Ev_iret dX10_back_39 rfl ?_
              refine Or.inl ⟨?_, rfl, rfl⟩
              unfold backQ
              rw [at_]
              show (if pcT p = 2 ∧ mLv m (pcS p) = some (pcC p) then _ else none) = none
              rw [if_neg ?_]
              rintro ⟨z1, z2⟩
              first
              | exact zb18_ z1
              | exact goB_t pm_ zb35_ z2
      | some n =>
        have n9_ := numV_le nv_
        refine Ev_aload_n dX10_back_0 rfl (by first | exact Or.inr ⟨_, rfl⟩ | exact rv_or _ | exact Or.inl rfl) ?_
        refine Ev_getA dX10_back_1 fX10_35 (ck_3 cf) q1_ ?_
        refine Ev_iload_n dX10_back_4 rfl ?_
        refine Ev_V0 [.int (nI i)] dX10_back_5 vX8_at kX10_148 tf_.1 rfl rfl rfl (Nat.le_of_ble_eq_true rfl) (by omega) (ec_txAt l G (nI i) g T ps h cf hT tx) ?_
        rw [ha_]
        refine Ev_top (y := .ref q) rfl ?_
        refine Ev_astore_n dX10_back_8 (by decide) (by first | exact Or.inr ⟨_, rfl⟩ | exact rv_or _ | exact Or.inl rfl) ?_
        refine Ev_aload_n dX10_back_9 rfl (by first | exact Or.inr ⟨_, rfl⟩ | exact rv_or _ | exact Or.inl rfl) ?_
        refine Ev_ifnull (o := some (q)) 38 dX10_back_10 (by decide) (fun z_ => by cases z_) (fun a_ z_ => ?_)
        refine Ev_aload_n dX10_back_13 rfl (by first | exact Or.inr ⟨_, rfl⟩ | exact rv_or _ | exact Or.inl rfl) ?_
        refine Ev_getE dX10_back_14 fX10_165 cp_.1.1 cpc_.1.2.2.2.2.1 ?_
        refine Ev_iconst (v := nI 2) dX10_back_17 (by decide) ?_
        refine Ev_icmp_neN 38 dX10_back_18 (by decide) (by omega) (by omega) (fun zb18_ => ?_) (fun zb18_ => ?_)
        · refine Ev_iconst (v := -1) dX10_back_38 (by decide) ?_
          refine Ev_iret dX10_back_39 rfl ?_
          refine Or.inl ⟨?_, rfl, rfl⟩
          unfold backQ
          rw [at_]
          show (if pcT p = 2 ∧ mLv m (pcS p) = some (pcC p) then _ else none) = none
          rw [if_neg ?_]
          rintro ⟨z1, z2⟩
          first
          | exact zb18_ z1
          | exact goB_t pm_ zb35_ z2
        · refine Ev_aload_n dX10_back_21 rfl (by first | exact Or.inr ⟨_, rfl⟩ | exact rv_or _ | exact Or.inl rfl) ?_
          refine Ev_getR dX10_back_22 fX10_172 cp_.1.1 ?_
          refine Ev_ifnull 38 dX10_back_25 (by decide) (fun zb25_ => ?_) (fun zx25_ zb25_ => ?_)
          · rw [hd_] at zb25_
            cases zb25_
          · refine Ev_aload_n dX10_back_28 rfl (by first | exact Or.inr ⟨_, rfl⟩ | exact rv_or _ | exact Or.inl rfl) ?_
            refine Ev_getA dX10_back_29 fX10_151 cp_.1.1 cpc_.1.2.2.1 ?_
            refine Ev_getE dX10_back_32 fX10_156 t1_.1.1 t1_.1.2.2.2.2.2.2.2.2 ?_
            refine Ev_if_eqB 40 dX10_back_35 (by decide) (fun zb35_ => ?_) (fun zb35_ => ?_)
            · have lv_ := goB_f pm_ zb35_
              have hc_ : mLive m (pcC p) := by unfold mLive; rw [pm_.2.1]; exact lv_
              have j4_ := pb_.2.2.2.2.2.1 zb18_
              have bq_ : backQ m ps (nI i) = some (p, n) := by
                unfold backQ
                rw [at_]
                show (if pcT p = 2 ∧ mLv m (pcS p) = some (pcC p) then (numH p).map (fun n => (p, n)) else none) = _
                rw [if_pos ⟨zb18_, lv_⟩]
                unfold numH
                rw [hp2_]
                show (numV hb.1).map _ = _
                rw [nv_]; rfl
              refine Ev_aload_n dX10_back_40 rfl (by first | exact Or.inr ⟨_, rfl⟩ | exact rv_or _ | exact Or.inl rfl) ?_
              refine Ev_getA dX10_back_41 fX10_172 cp_.1.1 hd_ ?_
              refine Ev_getA dX10_back_44 fX10_210 k1_ h64_ ?_
              refine Ev_S0 [.ref r_] dX10_back_47 sX10_valueOf kX10_213 rfl rfl rfl (Nat.le_of_ble_eq_true rfl) (by omega) (ec_valueOf l G r_ hb.1 h ir_.1 ir_.2.1 ir_.2.2.2 (by omega)) ?_
              rw [nv_]
              refine Ev_top (y := .int (nI n)) rfl ?_
              refine Ev_istore_n dX10_back_50 (by decide) ?_
              refine Ev_iload_n dX10_back_51 rfl ?_
              refine Ev_iconst (v := -1) dX10_back_52 (by decide) ?_
              refine Ev_icmp_eqT 72 dX10_back_53 (by decide) (fun zb53_ => ?_) (fun zb53_ => ?_)
              · exact absurd zb53_ (by rw [hi_n (by omega), tm1]; omega)
              · refine Ev_aload_n dX10_back_56 rfl (by first | exact Or.inr ⟨_, rfl⟩ | exact rv_or _ | exact Or.inl rfl) ?_
                refine Ev_aload_n dX10_back_57 rfl (by first | exact Or.inr ⟨_, rfl⟩ | exact rv_or _ | exact Or.inl rfl) ?_
                refine Ev_getA dX10_back_58 fX10_151 cp_.1.1 cpc_.1.2.2.1 ?_
                refine Ev_aload_n dX10_back_61 rfl (by first | exact Or.inr ⟨_, rfl⟩ | exact rv_or _ | exact Or.inl rfl) ?_
                refine Ev_getE dX10_back_62 fX10_217 cp_.1.1 (cpc_.1.2.2.2.2.2.1 zb18_) ?_
                refine Ev_iload_n dX10_back_65 rfl ?_
                refine Ev_Vg (mc2 := 500) (ms2 := 11500) [.ref (wA g (pcC p)), .int (nI (pcN p)), .int (nI n)] dX10_back_66 vX10_fillSpareWith kX10_220 (ck_3 cf) rfl rfl rfl (Nat.le_of_ble_eq_true rfl) (by omega) (by omega) (by omega) (ec_fillSpareWith l G (pcC p) (pcN p) (nI n) g tp m ru fa ps ln fl h cs mk hcm (fun p hp => (mp_ p hp).1) hc_ j4_ (by rw [hi_n (by omega)]; omega) T' hT'_ q2_) (fun v_ h1 e_ => ?_)
                obtain ⟨rfl, o1_, e1_, f1_, r1_, hm_⟩ := e_
                refine Ev_hv (fun hv1_ => ?_)
                refine Ev_if_neB 74 dX10_back_69 (by decide) (fun zb69_ => ?_) (fun zb69_ => ?_)
                · skip
                  obtain ⟨ps1, em_, tx1_⟩ : ∃ ps1, mkNew (sNu m (pcC p) (pcN p) (nI n)) ru = some ps1 ∧ CTx (gw g o1_) T' ps1 h1 := by
                    rcases hm_ with z | z
                    · exact z
                    · rw [z.1] at zb69_; cases zb69_
                  have mo_ := mkNew_ok (mk.nu (c := pcC p) (j := pcN p) (v := nI n) (by rw [hi_n (by omega)]; omega)) em_
                  obtain ⟨cs1_, fx1_, q11_, q21_, t0_, hy1_⟩ := cs.filled hv hTT_ q1_ q2_ e1_ f1_ r1_ tx1_.1
                  have cf1_ := cs1_.1.2.1
                  have wf1_ := cs1_.1.2.2
                  have hy2_ : hY h1 (T + 1) i = some q := by rw [hy1_]; exact hy_
                  have jq_ := t0_.1 i q (by omega) hy2_
                  have t11_ := cs1_.2.2.1.1 (pcC p) pm_.1
                  obtain ⟨q3_, hy3_, cpc1_, cp1_⟩ := t0_.p hp_
                  have e3_ : q = q3_ := Option.some.inj (hy2_.symm.trans hy3_)
                  subst e3_
                  refine Ev_aload_n dX10_back_74 rfl (by first | exact Or.inr ⟨_, rfl⟩ | exact rv_or _ | exact Or.inl rfl) ?_
                  refine Ev_getA dX10_back_75 fX10_151 cp1_.1.1 cpc1_.1.2.2.1 ?_
                  refine Ev_getA dX10_back_78 fX10_110 t11_.1.1 t11_.1.2.2.2.2.2.2.1 ?_
                  refine Ev_aload_n dX10_back_81 rfl (by first | exact Or.inr ⟨_, rfl⟩ | exact rv_or _ | exact Or.inl rfl) ?_
                  refine Ev_getE dX10_back_82 fX10_217 cp1_.1.1 (cpc1_.1.2.2.2.2.2.1 zb18_) ?_
                  refine Ev_iload_n dX10_back_85 rfl ?_
                  refine Ev_iastL (pcN p) dX10_back_86 t11_.2.1.1 t11_.2.1.2.1 (hi_n (by omega)) (by omega) ?_
                  refine Ev_aload_n dX10_back_87 rfl (by first | exact Or.inr ⟨_, rfl⟩ | exact rv_or _ | exact Or.inl rfl) ?_
                  refine Ev_null dX10_back_88 ?_
                  refine Ev_putR (x := none) dX10_back_89 fX10_172 ⟨_, rfl, Or.inl rfl⟩ cp1_.1.1 rfl ?_
                  refine Ev_aload_n dX10_back_92 rfl (by first | exact Or.inr ⟨_, rfl⟩ | exact rv_or _ | exact Or.inl rfl) ?_
                  refine Ev_hv (fun hvB_ => ?_)
                  have hvA_ : Hv (sX h1 (wN g (pcC p)) (pcN p) (nI n)) := fun b hb => hv1_ b hb
                  have csA0_ := cs1_.model hv1_ (h' := (sX h1 (wN g (pcC p)) (pcN p) (nI n))) (m' := (sNu m (pcC p) (pcN p) (nI n))) (tp' := tp) (g2 := (gw g o1_)) (FO.sX (Or.inl (by show (wO (gw g o1_) (wN (gw g o1_) (pcC p))).1 = 1; rw [t11_.2.1.2.2]))) (fun _ _ => rfl) (fun _ _ => rfl) (fun p hp => (mp_ p hp).1) (fun k => ⟨rfl, rfl⟩) ⟨cs1_.2.1.1, cs1_.2.1.2.1, fun k hk => (gX_X _ (fun z => by have q := t11_.2.1.2.2; rw [show wN (gw g o1_) (pcC p) = 5 from z.symm, wf1_.1 5 (by decide)] at q; exact absurd (congrArg Prod.fst q) (fun z2 => by have z3 : (9 : Nat) = 1 := z2; omega))).trans (cs1_.2.1.2.2 k hk)⟩ (cs1_.2.2.1.nu cf1_ wf1_ hv1_ pm_.1 j4_)
                  have csA_ := csA0_.1
                  have nT_ : ∀ b, b ∈ [19, 20, 22, 23] → b ≠ wN g (pcC p) := fun b hb z => by
                    have q := t11_.2.1.2.2
                    rw [show wN (gw g o1_) (pcC p) = b from z.symm, wf1_.1 b (by clear z q; revert hb; revert b; decide)] at q
                    exact absurd (congrArg Prod.fst q) (fun z2 => by have z3 : (9 : Nat) = 1 := z2; omega)
                  have t45a_ := tTg_45 T
                  have t45b_ := tTg_45 T'
                  have tne_ : tTg T' ≠ tTg T := by
                    rcases hTT_ with ⟨rfl, rfl⟩ | ⟨rfl, rfl⟩ <;> decide
                  have fA_ : FS (gw g o1_) (fun tg => tg = (1, pcC p)) h1 (sX h1 (wN g (pcC p)) (pcN p) (nI n)) := FO.sX t11_.2.1.2.2
                  have txA_ : CTx (gw g o1_) T' ps1 (sX h1 (wN g (pcC p)) (pcN p) (nI n)) := tx1_.fo fA_ hv1_ (fun _ _ => rfl) (by simp) (fun k z => by have z2 : tTg T' = 1 := congrArg Prod.fst z; omega) rfl rfl (hX_o _ _ (nT_ _ (by rcases hT'_ with rfl | rfl <;> decide)))
                  have t0A_ : CTx (gw g o1_) T ps (sX h1 (wN g (pcC p)) (pcN p) (nI n)) := t0_.fo fA_ hv1_ (fun _ _ => rfl) (by simp) (fun k z => by have z2 : tTg T = 1 := congrArg Prod.fst z; omega) rfl rfl (hX_o _ _ (nT_ _ (by rcases hT with rfl | rfl <;> decide)))
                  have csB0_ := csA_.setH hvA_ (v := none) (nb := none) q11_ hp_ hy2_ (fun x z => by cases z) (hR_s _ _ _ _)
                  have csB_ := csB0_.1
                  have t0B_ := t0A_.setH hvA_ (v := none) (nb := none) hp_ hy2_ (fun x z => by cases z) (hR_s _ _ _ _)
                  have txB_ : CTx (gw g o1_) T' ps1 (sR (sX h1 (wN g (pcC p)) (pcN p) (nI n)) 391 q none) := txA_.fo (S := fun tg => tg = (tTg T, i)) (FO.sR jq_.2) hvA_ (fun _ _ => rfl) (fun y => by have z3 : (0 : Nat) = tTg T := congrArg Prod.fst y; omega) (fun k y => tne_ (congrArg Prod.fst y)) rfl rfl rfl
                  have q1B_ : hR (sR (sX h1 (wN g (pcC p)) (pcN p) (nI n)) 391 q none) 710 3 = some T := (hR_o _ _ (by decide)).trans q11_
                  have q2B_ : hR (sR (sX h1 (wN g (pcC p)) (pcN p) (nI n)) 391 q none) 711 3 = some T' := (hR_o _ _ (by decide)).trans q21_
                  have k3B_ := ck_3 csB_.1.2.1
                  have mpB_ : ∀ x ∈ ps.set i (setH p none), PcM (sNu m (pcC p) (pcN p) (nI n)) x := fun x hx => by
                    rcases List.mem_or_eq_of_mem_set hx with z | z
                    · exact PcM.cg (m := m) rfl (Nat.le_refl (mCm m)) (mp_ x z)
                    · subst z; exact PcM.cg (m := m) (p := p) rfl (Nat.le_refl (mCm m)) pm_
                  refine Ev_Vg (mc2 := 0) (ms2 := 0) [] dX10_back_93 vX10_turnToSpare kX10_145 k3B_ rfl rfl rfl (Nat.le_of_ble_eq_true rfl) (by omega) (by omega) (by omega) (ec_turn l G T T' (ps.set i (setH p none)) ps1 (sNu m (pcC p) (pcN p) (nI n)) (gw g o1_) ln fl (sR (sX h1 (wN g (pcC p)) (pcN p) (nI n)) 391 q none) csB_.1.1 csB_.1.2.1 csB_.1.2.2 csB_.2.2.1 hTT_ q1B_ q2B_ t0B_ txB_ csB_.2.2.2.2.2.2 mpB_ mo_.1 (md_.set hp_) mo_.2.2 mo_.2.1) (fun v_ h2 e_ => ?_)
                  obtain ⟨rfl, g2_, cs2_, fx2_⟩ := csB_.turned hvB_ hTT_ e_
                  refine Ev_iret dX10_back_96 rfl ?_
                  refine Or.inr ⟨p, n, bq_, Or.inr ⟨ps1, em_, rfl, g2_, ?_, ((fx1_.tr csA0_.2).tr csB0_.2).tr fx2_⟩⟩
                  rw [hi_n (by omega), Int.toNat_natCast]
                  exact cs2_
                · skip
                  obtain ⟨em_, jk1_⟩ : mkNew (sNu m (pcC p) (pcN p) (nI n)) ru = none ∧ JK (gw g o1_) T' h1 := by
                    rcases hm_ with ⟨ps1, z, -⟩ | z
                    · rw [z] at zb69_; cases zb69_
                    · exact z
                  obtain ⟨cs1_, fx1_, q11_, q21_, t0_, hy1_⟩ := cs.filled hv hTT_ q1_ q2_ e1_ f1_ r1_ jk1_
                  refine Ev_iconst (v := -1) dX10_back_72 (by decide) ?_
                  refine Ev_iret dX10_back_73 rfl ?_
                  exact Or.inr ⟨p, n, bq_, Or.inl ⟨em_, rfl, gw g o1_, cs1_, fx1_⟩⟩
            · refine Ev_iconst (v := -1) dX10_back_38 (by decide) ?_
              refine Ev_iret dX10_back_39 rfl ?_
              refine Or.inl ⟨?_, rfl, rfl⟩
              unfold backQ
              rw [at_]
              show (if pcT p = 2 ∧ mLv m (pcS p) = some (pcC p) then _ else none) = none
              rw [if_neg ?_]
              rintro ⟨z1, z2⟩
              first
              | exact zb18_ z1
              | exact goB_t pm_ zb35_ z2
  · skip
    refine Ev_aload_n dX10_back_0 rfl (by first | exact Or.inr ⟨_, rfl⟩ | exact rv_or _ | exact Or.inl rfl) ?_
    refine Ev_getA dX10_back_1 fX10_35 (ck_3 cf) q1_ ?_
    refine Ev_iload_n dX10_back_4 rfl ?_
    refine Ev_V0 [.int p_] dX10_back_5 vX8_at kX10_148 tf_.1 rfl rfl rfl (Nat.le_of_ble_eq_true rfl) (by omega) (ec_txAt l G p_ g T ps h cf hT tx) ?_
    rw [show txA T ps p_ h = none from if_neg zi_]
    refine Ev_astore_n dX10_back_8 (by decide) (by first | exact Or.inr ⟨_, rfl⟩ | exact rv_or _ | exact Or.inl rfl) ?_
    refine Ev_aload_n dX10_back_9 rfl (by first | exact Or.inr ⟨_, rfl⟩ | exact rv_or _ | exact Or.inl rfl) ?_
    refine Ev_ifnull (o := none) 38 dX10_back_10 (by decide) (fun _ => ?_) (fun a_ z_ => by cases z_)
    refine Ev_iconst (v := -1) dX10_back_38 (by decide) ?_
    refine Ev_iret dX10_back_39 rfl ?_
    exact Or.inl ⟨by unfold backQ; rw [atP_no zi_], rfl, rfl⟩
