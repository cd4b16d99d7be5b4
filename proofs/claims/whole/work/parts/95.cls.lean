theorem sub_w {x : Int32} {k : Nat} (hk : k < 1000) : (x - nI k).toInt = x.toInt - k ∨ (x.toInt < 0 ∧ 2000000000 < (x - nI k).toInt) := by
  have h1 := Int32.le_toInt x
  have h2 := Int32.toInt_lt x
  rw [Int32.toInt_sub, hi_n (by omega), Int.bmod_def]
  split <;> omega
theorem elO_neg {xs : List Int32} {i : Int} (h : ¬ (0 ≤ i ∧ i < xs.length)) : elO xs i = -1 := if_neg h
def nuL (m : Md) (c : Nat) : List Int32 := (List.range 4).map (fun j => mNu m c j)
theorem nuL_len (m : Md) (c : Nat) : (nuL m c).length = 4 := by simp [nuL]
theorem nuL_at {m : Md} {c j : Nat} (h : j < 4) : (nuL m c).getD j 0 = mNu m c j := by
  unfold nuL
  rw [List.getD_eq_getElem?_getD, List.getElem?_map, List.getElem?_range h]; rfl
theorem thF_nu {m : Md} {c : Nat} {w : Int32} (h : w.toInt < 100) (h2 : w.toInt < 0 ∨ 3 < w.toInt) : elO (nuL m c) (w - nI 10).toInt = thF m c w.toInt := by
  have s := sub_w (x := w) (k := 10) (by omega)
  unfold thF
  by_cases z : 10 ≤ w.toInt ∧ w.toInt ≤ 13
  · rw [if_pos z]
    unfold elO
    have e : (w - nI 10).toInt = w.toInt - 10 := by omega
    rw [e, nuL_len, if_pos (by omega), nuL_at (by omega)]
  · rw [if_neg z, if_neg (by omega), if_neg (by omega), if_neg (by omega), if_neg (by omega), if_neg (by omega)]
    refine elO_neg ?_
    rw [nuL_len]; omega
theorem thF_nm {m : Md} {c : Nat} {w : Int32} (h : 100 ≤ w.toInt) : elO (mNm m c) (w - nI 100).toInt = thF m c w.toInt := by
  have s := sub_w (x := w) (k := 100) (by omega)
  have e : (w - nI 100).toInt = w.toInt - 100 := by omega
  unfold thF
  rw [if_neg (by omega), if_pos h, e]
  unfold elO
  by_cases z : w.toInt - 100 < (mNm m c).length
  · rw [if_pos ⟨by omega, z⟩, if_pos z]
  · rw [if_neg (by omega), if_neg z]
theorem ec_thingOf (l : Launch) (G : aG) (t wh : Int32) (g : Gh) (tp : List Int32) (m : Md) (ru : Nat → List It) (fa : Int32 × Int32) (ps : List Pc) (ln : List (List Int32 × Nat × Nat)) (fl : Nat) (h : aH) (cs : CS g tp m ru fa ps ln fl h) (mk : MOk m) (hps : ∀ p ∈ ps, pcC p < mCm m) : Ev l G 4 0 0 mX10_thingOf 0 (en 4 [.ref 3, .int t, .int wh]) [] h (fun x h' => (¬ isT m t ∧ x = some (.int (-1)) ∧ h' = h) ∨ (∃ c, mLive m c ∧ t = nI (mSl m c) ∧ x = some (.int (thF m c wh.toInt)) ∧ h' = h)) := by
  have cf := cs.1.2.1
  have wf := cs.1.2.2
  have cm := cs.2.2.1
  have ct := cs.2.1
  refine Ev_hv (fun hv => ?_)
  by_cases zt_ : isT m t
  · obtain ⟨c, hc_, rfl⟩ := zt_
    have t1_ := cm.th mk hc_
    have pr_ := cm.par cf wf mk (mPa m c) (mk.2.2.1 c hc_).1
    have ti_ : hR h 642 (wA g c) = some (paO g (mPa m c)) := by rw [← paA_eq]; exact t1_.1.2.2.2.2.2.1
    have ps_ : hI h 640 (paO g (mPa m c)) = paI m c := by
      unfold paI
      cases hp_ : mPa m c with
      | none => exact cm.2.2.2.2.2.2
      | some q => exact (cm.th mk ((mk.2.2.1 c hc_).1 q hp_)).1.2.2.1
    obtain ⟨l1_, ⟨r_, l2_, l3_⟩, l4_⟩ := t1_.2.2.2 hc_
    have n6_ := (mk.2.2.1 c hc_).2.1.2
    refine Ev_aload_n dX10_thingOf_0 rfl (by first | exact Or.inr ⟨_, rfl⟩ | exact rv_or _ | exact Or.inl rfl) ?_
    refine Ev_getA dX10_thingOf_1 fX10_19 (ck_3 cf) (cr_705_3 cf) ?_
    refine Ev_iload_n dX10_thingOf_4 rfl ?_
    refine Ev_V0 [.int (nI (mSl m c))] dX10_thingOf_5 vX4_at kX10_74 (ck_6 cf) rfl rfl rfl (Nat.le_of_ble_eq_true rfl) (by omega) (ec_at l G (nI (mSl m c)) g m h cf cm) ?_
    rw [atM_some mk hc_]
    refine Ev_top (y := .ref (wA g c)) rfl ?_
    refine Ev_astore_n dX10_thingOf_8 (by decide) (by first | exact Or.inr ⟨_, rfl⟩ | exact rv_or _ | exact Or.inl rfl) ?_
    refine Ev_aload_n dX10_thingOf_9 rfl (by first | exact Or.inr ⟨_, rfl⟩ | exact rv_or _ | exact Or.inl rfl) ?_
    refine Ev_ifnonnull (o := some (wA g c)) 15 dX10_thingOf_10 (by decide) (fun a_ z_ => ?_) (fun z_ => by cases z_)
    refine Ev_iload_n dX10_thingOf_15 rfl ?_
    by_cases zs_ : wh.toInt < 0 ∨ 3 < wh.toInt
    · refine Ev_tableOut 87 dX10_thingOf_16 zs_ (by decide) ?_
      refine Ev_iload_n dX10_thingOf_87 rfl ?_
      refine Ev_bipush (v := nI 100) dX10_thingOf_88 (by decide) ?_
      refine Ev_icmp_geT 107 dX10_thingOf_90 (by decide) (fun zb90_ => ?_) (fun zb90_ => ?_)
      · rw [t100] at zb90_
        refine Ev_aload_n dX10_thingOf_107 rfl (by first | exact Or.inr ⟨_, rfl⟩ | exact rv_or _ | exact Or.inl rfl) ?_
        refine Ev_getA dX10_thingOf_108 fX10_114 t1_.1.1 l2_ ?_
        refine Ev_iload_n dX10_thingOf_111 rfl ?_
        refine Ev_bipush (v := nI 100) dX10_thingOf_112 (by decide) ?_
        refine Ev_isub dX10_thingOf_114 ?_
        refine Ev_S0 [.ref r_, .int (wh - nI 100)] dX10_thingOf_115 sX10_elementOf kX10_195 rfl rfl rfl (Nat.le_of_ble_eq_true rfl) (by omega) (ec_elementOf l G r_ (mNm m c) (wh - nI 100) h l3_.1 l3_.2.1 l3_.2.2.2 (by omega)) ?_
        refine Ev_iret dX10_thingOf_118 rfl ?_
        refine Or.inr ⟨c, hc_, rfl, ?_, rfl⟩
        first
        | (rw [thF_nu (by omega) (by omega)]; done)
        | (rw [thF_nm (by omega)]; done)
      · rw [t100] at zb90_
        refine Ev_aload_n dX10_thingOf_93 rfl (by first | exact Or.inr ⟨_, rfl⟩ | exact rv_or _ | exact Or.inl rfl) ?_
        refine Ev_getA dX10_thingOf_94 fX10_110 t1_.1.1 t1_.1.2.2.2.2.2.2.1 ?_
        refine Ev_iload_n dX10_thingOf_97 rfl ?_
        refine Ev_bipush (v := nI 10) dX10_thingOf_98 (by decide) ?_
        refine Ev_isub dX10_thingOf_100 ?_
        refine Ev_S0 [.ref (wN g c), .int (wh - nI 10)] dX10_thingOf_101 sX10_elementOf kX10_195 rfl rfl rfl (Nat.le_of_ble_eq_true rfl) (by omega) (ec_elementOf l G (wN g c) (nuL m c) (wh - nI 10) h t1_.2.1.1 (by rw [nuL_len]; exact t1_.2.1.2.1) (fun k hk => by rw [nuL_len] at hk; rw [nuL_at hk]; exact l1_ k hk) (by rw [nuL_len]; omega)) ?_
        refine Ev_goto 118 dX10_thingOf_104 (by decide) ?_
        refine Ev_iret dX10_thingOf_118 rfl ?_
        refine Or.inr ⟨c, hc_, rfl, ?_, rfl⟩
        first
        | (rw [thF_nu (by omega) (by omega)]; done)
        | (rw [thF_nm (by omega)]; done)
    · rcases (show wh.toInt = 0 ∨ wh.toInt = 1 ∨ wh.toInt = 2 ∨ wh.toInt = 3 by omega) with zw_ | zw_ | zw_ | zw_
      · refine Ev_tableIn (off := 32) 48 dX10_thingOf_16 (by rw [zw_]; decide) (by rw [zw_]; decide) (by rw [zw_]; rfl) (by decide) ?_
        refine Ev_aload_n dX10_thingOf_48 rfl (by first | exact Or.inr ⟨_, rfl⟩ | exact rv_or _ | exact Or.inl rfl) ?_
        refine Ev_getE dX10_thingOf_49 fX10_180 t1_.1.1 t1_.1.2.2.2.1 ?_
        refine Ev_iret dX10_thingOf_52 rfl ?_
        refine Or.inr ⟨c, hc_, rfl, ?_, rfl⟩
        rw [zw_]
        unfold thF
        rw [if_neg (by omega), if_neg (by omega), if_pos rfl]
      · refine Ev_tableIn (off := 37) 53 dX10_thingOf_16 (by rw [zw_]; decide) (by rw [zw_]; decide) (by rw [zw_]; rfl) (by decide) ?_
        refine Ev_aload_n dX10_thingOf_53 rfl (by first | exact Or.inr ⟨_, rfl⟩ | exact rv_or _ | exact Or.inl rfl) ?_
        refine Ev_getA dX10_thingOf_54 fX10_252 t1_.1.1 ti_ ?_
        refine Ev_ifnonnull (o := some (paO g (mPa m c))) 64 dX10_thingOf_57 (by decide) (fun a_ z_ => ?_) (fun z_ => by cases z_)
        refine Ev_aload_n dX10_thingOf_64 rfl (by first | exact Or.inr ⟨_, rfl⟩ | exact rv_or _ | exact Or.inl rfl) ?_
        refine Ev_getA dX10_thingOf_65 fX10_252 t1_.1.1 ti_ ?_
        refine Ev_getE dX10_thingOf_68 fX10_159 pr_.1 ps_ ?_
        refine Ev_iret dX10_thingOf_71 rfl ?_
        refine Or.inr ⟨c, hc_, rfl, ?_, rfl⟩
        rw [zw_]
        unfold thF
        rw [if_neg (by omega), if_neg (by omega), if_neg (by omega), if_pos rfl]
      · refine Ev_tableIn (off := 56) 72 dX10_thingOf_16 (by rw [zw_]; decide) (by rw [zw_]; decide) (by rw [zw_]; rfl) (by decide) ?_
        refine Ev_aload_n dX10_thingOf_72 rfl (by first | exact Or.inr ⟨_, rfl⟩ | exact rv_or _ | exact Or.inl rfl) ?_
        refine Ev_getA dX10_thingOf_73 fX10_19 (ck_3 cf) (cr_705_3 cf) ?_
        refine Ev_aload_n dX10_thingOf_76 rfl (by first | exact Or.inr ⟨_, rfl⟩ | exact rv_or _ | exact Or.inl rfl) ?_
        refine Ev_V0 [.ref (wA g c)] dX10_thingOf_77 vX4_placeOf kX10_255 (ck_6 cf) rfl rfl rfl (Nat.le_of_ble_eq_true rfl) (by omega) (ec_placeOf l G c g m h cf wf mk cm hc_) ?_
        refine Ev_iret dX10_thingOf_80 rfl ?_
        refine Or.inr ⟨c, hc_, rfl, ?_, rfl⟩
        rw [zw_]
        unfold thF
        rw [if_neg (by omega), if_neg (by omega), if_neg (by omega), if_neg (by omega), if_pos rfl]
      · refine Ev_tableIn (off := 65) 81 dX10_thingOf_16 (by rw [zw_]; decide) (by rw [zw_]; decide) (by rw [zw_]; rfl) (by decide) ?_
        refine Ev_aload_n dX10_thingOf_81 rfl (by first | exact Or.inr ⟨_, rfl⟩ | exact rv_or _ | exact Or.inl rfl) ?_
        refine Ev_getA dX10_thingOf_82 fX10_114 t1_.1.1 l2_ ?_
        refine Ev_alen dX10_thingOf_85 l3_.1 (by omega) (by omega) ?_
        rw [l3_.2.1]
        refine Ev_iret dX10_thingOf_86 rfl ?_
        refine Or.inr ⟨c, hc_, rfl, ?_, rfl⟩
        rw [zw_]
        unfold thF
        rw [if_neg (by omega), if_neg (by omega), if_neg (by omega), if_neg (by omega), if_neg (by omega), if_pos rfl]
  · skip
    refine Ev_aload_n dX10_thingOf_0 rfl (by first | exact Or.inr ⟨_, rfl⟩ | exact rv_or _ | exact Or.inl rfl) ?_
    refine Ev_getA dX10_thingOf_1 fX10_19 (ck_3 cf) (cr_705_3 cf) ?_
    refine Ev_iload_n dX10_thingOf_4 rfl ?_
    refine Ev_V0 [.int t] dX10_thingOf_5 vX4_at kX10_74 (ck_6 cf) rfl rfl rfl (Nat.le_of_ble_eq_true rfl) (by omega) (ec_at l G t g m h cf cm) ?_
    rw [atM_none mk zt_]
    refine Ev_astore_n dX10_thingOf_8 (by decide) (by first | exact Or.inr ⟨_, rfl⟩ | exact rv_or _ | exact Or.inl rfl) ?_
    refine Ev_aload_n dX10_thingOf_9 rfl (by first | exact Or.inr ⟨_, rfl⟩ | exact rv_or _ | exact Or.inl rfl) ?_
    refine Ev_ifnonnull (o := none) 15 dX10_thingOf_10 (by decide) (fun a_ z_ => by cases z_) (fun _ => ?_)
    refine Ev_iconst (v := -1) dX10_thingOf_13 (by decide) ?_
    refine Ev_iret dX10_thingOf_14 rfl ?_
    exact Or.inl ⟨zt_, rfl, rfl⟩
