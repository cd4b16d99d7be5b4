def StD (m : Md) (c : Nat) (R0 R : Nat → Bool) (mr : Nat) (x : Nat) : Prop := (mr = 1 ∧ rcn m R0 < rcn m R) ∨ (mr = 0 ∧ R = R0 ∧ ∀ y, mLive m y → mSl m y < x → stuk m c R y)
theorem StD.skip {m : Md} {c : Nat} {R0 R : Nat → Bool} {mr x : Nat} (s : StD m c R0 R mr x) (h : ∀ y, mLive m y → mSl m y = x → stuk m c R y) : StD m c R0 R mr (x + 1) := by
  rcases s with s | ⟨s1, s2, s3⟩
  · exact Or.inl s
  · refine Or.inr ⟨s1, s2, fun y hy hx => ?_⟩
    by_cases e : mSl m y = x
    · exact h y hy e
    · exact s3 y hy (by omega)
theorem StD.rem {m : Md} (k : MOk m) {c : Nat} {R0 R : Nat → Bool} {mr x y : Nat} (s : StD m c R0 R mr x) (hy : mLive m y) (hr : R y = false) : StD m c R0 (fun z => if z = y then true else R z) 1 (x + 1) := by
  refine Or.inl ⟨rfl, ?_⟩
  rw [rcn_add k hy hr]
  rcases s with s | ⟨-, s2, -⟩
  · have := s.2; omega
  · rw [s2]; omega
theorem ev_drop_2 (l : Launch) (G : aG) (c : Nat) (m : Md) (h : aH) (rf : Rf h) (mk : MOk m) (hcm : mCm m ≤ 600) (hpar_ : ∀ x, mLive m x → hX h 31 (mSl m x) = paI m x) (hc : mLive m c) (R0 : Nat → Bool) {Q : Option Value → aH → Prop} (kk_ : ∀ R mr h1, DrI m c R h h1 → StD m c R0 R mr 24 → Ev l G 2 0 0 mX11_drop 150 [.ref MO, .int (nI (mSl m c)), .int (nI (rcn m R)), .int (nI mr), .int (nI 24)] [] h1 Q) (ms : Nat) : ∀ x, 24 - x < ms → x ≤ 24 → ∀ R mr h1, DrI m c R h h1 → StD m c R0 R mr x → Ev l G 2 0 0 mX11_drop 86 [.ref MO, .int (nI (mSl m c)), .int (nI (rcn m R)), .int (nI mr), .int (nI x)] [] h1 Q := by
  induction ms with
  | zero => intro x hx; omega
  | succ ms ih_ =>
    intro x hx hx2 R mr h1 dr_ st_
    have rf1_ := rf.fr dr_.1
    have hs0_ := mk.sl hc
    have hpar1_ : ∀ z, mLive m z → hX h1 31 (mSl m z) = paI m z := fun z hz => by rw [dr_.1.2.2.2.2.2.2 31 (by decide)]; exact hpar_ z hz
    have jn_ : x < 24 → ∀ R mr h1, DrI m c R h h1 → StD m c R0 R mr (x + 1) → Ev l G 2 0 0 mX11_drop 144 [.ref MO, .int (nI (mSl m c)), .int (nI (rcn m R)), .int (nI mr), .int (nI x)] [] h1 Q := by
      intro hx3 R mr h1 dr_ st_
      refine Ev_iincN 1 dX11_drop_144 (by decide) (by decide) rfl ?_
      refine Ev_goto 86 dX11_drop_147 (by decide) ?_
      exact ih_ (x + 1) (by omega) (by omega) _ _ _ dr_ st_
    refine Ev_iload dX11_drop_86 rfl ?_
    refine Ev_bipush (v := nI 24) dX11_drop_88 (by decide) ?_
    refine Ev_icmp_geN 150 dX11_drop_90 (by decide) (by omega) (by omega) (fun zb90_ => ?_) (fun zb90_ => ?_)
    · have ex_ : x = 24 := by omega
      subst ex_
      exact kk_ _ _ _ dr_ st_
    · refine Ev_aload_n dX11_drop_93 rfl (by first | exact Or.inr ⟨_, rfl⟩ | exact rv_or _ | exact Or.inl rfl) ?_
      refine Ev_getA dX11_drop_94 fX11_7 rf1_.1 (rr_came rf1_) ?_
      refine Ev_iload dX11_drop_97 rfl ?_
      refine Ev_ialdL _ dX11_drop_99 (rk_came rf1_) (rl_came rf1_) (hi_n (by omega)) (by omega) ?_
      refine Ev_if_ltT 144 dX11_drop_100 (by decide) (fun zb100_ => ?_) (fun zb100_ => ?_)
      · have hk_ : ∀ y, mLive m y → mSl m y = x → stuk m c R y := by
          intro y hy ey
          refine Or.inl ?_
          cases hq : R y
          · rw [dr_.2.1 x (by omega), ← ey, lvR_at hy, if_neg (by rw [hq]; decide)] at zb100_
            have h3 := mk.lt hy
            exact absurd zb100_ (by show ¬ (nI y).toInt < 0; rw [hi_n (by omega)]; omega)
          · rfl
        first
        | (have jj_ := jn_ (by omega) R mr h1 dr_ (st_.skip hk_)
           exact jj_)
        | (have jj_ := jn_ (by omega) _ _ _ (dr_.rem mk hy zb116_ hne_ hk_) (st_.rem mk hy hr_)
           rw [er_] at jj_
           exact jj_)
      · obtain ⟨y, hy, hr_, ey_⟩ : ∃ y, mLive m y ∧ R y = false ∧ mSl m y = x := by
          rw [dr_.2.1 x (by omega)] at zb100_
          cases hl : mLv m x with
          | none =>
            have e0 : lvR m R x = none := by unfold lvR; rw [hl]
            rw [e0] at zb100_
            exact absurd (by decide) zb100_
          | some y =>
            have hsy := (mk.1 _ _ hl).2.2
            refine ⟨y, mk.live hl, ?_, hsy⟩
            rw [← hsy, lvR_at (mk.live hl)] at zb100_
            cases hq : R y
            · rfl
            · rw [if_pos hq] at zb100_; exact absurd (by decide) zb100_
        subst ey_
        have hsy_ := mk.sl hy
        refine Ev_iload dX11_drop_103 rfl ?_
        refine Ev_iload_n dX11_drop_105 rfl ?_
        refine Ev_icmp_eqN 144 dX11_drop_106 (by decide) (by omega) (by omega) (fun zb106_ => ?_) (fun zb106_ => ?_)
        · have hk_ : ∀ z, mLive m z → mSl m z = mSl m y → stuk m c R z := fun z hz ez => Or.inr (Or.inl (sl_inj hz hc (by omega)))
          first
          | (have jj_ := jn_ (by omega) R mr h1 dr_ (st_.skip hk_)
             exact jj_)
          | (have jj_ := jn_ (by omega) _ _ _ (dr_.rem mk hy zb116_ hne_ hk_) (st_.rem mk hy hr_)
             rw [er_] at jj_
             exact jj_)
        · refine Ev_aload_n dX11_drop_109 rfl (by first | exact Or.inr ⟨_, rfl⟩ | exact rv_or _ | exact Or.inl rfl) ?_
          refine Ev_iload dX11_drop_110 rfl ?_
          refine Ev_iload_n dX11_drop_112 rfl ?_
          refine Ev_V0 [.int (nI (mSl m y)), .int (nI (mSl m c))] dX11_drop_113 vX11_isWithin kX11_166 rf1_.1 rfl rfl rfl (Nat.le_of_ble_eq_true rfl) (by omega) (ev_isWithin l G c y m h1 rf1_ mk hpar1_ hc hy) ?_
          refine Ev_if_eqB 144 dX11_drop_116 (by decide) (fun zb116_ => ?_) (fun zb116_ => ?_)
          · have hk_ : ∀ z, mLive m z → mSl m z = mSl m y → stuk m c R z := fun z hz ez => by
              rw [sl_inj hz hy ez]; exact Or.inr (Or.inr (Or.inl zb116_))
            first
            | (have jj_ := jn_ (by omega) R mr h1 dr_ (st_.skip hk_)
               exact jj_)
            | (have jj_ := jn_ (by omega) _ _ _ (dr_.rem mk hy zb116_ hne_ hk_) (st_.rem mk hy hr_)
               rw [er_] at jj_
               exact jj_)
          · refine Ev_aload_n dX11_drop_119 rfl (by first | exact Or.inr ⟨_, rfl⟩ | exact rv_or _ | exact Or.inl rfl) ?_
            refine Ev_iload dX11_drop_120 rfl ?_
            refine Ev_V0 [.int (nI (mSl m y))] dX11_drop_122 vX11_many kX11_156 rf1_.1 rfl rfl rfl (Nat.le_of_ble_eq_true rfl) (by omega) (ev_many l G _ h1 rf1_) ?_
            refine Ev_if_leT 131 dX11_drop_125 (by decide) (fun zb125_ => ?_) (fun zb125_ => ?_)
            · have hk_ : ¬ ∃ z, mLive m z ∧ R z = false ∧ mPa m z = some y := fun q => by
                have := (dr_.kids mk hcm hpar1_ hy).mpr q
                rw [hi_n (by have := fb_ct_le (pm h1 (nI (mSl m y))) 24; omega)] at zb125_
                omega
              have hne_ : y ≠ c := fun z => zb106_ (by rw [z])
              have er_ := rcn_add mk hy hr_
              refine Ev_aload_n dX11_drop_131 rfl (by first | exact Or.inr ⟨_, rfl⟩ | exact rv_or _ | exact Or.inl rfl) ?_
              refine Ev_getA dX11_drop_132 fX11_7 rf1_.1 (rr_came rf1_) ?_
              refine Ev_iload dX11_drop_135 rfl ?_
              refine Ev_iconst (v := -1) dX11_drop_137 (by decide) ?_
              refine Ev_iastL _ dX11_drop_138 (rk_came rf1_) (rl_came rf1_) (hi_n (by omega)) (by omega) ?_
              refine Ev_iincN 1 dX11_drop_139 (by decide) (by decide) rfl ?_
              refine Ev_iconst (v := nI 1) dX11_drop_142 (by decide) ?_
              refine Ev_istore_n dX11_drop_143 (by decide) ?_
              first
              | (have jj_ := jn_ (by omega) R mr h1 dr_ (st_.skip hk_)
                 exact jj_)
              | (have jj_ := jn_ (by omega) _ _ _ (dr_.rem mk hy zb116_ hne_ hk_) (st_.rem mk hy hr_)
                 rw [er_] at jj_
                 exact jj_)
            · have hk_ : ∀ z, mLive m z → mSl m z = mSl m y → stuk m c R z := fun z hz ez => by
                rw [sl_inj hz hy ez]; exact Or.inr (Or.inr (Or.inr ((dr_.kids mk hcm hpar1_ hy).mp (by rw [hi_n (by have := fb_ct_le (pm h1 (nI (mSl m y))) 24; omega)] at zb125_; omega))))
              refine Ev_goto 144 dX11_drop_128 (by decide) ?_
              first
              | (have jj_ := jn_ (by omega) R mr h1 dr_ (st_.skip hk_)
                 exact jj_)
              | (have jj_ := jn_ (by omega) _ _ _ (dr_.rem mk hy zb116_ hne_ hk_) (st_.rem mk hy hr_)
                 rw [er_] at jj_
                 exact jj_)
theorem ev_drop_3 (l : Launch) (G : aG) (c : Nat) (m : Md) (h : aH) (rf : Rf h) (mk : MOk m) (hcm : mCm m ≤ 600) (hpar_ : ∀ x, mLive m x → hX h 31 (mSl m x) = paI m x) (hc : mLive m c) {Q : Option Value → aH → Prop} (kk_ : ∀ R h1 v_, DrI m c R h h1 → (∀ y, mLive m y → stuk m c R y) → Ev l G 2 0 0 mX11_drop 153 [.ref MO, .int (nI (mSl m c)), .int (nI (rcn m R)), .int (nI 0), v_] [] h1 Q) (ms : Nat) : ∀ R mr h1 v_, DrI m c R h h1 → (mr = 1 ∨ (mr = 0 ∧ ∀ y, mLive m y → stuk m c R y)) → 2 * (24 - rcn m R) + mr < ms → Ev l G 2 0 0 mX11_drop 77 [.ref MO, .int (nI (mSl m c)), .int (nI (rcn m R)), .int (nI mr), v_] [] h1 Q := by
  induction ms with
  | zero => intro R mr h1 v_ dr_ hm_ hms_; omega
  | succ ms ih_ =>
    intro R mr h1 v_ dr_ hm_ hms_
    refine Ev_iload_n dX11_drop_77 rfl ?_
    refine Ev_if_eqT 153 dX11_drop_78 (by decide) (fun zb78_ => ?_) (fun zb78_ => ?_)
    · have hz_ := hm_.resolve_left (fun z => by rw [z] at zb78_; exact absurd zb78_ (by decide))
      obtain ⟨rfl, hz2_⟩ := hz_
      exact kk_ _ _ _ dr_ hz2_
    · refine Ev_iconst (v := nI 0) dX11_drop_81 (by decide) ?_
      refine Ev_istore_n dX11_drop_82 (by decide) ?_
      refine Ev_iconst (v := nI 0) dX11_drop_83 (by decide) ?_
      refine Ev_istore dX11_drop_84 (by decide) ?_
      refine ev_drop_2 l G c m h rf mk hcm hpar_ hc R (fun R' mr' h2 d2_ s2_ => ?_) 25 0 (by omega) (by omega) R 0 h1 dr_ (Or.inr ⟨rfl, rfl, fun y hy hx => by omega⟩)
      refine Ev_goto 77 dX11_drop_150 (by decide) ?_
      have hle_ : rcn m R' ≤ 24 := fb_ct_le _ _
      have hlo_ : mr = 1 := by
        rcases hm_ with z | z
        · exact z
        · exact absurd (by rw [z.1]; decide) zb78_
      rcases s2_ with s2_ | ⟨s2_, s3_, s4_⟩
      · exact ih_ R' mr' h2 _ d2_ (Or.inl s2_.1) (by have := s2_.2; omega)
      · refine ih_ R' mr' h2 _ d2_ (Or.inr ⟨s2_, fun y hy => s4_ y hy (by have := mk.sl hy; omega)⟩) ?_
        rw [s3_]
        rw [s3_] at hle_
        rw [s2_]
        rw [hlo_] at hms_
        omega
