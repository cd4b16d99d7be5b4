def WyI (an wy : List Nat) (n k : Nat) (h h1 : aH) : Prop := FP n h h1 ∧ Fr [] [48] h h1 ∧ ∀ j, j < k → hX h1 48 (12 * (250 + n) + 2 * j) = nI (an.getD j 0) ∧ hX h1 48 (12 * (250 + n) + 2 * j + 1) = nI (wy.getD j 0)
theorem WyI.step {an wy : List Nat} {n k : Nat} {h h1 : aH} {v w : Int32} (c : WyI an wy n k h h1) (hv : v = nI (an.getD k 0)) (hw : w = nI (wy.getD k 0)) : WyI an wy n (k + 1) h (sX (sX h1 48 (12 * (250 + n) + 2 * k) v) 48 (12 * (250 + n) + 2 * k + 1) w) := by
  refine ⟨(c.1.tr (FP.way (by omega))).tr (FP.way (by omega)), (c.2.1.tr (Fr.row (by decide))).tr (Fr.row (by decide)), fun j hj => ?_⟩
  by_cases e : j = k
  · subst e
    exact ⟨(hX_n _ _ (by omega)).trans ((hX_s _ _ _ _).trans hv), (hX_s _ _ _ _).trans hw⟩
  · have := c.2.2 j (by omega)
    exact ⟨(hX_n _ _ (by omega)).trans ((hX_n _ _ (by omega)).trans this.1), (hX_n _ _ (by omega)).trans ((hX_n _ _ (by omega)).trans this.2)⟩
theorem ev_mp_w (l : Launch) (G : aG) (m : Md) (an wy : List Nat) (c i n r_ : Nat) (hn : n < 250) (h : aH) (rf : Rf h) (mk : MOk m) (hl : an.length ≤ 6) (hcm : ∀ x, mLive m x → hX h 29 (mSl m x) = nI x ∧ x < 600) (hs : ∀ k, k < an.length → hX h 58 k = nI (mSl m (an.getD k 0)) ∧ mLive m (an.getD k 0) ∧ hX h 59 k = nI (wy.getD k 0 + 1)) (hw : ∀ k, wy.getD k 0 < 1000) (eo_ : hI h 810 MO = nI an.length) {Q : Option Value → aH → Prop} (kk_ : ∀ h1, WyI an wy n an.length h h1 → Ev l G 2 0 0 mX11_makePiece 186 [.ref MO, .int (nI (mSl m c)), .int (nI i), .int (nI r_), .int (nI (250 + n)), .int (nI an.length)] [] h1 Q) (ms : Nat) : ∀ k, an.length - k < ms → k ≤ an.length → ∀ h1, WyI an wy n k h h1 → Ev l G 2 0 0 mX11_makePiece 118 [.ref MO, .int (nI (mSl m c)), .int (nI i), .int (nI r_), .int (nI (250 + n)), .int (nI k)] [] h1 Q := by
  induction ms with
  | zero => intro k hk; omega
  | succ ms ih_ =>
    intro k hk1_ hk2_ h1 wi_
    have rf1_ := rf.fr wi_.2.1
    have x1_ := wi_.2.1.2.2.2.2.2.2
    have eo1_ : hI h1 810 MO = nI an.length := (wi_.2.1.2.2.2.2.2.1 810 MO (fun z => absurd z.2 (by simp))).trans eo_
    have s1_ : ∀ k, k < an.length → hX h1 58 k = nI (mSl m (an.getD k 0)) ∧ mLive m (an.getD k 0) ∧ hX h1 59 k = nI (wy.getD k 0 + 1) := fun k hk => by
      rw [x1_ 58 (by decide), x1_ 59 (by decide)]; exact hs k hk
    have cm1_ : ∀ x, mLive m x → hX h1 29 (mSl m x) = nI x := fun x hx => by
      rw [x1_ 29 (by decide)]; exact (hcm x hx).1
    have hwk_ := hw k
    refine Ev_iload dX11_makePiece_118 rfl ?_
    refine Ev_aload_n dX11_makePiece_120 rfl (by first | exact Or.inr ⟨_, rfl⟩ | exact rv_or _ | exact Or.inl rfl) ?_
    refine Ev_getE dX11_makePiece_121 fX11_200 rf1_.1 eo1_ ?_
    refine Ev_icmp_geN 186 dX11_makePiece_124 (by decide) (by omega) (by omega) (fun zb124_ => ?_) (fun zb124_ => ?_)
    · have ek_ : k = an.length := by omega
      subst ek_
      exact kk_ _ wi_
    · refine Ev_aload_n dX11_makePiece_127 rfl (by first | exact Or.inr ⟨_, rfl⟩ | exact rv_or _ | exact Or.inl rfl) ?_
      refine Ev_getA dX11_makePiece_128 fX11_74 rf1_.1 (rr_way rf1_) ?_
      refine Ev_bipush (v := nI 12) dX11_makePiece_131 (by decide) ?_
      refine Ev_iload dX11_makePiece_133 rfl ?_
      refine Ev_imulN dX11_makePiece_135 ?_
      refine Ev_iconst (v := nI 2) dX11_makePiece_136 (by decide) ?_
      refine Ev_iload dX11_makePiece_137 rfl ?_
      refine Ev_imulN dX11_makePiece_139 ?_
      refine Ev_iaddN dX11_makePiece_140 ?_
      refine Ev_aload_n dX11_makePiece_141 rfl (by first | exact Or.inr ⟨_, rfl⟩ | exact rv_or _ | exact Or.inl rfl) ?_
      refine Ev_getA dX11_makePiece_142 fX11_7 rf1_.1 (rr_came rf1_) ?_
      refine Ev_aload_n dX11_makePiece_145 rfl (by first | exact Or.inr ⟨_, rfl⟩ | exact rv_or _ | exact Or.inl rfl) ?_
      refine Ev_getA dX11_makePiece_146 fX11_106 rf1_.1 (rr_useThing rf1_) ?_
      refine Ev_iload dX11_makePiece_149 rfl ?_
      refine Ev_ialdE _ dX11_makePiece_151 (rk_useThing rf1_) (rl_useThing rf1_) (hi_n (by omega)) (by omega) (s1_ k (by omega)).1 ?_
      refine Ev_ialdE _ dX11_makePiece_152 (rk_came rf1_) (rl_came rf1_) (hi_n (by have := mk.sl (s1_ k (by omega)).2.1; omega)) (mk.sl (s1_ k (by omega)).2.1) (cm1_ _ (s1_ k (by omega)).2.1) ?_
      refine Ev_iastL _ dX11_makePiece_153 (rk_way rf1_) (rl_way rf1_) (hi_n (by omega)) (by omega) ?_
      refine Ev_aload_n dX11_makePiece_154 rfl (by first | exact Or.inr ⟨_, rfl⟩ | exact rv_or _ | exact Or.inl rfl) ?_
      refine Ev_getA dX11_makePiece_155 fX11_74 rf1_.1 (rr_way rf1_) ?_
      refine Ev_bipush (v := nI 12) dX11_makePiece_158 (by decide) ?_
      refine Ev_iload dX11_makePiece_160 rfl ?_
      refine Ev_imulN dX11_makePiece_162 ?_
      refine Ev_iconst (v := nI 2) dX11_makePiece_163 (by decide) ?_
      refine Ev_iload dX11_makePiece_164 rfl ?_
      refine Ev_imulN dX11_makePiece_166 ?_
      refine Ev_iaddN dX11_makePiece_167 ?_
      refine Ev_iconst (v := nI 1) dX11_makePiece_168 (by decide) ?_
      refine Ev_iaddN dX11_makePiece_169 ?_
      refine Ev_aload_n dX11_makePiece_170 rfl (by first | exact Or.inr ⟨_, rfl⟩ | exact rv_or _ | exact Or.inl rfl) ?_
      refine Ev_getA dX11_makePiece_171 fX11_109 rf1_.1 (rr_useItem rf1_) ?_
      refine Ev_iload dX11_makePiece_174 rfl ?_
      refine Ev_ialdE _ dX11_makePiece_176 (rk_useItem rf1_) (rl_useItem rf1_) (hi_n (by omega)) (by omega) ((gX_X _ (by decide)).trans (s1_ k (by omega)).2.2) ?_
      refine Ev_iconst (v := nI 1) dX11_makePiece_177 (by decide) ?_
      refine Ev_isubN dX11_makePiece_178 (by omega) ?_
      refine Ev_iastL _ dX11_makePiece_179 (rk_way rf1_) (rl_way rf1_) (hi_n (by omega)) (by omega) ?_
      refine Ev_iincN 1 dX11_makePiece_180 (by decide) (by decide) rfl ?_
      refine Ev_goto 118 dX11_makePiece_183 (by decide) ?_
      exact ih_ (k + 1) (by omega) (by omega) _ (wi_.step rfl (by rw [Nat.add_sub_cancel]))
theorem ev_mp_word (l : Launch) (G : aG) (m : Md) (c i n r_ w on kd : Nat) (xs : List Int32) (h : aH) (rf : Rf h) (mk : MOk m) (hc : mLive m c) (hr_ : r_ < 160) (hkd : kd < 8) (hx : on + xs.length ≤ 120) (et_ : hX h 39 r_ = nI xs.length) (ek_ : hX h 30 (mSl m c) = nI kd) (eo_ : hX h 38 r_ = nI on) (hb_ : ∀ k, k < xs.length → hX h 40 (120 * kd + on + k) = xs.getD k 0) {Q : Option Value → aH → Prop} (kk_ : ∀ h1, WrI w xs h h1 → Ev l G 2 0 0 mX11_makePiece 280 [.ref MO, .int (nI (mSl m c)), .int (nI i), .int (nI r_), .int (nI (250 + n)), .int (nI xs.length)] [] h1 Q) (ms : Nat) : ∀ k, xs.length - k < ms → k ≤ xs.length → ∀ h1, WrI w (xs.take k) h h1 → Ev l G 2 0 0 mX11_makePiece 235 [.ref MO, .int (nI (mSl m c)), .int (nI i), .int (nI r_), .int (nI (250 + n)), .int (nI k)] [] h1 Q := by
  induction ms with
  | zero => intro k hk; omega
  | succ ms ih_ =>
    intro k hk1_ hk2_ h1 wr_
    have rf1_ := rf.fr wr_.1
    have wX_ : ∀ r, r ∉ [52] → ∀ {i : Nat} {v : Int32}, hX h r i = v → hX h1 r i = v := fun r hr i v e => (congrFun (wr_.1.2.2.2.2.2.2 r hr) i).trans e
    have sl_ := mk.sl hc
    refine Ev_iload dX11_makePiece_235 rfl ?_
    refine Ev_aload_n dX11_makePiece_237 rfl (by first | exact Or.inr ⟨_, rfl⟩ | exact rv_or _ | exact Or.inl rfl) ?_
    refine Ev_getA dX11_makePiece_238 fX11_40 rf1_.1 (rr_two rf1_) ?_
    refine Ev_iload_n dX11_makePiece_241 rfl ?_
    refine Ev_ialdE _ dX11_makePiece_242 (rk_two rf1_) (rl_two rf1_) (hi_n (by omega)) (by omega) (wX_ 39 (by decide) et_) ?_
    refine Ev_icmp_geN 280 dX11_makePiece_243 (by decide) (by omega) (by omega) (fun zb243_ => ?_) (fun zb243_ => ?_)
    · have ek1_ : k = xs.length := by omega
      subst ek1_
      rw [List.take_length] at wr_
      exact kk_ _ wr_
    · refine Ev_aload_n dX11_makePiece_246 rfl (by first | exact Or.inr ⟨_, rfl⟩ | exact rv_or _ | exact Or.inl rfl) ?_
      refine Ev_aload_n dX11_makePiece_247 rfl (by first | exact Or.inr ⟨_, rfl⟩ | exact rv_or _ | exact Or.inl rfl) ?_
      refine Ev_getA dX11_makePiece_248 fX11_43 rf1_.1 (rr_ruleBytes rf1_) ?_
      refine Ev_bipush (v := nI 120) dX11_makePiece_251 (by decide) ?_
      refine Ev_aload_n dX11_makePiece_253 rfl (by first | exact Or.inr ⟨_, rfl⟩ | exact rv_or _ | exact Or.inl rfl) ?_
      refine Ev_getA dX11_makePiece_254 fX11_13 rf1_.1 (rr_kind rf1_) ?_
      refine Ev_iload_n dX11_makePiece_257 rfl ?_
      refine Ev_ialdE _ dX11_makePiece_258 (rk_kind rf1_) (rl_kind rf1_) (hi_n (by omega)) (by omega) (wX_ 30 (by decide) ek_) ?_
      refine Ev_imulN dX11_makePiece_259 ?_
      refine Ev_aload_n dX11_makePiece_260 rfl (by first | exact Or.inr ⟨_, rfl⟩ | exact rv_or _ | exact Or.inl rfl) ?_
      refine Ev_getA dX11_makePiece_261 fX11_37 rf1_.1 (rr_one rf1_) ?_
      refine Ev_iload_n dX11_makePiece_264 rfl ?_
      refine Ev_ialdE _ dX11_makePiece_265 (rk_one rf1_) (rl_one rf1_) (hi_n (by omega)) (by omega) (wX_ 38 (by decide) eo_) ?_
      refine Ev_iaddN dX11_makePiece_266 ?_
      refine Ev_iload dX11_makePiece_267 rfl ?_
      refine Ev_iaddN dX11_makePiece_269 ?_
      refine Ev_ialdE _ dX11_makePiece_270 (rk_ruleBytes rf1_) (rl_ruleBytes rf1_) (hi_n (by omega)) (by omega) (wX_ 40 (by decide) (hb_ k (by omega))) ?_
      refine Ev_V0 [.int (xs.getD k 0)] dX11_makePiece_271 vX11_write kX11_206 rf1_.1 rfl rfl rfl (Nat.le_of_ble_eq_true rfl) (by omega) (ev_write l G _ (min (w + (xs.take k).length) 3000) (by omega) h1 rf1_ wr_.2.1) ?_
      refine Ev_iincN 1 dX11_makePiece_274 (by decide) (by decide) rfl ?_
      refine Ev_goto 235 dX11_makePiece_277 (by decide) ?_
      refine ih_ (k + 1) (by omega) (by omega) _ ?_
      rw [take_getD (by omega)]; exact wr_.add
theorem ev_mp_name (l : Launch) (G : aG) (m : Md) (c i n r_ w : Nat) (xs : List Int32) (h : aH) (rf : Rf h) (mk : MOk m) (hc : mLive m c) (hx : xs.length ≤ 6) (et_ : hX h 35 (mSl m c) = nI xs.length) (hb_ : ∀ k, k < xs.length → hX h 34 (6 * mSl m c + k) = xs.getD k 0) {Q : Option Value → aH → Prop} (kk_ : ∀ h1, WrI w xs h h1 → Ev l G 2 0 0 mX11_makePiece 326 [.ref MO, .int (nI (mSl m c)), .int (nI i), .int (nI r_), .int (nI (250 + n)), .int (nI xs.length)] [] h1 Q) (ms : Nat) : ∀ k, xs.length - k < ms → k ≤ xs.length → ∀ h1, WrI w (xs.take k) h h1 → Ev l G 2 0 0 mX11_makePiece 293 [.ref MO, .int (nI (mSl m c)), .int (nI i), .int (nI r_), .int (nI (250 + n)), .int (nI k)] [] h1 Q := by
  induction ms with
  | zero => intro k hk; omega
  | succ ms ih_ =>
    intro k hk1_ hk2_ h1 wr_
    have rf1_ := rf.fr wr_.1
    have wX_ : ∀ r, r ∉ [52] → ∀ {i : Nat} {v : Int32}, hX h r i = v → hX h1 r i = v := fun r hr i v e => (congrFun (wr_.1.2.2.2.2.2.2 r hr) i).trans e
    have sl_ := mk.sl hc
    refine Ev_iload dX11_makePiece_293 rfl ?_
    refine Ev_aload_n dX11_makePiece_295 rfl (by first | exact Or.inr ⟨_, rfl⟩ | exact rv_or _ | exact Or.inl rfl) ?_
    refine Ev_getA dX11_makePiece_296 fX11_28 rf1_.1 (rr_named rf1_) ?_
    refine Ev_iload_n dX11_makePiece_299 rfl ?_
    refine Ev_ialdE _ dX11_makePiece_300 (rk_named rf1_) (rl_named rf1_) (hi_n (by omega)) (by omega) (wX_ 35 (by decide) et_) ?_
    refine Ev_icmp_geN 326 dX11_makePiece_301 (by decide) (by omega) (by omega) (fun zb301_ => ?_) (fun zb301_ => ?_)
    · have ek1_ : k = xs.length := by omega
      subst ek1_
      rw [List.take_length] at wr_
      exact kk_ _ wr_
    · refine Ev_aload_n dX11_makePiece_304 rfl (by first | exact Or.inr ⟨_, rfl⟩ | exact rv_or _ | exact Or.inl rfl) ?_
      refine Ev_aload_n dX11_makePiece_305 rfl (by first | exact Or.inr ⟨_, rfl⟩ | exact rv_or _ | exact Or.inl rfl) ?_
      refine Ev_getA dX11_makePiece_306 fX11_25 rf1_.1 (rr_name rf1_) ?_
      refine Ev_bipush (v := nI 6) dX11_makePiece_309 (by decide) ?_
      refine Ev_iload_n dX11_makePiece_311 rfl ?_
      refine Ev_imulN dX11_makePiece_312 ?_
      refine Ev_iload dX11_makePiece_313 rfl ?_
      refine Ev_iaddN dX11_makePiece_315 ?_
      refine Ev_ialdE _ dX11_makePiece_316 (rk_name rf1_) (rl_name rf1_) (hi_n (by omega)) (by omega) (wX_ 34 (by decide) (hb_ k (by omega))) ?_
      refine Ev_V0 [.int (xs.getD k 0)] dX11_makePiece_317 vX11_write kX11_206 rf1_.1 rfl rfl rfl (Nat.le_of_ble_eq_true rfl) (by omega) (ev_write l G _ (min (w + (xs.take k).length) 3000) (by omega) h1 rf1_ wr_.2.1) ?_
      refine Ev_iincN 1 dX11_makePiece_320 (by decide) (by decide) rfl ?_
      refine Ev_goto 293 dX11_makePiece_323 (by decide) ?_
      refine ih_ (k + 1) (by omega) (by omega) _ ?_
      rw [take_getD (by omega)]; exact wr_.add
theorem ev_mp_223 (l : Launch) (G : aG) (m : Md) (c i n r_ w on tw : Nat) (it : It) (hn : n < 250) (h : aH) (rf : Rf h) (mk : MOk m) (hc : mLive m c) (hr_ : r_ < 160) (hw3 : w ≤ 3000) (ew_ : hI h 800 MO = nI w) (es_ : hX h 37 r_ = nI it.1) (e1_ : hX h 38 r_ = nI on) (e2_ : hX h 39 r_ = nI tw) (iw_ : itW h (120 * mKd m c) it on tw) (iok_ : itOk it) (i4_ : it.1 ≤ 4) (rt1_ : RT1 m c h) (v_ : Value) {Q : Option Value → aH → Prop} (kk_ : ∀ h1 v_, WrI w (mdF m c it) h h1 → Ev l G 2 0 0 mX11_makePiece 400 [.ref MO, .int (nI (mSl m c)), .int (nI i), .int (nI r_), .int (nI (250 + n)), v_] [] h1 Q) : Ev l G 2 0 0 mX11_makePiece 223 [.ref MO, .int (nI (mSl m c)), .int (nI i), .int (nI r_), .int (nI (250 + n)), v_] [] h Q := by
  have hkd_ := (mk.2.1 c (mk.lt hc)).2.1
  have sl_ := mk.sl hc
  have nm6_ := (mk.2.2.1 c hc).2.1.2
  have ek_ := rt1_.1
  have en_ : ∀ j, j < 4 → hX h 33 (4 * mSl m c + j) = nI (nuV m c j) := fun j hj => (rt1_.2.2.1 j hj).trans (nu_nI mk hc hj).1
  rcases (show it.1 = 0 ∨ it.1 = 1 ∨ it.1 = 2 ∨ it.1 = 3 ∨ it.1 = 4 by omega) with hs_ | hs_ | hs_ | hs_ | hs_
  · have iw0_ := iw_.1 hs_
    have ok0_ := iok_.2.2.2.2.1 hs_
    rw [show mdF m c it = it.2.2.2 from if_pos hs_] at kk_
    rw [hs_] at es_
    refine Ev_aload_n dX11_makePiece_223 rfl (by first | exact Or.inr ⟨_, rfl⟩ | exact rv_or _ | exact Or.inl rfl) ?_
    refine Ev_getA dX11_makePiece_224 fX11_34 rf.1 (rr_sort rf) ?_
    refine Ev_iload_n dX11_makePiece_227 rfl ?_
    refine Ev_ialdE _ dX11_makePiece_228 (rk_sort rf) (rl_sort rf) (hi_n (by omega)) (by omega) es_ ?_
    refine Ev_if_neT 280 dX11_makePiece_229 (by decide) (fun zb229_ => ?_) (fun zb229_ => ?_)
    · exact absurd t0 zb229_
    · refine Ev_iconst (v := nI 0) dX11_makePiece_232 (by decide) ?_
      refine Ev_istore dX11_makePiece_233 (by decide) ?_
      refine ev_mp_word l G m c i n r_ w on (mKd m c) it.2.2.2 h rf mk hc hr_ hkd_ (by omega) (by rw [← iw0_.1]; exact e2_) ek_ e1_ (fun k hk => iw0_.2.2 k (by omega)) (fun h1 wr_ => ?_) 122 0 (by omega) (by omega) h (by rw [List.take_zero]; exact WrI.nil hw3 ew_)
      have wX_ : ∀ r, r ∉ [52] → ∀ {i : Nat} {v : Int32}, hX h r i = v → hX h1 r i = v := fun r hr i v e => (congrFun (wr_.1.2.2.2.2.2.2 r hr) i).trans e
      have rf1_ := rf.fr wr_.1
      refine Ev_aload_n dX11_makePiece_280 rfl (by first | exact Or.inr ⟨_, rfl⟩ | exact rv_or _ | exact Or.inl rfl) ?_
      refine Ev_getA dX11_makePiece_281 fX11_34 rf1_.1 (rr_sort rf1_) ?_
      refine Ev_iload_n dX11_makePiece_284 rfl ?_
      refine Ev_ialdE _ dX11_makePiece_285 (rk_sort rf1_) (rl_sort rf1_) (hi_n (by omega)) (by omega) (wX_ 37 (by decide) es_) ?_
      refine Ev_iconst (v := nI 1) dX11_makePiece_286 (by decide) ?_
      refine Ev_icmp_neN 326 dX11_makePiece_287 (by decide) (by omega) (by omega) (fun zb287_ => ?_) (fun zb287_ => ?_)
      · refine Ev_aload_n dX11_makePiece_326 rfl (by first | exact Or.inr ⟨_, rfl⟩ | exact rv_or _ | exact Or.inl rfl) ?_
        refine Ev_getA dX11_makePiece_327 fX11_34 rf1_.1 (rr_sort rf1_) ?_
        refine Ev_iload_n dX11_makePiece_330 rfl ?_
        refine Ev_ialdE _ dX11_makePiece_331 (rk_sort rf1_) (rl_sort rf1_) (hi_n (by omega)) (by omega) (wX_ 37 (by decide) es_) ?_
        refine Ev_iconst (v := nI 2) dX11_makePiece_332 (by decide) ?_
        refine Ev_icmp_neN 355 dX11_makePiece_333 (by decide) (by omega) (by omega) (fun zb333_ => ?_) (fun zb333_ => ?_)
        · refine Ev_aload_n dX11_makePiece_355 rfl (by first | exact Or.inr ⟨_, rfl⟩ | exact rv_or _ | exact Or.inl rfl) ?_
          refine Ev_getA dX11_makePiece_356 fX11_34 rf1_.1 (rr_sort rf1_) ?_
          refine Ev_iload_n dX11_makePiece_359 rfl ?_
          refine Ev_ialdE _ dX11_makePiece_360 (rk_sort rf1_) (rl_sort rf1_) (hi_n (by omega)) (by omega) (wX_ 37 (by decide) es_) ?_
          refine Ev_iconst (v := nI 3) dX11_makePiece_361 (by decide) ?_
          refine Ev_icmp_neN 400 dX11_makePiece_362 (by decide) (by omega) (by omega) (fun zb362_ => ?_) (fun zb362_ => ?_)
          · exact kk_ _ _ wr_
          · exact absurd zb362_ (by decide)
        · exact absurd zb333_ (by decide)
      · exact absurd zb287_ (by decide)
  · rw [show mdF m c it = mNm m c from by unfold mdF; rw [if_neg (by omega), if_pos hs_]] at kk_
    rw [hs_] at es_
    refine Ev_aload_n dX11_makePiece_223 rfl (by first | exact Or.inr ⟨_, rfl⟩ | exact rv_or _ | exact Or.inl rfl) ?_
    refine Ev_getA dX11_makePiece_224 fX11_34 rf.1 (rr_sort rf) ?_
    refine Ev_iload_n dX11_makePiece_227 rfl ?_
    refine Ev_ialdE _ dX11_makePiece_228 (rk_sort rf) (rl_sort rf) (hi_n (by omega)) (by omega) es_ ?_
    refine Ev_if_neT 280 dX11_makePiece_229 (by decide) (fun zb229_ => ?_) (fun zb229_ => ?_)
    · refine Ev_aload_n dX11_makePiece_280 rfl (by first | exact Or.inr ⟨_, rfl⟩ | exact rv_or _ | exact Or.inl rfl) ?_
      refine Ev_getA dX11_makePiece_281 fX11_34 rf.1 (rr_sort rf) ?_
      refine Ev_iload_n dX11_makePiece_284 rfl ?_
      refine Ev_ialdE _ dX11_makePiece_285 (rk_sort rf) (rl_sort rf) (hi_n (by omega)) (by omega) es_ ?_
      refine Ev_iconst (v := nI 1) dX11_makePiece_286 (by decide) ?_
      refine Ev_icmp_neN 326 dX11_makePiece_287 (by decide) (by omega) (by omega) (fun zb287_ => ?_) (fun zb287_ => ?_)
      · exact absurd rfl zb287_
      · refine Ev_iconst (v := nI 0) dX11_makePiece_290 (by decide) ?_
        refine Ev_istore dX11_makePiece_291 (by decide) ?_
        refine ev_mp_name l G m c i n r_ w (mNm m c) h rf mk hc nm6_ rt1_.2.2.2.1 rt1_.2.2.2.2 (fun h1 wr_ => ?_) 7 0 (by omega) (by omega) h (by rw [List.take_zero]; exact WrI.nil hw3 ew_)
        have wX_ : ∀ r, r ∉ [52] → ∀ {i : Nat} {v : Int32}, hX h r i = v → hX h1 r i = v := fun r hr i v e => (congrFun (wr_.1.2.2.2.2.2.2 r hr) i).trans e
        have rf1_ := rf.fr wr_.1
        refine Ev_aload_n dX11_makePiece_326 rfl (by first | exact Or.inr ⟨_, rfl⟩ | exact rv_or _ | exact Or.inl rfl) ?_
        refine Ev_getA dX11_makePiece_327 fX11_34 rf1_.1 (rr_sort rf1_) ?_
        refine Ev_iload_n dX11_makePiece_330 rfl ?_
        refine Ev_ialdE _ dX11_makePiece_331 (rk_sort rf1_) (rl_sort rf1_) (hi_n (by omega)) (by omega) (wX_ 37 (by decide) es_) ?_
        refine Ev_iconst (v := nI 2) dX11_makePiece_332 (by decide) ?_
        refine Ev_icmp_neN 355 dX11_makePiece_333 (by decide) (by omega) (by omega) (fun zb333_ => ?_) (fun zb333_ => ?_)
        · refine Ev_aload_n dX11_makePiece_355 rfl (by first | exact Or.inr ⟨_, rfl⟩ | exact rv_or _ | exact Or.inl rfl) ?_
          refine Ev_getA dX11_makePiece_356 fX11_34 rf1_.1 (rr_sort rf1_) ?_
          refine Ev_iload_n dX11_makePiece_359 rfl ?_
          refine Ev_ialdE _ dX11_makePiece_360 (rk_sort rf1_) (rl_sort rf1_) (hi_n (by omega)) (by omega) (wX_ 37 (by decide) es_) ?_
          refine Ev_iconst (v := nI 3) dX11_makePiece_361 (by decide) ?_
          refine Ev_icmp_neN 400 dX11_makePiece_362 (by decide) (by omega) (by omega) (fun zb362_ => ?_) (fun zb362_ => ?_)
          · exact kk_ _ _ wr_
          · exact absurd zb362_ (by decide)
        · exact absurd zb333_ (by decide)
    · exact absurd zb229_ (by decide)
  · have j4_ := iok_.2.1 (Or.inl hs_)
    have iw1_ := iw_.2 (by omega)
    have nv_ := (nu_nI mk hc j4_).2
    rw [iw1_.1] at e1_
    rw [show mdF m c it = digs (nuV m c it.2.1) from by unfold mdF; rw [if_neg (by omega), if_neg (by omega), if_pos hs_]] at kk_
    rw [hs_] at es_
    refine Ev_aload_n dX11_makePiece_223 rfl (by first | exact Or.inr ⟨_, rfl⟩ | exact rv_or _ | exact Or.inl rfl) ?_
    refine Ev_getA dX11_makePiece_224 fX11_34 rf.1 (rr_sort rf) ?_
    refine Ev_iload_n dX11_makePiece_227 rfl ?_
    refine Ev_ialdE _ dX11_makePiece_228 (rk_sort rf) (rl_sort rf) (hi_n (by omega)) (by omega) es_ ?_
    refine Ev_if_neT 280 dX11_makePiece_229 (by decide) (fun zb229_ => ?_) (fun zb229_ => ?_)
    · refine Ev_aload_n dX11_makePiece_280 rfl (by first | exact Or.inr ⟨_, rfl⟩ | exact rv_or _ | exact Or.inl rfl) ?_
      refine Ev_getA dX11_makePiece_281 fX11_34 rf.1 (rr_sort rf) ?_
      refine Ev_iload_n dX11_makePiece_284 rfl ?_
      refine Ev_ialdE _ dX11_makePiece_285 (rk_sort rf) (rl_sort rf) (hi_n (by omega)) (by omega) es_ ?_
      refine Ev_iconst (v := nI 1) dX11_makePiece_286 (by decide) ?_
      refine Ev_icmp_neN 326 dX11_makePiece_287 (by decide) (by omega) (by omega) (fun zb287_ => ?_) (fun zb287_ => ?_)
      · refine Ev_aload_n dX11_makePiece_326 rfl (by first | exact Or.inr ⟨_, rfl⟩ | exact rv_or _ | exact Or.inl rfl) ?_
        refine Ev_getA dX11_makePiece_327 fX11_34 rf.1 (rr_sort rf) ?_
        refine Ev_iload_n dX11_makePiece_330 rfl ?_
        refine Ev_ialdE _ dX11_makePiece_331 (rk_sort rf) (rl_sort rf) (hi_n (by omega)) (by omega) es_ ?_
        refine Ev_iconst (v := nI 2) dX11_makePiece_332 (by decide) ?_
        refine Ev_icmp_neN 355 dX11_makePiece_333 (by decide) (by omega) (by omega) (fun zb333_ => ?_) (fun zb333_ => ?_)
        · exact absurd rfl zb333_
        · refine Ev_aload_n dX11_makePiece_336 rfl (by first | exact Or.inr ⟨_, rfl⟩ | exact rv_or _ | exact Or.inl rfl) ?_
          refine Ev_aload_n dX11_makePiece_337 rfl (by first | exact Or.inr ⟨_, rfl⟩ | exact rv_or _ | exact Or.inl rfl) ?_
          refine Ev_getA dX11_makePiece_338 fX11_22 rf.1 (rr_number rf) ?_
          refine Ev_iconst (v := nI 4) dX11_makePiece_341 (by decide) ?_
          refine Ev_iload_n dX11_makePiece_342 rfl ?_
          refine Ev_imulN dX11_makePiece_343 ?_
          refine Ev_aload_n dX11_makePiece_344 rfl (by first | exact Or.inr ⟨_, rfl⟩ | exact rv_or _ | exact Or.inl rfl) ?_
          refine Ev_getA dX11_makePiece_345 fX11_37 rf.1 (rr_one rf) ?_
          refine Ev_iload_n dX11_makePiece_348 rfl ?_
          refine Ev_ialdE _ dX11_makePiece_349 (rk_one rf) (rl_one rf) (hi_n (by omega)) (by omega) e1_ ?_
          refine Ev_iaddN dX11_makePiece_350 ?_
          refine Ev_ialdE _ dX11_makePiece_351 (rk_number rf) (rl_number rf) (hi_n (by omega)) (by omega) (en_ it.2.1 j4_) ?_
          refine Ev_Vz [.int (nI (nuV m c it.2.1))] dX11_makePiece_352 vX11_writeNumber kX11_209 rf.1 rfl rfl rfl (Nat.le_of_ble_eq_true rfl) (by omega) (ev_writeNumber l G _ w (by omega) hw3 h rf ew_) (fun v_ h1 e_ => ?_)
          obtain ⟨rfl, wr_⟩ := e_
          have wX_ : ∀ r, r ∉ [52] → ∀ {i : Nat} {v : Int32}, hX h r i = v → hX h1 r i = v := fun r hr i v e => (congrFun (wr_.1.2.2.2.2.2.2 r hr) i).trans e
          have rf1_ := rf.fr wr_.1
          refine Ev_aload_n dX11_makePiece_355 rfl (by first | exact Or.inr ⟨_, rfl⟩ | exact rv_or _ | exact Or.inl rfl) ?_
          refine Ev_getA dX11_makePiece_356 fX11_34 rf1_.1 (rr_sort rf1_) ?_
          refine Ev_iload_n dX11_makePiece_359 rfl ?_
          refine Ev_ialdE _ dX11_makePiece_360 (rk_sort rf1_) (rl_sort rf1_) (hi_n (by omega)) (by omega) (wX_ 37 (by decide) es_) ?_
          refine Ev_iconst (v := nI 3) dX11_makePiece_361 (by decide) ?_
          refine Ev_icmp_neN 400 dX11_makePiece_362 (by decide) (by omega) (by omega) (fun zb362_ => ?_) (fun zb362_ => ?_)
          · exact kk_ _ _ wr_
          · exact absurd zb362_ (by decide) --end
      · exact absurd zb287_ (by decide)
    · exact absurd zb229_ (by decide)
  · have j4_ := iok_.2.1 (Or.inr (Or.inl hs_))
    have j5_ := iok_.2.2.1 hs_
    have iw1_ := iw_.2 (by omega)
    have nv_ := (nu_nI mk hc j4_).2
    have nv2_ := (nu_nI mk hc j5_).2
    rw [iw1_.1] at e1_
    rw [iw1_.2] at e2_
    rw [show mdF m c it = digs (nuV m c it.2.1 + nuV m c it.2.2.1) from by unfold mdF; rw [if_neg (by omega), if_neg (by omega), if_neg (by omega), if_pos hs_]] at kk_
    rw [hs_] at es_
    refine Ev_aload_n dX11_makePiece_223 rfl (by first | exact Or.inr ⟨_, rfl⟩ | exact rv_or _ | exact Or.inl rfl) ?_
    refine Ev_getA dX11_makePiece_224 fX11_34 rf.1 (rr_sort rf) ?_
    refine Ev_iload_n dX11_makePiece_227 rfl ?_
    refine Ev_ialdE _ dX11_makePiece_228 (rk_sort rf) (rl_sort rf) (hi_n (by omega)) (by omega) es_ ?_
    refine Ev_if_neT 280 dX11_makePiece_229 (by decide) (fun zb229_ => ?_) (fun zb229_ => ?_)
    · refine Ev_aload_n dX11_makePiece_280 rfl (by first | exact Or.inr ⟨_, rfl⟩ | exact rv_or _ | exact Or.inl rfl) ?_
      refine Ev_getA dX11_makePiece_281 fX11_34 rf.1 (rr_sort rf) ?_
      refine Ev_iload_n dX11_makePiece_284 rfl ?_
      refine Ev_ialdE _ dX11_makePiece_285 (rk_sort rf) (rl_sort rf) (hi_n (by omega)) (by omega) es_ ?_
      refine Ev_iconst (v := nI 1) dX11_makePiece_286 (by decide) ?_
      refine Ev_icmp_neN 326 dX11_makePiece_287 (by decide) (by omega) (by omega) (fun zb287_ => ?_) (fun zb287_ => ?_)
      · refine Ev_aload_n dX11_makePiece_326 rfl (by first | exact Or.inr ⟨_, rfl⟩ | exact rv_or _ | exact Or.inl rfl) ?_
        refine Ev_getA dX11_makePiece_327 fX11_34 rf.1 (rr_sort rf) ?_
        refine Ev_iload_n dX11_makePiece_330 rfl ?_
        refine Ev_ialdE _ dX11_makePiece_331 (rk_sort rf) (rl_sort rf) (hi_n (by omega)) (by omega) es_ ?_
        refine Ev_iconst (v := nI 2) dX11_makePiece_332 (by decide) ?_
        refine Ev_icmp_neN 355 dX11_makePiece_333 (by decide) (by omega) (by omega) (fun zb333_ => ?_) (fun zb333_ => ?_)
        · refine Ev_aload_n dX11_makePiece_355 rfl (by first | exact Or.inr ⟨_, rfl⟩ | exact rv_or _ | exact Or.inl rfl) ?_
          refine Ev_getA dX11_makePiece_356 fX11_34 rf.1 (rr_sort rf) ?_
          refine Ev_iload_n dX11_makePiece_359 rfl ?_
          refine Ev_ialdE _ dX11_makePiece_360 (rk_sort rf) (rl_sort rf) (hi_n (by omega)) (by omega) es_ ?_
          refine Ev_iconst (v := nI 3) dX11_makePiece_361 (by decide) ?_
          refine Ev_icmp_neN 400 dX11_makePiece_362 (by decide) (by omega) (by omega) (fun zb362_ => ?_) (fun zb362_ => ?_)
          · exact absurd rfl zb362_
          · refine Ev_aload_n dX11_makePiece_365 rfl (by first | exact Or.inr ⟨_, rfl⟩ | exact rv_or _ | exact Or.inl rfl) ?_
            refine Ev_aload_n dX11_makePiece_366 rfl (by first | exact Or.inr ⟨_, rfl⟩ | exact rv_or _ | exact Or.inl rfl) ?_
            refine Ev_getA dX11_makePiece_367 fX11_22 rf.1 (rr_number rf) ?_
            refine Ev_iconst (v := nI 4) dX11_makePiece_370 (by decide) ?_
            refine Ev_iload_n dX11_makePiece_371 rfl ?_
            refine Ev_imulN dX11_makePiece_372 ?_
            refine Ev_aload_n dX11_makePiece_373 rfl (by first | exact Or.inr ⟨_, rfl⟩ | exact rv_or _ | exact Or.inl rfl) ?_
            refine Ev_getA dX11_makePiece_374 fX11_37 rf.1 (rr_one rf) ?_
            refine Ev_iload_n dX11_makePiece_377 rfl ?_
            refine Ev_ialdE _ dX11_makePiece_378 (rk_one rf) (rl_one rf) (hi_n (by omega)) (by omega) e1_ ?_
            refine Ev_iaddN dX11_makePiece_379 ?_
            refine Ev_ialdE _ dX11_makePiece_380 (rk_number rf) (rl_number rf) (hi_n (by omega)) (by omega) (en_ it.2.1 j4_) ?_
            refine Ev_aload_n dX11_makePiece_381 rfl (by first | exact Or.inr ⟨_, rfl⟩ | exact rv_or _ | exact Or.inl rfl) ?_
            refine Ev_getA dX11_makePiece_382 fX11_22 rf.1 (rr_number rf) ?_
            refine Ev_iconst (v := nI 4) dX11_makePiece_385 (by decide) ?_
            refine Ev_iload_n dX11_makePiece_386 rfl ?_
            refine Ev_imulN dX11_makePiece_387 ?_
            refine Ev_aload_n dX11_makePiece_388 rfl (by first | exact Or.inr ⟨_, rfl⟩ | exact rv_or _ | exact Or.inl rfl) ?_
            refine Ev_getA dX11_makePiece_389 fX11_40 rf.1 (rr_two rf) ?_
            refine Ev_iload_n dX11_makePiece_392 rfl ?_
            refine Ev_ialdE _ dX11_makePiece_393 (rk_two rf) (rl_two rf) (hi_n (by omega)) (by omega) e2_ ?_
            refine Ev_iaddN dX11_makePiece_394 ?_
            refine Ev_ialdE _ dX11_makePiece_395 (rk_number rf) (rl_number rf) (hi_n (by omega)) (by omega) (en_ it.2.2.1 j5_) ?_
            refine Ev_iaddN dX11_makePiece_396 ?_
            refine Ev_Vz [.int (nI (nuV m c it.2.1 + nuV m c it.2.2.1))] dX11_makePiece_397 vX11_writeNumber kX11_209 rf.1 rfl rfl rfl (Nat.le_of_ble_eq_true rfl) (by omega) (ev_writeNumber l G _ w (by omega) hw3 h rf ew_) (fun v_ h1 e_ => ?_)
            obtain ⟨rfl, wr_⟩ := e_
            have wX_ : ∀ r, r ∉ [52] → ∀ {i : Nat} {v : Int32}, hX h r i = v → hX h1 r i = v := fun r hr i v e => (congrFun (wr_.1.2.2.2.2.2.2 r hr) i).trans e
            have rf1_ := rf.fr wr_.1
            exact kk_ _ _ wr_ --end
        · exact absurd zb333_ (by decide)
      · exact absurd zb287_ (by decide)
    · exact absurd zb229_ (by decide)
  · rw [show mdF m c it = [] from by unfold mdF; rw [if_neg (by omega), if_neg (by omega), if_neg (by omega), if_neg (by omega)]] at kk_
    rw [hs_] at es_
    refine Ev_aload_n dX11_makePiece_223 rfl (by first | exact Or.inr ⟨_, rfl⟩ | exact rv_or _ | exact Or.inl rfl) ?_
    refine Ev_getA dX11_makePiece_224 fX11_34 rf.1 (rr_sort rf) ?_
    refine Ev_iload_n dX11_makePiece_227 rfl ?_
    refine Ev_ialdE _ dX11_makePiece_228 (rk_sort rf) (rl_sort rf) (hi_n (by omega)) (by omega) es_ ?_
    refine Ev_if_neT 280 dX11_makePiece_229 (by decide) (fun zb229_ => ?_) (fun zb229_ => ?_)
    · refine Ev_aload_n dX11_makePiece_280 rfl (by first | exact Or.inr ⟨_, rfl⟩ | exact rv_or _ | exact Or.inl rfl) ?_
      refine Ev_getA dX11_makePiece_281 fX11_34 rf.1 (rr_sort rf) ?_
      refine Ev_iload_n dX11_makePiece_284 rfl ?_
      refine Ev_ialdE _ dX11_makePiece_285 (rk_sort rf) (rl_sort rf) (hi_n (by omega)) (by omega) es_ ?_
      refine Ev_iconst (v := nI 1) dX11_makePiece_286 (by decide) ?_
      refine Ev_icmp_neN 326 dX11_makePiece_287 (by decide) (by omega) (by omega) (fun zb287_ => ?_) (fun zb287_ => ?_)
      · refine Ev_aload_n dX11_makePiece_326 rfl (by first | exact Or.inr ⟨_, rfl⟩ | exact rv_or _ | exact Or.inl rfl) ?_
        refine Ev_getA dX11_makePiece_327 fX11_34 rf.1 (rr_sort rf) ?_
        refine Ev_iload_n dX11_makePiece_330 rfl ?_
        refine Ev_ialdE _ dX11_makePiece_331 (rk_sort rf) (rl_sort rf) (hi_n (by omega)) (by omega) es_ ?_
        refine Ev_iconst (v := nI 2) dX11_makePiece_332 (by decide) ?_
        refine Ev_icmp_neN 355 dX11_makePiece_333 (by decide) (by omega) (by omega) (fun zb333_ => ?_) (fun zb333_ => ?_)
        · refine Ev_aload_n dX11_makePiece_355 rfl (by first | exact Or.inr ⟨_, rfl⟩ | exact rv_or _ | exact Or.inl rfl) ?_
          refine Ev_getA dX11_makePiece_356 fX11_34 rf.1 (rr_sort rf) ?_
          refine Ev_iload_n dX11_makePiece_359 rfl ?_
          refine Ev_ialdE _ dX11_makePiece_360 (rk_sort rf) (rl_sort rf) (hi_n (by omega)) (by omega) es_ ?_
          refine Ev_iconst (v := nI 3) dX11_makePiece_361 (by decide) ?_
          refine Ev_icmp_neN 400 dX11_makePiece_362 (by decide) (by omega) (by omega) (fun zb362_ => ?_) (fun zb362_ => ?_)
          · exact kk_ _ _ (WrI.nil hw3 ew_)
          · exact absurd zb362_ (by decide)
        · exact absurd zb333_ (by decide)
      · exact absurd zb287_ (by decide)
    · exact absurd zb229_ (by decide)
