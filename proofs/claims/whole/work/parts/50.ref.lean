theorem sub_n {c : Int32} {k : Nat} (h1 : (k : Int) ≤ c.toInt) (h2 : c.toInt ≤ 100000) (hk : k ≤ 100000) : c - nI k = nI (c.toInt - k).toNat := by
  apply Int32.toInt_inj.mp
  rw [fb_subI (by rw [hi_n (by omega)]; omega) (by rw [hi_n (by omega)]; omega), hi_n (by omega), hi_n (by omega)]
  omega
theorem mark1_par {c : Int} {it : It} (e : mark1 c = some it) : it.2.2.1 = 0 ∧ ((it.1 = 2 ∧ 48 ≤ c ∧ c ≤ 51 ∧ it.2.1 = (c - 48).toNat) ∨ (it.1 = 5 ∧ 97 ≤ c ∧ c ≤ 104 ∧ it.2.1 = (c - 97).toNat) ∨ (it.1 ≠ 2 ∧ it.1 ≠ 5 ∧ it.2.1 = 0)) := by
  unfold mark1 at e
  repeat' split at e
  all_goals first
    | (cases e; done)
    | (cases e; refine ⟨rfl, ?_⟩; first | exact Or.inr (Or.inr ⟨by decide, by decide, rfl⟩) | (refine Or.inl ⟨rfl, ?_, ?_, rfl⟩ <;> omega) | (refine Or.inr (Or.inl ⟨rfl, ?_, ?_, rfl⟩) <;> omega))
theorem t62 : (nI 62).toInt = 62 := by decide
theorem t60 : (nI 60).toInt = 60 := by decide
theorem t110 : (nI 110).toInt = 110 := by decide
theorem t48 : (nI 48).toInt = 48 := by decide
theorem t51 : (nI 51).toInt = 51 := by decide
theorem t61 : (nI 61).toInt = 61 := by decide
theorem t104 : (nI 104).toInt = 104 := by decide
theorem t33 : (nI 33).toInt = 33 := by decide
theorem t63 : (nI 63).toInt = 63 := by decide
theorem t43 : (nI 43).toInt = 43 := by decide
theorem t5 : (nI 5).toInt = 5 := by decide
theorem tm1 : (-1 : Int32).toInt = -1 := by decide
theorem ev_sign_m (l : Launch) (G : aG) (bs : List Int32) (at_ : Nat) (its : List It) (wn : Bool) (h : aH) (rf : Rf h) (pr_ : RPr bs at_ its wn h) (it : It) (e62_ : sv bs (at_ + 2) = 62) (e1_ : mark1 (seeL bs (at_ + 1)).toInt = some it) (h0_ : it.1 ≠ 0) (x_ : Value) (t_ : Int32) : Ev l G 1 0 0 mX11_sign 169 [.ref MO, .int (seeL bs (at_ + 1)), .int (seeL bs (at_ + 2)), .int t_, .int (nI it.1), .int (nI 0), .int (nI 0), .int (nI 3), x_] [] h (fun x h' => (∃ f, 0 < f ∧ f ≤ 5 ∧ sgF bs at_ its.length wn = .inl f ∧ x = some (.int (nI f)) ∧ FPr h h' ∧ hI h' 783 MO = hI h 783 MO ∧ RTp bs h') ∨ (∃ it w wn', sgF bs at_ its.length wn = .inr (it, w, wn') ∧ x = some (.int (nI 0)) ∧ FPr h h' ∧ RPr bs (at_ + w) (its ++ [it]) wn' h')) := by
  have em_ : mark bs at_ = some (it, 3) := by rw [mark_in e62_]; unfold sv; rw [e1_]; rfl
  have i7_ := (mark_ok em_).1
  obtain ⟨e2_, ep_⟩ := mark1_par e1_
  refine Ev_iload dX11_sign_169 rfl ?_
  refine Ev_iconst (v := nI 2) dX11_sign_171 (by decide) ?_
  refine Ev_icmp_neN 181 dX11_sign_172 (by decide) (by omega) (by omega) (fun zb172_ => ?_) (fun zb172_ => ?_)
  · refine Ev_iload dX11_sign_181 rfl ?_
    refine Ev_iconst (v := nI 5) dX11_sign_183 (by decide) ?_
    refine Ev_icmp_neN 193 dX11_sign_184 (by decide) (by omega) (by omega) (fun zb184_ => ?_) (fun zb184_ => ?_)
    · exact ev_sign_g l G bs at_ its wn h rf pr_ it 3 em_ h0_ _ _ t_ _ _ x_ (by rw [show it.2.1 = 0 by omega]) (by rw [e2_])
    · refine Ev_iload_n dX11_sign_187 rfl ?_
      refine Ev_bipush (v := nI 97) dX11_sign_188 (by decide) ?_
      refine Ev_isub dX11_sign_190 ?_
      refine Ev_istore dX11_sign_191 (by decide) ?_
      exact ev_sign_g l G bs at_ its wn h rf pr_ it 3 em_ h0_ _ _ t_ _ _ x_ (by rw [sub_n (by omega) (by omega) (by omega), show it.2.1 = ((seeL bs (at_ + 1)).toInt - 97).toNat by omega]; rfl) (by rw [e2_])
  · refine Ev_iload_n dX11_sign_175 rfl ?_
    refine Ev_bipush (v := nI 48) dX11_sign_176 (by decide) ?_
    refine Ev_isub dX11_sign_178 ?_
    refine Ev_istore dX11_sign_179 (by decide) ?_
    refine Ev_iload dX11_sign_181 rfl ?_
    refine Ev_iconst (v := nI 5) dX11_sign_183 (by decide) ?_
    refine Ev_icmp_neN 193 dX11_sign_184 (by decide) (by omega) (by omega) (fun zb184_ => ?_) (fun zb184_ => by omega)
    exact ev_sign_g l G bs at_ its wn h rf pr_ it 3 em_ h0_ _ _ t_ _ _ x_ (by rw [sub_n (by omega) (by omega) (by omega), show it.2.1 = ((seeL bs (at_ + 1)).toInt - 48).toNat by omega]; rfl) (by rw [e2_])
theorem ev_sign_x (l : Launch) (G : aG) (bs : List Int32) (at_ : Nat) (its : List It) (wn : Bool) (h : aH) (rf : Rf h) (pr_ : RPr bs at_ its wn h) (em_ : mark bs at_ = none) (c_ d_ t_ a_ b_ w_ : Int32) (x_ : Value) : Ev l G 1 0 0 mX11_sign 327 [.ref MO, .int c_, .int d_, .int t_, .int (-1), .int a_, .int b_, .int w_, x_] [] h (fun x h' => (∃ f, 0 < f ∧ f ≤ 5 ∧ sgF bs at_ its.length wn = .inl f ∧ x = some (.int (nI f)) ∧ FPr h h' ∧ hI h' 783 MO = hI h 783 MO ∧ RTp bs h') ∨ (∃ it w wn', sgF bs at_ its.length wn = .inr (it, w, wn') ∧ x = some (.int (nI 0)) ∧ FPr h h' ∧ RPr bs (at_ + w) (its ++ [it]) wn' h')) := by
  refine Ev_iload dX11_sign_327 rfl ?_
  refine Ev_if_geT 334 dX11_sign_329 (by decide) (fun zb_ => absurd zb_ (by decide)) (fun _ => ?_)
  refine Ev_iconst (v := nI 2) dX11_sign_332 (by decide) ?_
  refine Ev_iret dX11_sign_333 rfl ?_
  exact Or.inl ⟨2, by omega, by omega, sg_none em_, rfl, FPr.rf, rfl, pr_.1⟩
theorem ev_sign_n2 (l : Launch) (G : aG) (bs : List Int32) (at_ : Nat) (its : List It) (wn : Bool) (h : aH) (rf : Rf h) (pr_ : RPr bs at_ its wn h) (hM_ : mark bs at_ = mark2 bs at_) (hN_ : ¬ (sv bs (at_ + 1) = 63 ∧ (48 ≤ sv bs (at_ + 2) ∧ sv bs (at_ + 2) ≤ 51) ∧ sv bs (at_ + 3) = 62)) (x_ : Value) (t_ : Int32) : Ev l G 1 0 0 mX11_sign 243 [.ref MO, .int (seeL bs (at_ + 1)), .int (seeL bs (at_ + 2)), .int t_, .int (-1), .int (nI 0), .int (nI 0), .int (nI 3), x_] [] h (fun x h' => (∃ f, 0 < f ∧ f ≤ 5 ∧ sgF bs at_ its.length wn = .inl f ∧ x = some (.int (nI f)) ∧ FPr h h' ∧ hI h' 783 MO = hI h 783 MO ∧ RTp bs h') ∨ (∃ it w wn', sgF bs at_ its.length wn = .inr (it, w, wn') ∧ x = some (.int (nI 0)) ∧ FPr h h' ∧ RPr bs (at_ + w) (its ++ [it]) wn' h')) := by
  have b120_ := pr_.1.1
  have at120_ := pr_.2.1
  refine Ev_iload dX11_sign_243 rfl ?_
  refine Ev_if_geT 327 dX11_sign_245 (by decide) (fun zb245_ => ?_) (fun zb245_ => ?_)
  · exact absurd zb245_ (by decide)
  · refine Ev_iload_n dX11_sign_248 rfl ?_
    refine Ev_bipush (v := nI 43) dX11_sign_249 (by decide) ?_
    refine Ev_icmp_neT 327 dX11_sign_251 (by decide) (fun zb251_ => ?_) (fun zb251_ => ?_)
    · rw [t43] at zb251_
      first
      | (refine ev_sign_x l G bs at_ its wn h rf pr_ (by rw [hM_]; unfold mark2; rw [if_neg hN_, if_neg (by unfold sv; omega)]) _ _ _ _ _ _ _; done)
      | (refine ev_sign_e l G bs at_ its wn h rf pr_ (3, ((seeL bs (at_ + 2)).toInt - 48).toNat, ((seeL bs (at_ + 3)).toInt - 48).toNat, []) 5 (by rw [hM_]; unfold mark2; rw [if_neg hN_, if_pos ⟨zb251_, zd_, ze_, zb297_⟩]; rfl) (by simp) _ _ _ _ _ _ (by rw [sub_n (by omega) (by omega) (by omega)]; rfl) (by rw [sub_n (by omega) (by omega) (by omega)]; rfl); done)
    · rw [t43] at zb251_
      refine Ev_iload_n dX11_sign_254 rfl ?_
      refine Ev_bipush (v := nI 48) dX11_sign_255 (by decide) ?_
      refine Ev_bipush (v := nI 51) dX11_sign_257 (by decide) ?_
      refine Ev_S0 [.int (seeL bs (at_ + 2)), .int (nI 48), .int (nI 51)] dX11_sign_259 sX11_isIn kX11_130 rfl rfl rfl (Nat.le_of_ble_eq_true rfl) (by omega) (ev_isIn l G _ _ _ _) ?_
      refine Ev_if_eqB 327 dX11_sign_262 (by decide) (fun zb262_ => ?_) (fun zb262_ => ?_)
      · have zd_ := inB_f t48 t51 zb262_
        first
        | (refine ev_sign_x l G bs at_ its wn h rf pr_ (by rw [hM_]; unfold mark2; rw [if_neg hN_, if_neg (by unfold sv; omega)]) _ _ _ _ _ _ _; done)
        | (refine ev_sign_e l G bs at_ its wn h rf pr_ (3, ((seeL bs (at_ + 2)).toInt - 48).toNat, ((seeL bs (at_ + 3)).toInt - 48).toNat, []) 5 (by rw [hM_]; unfold mark2; rw [if_neg hN_, if_pos ⟨zb251_, zd_, ze_, zb297_⟩]; rfl) (by simp) _ _ _ _ _ _ (by rw [sub_n (by omega) (by omega) (by omega)]; rfl) (by rw [sub_n (by omega) (by omega) (by omega)]; rfl); done)
      · have zd_ := inB_t t48 t51 zb262_
        refine Ev_aload_n dX11_sign_265 rfl (by first | exact Or.inr ⟨_, rfl⟩ | exact rv_or _ | exact Or.inl rfl) ?_
        refine Ev_aload_n dX11_sign_266 rfl (by first | exact Or.inr ⟨_, rfl⟩ | exact rv_or _ | exact Or.inl rfl) ?_
        refine Ev_getE dX11_sign_267 fX11_173 rf.1 pr_.2.2.1 ?_
        refine Ev_iconst (v := nI 3) dX11_sign_270 (by decide) ?_
        refine Ev_iaddN dX11_sign_271 ?_
        refine Ev_V0 [.int (nI (at_ + 3))] dX11_sign_272 vX11_see kX11_176 rf.1 rfl rfl rfl (Nat.le_of_ble_eq_true rfl) (by omega) (ev_see l G (at_ + 3) (by omega) h rf (by rw [pr_.1.2.1, hi_n (by omega)]; omega)) ?_
        rw [seeF_eq pr_.1]
        refine Ev_bipush (v := nI 48) dX11_sign_275 (by decide) ?_
        refine Ev_bipush (v := nI 51) dX11_sign_277 (by decide) ?_
        refine Ev_S0 [.int (seeL bs (at_ + 3)), .int (nI 48), .int (nI 51)] dX11_sign_279 sX11_isIn kX11_130 rfl rfl rfl (Nat.le_of_ble_eq_true rfl) (by omega) (ev_isIn l G _ _ _ _) ?_
        refine Ev_if_eqB 327 dX11_sign_282 (by decide) (fun zb282_ => ?_) (fun zb282_ => ?_)
        · have ze_ := inB_f t48 t51 zb282_
          first
          | (refine ev_sign_x l G bs at_ its wn h rf pr_ (by rw [hM_]; unfold mark2; rw [if_neg hN_, if_neg (by unfold sv; omega)]) _ _ _ _ _ _ _; done)
          | (refine ev_sign_e l G bs at_ its wn h rf pr_ (3, ((seeL bs (at_ + 2)).toInt - 48).toNat, ((seeL bs (at_ + 3)).toInt - 48).toNat, []) 5 (by rw [hM_]; unfold mark2; rw [if_neg hN_, if_pos ⟨zb251_, zd_, ze_, zb297_⟩]; rfl) (by simp) _ _ _ _ _ _ (by rw [sub_n (by omega) (by omega) (by omega)]; rfl) (by rw [sub_n (by omega) (by omega) (by omega)]; rfl); done)
        · have ze_ := inB_t t48 t51 zb282_
          refine Ev_aload_n dX11_sign_285 rfl (by first | exact Or.inr ⟨_, rfl⟩ | exact rv_or _ | exact Or.inl rfl) ?_
          refine Ev_aload_n dX11_sign_286 rfl (by first | exact Or.inr ⟨_, rfl⟩ | exact rv_or _ | exact Or.inl rfl) ?_
          refine Ev_getE dX11_sign_287 fX11_173 rf.1 pr_.2.2.1 ?_
          refine Ev_iconst (v := nI 4) dX11_sign_290 (by decide) ?_
          refine Ev_iaddN dX11_sign_291 ?_
          refine Ev_V0 [.int (nI (at_ + 4))] dX11_sign_292 vX11_see kX11_176 rf.1 rfl rfl rfl (Nat.le_of_ble_eq_true rfl) (by omega) (ev_see l G (at_ + 4) (by omega) h rf (by rw [pr_.1.2.1, hi_n (by omega)]; omega)) ?_
          rw [seeF_eq pr_.1]
          refine Ev_bipush (v := nI 62) dX11_sign_295 (by decide) ?_
          refine Ev_icmp_neT 327 dX11_sign_297 (by decide) (fun zb297_ => ?_) (fun zb297_ => ?_)
          · rw [t62] at zb297_
            first
            | (refine ev_sign_x l G bs at_ its wn h rf pr_ (by rw [hM_]; unfold mark2; rw [if_neg hN_, if_neg (by unfold sv; omega)]) _ _ _ _ _ _ _; done)
            | (refine ev_sign_e l G bs at_ its wn h rf pr_ (3, ((seeL bs (at_ + 2)).toInt - 48).toNat, ((seeL bs (at_ + 3)).toInt - 48).toNat, []) 5 (by rw [hM_]; unfold mark2; rw [if_neg hN_, if_pos ⟨zb251_, zd_, ze_, zb297_⟩]; rfl) (by simp) _ _ _ _ _ _ (by rw [sub_n (by omega) (by omega) (by omega)]; rfl) (by rw [sub_n (by omega) (by omega) (by omega)]; rfl); done)
          · rw [t62] at zb297_
            refine Ev_iconst (v := nI 3) dX11_sign_300 (by decide) ?_
            refine Ev_istore dX11_sign_301 (by decide) ?_
            refine Ev_iload_n dX11_sign_303 rfl ?_
            refine Ev_bipush (v := nI 48) dX11_sign_304 (by decide) ?_
            refine Ev_isub dX11_sign_306 ?_
            refine Ev_istore dX11_sign_307 (by decide) ?_
            refine Ev_aload_n dX11_sign_309 rfl (by first | exact Or.inr ⟨_, rfl⟩ | exact rv_or _ | exact Or.inl rfl) ?_
            refine Ev_aload_n dX11_sign_310 rfl (by first | exact Or.inr ⟨_, rfl⟩ | exact rv_or _ | exact Or.inl rfl) ?_
            refine Ev_getE dX11_sign_311 fX11_173 rf.1 pr_.2.2.1 ?_
            refine Ev_iconst (v := nI 3) dX11_sign_314 (by decide) ?_
            refine Ev_iaddN dX11_sign_315 ?_
            refine Ev_V0 [.int (nI (at_ + 3))] dX11_sign_316 vX11_see kX11_176 rf.1 rfl rfl rfl (Nat.le_of_ble_eq_true rfl) (by omega) (ev_see l G (at_ + 3) (by omega) h rf (by rw [pr_.1.2.1, hi_n (by omega)]; omega)) ?_
            rw [seeF_eq pr_.1]
            refine Ev_bipush (v := nI 48) dX11_sign_319 (by decide) ?_
            refine Ev_isub dX11_sign_321 ?_
            refine Ev_istore dX11_sign_322 (by decide) ?_
            refine Ev_iconst (v := nI 5) dX11_sign_324 (by decide) ?_
            refine Ev_istore dX11_sign_325 (by decide) ?_
            first
            | (refine ev_sign_x l G bs at_ its wn h rf pr_ (by rw [hM_]; unfold mark2; rw [if_neg hN_, if_neg (by unfold sv; omega)]) _ _ _ _ _ _ _; done)
            | (refine ev_sign_e l G bs at_ its wn h rf pr_ (3, ((seeL bs (at_ + 2)).toInt - 48).toNat, ((seeL bs (at_ + 3)).toInt - 48).toNat, []) 5 (by rw [hM_]; unfold mark2; rw [if_neg hN_, if_pos ⟨zb251_, zd_, ze_, zb297_⟩]; rfl) (by simp) _ _ _ _ _ _ (by rw [sub_n (by omega) (by omega) (by omega)]; rfl) (by rw [sub_n (by omega) (by omega) (by omega)]; rfl); done)
theorem ev_sign_h (l : Launch) (G : aG) (bs : List Int32) (at_ : Nat) (its : List It) (wn : Bool) (h : aH) (rf : Rf h) (pr_ : RPr bs at_ its wn h) (it : It) (w_ : Nat) (em_ : mark bs at_ = some (it, w_)) (h0_ : it.1 ≠ 0) (c_ d_ t_ a_ b_ : Int32) (x_ : Value) (ea_ : a_ = nI it.2.1) (eb_ : b_ = nI it.2.2.1) : Ev l G 1 0 0 mX11_sign 243 [.ref MO, .int c_, .int d_, .int t_, .int (nI it.1), .int a_, .int b_, .int (nI w_), x_] [] h (fun x h' => (∃ f, 0 < f ∧ f ≤ 5 ∧ sgF bs at_ its.length wn = .inl f ∧ x = some (.int (nI f)) ∧ FPr h h' ∧ hI h' 783 MO = hI h 783 MO ∧ RTp bs h') ∨ (∃ it w wn', sgF bs at_ its.length wn = .inr (it, w, wn') ∧ x = some (.int (nI 0)) ∧ FPr h h' ∧ RPr bs (at_ + w) (its ++ [it]) wn' h')) := by
  have i7_ := (mark_ok em_).1
  refine Ev_iload dX11_sign_243 rfl ?_
  refine Ev_if_geT 327 dX11_sign_245 (by decide) (fun zb245_ => ?_) (fun zb245_ => absurd (by rw [hi_n (by omega)]; omega) zb245_)
  exact ev_sign_e l G bs at_ its wn h rf pr_ it w_ em_ h0_ c_ d_ t_ a_ b_ x_ ea_ eb_
theorem ev_sign_n (l : Launch) (G : aG) (bs : List Int32) (at_ : Nat) (its : List It) (wn : Bool) (h : aH) (rf : Rf h) (pr_ : RPr bs at_ its wn h) (hM_ : mark bs at_ = mark2 bs at_) (x_ : Value) (t_ : Int32) : Ev l G 1 0 0 mX11_sign 169 [.ref MO, .int (seeL bs (at_ + 1)), .int (seeL bs (at_ + 2)), .int t_, .int (-1), .int (nI 0), .int (nI 0), .int (nI 3), x_] [] h (fun x h' => (∃ f, 0 < f ∧ f ≤ 5 ∧ sgF bs at_ its.length wn = .inl f ∧ x = some (.int (nI f)) ∧ FPr h h' ∧ hI h' 783 MO = hI h 783 MO ∧ RTp bs h') ∨ (∃ it w wn', sgF bs at_ its.length wn = .inr (it, w, wn') ∧ x = some (.int (nI 0)) ∧ FPr h h' ∧ RPr bs (at_ + w) (its ++ [it]) wn' h')) := by
  have b120_ := pr_.1.1
  have at120_ := pr_.2.1
  refine Ev_iload dX11_sign_169 rfl ?_
  refine Ev_iconst (v := nI 2) dX11_sign_171 (by decide) ?_
  refine Ev_icmp_neT 181 dX11_sign_172 (by decide) (fun zb172_ => ?_) (fun zb172_ => ?_)
  · refine Ev_iload dX11_sign_181 rfl ?_
    refine Ev_iconst (v := nI 5) dX11_sign_183 (by decide) ?_
    refine Ev_icmp_neT 193 dX11_sign_184 (by decide) (fun zb184_ => ?_) (fun zb184_ => ?_)
    · refine Ev_iload dX11_sign_193 rfl ?_
      refine Ev_if_geT 243 dX11_sign_195 (by decide) (fun zb195_ => ?_) (fun zb195_ => ?_)
      · exact absurd zb195_ (by decide)
      · refine Ev_iload_n dX11_sign_198 rfl ?_
        refine Ev_bipush (v := nI 63) dX11_sign_199 (by decide) ?_
        refine Ev_icmp_neT 243 dX11_sign_201 (by decide) (fun zb201_ => ?_) (fun zb201_ => ?_)
        · rw [t63] at zb201_
          first
          | (refine ev_sign_n2 l G bs at_ its wn h rf pr_ hM_ (by unfold sv; omega) _ _; done)
          | (refine ev_sign_h l G bs at_ its wn h rf pr_ (6, ((seeL bs (at_ + 2)).toInt - 48).toNat, 0, []) 4 (by rw [hM_]; unfold mark2; rw [if_pos ⟨zb201_, zd_, zb227_⟩]; rfl) (by simp) _ _ _ _ _ _ (by rw [sub_n (by omega) (by omega) (by omega)]; rfl) rfl; done)
        · rw [t63] at zb201_
          refine Ev_iload_n dX11_sign_204 rfl ?_
          refine Ev_bipush (v := nI 48) dX11_sign_205 (by decide) ?_
          refine Ev_bipush (v := nI 51) dX11_sign_207 (by decide) ?_
          refine Ev_S0 [.int (seeL bs (at_ + 2)), .int (nI 48), .int (nI 51)] dX11_sign_209 sX11_isIn kX11_130 rfl rfl rfl (Nat.le_of_ble_eq_true rfl) (by omega) (ev_isIn l G _ _ _ _) ?_
          refine Ev_if_eqB 243 dX11_sign_212 (by decide) (fun zb212_ => ?_) (fun zb212_ => ?_)
          · have zd_ := inB_f t48 t51 zb212_
            first
            | (refine ev_sign_n2 l G bs at_ its wn h rf pr_ hM_ (by unfold sv; omega) _ _; done)
            | (refine ev_sign_h l G bs at_ its wn h rf pr_ (6, ((seeL bs (at_ + 2)).toInt - 48).toNat, 0, []) 4 (by rw [hM_]; unfold mark2; rw [if_pos ⟨zb201_, zd_, zb227_⟩]; rfl) (by simp) _ _ _ _ _ _ (by rw [sub_n (by omega) (by omega) (by omega)]; rfl) rfl; done)
          · have zd_ := inB_t t48 t51 zb212_
            refine Ev_aload_n dX11_sign_215 rfl (by first | exact Or.inr ⟨_, rfl⟩ | exact rv_or _ | exact Or.inl rfl) ?_
            refine Ev_aload_n dX11_sign_216 rfl (by first | exact Or.inr ⟨_, rfl⟩ | exact rv_or _ | exact Or.inl rfl) ?_
            refine Ev_getE dX11_sign_217 fX11_173 rf.1 pr_.2.2.1 ?_
            refine Ev_iconst (v := nI 3) dX11_sign_220 (by decide) ?_
            refine Ev_iaddN dX11_sign_221 ?_
            refine Ev_V0 [.int (nI (at_ + 3))] dX11_sign_222 vX11_see kX11_176 rf.1 rfl rfl rfl (Nat.le_of_ble_eq_true rfl) (by omega) (ev_see l G (at_ + 3) (by omega) h rf (by rw [pr_.1.2.1, hi_n (by omega)]; omega)) ?_
            rw [seeF_eq pr_.1]
            refine Ev_bipush (v := nI 62) dX11_sign_225 (by decide) ?_
            refine Ev_icmp_neT 243 dX11_sign_227 (by decide) (fun zb227_ => ?_) (fun zb227_ => ?_)
            · rw [t62] at zb227_
              first
              | (refine ev_sign_n2 l G bs at_ its wn h rf pr_ hM_ (by unfold sv; omega) _ _; done)
              | (refine ev_sign_h l G bs at_ its wn h rf pr_ (6, ((seeL bs (at_ + 2)).toInt - 48).toNat, 0, []) 4 (by rw [hM_]; unfold mark2; rw [if_pos ⟨zb201_, zd_, zb227_⟩]; rfl) (by simp) _ _ _ _ _ _ (by rw [sub_n (by omega) (by omega) (by omega)]; rfl) rfl; done)
            · rw [t62] at zb227_
              refine Ev_bipush (v := nI 6) dX11_sign_230 (by decide) ?_
              refine Ev_istore dX11_sign_232 (by decide) ?_
              refine Ev_iload_n dX11_sign_234 rfl ?_
              refine Ev_bipush (v := nI 48) dX11_sign_235 (by decide) ?_
              refine Ev_isub dX11_sign_237 ?_
              refine Ev_istore dX11_sign_238 (by decide) ?_
              refine Ev_iconst (v := nI 4) dX11_sign_240 (by decide) ?_
              skip
              refine Ev_istore dX11_sign_241 (by decide) ?_
              first
              | (refine ev_sign_n2 l G bs at_ its wn h rf pr_ hM_ (by unfold sv; omega) _ _; done)
              | (refine ev_sign_h l G bs at_ its wn h rf pr_ (6, ((seeL bs (at_ + 2)).toInt - 48).toNat, 0, []) 4 (by rw [hM_]; unfold mark2; rw [if_pos ⟨zb201_, zd_, zb227_⟩]; rfl) (by simp) _ _ _ _ _ _ (by rw [sub_n (by omega) (by omega) (by omega)]; rfl) rfl; done)
    · exact absurd zb184_ (by decide)
  · exact absurd zb172_ (by decide)
