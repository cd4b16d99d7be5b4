theorem RTp.fp {bs : List Int32} {h h' : aH} (r : RTp bs h) (f : FPr h h') : RTp bs h' := by
  refine ⟨r.1, (f.1.2.2.2.2.2.1 785 MO (by decide)).trans r.2.1, fun k hk => ?_⟩
  rw [f.1.2.2.2.2.2.2 41 (by decide)]; exact r.2.2 k hk
theorem RPr.put {bs : List Int32} {at_ : Nat} {its : List It} {wn : Bool} {h h' : aH} {it : It} {on tw : Nat} (r : RPr bs at_ its wn h) (hl : its.length < 20) (f : PtF its.length (nI it.1) (nI on) (nI tw) h h') (ok : itOk it) (hr : itR bs it on tw) : RPr bs at_ (its ++ [it]) wn h' := by
  refine ⟨r.1.fp f.1, r.2.1, f.2.1.trans r.2.2.1, by rw [f.2.2.2.2.1]; simp, f.2.2.1.trans r.2.2.2.2.1, by simp; omega, fun i q hq => ?_⟩
  rw [List.getElem?_append] at hq
  by_cases e : i < its.length
  · rw [if_pos e] at hq
    obtain ⟨a1, a2, a3, a4, a5, a6, a7⟩ := r.2.2.2.2.2.2 i q hq
    have h1 := f.2.2.2.2.2.2.2.2 (160 + i) (by omega)
    exact ⟨a1, a2, a3, h1.1.trans a4, h1.2.1.trans a5, h1.2.2.trans a6, a7⟩
  · rw [if_neg e] at hq
    have e0 : i = its.length := by
      have := (List.getElem?_eq_some_iff.mp hq).1
      simp at this
      omega
    subst e0
    simp at hq
    subst hq
    exact ⟨ok, on, tw, f.2.2.2.2.2.1, f.2.2.2.2.2.2.1, f.2.2.2.2.2.2.2.1, hr⟩
theorem RPr.at {bs : List Int32} {at_ to : Nat} {its : List It} {wn : Bool} {h : aH} (r : RPr bs at_ its wn h) (hl : to ≤ bs.length) : RPr bs to its wn (sI h 786 MO (nI to)) :=
  ⟨r.1.fp (FPr.int (by decide)), hl, hI_s _ _ _ _, (hI_o _ _ (by decide)).trans r.2.2.2.1, (hI_o _ _ (by decide)).trans r.2.2.2.2.1, r.2.2.2.2.2.1, r.2.2.2.2.2.2⟩
theorem RPr.wn {bs : List Int32} {at_ : Nat} {its : List It} {wn wn' : Bool} {h : aH} (r : RPr bs at_ its wn h) : RPr bs at_ its wn' (sI h 788 MO (bI wn')) :=
  ⟨r.1.fp (FPr.int (by decide)), r.2.1, (hI_o _ _ (by decide)).trans r.2.2.1, (hI_o _ _ (by decide)).trans r.2.2.2.1, hI_s _ _ _ _, r.2.2.2.2.2.1, r.2.2.2.2.2.2⟩
theorem sg_none {bs : List Int32} {at_ n : Nat} {wn : Bool} (e : mark bs at_ = none) : sgF bs at_ n wn = .inl 2 := by unfold sgF; rw [e]
theorem sg_nest {bs : List Int32} {at_ n w : Nat} {wn : Bool} {it : It} (e : mark bs at_ = some (it, w)) (q : (it.1 = 6 ∧ wn = true) ∨ (it.1 = 7 ∧ wn = false)) : sgF bs at_ n wn = .inl 3 := by unfold sgF; rw [e]; exact if_pos q
theorem sg_full {bs : List Int32} {at_ n w : Nat} {wn : Bool} {it : It} (e : mark bs at_ = some (it, w)) (q : ¬ ((it.1 = 6 ∧ wn = true) ∨ (it.1 = 7 ∧ wn = false))) (hn : n = 20) : sgF bs at_ n wn = .inl 5 := by unfold sgF; rw [e]; exact (if_neg q).trans (if_pos hn)
theorem sg_ok {bs : List Int32} {at_ n w : Nat} {wn : Bool} {it : It} (e : mark bs at_ = some (it, w)) (q : ¬ ((it.1 = 6 ∧ wn = true) ∨ (it.1 = 7 ∧ wn = false))) (hn : ¬ n = 20) : sgF bs at_ n wn = .inr (it, w, if it.1 = 6 then true else if it.1 = 7 then false else wn) := by unfold sgF; rw [e]; exact (if_neg q).trans (if_neg hn)
/-- behind the choice of the sign: nesting, the item's place, the step -/
theorem ev_sign_p (l : Launch) (G : aG) (bs : List Int32) (at_ : Nat) (its : List It) (wn : Bool) (h : aH) (rf : Rf h) (pr_ : RPr bs at_ its wn h) (it : It) (w_ : Nat) (em_ : mark bs at_ = some (it, w_)) (h0_ : it.1 ≠ 0) (zq_ : ¬ ((it.1 = 6 ∧ wn = true) ∨ (it.1 = 7 ∧ wn = false))) (c_ d_ t_ a_ b_ : Int32) (x_ : Value) (ea_ : a_ = nI it.2.1) (eb_ : b_ = nI it.2.2.1) : Ev l G 1 0 0 mX11_sign 364 [.ref MO, .int c_, .int d_, .int t_, .int (nI it.1), .int a_, .int b_, .int (nI w_), x_] [] h (fun x h' => (∃ f, 0 < f ∧ f ≤ 5 ∧ sgF bs at_ its.length wn = .inl f ∧ x = some (.int (nI f)) ∧ FPr h h' ∧ hI h' 783 MO = hI h 783 MO ∧ RTp bs h') ∨ (∃ it w wn', sgF bs at_ its.length wn = .inr (it, w, wn') ∧ x = some (.int (nI 0)) ∧ FPr h h' ∧ RPr bs (at_ + w) (its ++ [it]) wn' h')) := by
  have i7_ := (mark_ok em_).1
  have l20_ := pr_.2.2.2.2.2.1
  have ml_ := mark_len em_
  have b120_ := pr_.1.1
  refine Ev_aload_n dX11_sign_364 rfl (Or.inr ⟨_, rfl⟩) ?_
  refine Ev_iload dX11_sign_365 rfl ?_
  refine Ev_iload dX11_sign_367 rfl ?_
  refine Ev_iload dX11_sign_369 rfl ?_
  refine Ev_Vz [.int (nI it.1), .int a_, .int b_] dX11_sign_371 vX11_put kX11_179 rf.1 rfl rfl rfl (Nat.le_of_ble_eq_true rfl) (by omega) (ev_put l G _ _ _ its.length pr_.2.2.2.2.2.1 h rf pr_.2.2.2.1) (fun v_ h2 e_ => ?_)
  obtain ⟨hn_, rfl, rfl⟩ | ⟨hn_, rfl, pf_⟩ := e_
  · refine Ev_istore dX11_sign_374 (by decide) ?_
    refine Ev_iload dX11_sign_376 rfl ?_
    refine Ev_if_eqT 384 dX11_sign_378 (by decide) (fun zb_ => absurd zb_ (by decide)) (fun _ => ?_)
    refine Ev_iload dX11_sign_381 rfl ?_
    refine Ev_iret dX11_sign_383 rfl ?_
    exact Or.inl ⟨5, by omega, by omega, sg_full em_ zq_ hn_, rfl, FPr.rf, rfl, pr_.1⟩
  · have rf2_ := rf.fr pf_.1.1
    rw [ea_, eb_] at pf_
    have r2_ := pr_.put hn_ pf_ (mark_ok em_) ⟨fun z => absurd z h0_, fun _ => ⟨rfl, rfl⟩⟩
    refine Ev_istore dX11_sign_374 (by decide) ?_
    refine Ev_iload dX11_sign_376 rfl ?_
    refine Ev_if_eqT 384 dX11_sign_378 (by decide) (fun _ => ?_) (fun zb_ => absurd t0 zb_)
    refine Ev_iload dX11_sign_384 rfl ?_
    refine Ev_bipush (v := nI 6) dX11_sign_386 (by decide) ?_
    refine Ev_icmp_neN 396 dX11_sign_388 (by decide) (by omega) (by omega) (fun zb388_ => ?_) (fun zb388_ => ?_)
    · refine Ev_iload dX11_sign_396 rfl ?_
      refine Ev_bipush (v := nI 7) dX11_sign_398 (by decide) ?_
      refine Ev_icmp_neN 408 dX11_sign_400 (by decide) (by omega) (by omega) (fun zb400_ => ?_) (fun zb400_ => ?_)
      · have r3_ := r2_
        have ew_ : (if it.1 = 6 then true else if it.1 = 7 then false else wn) = wn := by rw [if_neg zb388_, if_neg zb400_]
        refine Ev_aload_n dX11_sign_408 rfl (Or.inr ⟨_, rfl⟩) ?_
        refine Ev_dup dX11_sign_409 rfl ?_
        refine Ev_getE dX11_sign_410 fX11_173 rf2_.1 r3_.2.2.1 ?_
        refine Ev_iload dX11_sign_413 rfl ?_
        refine Ev_iaddN dX11_sign_415 ?_
        refine Ev_putI dX11_sign_416 fX11_173 ⟨_, rfl, Or.inl rfl⟩ (Or.inl rfl) rf2_.1 ?_
        refine Ev_iconst (v := nI 0) dX11_sign_419 (by decide) ?_
        refine Ev_iret dX11_sign_420 rfl ?_
        refine Or.inr ⟨it, w_, _, sg_ok em_ zq_ (by omega), rfl, ?_, ?_⟩
        · first | exact (pf_.1.tr (FPr.int (by decide))).tr (FPr.int (by decide)) | exact pf_.1.tr (FPr.int (by decide))
        · rw [ew_]; exact r3_.at ml_.1
      · have r3_ := r2_.wn (wn' := false)
        have ew_ : (if it.1 = 6 then true else if it.1 = 7 then false else wn) = false := by rw [if_neg zb388_, if_pos zb400_]
        refine Ev_aload_n dX11_sign_403 rfl (Or.inr ⟨_, rfl⟩) ?_
        refine Ev_iconst (v := nI 0) dX11_sign_404 (by decide) ?_
        refine Ev_putI dX11_sign_405 fX11_183 ⟨_, rfl, Or.inl rfl⟩ (Or.inr ⟨rfl, (by decide)⟩) rf2_.1 ?_
        refine Ev_aload_n dX11_sign_408 rfl (Or.inr ⟨_, rfl⟩) ?_
        refine Ev_dup dX11_sign_409 rfl ?_
        refine Ev_getE dX11_sign_410 fX11_173 rf2_.1 r3_.2.2.1 ?_
        refine Ev_iload dX11_sign_413 rfl ?_
        refine Ev_iaddN dX11_sign_415 ?_
        refine Ev_putI dX11_sign_416 fX11_173 ⟨_, rfl, Or.inl rfl⟩ (Or.inl rfl) rf2_.1 ?_
        refine Ev_iconst (v := nI 0) dX11_sign_419 (by decide) ?_
        refine Ev_iret dX11_sign_420 rfl ?_
        refine Or.inr ⟨it, w_, _, sg_ok em_ zq_ (by omega), rfl, ?_, ?_⟩
        · first | exact (pf_.1.tr (FPr.int (by decide))).tr (FPr.int (by decide)) | exact pf_.1.tr (FPr.int (by decide))
        · rw [ew_]; exact r3_.at ml_.1
    · refine Ev_aload_n dX11_sign_391 rfl (Or.inr ⟨_, rfl⟩) ?_
      refine Ev_iconst (v := nI 1) dX11_sign_392 (by decide) ?_
      refine Ev_putI dX11_sign_393 fX11_183 ⟨_, rfl, Or.inl rfl⟩ (Or.inr ⟨rfl, (by decide)⟩) rf2_.1 ?_
      have r3_ := r2_.wn (wn' := true)
      have ew_ : (if it.1 = 6 then true else if it.1 = 7 then false else wn) = true := by rw [if_pos zb388_]
      refine Ev_iload dX11_sign_396 rfl ?_
      refine Ev_bipush (v := nI 7) dX11_sign_398 (by decide) ?_
      refine Ev_icmp_neN 408 dX11_sign_400 (by decide) (by omega) (by omega) (fun zb400_ => ?_) (fun zb400_ => by omega)
      refine Ev_aload_n dX11_sign_408 rfl (Or.inr ⟨_, rfl⟩) ?_
      refine Ev_dup dX11_sign_409 rfl ?_
      refine Ev_getE dX11_sign_410 fX11_173 rf2_.1 r3_.2.2.1 ?_
      refine Ev_iload dX11_sign_413 rfl ?_
      refine Ev_iaddN dX11_sign_415 ?_
      refine Ev_putI dX11_sign_416 fX11_173 ⟨_, rfl, Or.inl rfl⟩ (Or.inl rfl) rf2_.1 ?_
      refine Ev_iconst (v := nI 0) dX11_sign_419 (by decide) ?_
      refine Ev_iret dX11_sign_420 rfl ?_
      refine Or.inr ⟨it, w_, _, sg_ok em_ zq_ (by omega), rfl, ?_, ?_⟩
      · first | exact (pf_.1.tr (FPr.int (by decide))).tr (FPr.int (by decide)) | exact pf_.1.tr (FPr.int (by decide))
      · rw [ew_]; exact r3_.at ml_.1
theorem ev_sign_e (l : Launch) (G : aG) (bs : List Int32) (at_ : Nat) (its : List It) (wn : Bool) (h : aH) (rf : Rf h) (pr_ : RPr bs at_ its wn h) (it : It) (w_ : Nat) (em_ : mark bs at_ = some (it, w_)) (h0_ : it.1 ≠ 0) (c_ d_ t_ a_ b_ : Int32) (x_ : Value) (ea_ : a_ = nI it.2.1) (eb_ : b_ = nI it.2.2.1) : Ev l G 1 0 0 mX11_sign 327 [.ref MO, .int c_, .int d_, .int t_, .int (nI it.1), .int a_, .int b_, .int (nI w_), x_] [] h (fun x h' => (∃ f, 0 < f ∧ f ≤ 5 ∧ sgF bs at_ its.length wn = .inl f ∧ x = some (.int (nI f)) ∧ FPr h h' ∧ hI h' 783 MO = hI h 783 MO ∧ RTp bs h') ∨ (∃ it w wn', sgF bs at_ its.length wn = .inr (it, w, wn') ∧ x = some (.int (nI 0)) ∧ FPr h h' ∧ RPr bs (at_ + w) (its ++ [it]) wn' h')) := by
  have i7_ := (mark_ok em_).1
  refine Ev_iload dX11_sign_327 rfl ?_
  refine Ev_if_geT 334 dX11_sign_329 (by decide) (fun zb329_ => ?_) (fun zb329_ => ?_)
  · refine Ev_iload dX11_sign_334 rfl ?_
    refine Ev_bipush (v := nI 6) dX11_sign_336 (by decide) ?_
    refine Ev_icmp_neN 348 dX11_sign_338 (by decide) (by omega) (by omega) (fun zb338_ => ?_) (fun zb338_ => ?_)
    · refine Ev_iload dX11_sign_348 rfl ?_
      refine Ev_bipush (v := nI 7) dX11_sign_350 (by decide) ?_
      refine Ev_icmp_neN 364 dX11_sign_352 (by decide) (by omega) (by omega) (fun zb352_ => ?_) (fun zb352_ => ?_)
      · exact ev_sign_p l G bs at_ its wn h rf pr_ it w_ em_ h0_ (by
      first | (rintro (q | q) <;> first | omega | (rw [q.2] at zb345_; cases zb345_; done) | (rw [q.2] at zb359_; cases zb359_; done)) | exact Or.inl ⟨by omega, zb345_⟩ | exact Or.inr ⟨by omega, zb359_⟩) c_ d_ t_ a_ b_ x_ ea_ eb_
      · refine Ev_aload_n dX11_sign_355 rfl (by first | exact Or.inr ⟨_, rfl⟩ | exact rv_or _ | exact Or.inl rfl) ?_
        refine Ev_getE dX11_sign_356 fX11_183 rf.1 pr_.2.2.2.2.1 ?_
        refine Ev_if_neB 364 dX11_sign_359 (by decide) (fun zb359_ => ?_) (fun zb359_ => ?_)
        · exact ev_sign_p l G bs at_ its wn h rf pr_ it w_ em_ h0_ (by
      first | (rintro (q | q) <;> first | omega | (rw [q.2] at zb345_; cases zb345_; done) | (rw [q.2] at zb359_; cases zb359_; done)) | exact Or.inl ⟨by omega, zb345_⟩ | exact Or.inr ⟨by omega, zb359_⟩) c_ d_ t_ a_ b_ x_ ea_ eb_
        · refine Ev_iconst (v := nI 3) dX11_sign_362 (by decide) ?_
          refine Ev_iret dX11_sign_363 rfl ?_
          exact Or.inl ⟨3, by omega, by omega, sg_nest em_ (by
      first | (rintro (q | q) <;> first | omega | (rw [q.2] at zb345_; cases zb345_; done) | (rw [q.2] at zb359_; cases zb359_; done)) | exact Or.inl ⟨by omega, zb345_⟩ | exact Or.inr ⟨by omega, zb359_⟩), rfl, FPr.rf, rfl, pr_.1⟩
    · refine Ev_aload_n dX11_sign_341 rfl (by first | exact Or.inr ⟨_, rfl⟩ | exact rv_or _ | exact Or.inl rfl) ?_
      refine Ev_getE dX11_sign_342 fX11_183 rf.1 pr_.2.2.2.2.1 ?_
      refine Ev_if_neB 362 dX11_sign_345 (by decide) (fun zb345_ => ?_) (fun zb345_ => ?_)
      · refine Ev_iconst (v := nI 3) dX11_sign_362 (by decide) ?_
        refine Ev_iret dX11_sign_363 rfl ?_
        exact Or.inl ⟨3, by omega, by omega, sg_nest em_ (by
      first | (rintro (q | q) <;> first | omega | (rw [q.2] at zb345_; cases zb345_; done) | (rw [q.2] at zb359_; cases zb359_; done)) | exact Or.inl ⟨by omega, zb345_⟩ | exact Or.inr ⟨by omega, zb359_⟩), rfl, FPr.rf, rfl, pr_.1⟩
      · refine Ev_iload dX11_sign_348 rfl ?_
        refine Ev_bipush (v := nI 7) dX11_sign_350 (by decide) ?_
        refine Ev_icmp_neN 364 dX11_sign_352 (by decide) (by omega) (by omega) (fun zb352_ => ?_) (fun zb352_ => ?_)
        · exact ev_sign_p l G bs at_ its wn h rf pr_ it w_ em_ h0_ (by
      first | (rintro (q | q) <;> first | omega | (rw [q.2] at zb345_; cases zb345_; done) | (rw [q.2] at zb359_; cases zb359_; done)) | exact Or.inl ⟨by omega, zb345_⟩ | exact Or.inr ⟨by omega, zb359_⟩) c_ d_ t_ a_ b_ x_ ea_ eb_
        · refine Ev_aload_n dX11_sign_355 rfl (by first | exact Or.inr ⟨_, rfl⟩ | exact rv_or _ | exact Or.inl rfl) ?_
          refine Ev_getE dX11_sign_356 fX11_183 rf.1 pr_.2.2.2.2.1 ?_
          refine Ev_if_neB 364 dX11_sign_359 (by decide) (fun zb359_ => ?_) (fun zb359_ => ?_)
          · exact ev_sign_p l G bs at_ its wn h rf pr_ it w_ em_ h0_ (by
      first | (rintro (q | q) <;> first | omega | (rw [q.2] at zb345_; cases zb345_; done) | (rw [q.2] at zb359_; cases zb359_; done)) | exact Or.inl ⟨by omega, zb345_⟩ | exact Or.inr ⟨by omega, zb359_⟩) c_ d_ t_ a_ b_ x_ ea_ eb_
          · refine Ev_iconst (v := nI 3) dX11_sign_362 (by decide) ?_
            refine Ev_iret dX11_sign_363 rfl ?_
            exact Or.inl ⟨3, by omega, by omega, sg_nest em_ (by
      first | (rintro (q | q) <;> first | omega | (rw [q.2] at zb345_; cases zb345_; done) | (rw [q.2] at zb359_; cases zb359_; done)) | exact Or.inl ⟨by omega, zb345_⟩ | exact Or.inr ⟨by omega, zb359_⟩), rfl, FPr.rf, rfl, pr_.1⟩
  · exact absurd (by rw [hi_n (by omega)]; omega) zb329_
theorem ev_sign_g (l : Launch) (G : aG) (bs : List Int32) (at_ : Nat) (its : List It) (wn : Bool) (h : aH) (rf : Rf h) (pr_ : RPr bs at_ its wn h) (it : It) (w_ : Nat) (em_ : mark bs at_ = some (it, w_)) (h0_ : it.1 ≠ 0) (c_ d_ t_ a_ b_ : Int32) (x_ : Value) (ea_ : a_ = nI it.2.1) (eb_ : b_ = nI it.2.2.1) : Ev l G 1 0 0 mX11_sign 193 [.ref MO, .int c_, .int d_, .int t_, .int (nI it.1), .int a_, .int b_, .int (nI w_), x_] [] h (fun x h' => (∃ f, 0 < f ∧ f ≤ 5 ∧ sgF bs at_ its.length wn = .inl f ∧ x = some (.int (nI f)) ∧ FPr h h' ∧ hI h' 783 MO = hI h 783 MO ∧ RTp bs h') ∨ (∃ it w wn', sgF bs at_ its.length wn = .inr (it, w, wn') ∧ x = some (.int (nI 0)) ∧ FPr h h' ∧ RPr bs (at_ + w) (its ++ [it]) wn' h')) := by
  have i7_ := (mark_ok em_).1
  refine Ev_iload dX11_sign_193 rfl ?_
  refine Ev_if_geT 243 dX11_sign_195 (by decide) (fun zb195_ => ?_) (fun zb195_ => absurd (by rw [hi_n (by omega)]; omega) zb195_)
  refine Ev_iload dX11_sign_243 rfl ?_
  refine Ev_if_geT 327 dX11_sign_245 (by decide) (fun zb245_ => ?_) (fun zb245_ => absurd (by rw [hi_n (by omega)]; omega) zb245_)
  exact ev_sign_e l G bs at_ its wn h rf pr_ it w_ em_ h0_ c_ d_ t_ a_ b_ x_ ea_ eb_
