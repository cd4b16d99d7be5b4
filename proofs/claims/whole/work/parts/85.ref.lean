theorem ev_isShownAlike_l (l : Launch) (G : aG) (ps nw : List Pc) (i : Nat) (p r : Pc) (hp_ : ps[i]? = some p) (hr_ : nw[i]? = some r) (h : aH) (rf : Rf h) (t0_ : RTx ps 0 h) (t1_ : RTx nw 1 h) (hl_ : (shP p).length = (shP r).length) (ms : Nat) : ∀ k, (shP p).length - k < ms → k ≤ (shP p).length → (∀ j, j < k → (shP p).getD j 0 = (shP r).getD j 0) → Ev l G 1 0 0 mX11_isShownAlike 17 [.ref MO, .int (nI i), .int (nI (250 + i)), .int (nI k)] [] h (Ex (some (.int (bI (decide (shP p = shP r))))) h) := by
  have n0_ := t0_.1
  have n1_ := t1_.1
  have il_ := (List.getElem?_eq_some_iff.mp hp_).1
  have jl_ := (List.getElem?_eq_some_iff.mp hr_).1
  obtain ⟨bp_, rp_⟩ := t0_.2.2.2.1 i p hp_
  obtain ⟨br_, rr_⟩ := t1_.2.2.2.1 i r hr_
  rw [show 250 * 0 + i = i by omega] at rp_
  rw [show 250 * 1 + i = 250 + i by omega] at rr_
  have sp_ := sh_le bp_
  have sr_ := sh_le br_
  induction ms with
  | zero => intro k hk; omega
  | succ ms ih_ =>
    intro k hk1_ hk2_ he_
    refine Ev_iload_n dX11_isShownAlike_17 rfl ?_
    refine Ev_aload_n dX11_isShownAlike_18 rfl (by first | exact Or.inr ⟨_, rfl⟩ | exact rv_or _ | exact Or.inl rfl) ?_
    refine Ev_iload_n dX11_isShownAlike_19 rfl ?_
    refine Ev_V0 [.int (nI i)] dX11_isShownAlike_20 vX11_shownLong kX11_266 rf.1 rfl rfl rfl (Nat.le_of_ble_eq_true rfl) (by omega) (ev_shownLong l G (i) (by omega) h rf) ?_
    rw [shL_eq bp_ rp_]
    refine Ev_icmp_geN 49 dX11_isShownAlike_23 (by decide) (by omega) (by omega) (fun zb23_ => ?_) (fun zb23_ => ?_)
    · refine Ev_iconst (v := nI 1) dX11_isShownAlike_49 (by decide) ?_
      refine Ev_zret dX11_isShownAlike_50 rfl (by decide) ?_
      refine ⟨?_, rfl⟩
      rw [decide_eq_true (ext_getD hl_ (fun j hj => he_ j (by omega)))]; rfl
    · refine Ev_aload_n dX11_isShownAlike_26 rfl (by first | exact Or.inr ⟨_, rfl⟩ | exact rv_or _ | exact Or.inl rfl) ?_
      refine Ev_iload_n dX11_isShownAlike_27 rfl ?_
      refine Ev_iload_n dX11_isShownAlike_28 rfl ?_
      have s0_ := ev_shownP l G ps 0 i k p h rf t0_ (by omega) hp_ (by omega)
      rw [show 250 * 0 + i = i by omega] at s0_
      refine Ev_V0 [.int (nI i), .int (nI k)] dX11_isShownAlike_29 vX11_shown kX11_269 rf.1 rfl rfl rfl (Nat.le_of_ble_eq_true rfl) (by omega) s0_ ?_
      refine Ev_aload_n dX11_isShownAlike_32 rfl (by first | exact Or.inr ⟨_, rfl⟩ | exact rv_or _ | exact Or.inl rfl) ?_
      refine Ev_iload_n dX11_isShownAlike_33 rfl ?_
      refine Ev_iload_n dX11_isShownAlike_34 rfl ?_
      have s1_ := ev_shownP l G nw 1 i k r h rf t1_ (by omega) hr_ (by omega)
      rw [show 250 * 1 + i = 250 + i by omega] at s1_
      refine Ev_V0 [.int (nI (250 + i)), .int (nI k)] dX11_isShownAlike_35 vX11_shown kX11_269 rf.1 rfl rfl rfl (Nat.le_of_ble_eq_true rfl) (by omega) s1_ ?_
      refine Ev_icmp_eq 43 dX11_isShownAlike_38 (by decide) (fun zb38_ => ?_) (fun zb38_ => ?_)
      · refine Ev_iincN 1 dX11_isShownAlike_43 (by decide) (by decide) rfl ?_
        refine Ev_goto 17 dX11_isShownAlike_46 (by decide) ?_
        exact ih_ (k + 1) (by omega) (by omega) (fun j hj => by
          by_cases e : j = k
          · rw [e]; exact zb38_
          · exact he_ j (by omega))
      · refine Ev_iconst (v := nI 0) dX11_isShownAlike_41 (by decide) ?_
        refine Ev_zret dX11_isShownAlike_42 rfl (by decide) ?_
        refine ⟨?_, rfl⟩
        rw [decide_eq_false (fun z => zb38_ (by rw [z]))]; rfl
theorem ev_isShownAlike (l : Launch) (G : aG) (ps nw : List Pc) (i : Nat) (p r : Pc) (hp_ : ps[i]? = some p) (hr_ : nw[i]? = some r) (h : aH) (rf : Rf h) (t0_ : RTx ps 0 h) (t1_ : RTx nw 1 h) : Ev l G 1 0 0 mX11_isShownAlike 0 (en 4 [.ref MO, .int (nI i), .int (nI (250 + i))]) [] h (Ex (some (.int (bI (decide (shP p = shP r))))) h) := by
  have n0_ := t0_.1
  have n1_ := t1_.1
  have il_ := (List.getElem?_eq_some_iff.mp hp_).1
  have jl_ := (List.getElem?_eq_some_iff.mp hr_).1
  obtain ⟨bp_, rp_⟩ := t0_.2.2.2.1 i p hp_
  obtain ⟨br_, rr_⟩ := t1_.2.2.2.1 i r hr_
  rw [show 250 * 0 + i = i by omega] at rp_
  rw [show 250 * 1 + i = 250 + i by omega] at rr_
  have sp_ := sh_le bp_
  have sr_ := sh_le br_
  refine Ev_aload_n dX11_isShownAlike_0 rfl (by first | exact Or.inr ⟨_, rfl⟩ | exact rv_or _ | exact Or.inl rfl) ?_
  refine Ev_iload_n dX11_isShownAlike_1 rfl ?_
  refine Ev_V0 [.int (nI i)] dX11_isShownAlike_2 vX11_shownLong kX11_266 rf.1 rfl rfl rfl (Nat.le_of_ble_eq_true rfl) (by omega) (ev_shownLong l G (i) (by omega) h rf) ?_
  rw [shL_eq bp_ rp_]
  refine Ev_aload_n dX11_isShownAlike_5 rfl (by first | exact Or.inr ⟨_, rfl⟩ | exact rv_or _ | exact Or.inl rfl) ?_
  refine Ev_iload_n dX11_isShownAlike_6 rfl ?_
  refine Ev_V0 [.int (nI (250 + i))] dX11_isShownAlike_7 vX11_shownLong kX11_266 rf.1 rfl rfl rfl (Nat.le_of_ble_eq_true rfl) (by omega) (ev_shownLong l G ((250 + i)) (by omega) h rf) ?_
  rw [shL_eq br_ rr_]
  refine Ev_icmp_eqN 15 dX11_isShownAlike_10 (by decide) (by omega) (by omega) (fun zb10_ => ?_) (fun zb10_ => ?_)
  · refine Ev_iconst (v := nI 0) dX11_isShownAlike_15 (by decide) ?_
    refine Ev_istore_n dX11_isShownAlike_16 (by decide) ?_
    exact ev_isShownAlike_l l G ps nw i p r hp_ hr_ h rf t0_ t1_ zb10_ 121 0 (by omega) (by omega) (fun j hj => by omega)
  · refine Ev_iconst (v := nI 0) dX11_isShownAlike_13 (by decide) ?_
    refine Ev_zret dX11_isShownAlike_14 rfl (by decide) ?_
    refine ⟨?_, rfl⟩
    rw [decide_eq_false (fun z => zb10_ (by rw [z]))]; rfl
def ulB (ps nw : List Pc) (k : Nat) : Bool := match ps[k]?, nw[k]? with
  | some p, some r => decide (shP p ≠ shP r)
  | _, _ => false
/-- pieces that show otherwise, or are more, or fewer -/
def ulN (ps nw : List Pc) : Nat := (ps.length - nw.length) + (nw.length - ps.length) + fb_ct (ulB ps nw) nw.length
def touF (ps ps1 : List Pc) (w : Int) : Int32 := if w = 0 then nI (ulN ps (tkA ps ps1)) else if w = 1 then nI (clN (tkA ps ps1)) else if w = 2 then nI (ps.filter (lsB ps1)).length else nI ps1.length
theorem clN_take {ps : List Pc} {k : Nat} {p : Pc} (h : ps[k]? = some p) : clN (ps.take (k + 1)) = clN (ps.take k) + (if clB p = true then 1 else 0) := by rw [take_ps h, clN_add]
theorem clN_le (ps : List Pc) : clN ps ≤ ps.length := List.length_filter_le _ _
theorem ev_touch_l (l : Launch) (G : aG) (t_ j_ v_ wh : Int32) (x5_ x6_ x7_ : Value) (dd : Nat) (hdd : dd ≤ 250) (ps nw : List Pc) (h : aH) (rf : Rf h) (t0_ : RTx ps 0 h) (t1_ : RTx nw 1 h) {Q : Option Value → aH → Prop} (kk_ : Ev l G 5 0 0 mX11_touch 237 [.ref MO, .int t_, .int j_, .int v_, .int wh, x5_, x6_, x7_, .int (nI (clN nw)), .int (nI (dd + fb_ct (ulB ps nw) nw.length)), .int (nI nw.length)] [] h Q) (ms : Nat) : ∀ k, nw.length - k < ms → k ≤ nw.length → Ev l G 5 0 0 mX11_touch 167 [.ref MO, .int t_, .int j_, .int v_, .int wh, x5_, x6_, x7_, .int (nI (clN (nw.take k))), .int (nI (dd + fb_ct (ulB ps nw) k)), .int (nI k)] [] h Q := by
  have n0_ := t0_.1
  have n1_ := t1_.1
  induction ms with
  | zero => intro k hk; omega
  | succ ms ih_ =>
    intro k hk1_ hk2_
    by_cases z_ : k = nw.length
    · subst z_
      rw [List.take_length]
      refine Ev_iload dX11_touch_167 rfl ?_
      refine Ev_aload_n dX11_touch_169 rfl (by first | exact Or.inr ⟨_, rfl⟩ | exact rv_or _ | exact Or.inl rfl) ?_
      refine Ev_getA dX11_touch_170 fX11_56 rf.1 (rr_pieces rf) ?_
      refine Ev_iconst (v := nI 1) dX11_touch_173 (by decide) ?_
      refine Ev_ialdE _ dX11_touch_174 (rk_pieces rf) (rl_pieces rf) (hi_n (by omega)) (by omega) t1_.2.2.1 ?_
      refine Ev_icmp_geN 237 dX11_touch_175 (by decide) (by omega) (by omega) (fun zb175_ => ?_) (fun zb175_ => ?_)
      · exact kk_
      · exact False.elim (by omega)
    have jl_ : k < nw.length := by omega
    have fl_ := fb_ct_le (ulB ps nw) k
    have cl_ := clN_le (nw.take k)
    obtain ⟨r, hr_⟩ : ∃ r, nw[k]? = some r := ⟨_, List.getElem?_eq_getElem jl_⟩
    obtain ⟨br_, rr_⟩ := t1_.2.2.2.1 k r hr_
    rw [show 250 * 1 + k = 250 + k by omega] at rr_
    by_cases zi_ : k < ps.length
    · obtain ⟨p, hp_⟩ : ∃ p, ps[k]? = some p := ⟨_, List.getElem?_eq_getElem zi_⟩
      refine Ev_iload dX11_touch_167 rfl ?_
      refine Ev_aload_n dX11_touch_169 rfl (by first | exact Or.inr ⟨_, rfl⟩ | exact rv_or _ | exact Or.inl rfl) ?_
      refine Ev_getA dX11_touch_170 fX11_56 rf.1 (rr_pieces rf) ?_
      refine Ev_iconst (v := nI 1) dX11_touch_173 (by decide) ?_
      refine Ev_ialdE _ dX11_touch_174 (rk_pieces rf) (rl_pieces rf) (hi_n (by omega)) (by omega) t1_.2.2.1 ?_
      refine Ev_icmp_geN 237 dX11_touch_175 (by decide) (by omega) (by omega) (fun zb175_ => ?_) (fun zb175_ => ?_)
      · exact False.elim (by omega)
      · refine Ev_iload dX11_touch_178 rfl ?_
        refine Ev_aload_n dX11_touch_180 rfl (by first | exact Or.inr ⟨_, rfl⟩ | exact rv_or _ | exact Or.inl rfl) ?_
        refine Ev_getA dX11_touch_181 fX11_102 rf.1 (rr_clash rf) ?_
        refine Ev_sipush (v := nI 250) dX11_touch_184 (by decide) ?_
        refine Ev_iload dX11_touch_187 rfl ?_
        refine Ev_iaddN dX11_touch_189 ?_
        refine Ev_zaldE _ dX11_touch_190 (rk_clash rf) (rl_clash rf) (hi_n (by omega)) (by omega) rr_.2.2.2.2.1 ?_
        refine Ev_if_eqB 198 dX11_touch_191 (by decide) (fun zb191_ => ?_) (fun zb191_ => ?_)
        · have ec_ : clN (nw.take (k + 1)) = clN (nw.take k) + 0 := by rw [clN_take hr_, zb191_]; rfl
          refine Ev_iconst (v := nI 0) dX11_touch_198 (by decide) ?_
          refine Ev_iaddN dX11_touch_199 ?_
          refine Ev_istore dX11_touch_200 (by decide) ?_
          refine Ev_iload dX11_touch_202 rfl ?_
          refine Ev_aload_n dX11_touch_204 rfl (by first | exact Or.inr ⟨_, rfl⟩ | exact rv_or _ | exact Or.inl rfl) ?_
          refine Ev_getA dX11_touch_205 fX11_56 rf.1 (rr_pieces rf) ?_
          refine Ev_iconst (v := nI 0) dX11_touch_208 (by decide) ?_
          refine Ev_ialdE _ dX11_touch_209 (rk_pieces rf) (rl_pieces rf) (hi_n (by omega)) (by omega) t0_.2.2.1 ?_
          refine Ev_icmp_geN 231 dX11_touch_210 (by decide) (by omega) (by omega) (fun zb210_ => ?_) (fun zb210_ => ?_)
          · exact False.elim (by omega)
          · refine Ev_aload_n dX11_touch_213 rfl (by first | exact Or.inr ⟨_, rfl⟩ | exact rv_or _ | exact Or.inl rfl) ?_
            refine Ev_iload dX11_touch_214 rfl ?_
            refine Ev_sipush (v := nI 250) dX11_touch_216 (by decide) ?_
            refine Ev_iload dX11_touch_219 rfl ?_
            refine Ev_iaddN dX11_touch_221 ?_
            refine Ev_V0 [.int (nI k), .int (nI (250 + k))] dX11_touch_222 vX11_isShownAlike kX11_281 rf.1 rfl rfl rfl (Nat.le_of_ble_eq_true rfl) (by omega) (ev_isShownAlike l G ps nw k p r hp_ hr_ h rf t0_ t1_) ?_
            refine Ev_if_neB 231 dX11_touch_225 (by decide) (fun zb225_ => ?_) (fun zb225_ => ?_)
            · have eu_ : fb_ct (ulB ps nw) (k + 1) = fb_ct (ulB ps nw) k := by rw [fb_ct_succ, show ulB ps nw k = false by unfold ulB; rw [hp_, hr_]; simpa using zb225_]; rfl
              refine Ev_iincN 1 dX11_touch_231 (by decide) (by decide) rfl ?_
              refine Ev_goto 167 dX11_touch_234 (by decide) ?_
              first
              | (rw [← ec_, ← eu_]; exact ih_ (k + 1) (by omega) (by omega))
              | (rw [← ec_, Nat.add_assoc, ← eu_]; exact ih_ (k + 1) (by omega) (by omega))
            · have eu_ : fb_ct (ulB ps nw) (k + 1) = fb_ct (ulB ps nw) k + 1 := by rw [fb_ct_succ, show ulB ps nw k = true by unfold ulB; rw [hp_, hr_]; simpa using zb225_]; rfl
              refine Ev_iincN 1 dX11_touch_228 (by decide) (by decide) rfl ?_
              refine Ev_iincN 1 dX11_touch_231 (by decide) (by decide) rfl ?_
              refine Ev_goto 167 dX11_touch_234 (by decide) ?_
              first
              | (rw [← ec_, ← eu_]; exact ih_ (k + 1) (by omega) (by omega))
              | (rw [← ec_, Nat.add_assoc, ← eu_]; exact ih_ (k + 1) (by omega) (by omega))
        · have ec_ : clN (nw.take (k + 1)) = clN (nw.take k) + 1 := by rw [clN_take hr_, zb191_]; rfl
          refine Ev_iconst (v := nI 1) dX11_touch_194 (by decide) ?_
          refine Ev_goto 199 dX11_touch_195 (by decide) ?_
          refine Ev_iaddN dX11_touch_199 ?_
          refine Ev_istore dX11_touch_200 (by decide) ?_
          refine Ev_iload dX11_touch_202 rfl ?_
          refine Ev_aload_n dX11_touch_204 rfl (by first | exact Or.inr ⟨_, rfl⟩ | exact rv_or _ | exact Or.inl rfl) ?_
          refine Ev_getA dX11_touch_205 fX11_56 rf.1 (rr_pieces rf) ?_
          refine Ev_iconst (v := nI 0) dX11_touch_208 (by decide) ?_
          refine Ev_ialdE _ dX11_touch_209 (rk_pieces rf) (rl_pieces rf) (hi_n (by omega)) (by omega) t0_.2.2.1 ?_
          refine Ev_icmp_geN 231 dX11_touch_210 (by decide) (by omega) (by omega) (fun zb210_ => ?_) (fun zb210_ => ?_)
          · exact False.elim (by omega)
          · refine Ev_aload_n dX11_touch_213 rfl (by first | exact Or.inr ⟨_, rfl⟩ | exact rv_or _ | exact Or.inl rfl) ?_
            refine Ev_iload dX11_touch_214 rfl ?_
            refine Ev_sipush (v := nI 250) dX11_touch_216 (by decide) ?_
            refine Ev_iload dX11_touch_219 rfl ?_
            refine Ev_iaddN dX11_touch_221 ?_
            refine Ev_V0 [.int (nI k), .int (nI (250 + k))] dX11_touch_222 vX11_isShownAlike kX11_281 rf.1 rfl rfl rfl (Nat.le_of_ble_eq_true rfl) (by omega) (ev_isShownAlike l G ps nw k p r hp_ hr_ h rf t0_ t1_) ?_
            refine Ev_if_neB 231 dX11_touch_225 (by decide) (fun zb225_ => ?_) (fun zb225_ => ?_)
            · have eu_ : fb_ct (ulB ps nw) (k + 1) = fb_ct (ulB ps nw) k := by rw [fb_ct_succ, show ulB ps nw k = false by unfold ulB; rw [hp_, hr_]; simpa using zb225_]; rfl
              refine Ev_iincN 1 dX11_touch_231 (by decide) (by decide) rfl ?_
              refine Ev_goto 167 dX11_touch_234 (by decide) ?_
              first
              | (rw [← ec_, ← eu_]; exact ih_ (k + 1) (by omega) (by omega))
              | (rw [← ec_, Nat.add_assoc, ← eu_]; exact ih_ (k + 1) (by omega) (by omega))
            · have eu_ : fb_ct (ulB ps nw) (k + 1) = fb_ct (ulB ps nw) k + 1 := by rw [fb_ct_succ, show ulB ps nw k = true by unfold ulB; rw [hp_, hr_]; simpa using zb225_]; rfl
              refine Ev_iincN 1 dX11_touch_228 (by decide) (by decide) rfl ?_
              refine Ev_iincN 1 dX11_touch_231 (by decide) (by decide) rfl ?_
              refine Ev_goto 167 dX11_touch_234 (by decide) ?_
              first
              | (rw [← ec_, ← eu_]; exact ih_ (k + 1) (by omega) (by omega))
              | (rw [← ec_, Nat.add_assoc, ← eu_]; exact ih_ (k + 1) (by omega) (by omega))
    · skip
      refine Ev_iload dX11_touch_167 rfl ?_
      refine Ev_aload_n dX11_touch_169 rfl (by first | exact Or.inr ⟨_, rfl⟩ | exact rv_or _ | exact Or.inl rfl) ?_
      refine Ev_getA dX11_touch_170 fX11_56 rf.1 (rr_pieces rf) ?_
      refine Ev_iconst (v := nI 1) dX11_touch_173 (by decide) ?_
      refine Ev_ialdE _ dX11_touch_174 (rk_pieces rf) (rl_pieces rf) (hi_n (by omega)) (by omega) t1_.2.2.1 ?_
      refine Ev_icmp_geN 237 dX11_touch_175 (by decide) (by omega) (by omega) (fun zb175_ => ?_) (fun zb175_ => ?_)
      · exact False.elim (by omega)
      · refine Ev_iload dX11_touch_178 rfl ?_
        refine Ev_aload_n dX11_touch_180 rfl (by first | exact Or.inr ⟨_, rfl⟩ | exact rv_or _ | exact Or.inl rfl) ?_
        refine Ev_getA dX11_touch_181 fX11_102 rf.1 (rr_clash rf) ?_
        refine Ev_sipush (v := nI 250) dX11_touch_184 (by decide) ?_
        refine Ev_iload dX11_touch_187 rfl ?_
        refine Ev_iaddN dX11_touch_189 ?_
        refine Ev_zaldE _ dX11_touch_190 (rk_clash rf) (rl_clash rf) (hi_n (by omega)) (by omega) rr_.2.2.2.2.1 ?_
        refine Ev_if_eqB 198 dX11_touch_191 (by decide) (fun zb191_ => ?_) (fun zb191_ => ?_)
        · have ec_ : clN (nw.take (k + 1)) = clN (nw.take k) + 0 := by rw [clN_take hr_, zb191_]; rfl
          refine Ev_iconst (v := nI 0) dX11_touch_198 (by decide) ?_
          refine Ev_iaddN dX11_touch_199 ?_
          refine Ev_istore dX11_touch_200 (by decide) ?_
          refine Ev_iload dX11_touch_202 rfl ?_
          refine Ev_aload_n dX11_touch_204 rfl (by first | exact Or.inr ⟨_, rfl⟩ | exact rv_or _ | exact Or.inl rfl) ?_
          refine Ev_getA dX11_touch_205 fX11_56 rf.1 (rr_pieces rf) ?_
          refine Ev_iconst (v := nI 0) dX11_touch_208 (by decide) ?_
          refine Ev_ialdE _ dX11_touch_209 (rk_pieces rf) (rl_pieces rf) (hi_n (by omega)) (by omega) t0_.2.2.1 ?_
          refine Ev_icmp_geN 231 dX11_touch_210 (by decide) (by omega) (by omega) (fun zb210_ => ?_) (fun zb210_ => ?_)
          · have eu_ : fb_ct (ulB ps nw) (k + 1) = fb_ct (ulB ps nw) k := by rw [fb_ct_succ, show ulB ps nw k = false by unfold ulB; rw [List.getElem?_eq_none (by omega)]]; rfl
            refine Ev_iincN 1 dX11_touch_231 (by decide) (by decide) rfl ?_
            refine Ev_goto 167 dX11_touch_234 (by decide) ?_
            first
            | (rw [← ec_, ← eu_]; exact ih_ (k + 1) (by omega) (by omega))
            | (rw [← ec_, Nat.add_assoc, ← eu_]; exact ih_ (k + 1) (by omega) (by omega))
          · exact False.elim (by omega)
        · have ec_ : clN (nw.take (k + 1)) = clN (nw.take k) + 1 := by rw [clN_take hr_, zb191_]; rfl
          refine Ev_iconst (v := nI 1) dX11_touch_194 (by decide) ?_
          refine Ev_goto 199 dX11_touch_195 (by decide) ?_
          refine Ev_iaddN dX11_touch_199 ?_
          refine Ev_istore dX11_touch_200 (by decide) ?_
          refine Ev_iload dX11_touch_202 rfl ?_
          refine Ev_aload_n dX11_touch_204 rfl (by first | exact Or.inr ⟨_, rfl⟩ | exact rv_or _ | exact Or.inl rfl) ?_
          refine Ev_getA dX11_touch_205 fX11_56 rf.1 (rr_pieces rf) ?_
          refine Ev_iconst (v := nI 0) dX11_touch_208 (by decide) ?_
          refine Ev_ialdE _ dX11_touch_209 (rk_pieces rf) (rl_pieces rf) (hi_n (by omega)) (by omega) t0_.2.2.1 ?_
          refine Ev_icmp_geN 231 dX11_touch_210 (by decide) (by omega) (by omega) (fun zb210_ => ?_) (fun zb210_ => ?_)
          · have eu_ : fb_ct (ulB ps nw) (k + 1) = fb_ct (ulB ps nw) k := by rw [fb_ct_succ, show ulB ps nw k = false by unfold ulB; rw [List.getElem?_eq_none (by omega)]]; rfl
            refine Ev_iincN 1 dX11_touch_231 (by decide) (by decide) rfl ?_
            refine Ev_goto 167 dX11_touch_234 (by decide) ?_
            first
            | (rw [← ec_, ← eu_]; exact ih_ (k + 1) (by omega) (by omega))
            | (rw [← ec_, Nat.add_assoc, ← eu_]; exact ih_ (k + 1) (by omega) (by omega))
          · exact False.elim (by omega)
theorem ev_touch (l : Launch) (G : aG) (t_ j_ v_ wh : Int32) (m : Md) (ru : Nat → List It) (ps : List Pc) (ln : List (List Int32 × Nat × Nat)) (fa : Nat) (h : aH) (rf : Rf h) (mk : MOk m) (rm : RM m h) (ru_ : RRu ru h) (t0_ : RTx ps 0 h) (rl_ : RLn ln fa h) : Ev l G 5 0 0 mX11_touch 0 (en 11 [.ref MO, .int t_, .int j_, .int v_, .int wh]) [] h (fun x h' => (¬ (okNum m t_ j_ v_ ∧ 0 ≤ wh.toInt ∧ wh.toInt ≤ 3) ∧ x = some (.int (-1)) ∧ h' = h) ∨ (∃ c j v, mLive m c ∧ j < 4 ∧ v ≤ 99999 ∧ t_ = nI (mSl m c) ∧ j_ = nI j ∧ v_ = nI v ∧ (0 ≤ wh.toInt ∧ wh.toInt ≤ 3) ∧ RM m h' ∧ FB h h' ∧ RTx ps 0 h' ∧ RLn ln fa h' ∧ ((mkNew (sNu m c j (nI v)) ru = none ∧ x = some (.int (-1))) ∨ (∃ ps1, mkNew (sNu m c j (nI v)) ru = some ps1 ∧ x = some (.int (touF ps ps1 wh.toInt)))))) := by
  refine Ev_aload_n dX11_touch_0 rfl (by first | exact Or.inr ⟨_, rfl⟩ | exact rv_or _ | exact Or.inl rfl) ?_
  refine Ev_iload_n dX11_touch_1 rfl ?_
  refine Ev_V0 [.int t_] dX11_touch_2 vX11_isThing kX11_145 rf.1 rfl rfl rfl (Nat.le_of_ble_eq_true rfl) (by omega) (ev_isThing l G t_ h rf) ?_
  refine Ev_if_eqB 37 dX11_touch_5 (by decide) (fun zb5_ => ?_) (fun zb5_ => ?_)
  · have zt_ := isT_f rm mk zb5_
    refine Ev_iconst (v := -1) dX11_touch_37 (by decide) ?_
    refine Ev_iret dX11_touch_38 rfl ?_
    refine Or.inl ⟨fun z => ?_, rfl, rfl⟩
    first
    | (exact zt_ z.1.1; done)
    | (exact zj_ z.1.2.1; done)
    | (exact zv_ z.1.2.2; done)
    | (exact zw_ z.2; done)
  · have zt_ := (rm.isTh mk).mp zb5_
    refine Ev_iload_n dX11_touch_8 rfl ?_
    refine Ev_iconst (v := nI 0) dX11_touch_9 (by decide) ?_
    refine Ev_iconst (v := nI 3) dX11_touch_10 (by decide) ?_
    refine Ev_S0 [.int j_, .int (nI 0), .int (nI 3)] dX11_touch_11 sX11_isIn kX11_130 rfl rfl rfl (Nat.le_of_ble_eq_true rfl) (by omega) (ev_isIn l G _ _ _ _) ?_
    refine Ev_if_eqB 37 dX11_touch_14 (by decide) (fun zb14_ => ?_) (fun zb14_ => ?_)
    · have zj_ := inB_f t0 t3 zb14_
      refine Ev_iconst (v := -1) dX11_touch_37 (by decide) ?_
      refine Ev_iret dX11_touch_38 rfl ?_
      refine Or.inl ⟨fun z => ?_, rfl, rfl⟩
      first
      | (exact zt_ z.1.1; done)
      | (exact zj_ z.1.2.1; done)
      | (exact zv_ z.1.2.2; done)
      | (exact zw_ z.2; done)
    · have zj_ := inB_t t0 t3 zb14_
      refine Ev_iload_n dX11_touch_17 rfl ?_
      refine Ev_iconst (v := nI 0) dX11_touch_18 (by decide) ?_
      refine Ev_ldc (v := 99999) dX11_touch_19 cX11_165 ?_
      refine Ev_top (y := .int (nI 99999)) (by decide) ?_
      refine Ev_S0 [.int v_, .int (nI 0), .int (nI 99999)] dX11_touch_21 sX11_isIn kX11_130 rfl rfl rfl (Nat.le_of_ble_eq_true rfl) (by omega) (ev_isIn l G _ _ _ _) ?_
      refine Ev_if_eqB 37 dX11_touch_24 (by decide) (fun zb24_ => ?_) (fun zb24_ => ?_)
      · have zv_ := inB_f t0 t99999 zb24_
        refine Ev_iconst (v := -1) dX11_touch_37 (by decide) ?_
        refine Ev_iret dX11_touch_38 rfl ?_
        refine Or.inl ⟨fun z => ?_, rfl, rfl⟩
        first
        | (exact zt_ z.1.1; done)
        | (exact zj_ z.1.2.1; done)
        | (exact zv_ z.1.2.2; done)
        | (exact zw_ z.2; done)
      · have zv_ := inB_t t0 t99999 zb24_
        refine Ev_iload dX11_touch_27 rfl ?_
        refine Ev_iconst (v := nI 0) dX11_touch_29 (by decide) ?_
        refine Ev_iconst (v := nI 3) dX11_touch_30 (by decide) ?_
        refine Ev_S0 [.int wh, .int (nI 0), .int (nI 3)] dX11_touch_31 sX11_isIn kX11_130 rfl rfl rfl (Nat.le_of_ble_eq_true rfl) (by omega) (ev_isIn l G _ _ _ _) ?_
        refine Ev_if_neB 39 dX11_touch_34 (by decide) (fun zb34_ => ?_) (fun zb34_ => ?_)
        · have zw_ := inB_t t0 t3 zb34_
          obtain ⟨c, hc_, rfl⟩ := zt_
          obtain ⟨j, hj3_, rfl⟩ := as_nI (n := 3) zj_.1 (by omega)
          obtain ⟨v, hv9_, rfl⟩ := as_nI (n := 99999) zv_.1 (by omega)
          have hj4_ : j < 4 := by omega
          have sl_ := mk.sl hc_
          have nv_ := (rm.2.2.1 _ hc_).2.2.1 _ hj4_
          have mk1_ : MOk (sNu m c j (nI v)) := mk.nu (by rw [hi_n (by omega)]; omega)
          have rm1_ : RM (sNu m c j (nI v)) (sX h 33 (4 * mSl m c + j) (nI v)) := rm.nu (v := nI v) mk hc_ hj4_
          have ru1_ : RRu ru (sX h 33 (4 * mSl m c + j) (nI v)) := ru_.fr (Fr.row (ks := []) (as := [33]) (by decide)) (by decide)
          refine Ev_aload_n dX11_touch_39 rfl (by first | exact Or.inr ⟨_, rfl⟩ | exact rv_or _ | exact Or.inl rfl) ?_
          refine Ev_getA dX11_touch_40 fX11_22 rf.1 (rr_number rf) ?_
          refine Ev_iconst (v := nI 4) dX11_touch_43 (by decide) ?_
          refine Ev_iload_n dX11_touch_44 rfl ?_
          refine Ev_imulN dX11_touch_45 ?_
          refine Ev_iload_n dX11_touch_46 rfl ?_
          refine Ev_iaddN dX11_touch_47 ?_
          refine Ev_ialdE _ dX11_touch_48 (rk_number rf) (rl_number rf) (hi_n (by omega)) (by omega) nv_ ?_
          refine Ev_istore dX11_touch_49 (by decide) ?_
          refine Ev_aload_n dX11_touch_51 rfl (by first | exact Or.inr ⟨_, rfl⟩ | exact rv_or _ | exact Or.inl rfl) ?_
          refine Ev_getA dX11_touch_52 fX11_22 rf.1 (rr_number rf) ?_
          refine Ev_iconst (v := nI 4) dX11_touch_55 (by decide) ?_
          refine Ev_iload_n dX11_touch_56 rfl ?_
          refine Ev_imulN dX11_touch_57 ?_
          refine Ev_iload_n dX11_touch_58 rfl ?_
          refine Ev_iaddN dX11_touch_59 ?_
          refine Ev_iload_n dX11_touch_60 rfl ?_
          refine Ev_iastL _ dX11_touch_61 (rk_number rf) (rl_number rf) (hi_n (by omega)) (by omega) ?_
          refine Ev_aload_n dX11_touch_62 rfl (by first | exact Or.inr ⟨_, rfl⟩ | exact rv_or _ | exact Or.inl rfl) ?_
          refine Ev_Vz [] dX11_touch_63 vX11_makeNew kX11_257 rf.1 rfl rfl rfl (Nat.le_of_ble_eq_true rfl) (by omega) (ev_makeNew l G (sNu m c j (nI v)) ru (sX h 33 (4 * mSl m c + j) (nI v)) rf mk1_ rm1_ ru1_) (fun v_ h2 e_ => ?_)
          obtain ⟨f2_, ⟨ps1, em_, rfl, r1_, ew_⟩ | ⟨em_, rfl⟩⟩ := e_
          · have rf2_ : Rf h2 := Rf.fr (h := (sX h 33 (4 * mSl m c + j) (nI v))) rf f2_.1
            have rm3_ : RM m (sX h2 33 (4 * mSl m c + j) (mNu m c j)) := by
              have := (rm1_.fn f2_).nu (v := mNu m c j) mk1_ hc_ hj4_
              rw [sNu_back] at this; exact this
            have f3_ : FB h (sX h2 33 (4 * mSl m c + j) (mNu m c j)) := ((Fr.row (by decide)).tr f2_.fb).tr (Fr.row (by decide))
            have t3_ : RTx ps 0 (sX h2 33 (4 * mSl m c + j) (mNu m c j)) := ((t0_.fr (Fr.row (ks := []) (as := [33]) (by decide)) (by decide)).fn f2_).fr (Fr.row (ks := []) (as := [33]) (by decide)) (by decide)
            have l3_ : RLn ln fa (sX h2 33 (4 * mSl m c + j) (mNu m c j)) := ((rl_.fr (Fr.row (ks := []) (as := [33]) (by decide)) (by decide) (by decide)).fr f2_.1 (by decide) (by decide)).fr (Fr.row (ks := []) (as := [33]) (by decide)) (by decide) (by decide)
            refine Ev_istore dX11_touch_66 (by decide) ?_
            refine Ev_aload_n dX11_touch_68 rfl (by first | exact Or.inr ⟨_, rfl⟩ | exact rv_or _ | exact Or.inl rfl) ?_
            refine Ev_getA dX11_touch_69 fX11_22 rf2_.1 (rr_number rf2_) ?_
            refine Ev_iconst (v := nI 4) dX11_touch_72 (by decide) ?_
            refine Ev_iload_n dX11_touch_73 rfl ?_
            refine Ev_imulN dX11_touch_74 ?_
            refine Ev_iload_n dX11_touch_75 rfl ?_
            refine Ev_iaddN dX11_touch_76 ?_
            refine Ev_iload dX11_touch_77 rfl ?_
            refine Ev_iastL _ dX11_touch_79 (rk_number rf2_) (rl_number rf2_) (hi_n (by omega)) (by omega) ?_
            refine Ev_iload dX11_touch_80 rfl ?_
            refine Ev_if_neT 87 dX11_touch_82 (by decide) (fun zb82_ => ?_) (fun zb82_ => ?_)
            · refine Ev_aload_n dX11_touch_87 rfl (by first | exact Or.inr ⟨_, rfl⟩ | exact rv_or _ | exact Or.inl rfl) ?_
              refine Ev_Vz [] dX11_touch_88 vX11_takeAll kX11_248 rf2_.1 rfl rfl rfl (Nat.le_of_ble_eq_true rfl) (by omega) (ev_takeAll l G ps ps1 (sX h2 33 (4 * mSl m c + j) (mNu m c j)) rf2_ t3_ (r1_.fr (Fr.row (ks := []) (as := [33]) (by decide)) (by decide))) (fun v_ h4 e_ => ?_)
              obtain ⟨rfl, f4_, t4_, s4_⟩ := e_
              have rf4_ : Rf h4 := Rf.fr (h := (sX h2 33 (4 * mSl m c + j) (mNu m c j))) rf2_ f4_
              have k1_ := s4_.1
              have k0_ := t4_.1
              refine Ev_istore dX11_touch_91 (by decide) ?_
              refine Ev_iload dX11_touch_93 rfl ?_
              refine Ev_iconst (v := nI 2) dX11_touch_95 (by decide) ?_
              refine Ev_icmp_neT 102 dX11_touch_96 (by decide) (fun zb96_ => ?_) (fun zb96_ => ?_)
              · rw [t2] at zb96_
                refine Ev_iload dX11_touch_102 rfl ?_
                refine Ev_iconst (v := nI 3) dX11_touch_104 (by decide) ?_
                refine Ev_icmp_neT 115 dX11_touch_105 (by decide) (fun zb105_ => ?_) (fun zb105_ => ?_)
                · rw [t3] at zb105_
                  refine Ev_iconst (v := nI 0) dX11_touch_115 (by decide) ?_
                  refine Ev_istore dX11_touch_116 (by decide) ?_
                  refine Ev_aload_n dX11_touch_118 rfl (by first | exact Or.inr ⟨_, rfl⟩ | exact rv_or _ | exact Or.inl rfl) ?_
                  refine Ev_getA dX11_touch_119 fX11_56 rf4_.1 (rr_pieces rf4_) ?_
                  refine Ev_iconst (v := nI 0) dX11_touch_122 (by decide) ?_
                  refine Ev_ialdE _ dX11_touch_123 (rk_pieces rf4_) (rl_pieces rf4_) (hi_n (by omega)) (by omega) t4_.2.2.1 ?_
                  refine Ev_aload_n dX11_touch_124 rfl (by first | exact Or.inr ⟨_, rfl⟩ | exact rv_or _ | exact Or.inl rfl) ?_
                  refine Ev_getA dX11_touch_125 fX11_56 rf4_.1 (rr_pieces rf4_) ?_
                  refine Ev_iconst (v := nI 1) dX11_touch_128 (by decide) ?_
                  refine Ev_ialdE _ dX11_touch_129 (rk_pieces rf4_) (rl_pieces rf4_) (hi_n (by omega)) (by omega) s4_.2.2.1 ?_
                  refine Ev_icmp_leN 149 dX11_touch_130 (by decide) (by omega) (by omega) (fun zb130_ => ?_) (fun zb130_ => ?_)
                  · have ed_ : ps.length - (tkA ps ps1).length + ((tkA ps ps1).length - ps.length) = (tkA ps ps1).length - ps.length := by omega
                    refine Ev_aload_n dX11_touch_149 rfl (by first | exact Or.inr ⟨_, rfl⟩ | exact rv_or _ | exact Or.inl rfl) ?_
                    refine Ev_getA dX11_touch_150 fX11_56 rf4_.1 (rr_pieces rf4_) ?_
                    refine Ev_iconst (v := nI 1) dX11_touch_153 (by decide) ?_
                    refine Ev_ialdE _ dX11_touch_154 (rk_pieces rf4_) (rl_pieces rf4_) (hi_n (by omega)) (by omega) s4_.2.2.1 ?_
                    refine Ev_aload_n dX11_touch_155 rfl (by first | exact Or.inr ⟨_, rfl⟩ | exact rv_or _ | exact Or.inl rfl) ?_
                    refine Ev_getA dX11_touch_156 fX11_56 rf4_.1 (rr_pieces rf4_) ?_
                    refine Ev_iconst (v := nI 0) dX11_touch_159 (by decide) ?_
                    refine Ev_ialdE _ dX11_touch_160 (rk_pieces rf4_) (rl_pieces rf4_) (hi_n (by omega)) (by omega) t4_.2.2.1 ?_
                    refine Ev_isubN dX11_touch_161 (by omega) ?_
                    refine Ev_istore dX11_touch_162 (by decide) ?_
                    refine Ev_iconst (v := nI 0) dX11_touch_164 (by decide) ?_
                    refine Ev_istore dX11_touch_165 (by decide) ?_
                    rw [← ed_]
                    refine ev_touch_l l G _ _ _ _ _ _ _ (ps.length - (tkA ps ps1).length + ((tkA ps ps1).length - ps.length)) (by omega) ps (tkA ps ps1) h4 rf4_ t4_ s4_ ?_ 251 0 (by have := s4_.1; omega) (by omega)
                    refine Ev_iload dX11_touch_237 rfl ?_
                    refine Ev_if_neT 247 dX11_touch_239 (by decide) (fun zb239_ => ?_) (fun zb239_ => ?_)
                    · refine Ev_iload dX11_touch_247 rfl ?_
                      refine Ev_iret dX11_touch_249 rfl ?_
                      first
                      | (exact Or.inr ⟨c, j, v, hc_, hj4_, hv9_, rfl, rfl, rfl, zw_, rm3_.fr f4_ (by decide) (by decide), f3_.tr (f4_.mo (by decide) (by decide)), t4_, l3_.fr f4_ (by decide) (by decide), Or.inr ⟨ps1, em_, by unfold touF; rw [if_pos zb239_]; rfl⟩⟩)
                      | (exact Or.inr ⟨c, j, v, hc_, hj4_, hv9_, rfl, rfl, rfl, zw_, rm3_.fr f4_ (by decide) (by decide), f3_.tr (f4_.mo (by decide) (by decide)), t4_, l3_.fr f4_ (by decide) (by decide), Or.inr ⟨ps1, em_, by unfold touF; rw [if_neg zb239_, if_pos (by omega)]⟩⟩)
                    · refine Ev_iload dX11_touch_242 rfl ?_
                      refine Ev_goto 249 dX11_touch_244 (by decide) ?_
                      refine Ev_iret dX11_touch_249 rfl ?_
                      first
                      | (exact Or.inr ⟨c, j, v, hc_, hj4_, hv9_, rfl, rfl, rfl, zw_, rm3_.fr f4_ (by decide) (by decide), f3_.tr (f4_.mo (by decide) (by decide)), t4_, l3_.fr f4_ (by decide) (by decide), Or.inr ⟨ps1, em_, by unfold touF; rw [if_pos zb239_]; rfl⟩⟩)
                      | (exact Or.inr ⟨c, j, v, hc_, hj4_, hv9_, rfl, rfl, rfl, zw_, rm3_.fr f4_ (by decide) (by decide), f3_.tr (f4_.mo (by decide) (by decide)), t4_, l3_.fr f4_ (by decide) (by decide), Or.inr ⟨ps1, em_, by unfold touF; rw [if_neg zb239_, if_pos (by omega)]⟩⟩)
                  · have ed_ : ps.length - (tkA ps ps1).length + ((tkA ps ps1).length - ps.length) = ps.length - (tkA ps ps1).length := by omega
                    refine Ev_aload_n dX11_touch_133 rfl (by first | exact Or.inr ⟨_, rfl⟩ | exact rv_or _ | exact Or.inl rfl) ?_
                    refine Ev_getA dX11_touch_134 fX11_56 rf4_.1 (rr_pieces rf4_) ?_
                    refine Ev_iconst (v := nI 0) dX11_touch_137 (by decide) ?_
                    refine Ev_ialdE _ dX11_touch_138 (rk_pieces rf4_) (rl_pieces rf4_) (hi_n (by omega)) (by omega) t4_.2.2.1 ?_
                    refine Ev_aload_n dX11_touch_139 rfl (by first | exact Or.inr ⟨_, rfl⟩ | exact rv_or _ | exact Or.inl rfl) ?_
                    refine Ev_getA dX11_touch_140 fX11_56 rf4_.1 (rr_pieces rf4_) ?_
                    refine Ev_iconst (v := nI 1) dX11_touch_143 (by decide) ?_
                    refine Ev_ialdE _ dX11_touch_144 (rk_pieces rf4_) (rl_pieces rf4_) (hi_n (by omega)) (by omega) s4_.2.2.1 ?_
                    refine Ev_isubN dX11_touch_145 (by omega) ?_
                    refine Ev_goto 162 dX11_touch_146 (by decide) ?_
                    refine Ev_istore dX11_touch_162 (by decide) ?_
                    refine Ev_iconst (v := nI 0) dX11_touch_164 (by decide) ?_
                    refine Ev_istore dX11_touch_165 (by decide) ?_
                    rw [← ed_]
                    refine ev_touch_l l G _ _ _ _ _ _ _ (ps.length - (tkA ps ps1).length + ((tkA ps ps1).length - ps.length)) (by omega) ps (tkA ps ps1) h4 rf4_ t4_ s4_ ?_ 251 0 (by have := s4_.1; omega) (by omega)
                    refine Ev_iload dX11_touch_237 rfl ?_
                    refine Ev_if_neT 247 dX11_touch_239 (by decide) (fun zb239_ => ?_) (fun zb239_ => ?_)
                    · refine Ev_iload dX11_touch_247 rfl ?_
                      refine Ev_iret dX11_touch_249 rfl ?_
                      first
                      | (exact Or.inr ⟨c, j, v, hc_, hj4_, hv9_, rfl, rfl, rfl, zw_, rm3_.fr f4_ (by decide) (by decide), f3_.tr (f4_.mo (by decide) (by decide)), t4_, l3_.fr f4_ (by decide) (by decide), Or.inr ⟨ps1, em_, by unfold touF; rw [if_pos zb239_]; rfl⟩⟩)
                      | (exact Or.inr ⟨c, j, v, hc_, hj4_, hv9_, rfl, rfl, rfl, zw_, rm3_.fr f4_ (by decide) (by decide), f3_.tr (f4_.mo (by decide) (by decide)), t4_, l3_.fr f4_ (by decide) (by decide), Or.inr ⟨ps1, em_, by unfold touF; rw [if_neg zb239_, if_pos (by omega)]⟩⟩)
                    · refine Ev_iload dX11_touch_242 rfl ?_
                      refine Ev_goto 249 dX11_touch_244 (by decide) ?_
                      refine Ev_iret dX11_touch_249 rfl ?_
                      first
                      | (exact Or.inr ⟨c, j, v, hc_, hj4_, hv9_, rfl, rfl, rfl, zw_, rm3_.fr f4_ (by decide) (by decide), f3_.tr (f4_.mo (by decide) (by decide)), t4_, l3_.fr f4_ (by decide) (by decide), Or.inr ⟨ps1, em_, by unfold touF; rw [if_pos zb239_]; rfl⟩⟩)
                      | (exact Or.inr ⟨c, j, v, hc_, hj4_, hv9_, rfl, rfl, rfl, zw_, rm3_.fr f4_ (by decide) (by decide), f3_.tr (f4_.mo (by decide) (by decide)), t4_, l3_.fr f4_ (by decide) (by decide), Or.inr ⟨ps1, em_, by unfold touF; rw [if_neg zb239_, if_pos (by omega)]⟩⟩)
                · rw [t3] at zb105_
                  refine Ev_aload_n dX11_touch_108 rfl (by first | exact Or.inr ⟨_, rfl⟩ | exact rv_or _ | exact Or.inl rfl) ?_
                  refine Ev_getA dX11_touch_109 fX11_56 rf4_.1 (rr_pieces rf4_) ?_
                  refine Ev_iconst (v := nI 1) dX11_touch_112 (by decide) ?_
                  refine Ev_ialdE _ dX11_touch_113 (rk_pieces rf4_) (rl_pieces rf4_) (hi_n (by omega)) (by omega) s4_.2.2.1 ?_
                  refine Ev_iret dX11_touch_114 rfl ?_
                  exact Or.inr ⟨c, j, v, hc_, hj4_, hv9_, rfl, rfl, rfl, zw_, rm3_.fr f4_ (by decide) (by decide), f3_.tr (f4_.mo (by decide) (by decide)), t4_, l3_.fr f4_ (by decide) (by decide), Or.inr ⟨ps1, em_, by rw [(tkA_key ps ps1).1]; unfold touF; rw [if_neg (by omega), if_neg (by omega), if_neg (by omega)]⟩⟩
              · rw [t2] at zb96_
                refine Ev_iload dX11_touch_99 rfl ?_
                refine Ev_iret dX11_touch_101 rfl ?_
                exact Or.inr ⟨c, j, v, hc_, hj4_, hv9_, rfl, rfl, rfl, zw_, rm3_.fr f4_ (by decide) (by decide), f3_.tr (f4_.mo (by decide) (by decide)), t4_, l3_.fr f4_ (by decide) (by decide), Or.inr ⟨ps1, em_, by unfold touF; rw [if_neg (by omega), if_neg (by omega), if_pos zb96_]⟩⟩ --end
            · exact absurd zb82_ (by decide)
          · have rf2_ : Rf h2 := Rf.fr (h := (sX h 33 (4 * mSl m c + j) (nI v))) rf f2_.1
            have rm3_ : RM m (sX h2 33 (4 * mSl m c + j) (mNu m c j)) := by
              have := (rm1_.fn f2_).nu (v := mNu m c j) mk1_ hc_ hj4_
              rw [sNu_back] at this; exact this
            have f3_ : FB h (sX h2 33 (4 * mSl m c + j) (mNu m c j)) := ((Fr.row (by decide)).tr f2_.fb).tr (Fr.row (by decide))
            have t3_ : RTx ps 0 (sX h2 33 (4 * mSl m c + j) (mNu m c j)) := ((t0_.fr (Fr.row (ks := []) (as := [33]) (by decide)) (by decide)).fn f2_).fr (Fr.row (ks := []) (as := [33]) (by decide)) (by decide)
            have l3_ : RLn ln fa (sX h2 33 (4 * mSl m c + j) (mNu m c j)) := ((rl_.fr (Fr.row (ks := []) (as := [33]) (by decide)) (by decide) (by decide)).fr f2_.1 (by decide) (by decide)).fr (Fr.row (ks := []) (as := [33]) (by decide)) (by decide) (by decide)
            refine Ev_istore dX11_touch_66 (by decide) ?_
            refine Ev_aload_n dX11_touch_68 rfl (by first | exact Or.inr ⟨_, rfl⟩ | exact rv_or _ | exact Or.inl rfl) ?_
            refine Ev_getA dX11_touch_69 fX11_22 rf2_.1 (rr_number rf2_) ?_
            refine Ev_iconst (v := nI 4) dX11_touch_72 (by decide) ?_
            refine Ev_iload_n dX11_touch_73 rfl ?_
            refine Ev_imulN dX11_touch_74 ?_
            refine Ev_iload_n dX11_touch_75 rfl ?_
            refine Ev_iaddN dX11_touch_76 ?_
            refine Ev_iload dX11_touch_77 rfl ?_
            refine Ev_iastL _ dX11_touch_79 (rk_number rf2_) (rl_number rf2_) (hi_n (by omega)) (by omega) ?_
            refine Ev_iload dX11_touch_80 rfl ?_
            refine Ev_if_neT 87 dX11_touch_82 (by decide) (fun zb82_ => ?_) (fun zb82_ => ?_)
            · exact absurd (by decide) zb82_
            · refine Ev_iconst (v := -1) dX11_touch_85 (by decide) ?_
              refine Ev_iret dX11_touch_86 rfl ?_
              exact Or.inr ⟨c, j, v, hc_, hj4_, hv9_, rfl, rfl, rfl, zw_, rm3_, f3_, t3_, l3_, Or.inl ⟨em_, rfl⟩⟩
        · have zw_ := inB_f t0 t3 zb34_
          refine Ev_iconst (v := -1) dX11_touch_37 (by decide) ?_
          refine Ev_iret dX11_touch_38 rfl ?_
          refine Or.inl ⟨fun z => ?_, rfl, rfl⟩
          first
          | (exact zt_ z.1.1; done)
          | (exact zj_ z.1.2.1; done)
          | (exact zv_ z.1.2.2; done)
          | (exact zw_ z.2; done)
