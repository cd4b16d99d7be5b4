theorem ev_take_40 (l : Launch) (G : aG) (v_ : Value) (ps : List Pc) (i : Nat) (p : Pc) (nb : Option (List Int32 × List Int32)) (h hA : aH) (rf : Rf h) (t_ : RTx ps 0 h) (hp_ : ps[i]? = some p) (fA_ : FH i h hA) (hn_ : (nb = none ∧ hX hA 53 i = -1) ∨ (∃ H, nb = some (H, pcM p) ∧ H.length ≤ 60 ∧ hX hA 53 i = nI H.length ∧ ∀ k, k < H.length → hX hA 54 (60 * i + k) = H.getD k 0)) : Ev l G 1 0 0 mX11_take 40 [.ref MO, .int (nI i), v_] [] hA (fun x h' => x = some (.int (nI 1)) ∧ RTx (ps.set i (setH p nb)) 0 h' ∧ Fr [] [53, 54, 55, 56, 57] h h') := by
  have n0_ := t_.1
  have il_ := (List.getElem?_eq_some_iff.mp hp_).1
  obtain ⟨bp_, rp_⟩ := t_.2.2.2.1 i p hp_
  rw [show 250 * 0 + i = i by omega] at rp_
  have st_ := stt_le hp_
  have f3x_ := t_.2.1
  have rfA_ : Rf hA := rf.fr fA_.1
  refine Ev_aload_n dX11_take_40 rfl (by first | exact Or.inr ⟨_, rfl⟩ | exact rv_or _ | exact Or.inl rfl) ?_
  refine Ev_iload_n dX11_take_41 rfl ?_
  refine Ev_Vz [.int (nI i)] dX11_take_42 vX11_setBase kX11_272 rfA_.1 rfl rfl rfl (Nat.le_of_ble_eq_true rfl) (by omega) (ev_setBase l G i (stt ps i) (pcM p).length hA rfA_ (by omega) bp_.2.2.2.2.2.2.1 (by omega) ((congrFun (fA_.1.2.2.2.2.2.2 51 (by decide)) _).trans rp_.2.2.2.1) ((congrFun (fA_.1.2.2.2.2.2.2 50 (by decide)) _).trans rp_.2.2.1)) (fun v_ h3 e_ => ?_)
  obtain ⟨rfl, fs_, fr3_, e55_, e56_⟩ := e_
  have f3_ : FH i h h3 := fA_.tr fs_
  have f4_ : FH i h (sX h3 57 i (nI 0)) := f3_.tr (FH.row (by decide))
  have v56_ : ∀ k, k < (pcM p).length → hX h3 56 (120 * i + k) = (pcM p).getD k 0 := fun k hk => (e56_ k hk).trans ((congrFun (fA_.1.2.2.2.2.2.2 52 (by decide)) _).trans (by have := t_.mb hp_ hk; rw [show 3000 * 0 + stt ps i + k = stt ps i + k by omega] at this; exact this))
  refine Ev_aload_n dX11_take_45 rfl (by first | exact Or.inr ⟨_, rfl⟩ | exact rv_or _ | exact Or.inl rfl) ?_
  refine Ev_getA dX11_take_46 fX11_102 (rf.fr f3_.1).1 (rr_clash (rf.fr f3_.1)) ?_
  refine Ev_iload_n dX11_take_49 rfl ?_
  refine Ev_iconst (v := nI 0) dX11_take_50 (by decide) ?_
  refine Ev_zastL _ dX11_take_51 (rk_clash (rf.fr f3_.1)) (rl_clash (rf.fr f3_.1)) (by decide) (hi_n (by omega)) (by omega) ?_
  refine Ev_iconst (v := nI 1) dX11_take_52 (by decide) ?_
  refine Ev_zret dX11_take_53 rfl (by decide) ?_
  refine ⟨rfl, ?_, f4_.1⟩
  refine t_.setH hp_ (by rw [show 250 * 0 + i = i by omega]; exact f4_) ?_ ?_ ?_
  · rw [show 250 * 0 + i = i by omega]
    rcases hn_ with ⟨rfl, e53_⟩ | ⟨H, rfl, hl_, e53_, e54_⟩
    · exact (gX_X _ (by decide)).trans ((congrFun (fr3_.2.2.2.2.2.2 53 (by decide)) _).trans e53_)
    · exact ⟨(gX_X _ (by decide)).trans ((congrFun (fr3_.2.2.2.2.2.2 53 (by decide)) _).trans e53_), (gX_X _ (by decide)).trans e55_, fun k hk => (gX_X _ (by decide)).trans ((congrFun (fr3_.2.2.2.2.2.2 54 (by decide)) _).trans (e54_ k hk)), fun k hk => (gX_X _ (by decide)).trans (v56_ k hk)⟩
  · rw [show 250 * 0 + i = i by omega]
    refine (hX_s _ _ _ _).trans ?_
    rcases hn_ with ⟨rfl, -⟩ | ⟨H, rfl, -⟩
    · rfl
    · show nI 0 = bI (decide (pcM p ≠ pcM p))
      simp; rfl
  · intro x hx
    rcases hn_ with ⟨rfl, -⟩ | ⟨H, rfl, hl_, -⟩
    · cases hx
    · cases hx
      exact ⟨hl_, bp_.2.2.2.2.2.2.1⟩ --end
def takeL (ps : List Pc) (v : Int32) (w : Int) : Option (List Pc) := match atP ps v with
  | none => none
  | some p => if clB p = true ∧ 0 ≤ w ∧ w ≤ 1 then some (ps.set v.toInt.toNat (setH p (if w = 1 then none else (pcH p).map (fun hb => (hb.1, pcM p))))) else none
theorem ev_take (l : Launch) (G : aG) (p_ wh : Int32) (ps : List Pc) (h : aH) (rf : Rf h) (t_ : RTx ps 0 h) : Ev l G 2 0 0 mX11_take 0 (en 3 [.ref MO, .int p_, .int wh]) [] h (fun x h' => (takeL ps p_ wh.toInt = none ∧ x = some (.int (nI 0)) ∧ h' = h) ∨ (∃ ps', takeL ps p_ wh.toInt = some ps' ∧ x = some (.int (nI 1)) ∧ RTx ps' 0 h' ∧ Fr [] [53, 54, 55, 56, 57] h h')) := by
  have n0_ := t_.1
  refine Ev_aload_n dX11_take_0 rfl (by first | exact Or.inr ⟨_, rfl⟩ | exact rv_or _ | exact Or.inl rfl) ?_
  refine Ev_iload_n dX11_take_1 rfl ?_
  refine Ev_V0 [.int p_] dX11_take_2 vX11_isPiece kX11_263 rf.1 rfl rfl rfl (Nat.le_of_ble_eq_true rfl) (by omega) (ev_isPiece l G p_ ps.length h rf t_.2.2.1 (by omega)) ?_
  refine Ev_if_eqB 26 dX11_take_5 (by decide) (fun zb5_ => ?_) (fun zb5_ => ?_)
  · have ea_ : atP ps p_ = none := atP_no (isPc_f zb5_)
    refine Ev_iconst (v := nI 0) dX11_take_26 (by decide) ?_
    refine Ev_zret dX11_take_27 rfl (by decide) ?_
    refine Or.inl ⟨?_, rfl, rfl⟩
    unfold takeL
    rw [ea_]
    first
    | done
    | (show (if clB p = true ∧ 0 ≤ wh.toInt ∧ wh.toInt ≤ 1 then _ else none) = none; rw [if_neg (fun z => by rw [zb14_] at z; exact absurd z.1 (by decide))]; done)
    | (show (if clB p = true ∧ 0 ≤ wh.toInt ∧ wh.toInt ≤ 1 then _ else none) = none; rw [if_neg (fun z => zi_ z.2)]; done)
  · have zp_ := isPc_iff.mp zb5_
    obtain ⟨i, hi0_, rfl⟩ := as_nI (n := 250) zp_.1 (by omega)
    rw [hi_n (by omega)] at zp_
    have il_ : i < ps.length := by omega
    obtain ⟨p, hp_⟩ : ∃ p, ps[i]? = some p := ⟨_, List.getElem?_eq_getElem il_⟩
    obtain ⟨bp_, rp_⟩ := t_.2.2.2.1 i p hp_
    rw [show 250 * 0 + i = i by omega] at rp_
    have ea_ : atP ps (nI i) = some p := atP_n hp_ (by omega)
    refine Ev_aload_n dX11_take_8 rfl (by first | exact Or.inr ⟨_, rfl⟩ | exact rv_or _ | exact Or.inl rfl) ?_
    refine Ev_getA dX11_take_9 fX11_102 rf.1 (rr_clash rf) ?_
    refine Ev_iload_n dX11_take_12 rfl ?_
    refine Ev_zaldE _ dX11_take_13 (rk_clash rf) (rl_clash rf) (hi_n (by omega)) (by omega) rp_.2.2.2.2.1 ?_
    refine Ev_if_eqB 26 dX11_take_14 (by decide) (fun zb14_ => ?_) (fun zb14_ => ?_)
    · refine Ev_iconst (v := nI 0) dX11_take_26 (by decide) ?_
      refine Ev_zret dX11_take_27 rfl (by decide) ?_
      refine Or.inl ⟨?_, rfl, rfl⟩
      unfold takeL
      rw [ea_]
      first
      | done
      | (show (if clB p = true ∧ 0 ≤ wh.toInt ∧ wh.toInt ≤ 1 then _ else none) = none; rw [if_neg (fun z => by rw [zb14_] at z; exact absurd z.1 (by decide))]; done)
      | (show (if clB p = true ∧ 0 ≤ wh.toInt ∧ wh.toInt ≤ 1 then _ else none) = none; rw [if_neg (fun z => zi_ z.2)]; done)
    · refine Ev_iload_n dX11_take_17 rfl ?_
      refine Ev_iconst (v := nI 0) dX11_take_18 (by decide) ?_
      refine Ev_iconst (v := nI 1) dX11_take_19 (by decide) ?_
      refine Ev_S0 [.int wh, .int (nI 0), .int (nI 1)] dX11_take_20 sX11_isIn kX11_130 rfl rfl rfl (Nat.le_of_ble_eq_true rfl) (by omega) (ev_isIn l G _ _ _ _) ?_
      refine Ev_if_neB 28 dX11_take_23 (by decide) (fun zb23_ => ?_) (fun zb23_ => ?_)
      · have zi_ := inB_t t0 t1 zb23_
        refine Ev_iload_n dX11_take_28 rfl ?_
        refine Ev_iconst (v := nI 1) dX11_take_29 (by decide) ?_
        refine Ev_icmp_neT 40 dX11_take_30 (by decide) (fun zb30_ => ?_) (fun zb30_ => ?_)
        · rw [t1] at zb30_
          have eT_ : takeL ps (nI i) wh.toInt = some (ps.set i (setH p (if wh.toInt = 1 then none else (pcH p).map (fun hb => (hb.1, pcM p))))) := by
            unfold takeL
            rw [ea_]
            show (if clB p = true ∧ 0 ≤ wh.toInt ∧ wh.toInt ≤ 1 then some (ps.set (nI i).toInt.toNat _) else none) = _
            rw [if_pos ⟨zb14_, zi_⟩, hi_n (by omega)]; rfl
          refine Ev.deep (d' := 1) (by omega) (Ev.post (fun x h' e_ => ?_) (ev_take_40 l G _ ps i p (if wh.toInt = 1 then none else (pcH p).map (fun hb => (hb.1, pcM p))) h _ rf t_ hp_ FH.rf ?_))
          · exact Or.inr ⟨_, eT_, e_.1, e_.2.1, e_.2.2⟩
          · rw [if_neg zb30_]
            cases hh_ : pcH p with
            | none => exact absurd zb14_ (by unfold clB; rw [hh_]; exact Bool.false_ne_true)
            | some hb =>
              have hd_ := rp_.2.2.2.2.2
              rw [hh_] at hd_
              exact Or.inr ⟨hb.1, rfl, (bp_.2.2.2.2.2.2.2.2.2.2.2 hb hh_).1, hd_.1, hd_.2.2.1⟩
        · rw [t1] at zb30_
          refine Ev_aload_n dX11_take_33 rfl (by first | exact Or.inr ⟨_, rfl⟩ | exact rv_or _ | exact Or.inl rfl) ?_
          refine Ev_getA dX11_take_34 fX11_89 rf.1 (rr_handLong rf) ?_
          refine Ev_iload_n dX11_take_37 rfl ?_
          refine Ev_iconst (v := -1) dX11_take_38 (by decide) ?_
          refine Ev_iastL _ dX11_take_39 (rk_handLong rf) (rl_handLong rf) (hi_n (by omega)) (by omega) ?_
          have eT_ : takeL ps (nI i) wh.toInt = some (ps.set i (setH p (if wh.toInt = 1 then none else (pcH p).map (fun hb => (hb.1, pcM p))))) := by
            unfold takeL
            rw [ea_]
            show (if clB p = true ∧ 0 ≤ wh.toInt ∧ wh.toInt ≤ 1 then some (ps.set (nI i).toInt.toNat _) else none) = _
            rw [if_pos ⟨zb14_, zi_⟩, hi_n (by omega)]; rfl
          refine Ev.deep (d' := 1) (by omega) (Ev.post (fun x h' e_ => ?_) (ev_take_40 l G _ ps i p (if wh.toInt = 1 then none else (pcH p).map (fun hb => (hb.1, pcM p))) h _ rf t_ hp_ (FH.row (by decide)) ?_))
          · exact Or.inr ⟨_, eT_, e_.1, e_.2.1, e_.2.2⟩
          · exact Or.inl ⟨if_pos zb30_, hX_s _ _ _ _⟩
      · have zi_ := inB_f t0 t1 zb23_
        refine Ev_iconst (v := nI 0) dX11_take_26 (by decide) ?_
        refine Ev_zret dX11_take_27 rfl (by decide) ?_
        refine Or.inl ⟨?_, rfl, rfl⟩
        unfold takeL
        rw [ea_]
        first
        | done
        | (show (if clB p = true ∧ 0 ≤ wh.toInt ∧ wh.toInt ≤ 1 then _ else none) = none; rw [if_neg (fun z => by rw [zb14_] at z; exact absurd z.1 (by decide))]; done)
        | (show (if clB p = true ∧ 0 ≤ wh.toInt ∧ wh.toInt ≤ 1 then _ else none) = none; rw [if_neg (fun z => zi_ z.2)]; done)
def nvL : List Int32 → Nat → Option Nat
  | [], v => some v
  | c :: cs, v => if 48 ≤ c.toInt ∧ c.toInt ≤ 57 then nvL cs (10 * v + (c.toInt - 48).toNat) else none
/-- the number that a hand's text is -/
def numV (xs : List Int32) : Option Nat := if (1 ≤ xs.length ∧ xs.length ≤ 5) ∧ ¬ (1 < xs.length ∧ (xs.getD 0 0).toInt = 48) then nvL xs 0 else none
def numH (p : Pc) : Option Nat := match pcH p with
  | none => none
  | some hb => numV hb.1
theorem drop_getD {xs : List Int32} {k : Nat} (h : k < xs.length) : xs.drop k = xs.getD k 0 :: xs.drop (k + 1) := by
  rw [List.drop_eq_getElem_cons h, List.getD_eq_getElem?_getD, List.getElem?_eq_getElem h]; rfl
theorem t57 : (nI 57).toInt = 57 := by decide
theorem ev_numberOf_l (l : Launch) (G : aG) (i : Nat) (H : List Int32) (h : aH) (rf : Rf h) (hi_ : i < 500) (hd_ : True ∧ True ∧ (∀ k, k < H.length → hX h 54 (60 * i + k) = H.getD k 0) ∧ True) (h5_ : H.length ≤ 5) (ms : Nat) : ∀ k, H.length - k < ms → k ≤ H.length → ∀ v, v < 10 ^ k → nvL (H.drop k) v = nvL H 0 → ∀ v_ : Value, Ev l G 1 0 0 mX11_numberOf 42 [.ref MO, .int (nI i), .int (nI H.length), .int (nI v), .int (nI k), v_] [] h (Ex (some (.int (onI (nvL H 0)))) h) := by
  induction ms with
  | zero => intro k hk; omega
  | succ ms ih_ =>
    intro k hk1_ hk2_ v hv0_ hv_ v_
    have pb_ := pow_b (e := k) (by omega)
    refine Ev_iload dX11_numberOf_42 rfl ?_
    refine Ev_iload_n dX11_numberOf_44 rfl ?_
    refine Ev_icmp_geN 93 dX11_numberOf_45 (by decide) (by omega) (by omega) (fun zb45_ => ?_) (fun zb45_ => ?_)
    · have ek_ : k = H.length := by omega
      subst ek_
      rw [List.drop_length] at hv_
      refine Ev_iload_n dX11_numberOf_93 rfl ?_
      refine Ev_iret dX11_numberOf_94 rfl ?_
      refine ⟨?_, rfl⟩
      rw [← hv_]; rfl
    · refine Ev_aload_n dX11_numberOf_48 rfl (by first | exact Or.inr ⟨_, rfl⟩ | exact rv_or _ | exact Or.inl rfl) ?_
      refine Ev_getA dX11_numberOf_49 fX11_92 rf.1 (rr_hand rf) ?_
      refine Ev_bipush (v := nI 60) dX11_numberOf_52 (by decide) ?_
      refine Ev_iload_n dX11_numberOf_54 rfl ?_
      refine Ev_imulN dX11_numberOf_55 ?_
      refine Ev_iload dX11_numberOf_56 rfl ?_
      refine Ev_iaddN dX11_numberOf_58 ?_
      refine Ev_ialdE _ dX11_numberOf_59 (rk_hand rf) (rl_hand rf) (hi_n (by omega)) (by omega) (hd_.2.2.1 k (by omega)) ?_
      refine Ev_istore dX11_numberOf_60 (by decide) ?_
      refine Ev_iload dX11_numberOf_62 rfl ?_
      refine Ev_bipush (v := nI 48) dX11_numberOf_64 (by decide) ?_
      refine Ev_bipush (v := nI 57) dX11_numberOf_66 (by decide) ?_
      refine Ev_S0 [.int (H.getD k 0), .int (nI 48), .int (nI 57)] dX11_numberOf_68 sX11_isIn kX11_130 rfl rfl rfl (Nat.le_of_ble_eq_true rfl) (by omega) (ev_isIn l G _ _ _ _) ?_
      refine Ev_if_neB 76 dX11_numberOf_71 (by decide) (fun zb71_ => ?_) (fun zb71_ => ?_)
      · have zd_ := inB_t t48 t57 zb71_
        obtain ⟨cc, hcc_, hce_⟩ := as_nI (n := 57) (x := H.getD k 0) (by omega) (by omega)
        rw [hce_]
        rw [hce_, hi_n (by omega)] at zd_
        have hv2_ : nvL (H.drop (k + 1)) (10 * v + (cc - 48)) = nvL H 0 := by
          rw [← hv_, drop_getD (xs := H) (k := k) (by omega), hce_]
          show _ = (if 48 ≤ (nI cc).toInt ∧ (nI cc).toInt ≤ 57 then nvL (H.drop (k + 1)) (10 * v + ((nI cc).toInt - 48).toNat) else none)
          rw [hi_n (by omega), if_pos (by omega)]
          congr 1; omega
        refine Ev_bipush (v := nI 10) dX11_numberOf_76 (by decide) ?_
        refine Ev_iload_n dX11_numberOf_78 rfl ?_
        refine Ev_imulN dX11_numberOf_79 ?_
        refine Ev_iload dX11_numberOf_80 rfl ?_
        refine Ev_iaddN dX11_numberOf_82 ?_
        refine Ev_bipush (v := nI 48) dX11_numberOf_83 (by decide) ?_
        refine Ev_isubN dX11_numberOf_85 (by omega) ?_
        refine Ev_istore_n dX11_numberOf_86 (by decide) ?_
        refine Ev_iincN 1 dX11_numberOf_87 (by decide) (by decide) rfl ?_
        refine Ev_goto 42 dX11_numberOf_90 (by decide) ?_
        rw [show 10 * v + cc - 48 = 10 * v + (cc - 48) by omega]
        exact ih_ (k + 1) (by omega) (by omega) (10 * v + (cc - 48)) (by rw [Nat.pow_succ]; omega) hv2_ _
      · have zd_ := inB_f t48 t57 zb71_
        have hn_ : nvL H 0 = none := by
          rw [← hv_, drop_getD (xs := H) (k := k) (by omega)]
          exact if_neg zd_
        refine Ev_iconst (v := -1) dX11_numberOf_74 (by decide) ?_
        refine Ev_iret dX11_numberOf_75 rfl ?_
        refine ⟨?_, rfl⟩
        rw [hn_]; rfl
theorem ev_numberOf (l : Launch) (G : aG) (i mf : Nat) (p : Pc) (h : aH) (rf : Rf h) (hi_ : i < 500) (bp_ : PcB p) (rp_ : RP1 p i mf h) : Ev l G 1 0 0 mX11_numberOf 0 (en 6 [.ref MO, .int (nI i)]) [] h (Ex (some (.int (onI (numH p)))) h) := by
  have hd_ := rp_.2.2.2.2.2
  cases hh_ : pcH p with
  | none =>
    rw [hh_] at hd_
    have e53_ : hX h 53 i = -1 := hd_
    refine Ev_aload_n dX11_numberOf_0 rfl (by first | exact Or.inr ⟨_, rfl⟩ | exact rv_or _ | exact Or.inl rfl) ?_
    refine Ev_getA dX11_numberOf_1 fX11_89 rf.1 (rr_handLong rf) ?_
    refine Ev_iload_n dX11_numberOf_4 rfl ?_
    refine Ev_ialdE _ dX11_numberOf_5 (rk_handLong rf) (rl_handLong rf) (hi_n (by omega)) (by omega) e53_ ?_
    refine Ev_istore_n dX11_numberOf_6 (by decide) ?_
    refine Ev_iload_n dX11_numberOf_7 rfl ?_
    refine Ev_iconst (v := nI 1) dX11_numberOf_8 (by decide) ?_
    refine Ev_iconst (v := nI 5) dX11_numberOf_9 (by decide) ?_
    refine Ev_S0 [.int (-1), .int (nI 1), .int (nI 5)] dX11_numberOf_10 sX11_isIn kX11_130 rfl rfl rfl (Nat.le_of_ble_eq_true rfl) (by omega) (ev_isIn l G _ _ _ _) ?_
    refine Ev_if_eqB 35 dX11_numberOf_13 (by decide) (fun zb13_ => ?_) (fun zb13_ => ?_)
    · refine Ev_iconst (v := -1) dX11_numberOf_35 (by decide) ?_
      refine Ev_iret dX11_numberOf_36 rfl ?_
      refine ⟨?_, rfl⟩
      unfold numH
      rw [hh_]; rfl
    · exact absurd (inB_t t1 t5 zb13_) (by decide)
  | some hb =>
    have hbl_ := bp_.2.2.2.2.2.2.2.2.2.2.2 hb hh_
    rw [hh_] at hd_
    have h0_ : 0 < hb.1.length → hX h 54 (60 * i) = hb.1.getD 0 0 := fun z => hd_.2.2.1 0 z
    refine Ev_aload_n dX11_numberOf_0 rfl (by first | exact Or.inr ⟨_, rfl⟩ | exact rv_or _ | exact Or.inl rfl) ?_
    refine Ev_getA dX11_numberOf_1 fX11_89 rf.1 (rr_handLong rf) ?_
    refine Ev_iload_n dX11_numberOf_4 rfl ?_
    refine Ev_ialdE _ dX11_numberOf_5 (rk_handLong rf) (rl_handLong rf) (hi_n (by omega)) (by omega) hd_.1 ?_
    refine Ev_istore_n dX11_numberOf_6 (by decide) ?_
    refine Ev_iload_n dX11_numberOf_7 rfl ?_
    refine Ev_iconst (v := nI 1) dX11_numberOf_8 (by decide) ?_
    refine Ev_iconst (v := nI 5) dX11_numberOf_9 (by decide) ?_
    refine Ev_S0 [.int (nI hb.1.length), .int (nI 1), .int (nI 5)] dX11_numberOf_10 sX11_isIn kX11_130 rfl rfl rfl (Nat.le_of_ble_eq_true rfl) (by omega) (ev_isIn l G _ _ _ _) ?_
    refine Ev_if_eqB 35 dX11_numberOf_13 (by decide) (fun zb13_ => ?_) (fun zb13_ => ?_)
    · have z5_ := inB_f t1 t5 zb13_
      rw [hi_n (by omega)] at z5_
      refine Ev_iconst (v := -1) dX11_numberOf_35 (by decide) ?_
      refine Ev_iret dX11_numberOf_36 rfl ?_
      refine ⟨?_, rfl⟩
      unfold numH
      rw [hh_]
      show _ = some (Value.int (onI (numV hb.1)))
      unfold numV
      rw [if_neg (fun z => by omega)]; rfl
    · have z5_ := inB_t t1 t5 zb13_
      rw [hi_n (by omega)] at z5_
      refine Ev_iload_n dX11_numberOf_16 rfl ?_
      refine Ev_iconst (v := nI 1) dX11_numberOf_17 (by decide) ?_
      refine Ev_icmp_leN 37 dX11_numberOf_18 (by decide) (by omega) (by omega) (fun zb18_ => ?_) (fun zb18_ => ?_)
      · refine Ev_iconst (v := nI 0) dX11_numberOf_37 (by decide) ?_
        refine Ev_istore_n dX11_numberOf_38 (by decide) ?_
        refine Ev_iconst (v := nI 0) dX11_numberOf_39 (by decide) ?_
        refine Ev_istore dX11_numberOf_40 (by decide) ?_
        refine Ev.post (fun x h' e_ => ?_) (ev_numberOf_l l G i hb.1 h rf hi_ ⟨trivial, trivial, hd_.2.2.1, trivial⟩ (by omega) 6 0 (by omega) (by omega) 0 (by decide) (by rw [List.drop_zero]) _)
        obtain ⟨rfl, rfl⟩ := e_
        refine ⟨?_, rfl⟩
        unfold numH
        rw [hh_]
        show _ = some (Value.int (onI (numV hb.1)))
        unfold numV
        rw [if_pos (by omega)]
      · refine Ev_aload_n dX11_numberOf_21 rfl (by first | exact Or.inr ⟨_, rfl⟩ | exact rv_or _ | exact Or.inl rfl) ?_
        refine Ev_getA dX11_numberOf_22 fX11_92 rf.1 (rr_hand rf) ?_
        refine Ev_bipush (v := nI 60) dX11_numberOf_25 (by decide) ?_
        refine Ev_iload_n dX11_numberOf_27 rfl ?_
        refine Ev_imulN dX11_numberOf_28 ?_
        refine Ev_ialdE _ dX11_numberOf_29 (rk_hand rf) (rl_hand rf) (hi_n (by omega)) (by omega) (h0_ (by omega)) ?_
        refine Ev_bipush (v := nI 48) dX11_numberOf_30 (by decide) ?_
        refine Ev_icmp_neT 37 dX11_numberOf_32 (by decide) (fun zb32_ => ?_) (fun zb32_ => ?_)
        · rw [t48] at zb32_
          refine Ev_iconst (v := nI 0) dX11_numberOf_37 (by decide) ?_
          refine Ev_istore_n dX11_numberOf_38 (by decide) ?_
          refine Ev_iconst (v := nI 0) dX11_numberOf_39 (by decide) ?_
          refine Ev_istore dX11_numberOf_40 (by decide) ?_
          refine Ev.post (fun x h' e_ => ?_) (ev_numberOf_l l G i hb.1 h rf hi_ ⟨trivial, trivial, hd_.2.2.1, trivial⟩ (by omega) 6 0 (by omega) (by omega) 0 (by decide) (by rw [List.drop_zero]) _)
          obtain ⟨rfl, rfl⟩ := e_
          refine ⟨?_, rfl⟩
          unfold numH
          rw [hh_]
          show _ = some (Value.int (onI (numV hb.1)))
          unfold numV
          rw [if_pos (by omega)]
        · rw [t48] at zb32_
          refine Ev_iconst (v := -1) dX11_numberOf_35 (by decide) ?_
          refine Ev_iret dX11_numberOf_36 rfl ?_
          refine ⟨?_, rfl⟩
          unfold numH
          rw [hh_]
          show _ = some (Value.int (onI (numV hb.1)))
          unfold numV
          rw [if_neg (fun z => by omega)]; rfl
