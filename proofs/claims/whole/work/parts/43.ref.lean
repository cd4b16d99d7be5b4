/-- the latest fault: its number and place as they are answered -/
def RFa (f : Int32 × Int32) (h : aH) : Prop := hI h 782 MO = f.1 ∧ hI h 783 MO = f.2
def faF (f : Int32 × Int32) (w : Int) : Int32 := if w = 0 then f.1 else if w = 1 then f.2 else -1
theorem ev_fault (l : Launch) (G : aG) (wh : Int32) (f : Int32 × Int32) (h : aH) (rf : Rf h) (r_ : RFa f h) : Ev l G 0 0 0 mX11_fault 0 (en 2 [.ref MO, .int wh]) [] h (Ex (some (.int (faF f wh.toInt))) h) := by
  refine Ev_iload_n dX11_fault_0 rfl ?_
  refine Ev_if_neT 11 dX11_fault_1 (by decide) (fun zb1_ => ?_) (fun zb1_ => ?_)
  · refine Ev_iload_n dX11_fault_11 rfl ?_
    refine Ev_iconst (v := nI 1) dX11_fault_12 (by decide) ?_
    refine Ev_icmp_neT 23 dX11_fault_13 (by decide) (fun zb13_ => ?_) (fun zb13_ => ?_)
    · rw [t1] at zb13_
      refine Ev_iconst (v := -1) dX11_fault_23 (by decide) ?_
      refine Ev_iret dX11_fault_24 rfl ?_
      refine ⟨?_, rfl⟩
      unfold faF
      first
      | (rw [if_pos zb1_, r_.1]; done)
      | (rw [if_neg zb1_, if_pos zb13_, r_.2]; done)
      | (rw [if_neg zb1_, if_neg zb13_]; done)
    · rw [t1] at zb13_
      refine Ev_aload_n dX11_fault_16 rfl (by first | exact Or.inr ⟨_, rfl⟩ | exact rv_or _ | exact Or.inl rfl) ?_
      refine Ev_getI dX11_fault_17 fX11_50 rf.1 ?_
      refine Ev_goto 24 dX11_fault_20 (by decide) ?_
      refine Ev_iret dX11_fault_24 rfl ?_
      refine ⟨?_, rfl⟩
      unfold faF
      first
      | (rw [if_pos zb1_, r_.1]; done)
      | (rw [if_neg zb1_, if_pos zb13_, r_.2]; done)
      | (rw [if_neg zb1_, if_neg zb13_]; done)
  · refine Ev_aload_n dX11_fault_4 rfl (by first | exact Or.inr ⟨_, rfl⟩ | exact rv_or _ | exact Or.inl rfl) ?_
    refine Ev_getI dX11_fault_5 fX11_46 rf.1 ?_
    refine Ev_goto 24 dX11_fault_8 (by decide) ?_
    refine Ev_iret dX11_fault_24 rfl ?_
    refine ⟨?_, rfl⟩
    unfold faF
    first
    | (rw [if_pos zb1_, r_.1]; done)
    | (rw [if_neg zb1_, if_pos zb13_, r_.2]; done)
    | (rw [if_neg zb1_, if_neg zb13_]; done)
def loF (q : List Int32 × Nat × Nat) (w i : Int) : Int32 := if w = 0 then (if 0 ≤ i ∧ i < q.1.length then q.1.getD i.toNat 0 else -1) else if w = 1 then nI q.2.1 else if w = 2 then nI q.2.2 else if w = 3 then nI q.1.length else -1
theorem isPc_f {n : Nat} {p : Int32} (q : isPc n p = false) : ¬ (0 ≤ p.toInt ∧ p.toInt < n) := fun z => by
  rw [isPc_iff.mpr z] at q; cases q
theorem ev_lone (l : Launch) (G : aG) (l_ wh i_ : Int32) (ln : List (List Int32 × Nat × Nat)) (fa : Nat) (h : aH) (rf : Rf h) (r_ : RLn ln fa h) : Ev l G 1 0 0 mX11_lone 0 (en 4 [.ref MO, .int l_, .int wh, .int i_]) [] h (fun y h' => (¬ (0 ≤ l_.toInt ∧ l_.toInt < ln.length) ∧ y = some (.int (-1)) ∧ h' = h) ∨ (∃ x q, x < ln.length ∧ l_ = nI x ∧ ln[x]? = some q ∧ y = some (.int (loF q wh.toInt i_.toInt)) ∧ h' = h)) := by
  have hl0 := r_.1
  refine Ev_iload_n dX11_lone_0 rfl ?_
  refine Ev_iconst (v := nI 0) dX11_lone_1 (by decide) ?_
  refine Ev_aload_n dX11_lone_2 rfl (by first | exact Or.inr ⟨_, rfl⟩ | exact rv_or _ | exact Or.inl rfl) ?_
  refine Ev_getE dX11_lone_3 fX11_239 rf.1 r_.2.1 ?_
  refine Ev_iconst (v := nI 1) dX11_lone_6 (by decide) ?_
  refine Ev_isub dX11_lone_7 ?_
  refine Ev_S0 [.int l_, .int (nI 0), .int (nI ln.length - nI 1)] dX11_lone_8 sX11_isIn kX11_130 rfl rfl rfl (Nat.le_of_ble_eq_true rfl) (by omega) (ev_isIn l G _ _ _ _) ?_
  rw [inB_lt (by omega)]
  refine Ev_if_neB 16 dX11_lone_11 (by decide) (fun zb11_ => ?_) (fun zb11_ => ?_)
  · have zl_ := isPc_iff.mp zb11_
    obtain ⟨x, hx0, rfl⟩ := as_nI (n := 30) zl_.1 (by omega)
    rw [hi_n (by omega)] at zl_
    have hx : x < ln.length := by omega
    obtain ⟨q, hq⟩ : ∃ q, ln[x]? = some q := ⟨_, List.getElem?_eq_getElem hx⟩
    obtain ⟨a1, a2, a3, a4, a5, a6, a7⟩ := r_.2.2.2.2 x q hq
    refine Ev_iload_n dX11_lone_16 rfl ?_
    by_cases zs_ : wh.toInt < 0 ∨ 3 < wh.toInt
    · refine Ev_tableOut 101 dX11_lone_17 zs_ (by decide) ?_
      refine Ev_iconst (v := -1) dX11_lone_101 (by decide) ?_
      refine Ev_iret dX11_lone_102 rfl ?_
      refine Or.inr ⟨x, q, hx, rfl, hq, ?_, rfl⟩
      unfold loF
      rw [if_neg (by omega), if_neg (by omega), if_neg (by omega), if_neg (by omega)]
    · rcases (show wh.toInt = 0 ∨ wh.toInt = 1 ∨ wh.toInt = 2 ∨ wh.toInt = 3 by omega) with zw_ | zw_ | zw_ | zw_
      · refine Ev_tableIn (off := 31) 48 dX11_lone_17 (by rw [zw_]; decide) (by rw [zw_]; decide) (by rw [zw_]; rfl) (by decide) ?_
        refine Ev_iload_n dX11_lone_48 rfl ?_
        refine Ev_iconst (v := nI 0) dX11_lone_49 (by decide) ?_
        refine Ev_aload_n dX11_lone_50 rfl (by first | exact Or.inr ⟨_, rfl⟩ | exact rv_or _ | exact Or.inl rfl) ?_
        refine Ev_getA dX11_lone_51 fX11_124 rf.1 (rr_loneLong rf) ?_
        refine Ev_iload_n dX11_lone_54 rfl ?_
        refine Ev_ialdL _ dX11_lone_55 (rk_loneLong rf) (rl_loneLong rf) (hi_n (by omega)) (by omega) ?_
        refine Ev_top (y := .int (nI q.1.length)) (by rw [a6]) ?_
        refine Ev_iconst (v := nI 1) dX11_lone_56 (by decide) ?_
        refine Ev_isub dX11_lone_57 ?_
        refine Ev_S0 [.int i_, .int (nI 0), .int (nI q.1.length - nI 1)] dX11_lone_58 sX11_isIn kX11_130 rfl rfl rfl (Nat.le_of_ble_eq_true rfl) (by omega) (ev_isIn l G _ _ _ _) ?_
        rw [inB_lt (by omega)]
        refine Ev_if_eqB 78 dX11_lone_61 (by decide) (fun zb61_ => ?_) (fun zb61_ => ?_)
        · have zi_ := isPc_f zb61_
          refine Ev_iconst (v := -1) dX11_lone_78 (by decide) ?_
          refine Ev_iret dX11_lone_79 rfl ?_
          refine Or.inr ⟨x, q, hx, rfl, hq, ?_, rfl⟩
          unfold loF
          rw [if_pos zw_]
          first
          | (rw [if_neg zi_]; done)
          | (rw [hi_n (by omega), if_pos (by omega), show ((ii : Int)).toNat = ii by omega, a7 ii (by omega)]; done)
        · have zi_ := isPc_iff.mp zb61_
          obtain ⟨ii, hii, rfl⟩ := as_nI (n := 60) zi_.1 (by omega)
          rw [hi_n (by omega)] at zi_
          refine Ev_aload_n dX11_lone_64 rfl (by first | exact Or.inr ⟨_, rfl⟩ | exact rv_or _ | exact Or.inl rfl) ?_
          refine Ev_getA dX11_lone_65 fX11_127 rf.1 (rr_lone rf) ?_
          refine Ev_bipush (v := nI 60) dX11_lone_68 (by decide) ?_
          refine Ev_iload_n dX11_lone_70 rfl ?_
          refine Ev_imulN dX11_lone_71 ?_
          refine Ev_iload_n dX11_lone_72 rfl ?_
          refine Ev_iaddN dX11_lone_73 ?_
          refine Ev_ialdL _ dX11_lone_74 (rk_lone rf) (rl_lone rf) (hi_n (by omega)) (by omega) ?_
          refine Ev_goto 79 dX11_lone_75 (by decide) ?_
          refine Ev_iret dX11_lone_79 rfl ?_
          refine Or.inr ⟨x, q, hx, rfl, hq, ?_, rfl⟩
          unfold loF
          rw [if_pos zw_]
          first
          | (rw [if_neg zi_]; done)
          | (rw [hi_n (by omega), if_pos (by omega), show ((ii : Int)).toNat = ii by omega, a7 ii (by omega)]; done)
      · refine Ev_tableIn (off := 63) 80 dX11_lone_17 (by rw [zw_]; decide) (by rw [zw_]; decide) (by rw [zw_]; rfl) (by decide) ?_
        refine Ev_aload_n dX11_lone_80 rfl (by first | exact Or.inr ⟨_, rfl⟩ | exact rv_or _ | exact Or.inl rfl) ?_
        refine Ev_getA dX11_lone_81 fX11_118 rf.1 (rr_loneSort rf) ?_
        refine Ev_iload_n dX11_lone_84 rfl ?_
        refine Ev_ialdL _ dX11_lone_85 (rk_loneSort rf) (rl_loneSort rf) (hi_n (by omega)) (by omega) ?_
        refine Ev_top (y := .int (nI q.2.1)) (by rw [a4]) ?_
        refine Ev_iret dX11_lone_86 rfl ?_
        refine Or.inr ⟨x, q, hx, rfl, hq, ?_, rfl⟩
        unfold loF
        rw [if_neg (by omega), if_pos zw_]
      · refine Ev_tableIn (off := 70) 87 dX11_lone_17 (by rw [zw_]; decide) (by rw [zw_]; decide) (by rw [zw_]; rfl) (by decide) ?_
        refine Ev_aload_n dX11_lone_87 rfl (by first | exact Or.inr ⟨_, rfl⟩ | exact rv_or _ | exact Or.inl rfl) ?_
        refine Ev_getA dX11_lone_88 fX11_121 rf.1 (rr_loneItem rf) ?_
        refine Ev_iload_n dX11_lone_91 rfl ?_
        refine Ev_ialdL _ dX11_lone_92 (rk_loneItem rf) (rl_loneItem rf) (hi_n (by omega)) (by omega) ?_
        refine Ev_top (y := .int (nI q.2.2)) (by rw [a5]) ?_
        refine Ev_iret dX11_lone_93 rfl ?_
        refine Or.inr ⟨x, q, hx, rfl, hq, ?_, rfl⟩
        unfold loF
        rw [if_neg (by omega), if_neg (by omega), if_pos zw_]
      · refine Ev_tableIn (off := 77) 94 dX11_lone_17 (by rw [zw_]; decide) (by rw [zw_]; decide) (by rw [zw_]; rfl) (by decide) ?_
        refine Ev_aload_n dX11_lone_94 rfl (by first | exact Or.inr ⟨_, rfl⟩ | exact rv_or _ | exact Or.inl rfl) ?_
        refine Ev_getA dX11_lone_95 fX11_124 rf.1 (rr_loneLong rf) ?_
        refine Ev_iload_n dX11_lone_98 rfl ?_
        refine Ev_ialdL _ dX11_lone_99 (rk_loneLong rf) (rl_loneLong rf) (hi_n (by omega)) (by omega) ?_
        refine Ev_top (y := .int (nI q.1.length)) (by rw [a6]) ?_
        refine Ev_iret dX11_lone_100 rfl ?_
        refine Or.inr ⟨x, q, hx, rfl, hq, ?_, rfl⟩
        unfold loF
        rw [if_neg (by omega), if_neg (by omega), if_neg (by omega), if_pos zw_]
  · have zl_ := isPc_f zb11_
    refine Ev_iconst (v := -1) dX11_lone_14 (by decide) ?_
    refine Ev_iret dX11_lone_15 rfl ?_
    exact Or.inl ⟨zl_, rfl, rfl⟩
theorem ev_drops (l : Launch) (G : aG) (l_ : Int32) (ln : List (List Int32 × Nat × Nat)) (fa : Nat) (h : aH) (rf : Rf h) (r_ : RLn ln fa h) : Ev l G 1 0 0 mX11_drops 0 (en 2 [.ref MO, .int l_]) [] h (fun y h' => (¬ (0 ≤ l_.toInt ∧ l_.toInt < ln.length) ∧ y = some (.int 0) ∧ h' = h) ∨ (∃ x, x < ln.length ∧ l_ = nI x ∧ y = some (.int 1) ∧ RLn (ln.eraseIdx x) fa h' ∧ Fr [813] [62, 63, 64, 65] h h')) := by
  have hl0 := r_.1
  refine Ev_iload_n dX11_drops_0 rfl ?_
  refine Ev_iconst (v := nI 0) dX11_drops_1 (by decide) ?_
  refine Ev_aload_n dX11_drops_2 rfl (by first | exact Or.inr ⟨_, rfl⟩ | exact rv_or _ | exact Or.inl rfl) ?_
  refine Ev_getE dX11_drops_3 fX11_239 rf.1 r_.2.1 ?_
  refine Ev_iconst (v := nI 1) dX11_drops_6 (by decide) ?_
  refine Ev_isub dX11_drops_7 ?_
  refine Ev_S0 [.int l_, .int (nI 0), .int (nI ln.length - nI 1)] dX11_drops_8 sX11_isIn kX11_130 rfl rfl rfl (Nat.le_of_ble_eq_true rfl) (by omega) (ev_isIn l G _ _ _ _) ?_
  rw [inB_lt (by omega)]
  refine Ev_if_neB 16 dX11_drops_11 (by decide) (fun zb11_ => ?_) (fun zb11_ => ?_)
  · have zl_ := isPc_iff.mp zb11_
    obtain ⟨x, hx0, rfl⟩ := as_nI (n := 30) zl_.1 (by omega)
    rw [hi_n (by omega)] at zl_
    refine Ev_aload_n dX11_drops_16 rfl (by first | exact Or.inr ⟨_, rfl⟩ | exact rv_or _ | exact Or.inl rfl) ?_
    refine Ev_iload_n dX11_drops_17 rfl ?_
    refine Ev_Vz [.int (nI x)] dX11_drops_18 vX11_dropLone kX11_242 rf.1 rfl rfl rfl (Nat.le_of_ble_eq_true rfl) (by omega) (ev_dropLone l G x ln.length (by omega) (by omega) h rf r_.2.1) (fun v_ h2 e_ => ?_)
    obtain ⟨rfl, h1, s_, rfl⟩ := e_
    refine Ev_iconst (v := nI 1) dX11_drops_21 (by decide) ?_
    refine Ev_zret dX11_drops_22 rfl (by decide) ?_
    exact Or.inr ⟨x, by omega, rfl, rfl, r_.drop (by omega) s_⟩
  · have zl_ := isPc_f zb11_
    refine Ev_iconst (v := nI 0) dX11_drops_14 (by decide) ?_
    refine Ev_zret dX11_drops_15 rfl (by decide) ?_
    exact Or.inl ⟨zl_, rfl, rfl⟩
