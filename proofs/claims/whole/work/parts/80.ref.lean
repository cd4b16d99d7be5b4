theorem lnA_key (old new : List Pc) (s : List (List Int32 × Nat × Nat) × Nat) : lnA old (tkA old new) s = lnA old new s := by
  unfold lnA
  congr 1
  apply List.filter_congr
  intro p _
  exact lsB_key (tkA_key old new) p
abbrev FT (h h' : aH) : Prop := Fr [800, 810, 811, 812, 813, 818] [42, 43, 44, 45, 46, 47, 48, 49, 50, 51, 52, 53, 54, 55, 56, 57, 58, 59, 60, 61, 62, 63, 64, 65] h h'
theorem FN.ft {h h' : aH} (f : FN h h') : FT h h' := f.1.mo (by decide) (by decide)
theorem ev_make (l : Launch) (G : aG) (m : Md) (ru : Nat → List It) (ps : List Pc) (ln : List (List Int32 × Nat × Nat)) (fa : Nat) (h : aH) (rf : Rf h) (mk : MOk m) (rm : RM m h) (ru_ : RRu ru h) (r0_ : RTx ps 0 h) (rl_ : RLn ln fa h) (hf_ : fa + 250 ≤ 200000) : Ev l G 5 0 0 mX11_make 0 (en 1 [.ref MO]) [] h (fun x h' => (mkNew m ru = none ∧ x = some (.int (-1)) ∧ FT h h' ∧ RTx ps 0 h' ∧ RLn ln fa h') ∨ (∃ ps1, mkNew m ru = some ps1 ∧ x = some (.int (nI ps1.length)) ∧ FT h h' ∧ RTx (tkA ps ps1) 0 h' ∧ RLn (lnA ps ps1 (ln, fa)).1 (lnA ps ps1 (ln, fa)).2 h')) := by
  refine Ev_aload_n dX11_make_0 rfl (by first | exact Or.inr ⟨_, rfl⟩ | exact rv_or _ | exact Or.inl rfl) ?_
  refine Ev_Vz [] dX11_make_1 vX11_makeNew kX11_257 rf.1 rfl rfl rfl (Nat.le_of_ble_eq_true rfl) (by omega) (ev_makeNew l G m ru h rf mk rm ru_) (fun v_ h1 e_ => ?_)
  obtain ⟨f1_, ⟨ps1, em_, rfl, r1_, ew_⟩ | ⟨em_, rfl⟩⟩ := e_
  · have rf1_ := rf.fr f1_.1
    refine Ev_if_eqT 14 dX11_make_4 (by decide) (fun zb4_ => ?_) (fun zb4_ => ?_)
    · exact absurd zb4_ (by decide)
    · refine Ev_aload_n dX11_make_7 rfl (by first | exact Or.inr ⟨_, rfl⟩ | exact rv_or _ | exact Or.inl rfl) ?_
      refine Ev_Vz [] dX11_make_8 vX11_turn kX11_260 rf1_.1 rfl rfl rfl (Nat.le_of_ble_eq_true rfl) (by omega) (ev_turn l G ps ps1 ln fa h1 rf1_ (r0_.fn f1_) r1_ ew_ (rl_.fr f1_.1 (by decide) (by decide)) hf_) (fun v_ h2 e_ => ?_)
      obtain ⟨rfl, f2_, r2_, l2_⟩ := e_
      rw [lnA_key] at l2_
      refine Ev_goto 15 dX11_make_11 (by decide) ?_
      refine Ev_iret dX11_make_15 rfl ?_
      exact Or.inr ⟨ps1, em_, rfl, f1_.ft.tr (f2_.mo (by decide) (by decide)), r2_, l2_⟩
  · have rf1_ := rf.fr f1_.1
    refine Ev_if_eqT 14 dX11_make_4 (by decide) (fun zb4_ => ?_) (fun zb4_ => ?_)
    · refine Ev_iconst (v := -1) dX11_make_14 (by decide) ?_
      refine Ev_iret dX11_make_15 rfl ?_
      exact Or.inl ⟨em_, rfl, f1_.ft, r0_.fn f1_, rl_.fr f1_.1 (by decide) (by decide)⟩
    · exact absurd (by decide) zb4_
def atP (ps : List Pc) (v : Int32) : Option Pc := if 0 ≤ v.toInt then ps[v.toInt.toNat]? else none
theorem atP_n {ps : List Pc} {i : Nat} {p : Pc} (h : ps[i]? = some p) (hi : i < 1000) : atP ps (nI i) = some p := by
  unfold atP
  rw [hi_n (by omega), if_pos (by omega)]
  exact h
theorem atP_no {ps : List Pc} {v : Int32} (h : ¬ (0 ≤ v.toInt ∧ v.toInt < ps.length)) : atP ps v = none := by
  unfold atP
  split
  · exact List.getElem?_eq_none (by omega)
  · rfl
def elO (xs : List Int32) (i : Int) : Int32 := if 0 ≤ i ∧ i < xs.length then xs.getD i.toNat 0 else -1
def pcF (m : Md) (p : Pc) (w : Int) : Int32 := if w = 0 then (if mLv m (pcS p) = some (pcC p) then nI (pcS p) else -1) else if w = 1 then nI (pcI p) else if w = 2 then nI (pcT p) else if w = 3 then nI (shP p).length else if w = 4 then nI (pcM p).length else if w = 5 then bI (pcH p).isSome else if w = 6 then bI (clB p) else if w = 7 then nI (pcA p).length else if w = 8 then nI (pcK p) else -1
def pieceF (m : Md) (ps : List Pc) (v w : Int32) : Int32 := match atP ps v with
  | none => -1
  | some p => pcF m p w.toInt
def bytF (p : Pc) (w i : Int) : Int32 := if i < 0 then -1 else if w = 0 then elO (shP p) i else if w = 1 then elO (pcM p) i else if w = 2 then (match pcH p with
  | none => -1
  | some hb => elO hb.2 i) else -1
def byteF (ps : List Pc) (v w i : Int32) : Int32 := match atP ps v with
  | none => -1
  | some p => bytF p w.toInt i.toInt
/-- the thing's own number is the last of those around -/
def PcL (p : Pc) : Prop := (pcA p).getD ((pcA p).length - 1) 0 = pcC p
theorem shL_eq {p : Pc} {i mf : Nat} {h : aH} (b : PcB p) (r : RP1 p i mf h) : shL h i = nI (shP p).length := by
  unfold shL shP
  have hd := r.2.2.2.2.2
  cases hh : pcH p with
  | none =>
    rw [hh] at hd
    have e : hX h 53 i = -1 := hd
    rw [e, if_neg (by decide)]
    exact r.2.2.2.1
  | some hb =>
    rw [hh] at hd
    have hl := b.2.2.2.2.2.2.2.2.2.2.2 hb hh
    rw [hd.1, if_pos (by rw [hi_n (by omega)]; omega)]
theorem shB_eq {ps : List Pc} {w i k : Nat} {p : Pc} {h : aH} (t : RTx ps w h) (hw : w < 2) (hp : ps[i]? = some p) (hk : k < (shP p).length) : shB h (250 * w + i) (stt ps i) k = (shP p).getD k 0 := by
  obtain ⟨b, r⟩ := t.2.2.2.1 i p hp
  have hil := (List.getElem?_eq_some_iff.mp hp).1
  have h250 := t.1
  have ho : mof (250 * w + i) = 3000 * w := by
    unfold mof
    rcases (show w = 0 ∨ w = 1 by omega) with rfl | rfl
    · rw [if_pos (by omega)]
    · rw [if_neg (by omega)]
  unfold shB
  have hd := r.2.2.2.2.2
  unfold shP at hk ⊢
  cases hh : pcH p with
  | none =>
    rw [hh] at hd hk
    have e : hX h 53 (250 * w + i) = -1 := hd
    have hst := stt_le hp
    rw [e, if_neg (by decide), ho, Nat.add_assoc, t.2.2.2.2 _ (by have : k < (pcM p).length := hk; omega), flat_at hp hk]
  | some hb =>
    rw [hh] at hd hk
    have hl := b.2.2.2.2.2.2.2.2.2.2.2 hb hh
    rw [hd.1, if_pos (by rw [hi_n (by omega)]; omega)]
    exact hd.2.2.1 k hk
theorem onI_inj {x : Option Nat} {c : Nat} (hx : ∀ y, x = some y → y < 100000) (hc : c < 100000) (e : onI x = nI c) : x = some c := by
  cases x with
  | none => exact absurd e.symm (nI_m1 (by omega))
  | some y =>
    have := hx y rfl
    rw [nI_inj (by omega) (by omega) e]
theorem ev_piece (l : Launch) (G : aG) (p_ wh : Int32) (m : Md) (ps : List Pc) (h : aH) (rf : Rf h) (mk : MOk m) (rm : RM m h) (t_ : RTx ps 0 h) (hl_ : ∀ p ∈ ps, PcL p) : Ev l G 2 0 0 mX11_piece 0 (en 3 [.ref MO, .int p_, .int wh]) [] h (Ex (some (.int (pieceF m ps p_ wh))) h) := by
  have n0_ := t_.1
  refine Ev_aload_n dX11_piece_0 rfl (by first | exact Or.inr ⟨_, rfl⟩ | exact rv_or _ | exact Or.inl rfl) ?_
  refine Ev_iload_n dX11_piece_1 rfl ?_
  refine Ev_V0 [.int p_] dX11_piece_2 vX11_isPiece kX11_263 rf.1 rfl rfl rfl (Nat.le_of_ble_eq_true rfl) (by omega) (ev_isPiece l G p_ ps.length h rf t_.2.2.1 (by omega)) ?_
  refine Ev_if_neB 10 dX11_piece_5 (by decide) (fun zb5_ => ?_) (fun zb5_ => ?_)
  · have zp_ := isPc_iff.mp zb5_
    obtain ⟨i, hi0_, rfl⟩ := as_nI (n := 250) zp_.1 (by omega)
    rw [hi_n (by omega)] at zp_
    have il_ : i < ps.length := by omega
    obtain ⟨p, hp_⟩ : ∃ p, ps[i]? = some p := ⟨_, List.getElem?_eq_getElem il_⟩
    obtain ⟨bp_, rp_⟩ := t_.2.2.2.1 i p hp_
    rw [show 250 * 0 + i = i by omega] at rp_
    have ea_ : atP ps (nI i) = some p := atP_n hp_ (by omega)
    have l6_ := bp_.2.1
    have l1_ := bp_.1
    have sl_ := bp_.2.2.2.2.2.2.2.2.1
    have way_ : hX h 48 (12 * i + 2 * (pcA p).length - 2) = nI (pcC p) := by
      have := (rp_.2.1 ((pcA p).length - 1) (by omega)).1
      rw [hl_ p (List.mem_of_getElem? hp_)] at this
      rw [← this]; congr 1; omega
    refine Ev_iload_n dX11_piece_10 rfl ?_
    by_cases zs_ : wh.toInt < 0 ∨ 8 < wh.toInt
    · refine Ev_tableOut 176 dX11_piece_11 zs_ (by decide) ?_
      refine Ev_iconst (v := -1) dX11_piece_176 (by decide) ?_
      refine Ev_iret dX11_piece_177 rfl ?_
      refine ⟨?_, rfl⟩
      unfold pieceF
      rw [ea_]
      show _ = some (Value.int (pcF m p wh.toInt))
      unfold pcF
      rw [if_neg (by omega), if_neg (by omega), if_neg (by omega), if_neg (by omega), if_neg (by omega), if_neg (by omega), if_neg (by omega), if_neg (by omega), if_neg (by omega)]
    · rcases (show wh.toInt = 0 ∨ wh.toInt = 1 ∨ wh.toInt = 2 ∨ wh.toInt = 3 ∨ wh.toInt = 4 ∨ wh.toInt = 5 ∨ wh.toInt = 6 ∨ wh.toInt = 7 ∨ wh.toInt = 8 by omega) with zw_ | zw_ | zw_ | zw_ | zw_ | zw_ | zw_ | zw_ | zw_
      · refine Ev_tableIn (off := 49) 60 dX11_piece_11 (by rw [zw_]; decide) (by rw [zw_]; decide) (by rw [zw_]; rfl) (by decide) ?_
        refine Ev_aload_n dX11_piece_60 rfl (by first | exact Or.inr ⟨_, rfl⟩ | exact rv_or _ | exact Or.inl rfl) ?_
        refine Ev_getA dX11_piece_61 fX11_7 rf.1 (rr_came rf) ?_
        refine Ev_aload_n dX11_piece_64 rfl (by first | exact Or.inr ⟨_, rfl⟩ | exact rv_or _ | exact Or.inl rfl) ?_
        refine Ev_getA dX11_piece_65 fX11_77 rf.1 (rr_thingOf rf) ?_
        refine Ev_iload_n dX11_piece_68 rfl ?_
        refine Ev_ialdE _ dX11_piece_69 (rk_thingOf rf) (rl_thingOf rf) (hi_n (by omega)) (by omega) rp_.1.2.2.2.2.2 ?_
        refine Ev_ialdE _ dX11_piece_70 (rk_came rf) (rl_came rf) (hi_n (by omega)) (by omega) (rm.2.1 _ bp_.2.2.2.2.2.2.2.2.1) ?_
        refine Ev_aload_n dX11_piece_71 rfl (by first | exact Or.inr ⟨_, rfl⟩ | exact rv_or _ | exact Or.inl rfl) ?_
        refine Ev_getA dX11_piece_72 fX11_74 rf.1 (rr_way rf) ?_
        refine Ev_bipush (v := nI 12) dX11_piece_75 (by decide) ?_
        refine Ev_iload_n dX11_piece_77 rfl ?_
        refine Ev_imulN dX11_piece_78 ?_
        refine Ev_iconst (v := nI 2) dX11_piece_79 (by decide) ?_
        refine Ev_aload_n dX11_piece_80 rfl (by first | exact Or.inr ⟨_, rfl⟩ | exact rv_or _ | exact Or.inl rfl) ?_
        refine Ev_getA dX11_piece_81 fX11_71 rf.1 (rr_deep rf) ?_
        refine Ev_iload_n dX11_piece_84 rfl ?_
        refine Ev_ialdE _ dX11_piece_85 (rk_deep rf) (rl_deep rf) (hi_n (by omega)) (by omega) rp_.1.2.2.2.2.1 ?_
        refine Ev_imulN dX11_piece_86 ?_
        refine Ev_iaddN dX11_piece_87 ?_
        refine Ev_iconst (v := nI 2) dX11_piece_88 (by decide) ?_
        refine Ev_isubN dX11_piece_89 (by omega) ?_
        refine Ev_ialdE _ dX11_piece_90 (rk_way rf) (rl_way rf) (hi_n (by omega)) (by omega) way_ ?_
        refine Ev_icmp_ne 103 dX11_piece_91 (by decide) (fun zb91_ => ?_) (fun zb91_ => ?_)
        · have zl_ : ¬ mLv m (pcS p) = some (pcC p) := fun z => zb91_ (by rw [z]; rfl)
          refine Ev_iconst (v := -1) dX11_piece_103 (by decide) ?_
          refine Ev_iret dX11_piece_104 rfl ?_
          refine ⟨?_, rfl⟩
          unfold pieceF
          rw [ea_]
          show _ = some (Value.int (pcF m p wh.toInt))
          unfold pcF
          rw [zw_]
          first
          | (rw [if_pos rfl, if_pos zl_]; done)
          | (rw [if_pos rfl, if_neg zl_]; done)
        · have zl_ : mLv m (pcS p) = some (pcC p) := onI_inj (fun x hx => by have := (mk.1 _ _ hx).2.1; have := rm.1; omega) (by have := bp_.2.2.2.2.2.2.2.2.2.2.1 _ (getD_mem (show (pcA p).length - 1 < (pcA p).length by omega)); rw [hl_ p (List.mem_of_getElem? hp_)] at this; omega) zb91_
          refine Ev_aload_n dX11_piece_94 rfl (by first | exact Or.inr ⟨_, rfl⟩ | exact rv_or _ | exact Or.inl rfl) ?_
          refine Ev_getA dX11_piece_95 fX11_77 rf.1 (rr_thingOf rf) ?_
          refine Ev_iload_n dX11_piece_98 rfl ?_
          refine Ev_ialdE _ dX11_piece_99 (rk_thingOf rf) (rl_thingOf rf) (hi_n (by omega)) (by omega) rp_.1.2.2.2.2.2 ?_
          refine Ev_goto 104 dX11_piece_100 (by decide) ?_
          refine Ev_iret dX11_piece_104 rfl ?_
          refine ⟨?_, rfl⟩
          unfold pieceF
          rw [ea_]
          show _ = some (Value.int (pcF m p wh.toInt))
          unfold pcF
          rw [zw_]
          first
          | (rw [if_pos rfl, if_pos zl_]; done)
          | (rw [if_pos rfl, if_neg zl_]; done)
      · refine Ev_tableIn (off := 94) 105 dX11_piece_11 (by rw [zw_]; decide) (by rw [zw_]; decide) (by rw [zw_]; rfl) (by decide) ?_
        refine Ev_aload_n dX11_piece_105 rfl (by first | exact Or.inr ⟨_, rfl⟩ | exact rv_or _ | exact Or.inl rfl) ?_
        refine Ev_getA dX11_piece_106 fX11_59 rf.1 (rr_item rf) ?_
        refine Ev_iload_n dX11_piece_109 rfl ?_
        refine Ev_ialdE _ dX11_piece_110 (rk_item rf) (rl_item rf) (hi_n (by omega)) (by omega) rp_.1.1 ?_
        refine Ev_iret dX11_piece_111 rfl ?_
        refine ⟨?_, rfl⟩
        unfold pieceF
        rw [ea_]
        show _ = some (Value.int (pcF m p wh.toInt))
        unfold pcF
        rw [zw_]
        rfl
      · refine Ev_tableIn (off := 101) 112 dX11_piece_11 (by rw [zw_]; decide) (by rw [zw_]; decide) (by rw [zw_]; rfl) (by decide) ?_
        refine Ev_aload_n dX11_piece_112 rfl (by first | exact Or.inr ⟨_, rfl⟩ | exact rv_or _ | exact Or.inl rfl) ?_
        refine Ev_getA dX11_piece_113 fX11_62 rf.1 (rr_pieceSort rf) ?_
        refine Ev_iload_n dX11_piece_116 rfl ?_
        refine Ev_ialdE _ dX11_piece_117 (rk_pieceSort rf) (rl_pieceSort rf) (hi_n (by omega)) (by omega) rp_.1.2.1 ?_
        refine Ev_iret dX11_piece_118 rfl ?_
        refine ⟨?_, rfl⟩
        unfold pieceF
        rw [ea_]
        show _ = some (Value.int (pcF m p wh.toInt))
        unfold pcF
        rw [zw_]
        rfl
      · refine Ev_tableIn (off := 108) 119 dX11_piece_11 (by rw [zw_]; decide) (by rw [zw_]; decide) (by rw [zw_]; rfl) (by decide) ?_
        refine Ev_aload_n dX11_piece_119 rfl (by first | exact Or.inr ⟨_, rfl⟩ | exact rv_or _ | exact Or.inl rfl) ?_
        refine Ev_iload_n dX11_piece_120 rfl ?_
        refine Ev_V0 [.int (nI i)] dX11_piece_121 vX11_shownLong kX11_266 rf.1 rfl rfl rfl (Nat.le_of_ble_eq_true rfl) (by omega) (ev_shownLong l G i (by omega) h rf) ?_
        rw [shL_eq bp_ rp_]
        refine Ev_iret dX11_piece_124 rfl ?_
        refine ⟨?_, rfl⟩
        unfold pieceF
        rw [ea_]
        show _ = some (Value.int (pcF m p wh.toInt))
        unfold pcF
        rw [zw_]
        rfl
      · refine Ev_tableIn (off := 114) 125 dX11_piece_11 (by rw [zw_]; decide) (by rw [zw_]; decide) (by rw [zw_]; rfl) (by decide) ?_
        refine Ev_aload_n dX11_piece_125 rfl (by first | exact Or.inr ⟨_, rfl⟩ | exact rv_or _ | exact Or.inl rfl) ?_
        refine Ev_getA dX11_piece_126 fX11_83 rf.1 (rr_madeLong rf) ?_
        refine Ev_iload_n dX11_piece_129 rfl ?_
        refine Ev_ialdE _ dX11_piece_130 (rk_madeLong rf) (rl_madeLong rf) (hi_n (by omega)) (by omega) rp_.2.2.2.1 ?_
        refine Ev_iret dX11_piece_131 rfl ?_
        refine ⟨?_, rfl⟩
        unfold pieceF
        rw [ea_]
        show _ = some (Value.int (pcF m p wh.toInt))
        unfold pcF
        rw [zw_]
        rfl
      · refine Ev_tableIn (off := 121) 132 dX11_piece_11 (by rw [zw_]; decide) (by rw [zw_]; decide) (by rw [zw_]; rfl) (by decide) ?_
        cases hh_ : pcH p with
        | none =>
          have e53_ : hX h 53 i = -1 := by
            have := rp_.2.2.2.2.2; rw [hh_] at this; exact this
          refine Ev_aload_n dX11_piece_132 rfl (by first | exact Or.inr ⟨_, rfl⟩ | exact rv_or _ | exact Or.inl rfl) ?_
          refine Ev_getA dX11_piece_133 fX11_89 rf.1 (rr_handLong rf) ?_
          refine Ev_iload_n dX11_piece_136 rfl ?_
          refine Ev_ialdE _ dX11_piece_137 (rk_handLong rf) (rl_handLong rf) (hi_n (by omega)) (by omega) e53_ ?_
          refine Ev_if_ltT 145 dX11_piece_138 (by decide) (fun zb138_ => ?_) (fun zb138_ => ?_)
          · refine Ev_iconst (v := nI 0) dX11_piece_145 (by decide) ?_
            refine Ev_iret dX11_piece_146 rfl ?_
            refine ⟨?_, rfl⟩
            unfold pieceF
            rw [ea_]
            show _ = some (Value.int (pcF m p wh.toInt))
            unfold pcF
            rw [zw_]
            first
            | (rw [hh_]; rfl)
          · exact absurd (by decide) zb138_
        | some hb =>
          have hbl_ := bp_.2.2.2.2.2.2.2.2.2.2.2 hb hh_
          have e53_ : hX h 53 i = nI hb.1.length := by
            have := rp_.2.2.2.2.2; rw [hh_] at this; exact this.1
          refine Ev_aload_n dX11_piece_132 rfl (by first | exact Or.inr ⟨_, rfl⟩ | exact rv_or _ | exact Or.inl rfl) ?_
          refine Ev_getA dX11_piece_133 fX11_89 rf.1 (rr_handLong rf) ?_
          refine Ev_iload_n dX11_piece_136 rfl ?_
          refine Ev_ialdE _ dX11_piece_137 (rk_handLong rf) (rl_handLong rf) (hi_n (by omega)) (by omega) e53_ ?_
          refine Ev_if_ltT 145 dX11_piece_138 (by decide) (fun zb138_ => ?_) (fun zb138_ => ?_)
          · exact absurd zb138_ (by rw [hi_n (by omega)]; omega)
          · refine Ev_iconst (v := nI 1) dX11_piece_141 (by decide) ?_
            refine Ev_goto 146 dX11_piece_142 (by decide) ?_
            refine Ev_iret dX11_piece_146 rfl ?_
            refine ⟨?_, rfl⟩
            unfold pieceF
            rw [ea_]
            show _ = some (Value.int (pcF m p wh.toInt))
            unfold pcF
            rw [zw_]
            first
            | (rw [hh_]; rfl)
      · refine Ev_tableIn (off := 136) 147 dX11_piece_11 (by rw [zw_]; decide) (by rw [zw_]; decide) (by rw [zw_]; rfl) (by decide) ?_
        refine Ev_aload_n dX11_piece_147 rfl (by first | exact Or.inr ⟨_, rfl⟩ | exact rv_or _ | exact Or.inl rfl) ?_
        refine Ev_getA dX11_piece_148 fX11_102 rf.1 (rr_clash rf) ?_
        refine Ev_iload_n dX11_piece_151 rfl ?_
        refine Ev_zaldE _ dX11_piece_152 (rk_clash rf) (rl_clash rf) (hi_n (by omega)) (by omega) rp_.2.2.2.2.1 ?_
        refine Ev_if_eqB 160 dX11_piece_153 (by decide) (fun zb153_ => ?_) (fun zb153_ => ?_)
        · refine Ev_iconst (v := nI 0) dX11_piece_160 (by decide) ?_
          refine Ev_iret dX11_piece_161 rfl ?_
          refine ⟨?_, rfl⟩
          unfold pieceF
          rw [ea_]
          show _ = some (Value.int (pcF m p wh.toInt))
          unfold pcF
          rw [zw_]
          rw [zb153_]; rfl
        · refine Ev_iconst (v := nI 1) dX11_piece_156 (by decide) ?_
          refine Ev_goto 161 dX11_piece_157 (by decide) ?_
          refine Ev_iret dX11_piece_161 rfl ?_
          refine ⟨?_, rfl⟩
          unfold pieceF
          rw [ea_]
          show _ = some (Value.int (pcF m p wh.toInt))
          unfold pcF
          rw [zw_]
          rw [zb153_]; rfl
      · refine Ev_tableIn (off := 151) 162 dX11_piece_11 (by rw [zw_]; decide) (by rw [zw_]; decide) (by rw [zw_]; rfl) (by decide) ?_
        refine Ev_aload_n dX11_piece_162 rfl (by first | exact Or.inr ⟨_, rfl⟩ | exact rv_or _ | exact Or.inl rfl) ?_
        refine Ev_getA dX11_piece_163 fX11_71 rf.1 (rr_deep rf) ?_
        refine Ev_iload_n dX11_piece_166 rfl ?_
        refine Ev_ialdE _ dX11_piece_167 (rk_deep rf) (rl_deep rf) (hi_n (by omega)) (by omega) rp_.1.2.2.2.2.1 ?_
        refine Ev_iret dX11_piece_168 rfl ?_
        refine ⟨?_, rfl⟩
        unfold pieceF
        rw [ea_]
        show _ = some (Value.int (pcF m p wh.toInt))
        unfold pcF
        rw [zw_]
        rfl
      · refine Ev_tableIn (off := 158) 169 dX11_piece_11 (by rw [zw_]; decide) (by rw [zw_]; decide) (by rw [zw_]; rfl) (by decide) ?_
        refine Ev_aload_n dX11_piece_169 rfl (by first | exact Or.inr ⟨_, rfl⟩ | exact rv_or _ | exact Or.inl rfl) ?_
        refine Ev_getA dX11_piece_170 fX11_65 rf.1 (rr_pieceKind rf) ?_
        refine Ev_iload_n dX11_piece_173 rfl ?_
        refine Ev_ialdE _ dX11_piece_174 (rk_pieceKind rf) (rl_pieceKind rf) (hi_n (by omega)) (by omega) rp_.1.2.2.1 ?_
        refine Ev_iret dX11_piece_175 rfl ?_
        refine ⟨?_, rfl⟩
        unfold pieceF
        rw [ea_]
        show _ = some (Value.int (pcF m p wh.toInt))
        unfold pcF
        rw [zw_]
        rfl
  · have ea_ : atP ps p_ = none := atP_no (isPc_f zb5_)
    refine Ev_iconst (v := -1) dX11_piece_8 (by decide) ?_
    refine Ev_iret dX11_piece_9 rfl ?_
    refine ⟨?_, rfl⟩
    unfold pieceF
    rw [ea_]
