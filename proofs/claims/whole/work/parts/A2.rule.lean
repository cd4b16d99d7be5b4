/-! the class's reading of a rule -/
def RdX (r b s f e_ : Nat) (bs : List Int32) (h : aH) : Prop := (hK h r = 7 ∧ hR h 448 r = some b ∧ hR h 449 r = some s ∧ hR h 450 r = some f ∧ hR h 451 r = some e_) ∧ (hK h b = 13 ∧ hL h b = bs.length ∧ ∀ k, k < bs.length → hX h b k = bs.getD k 0) ∧ ((hK h s = 13 ∧ hL h s = min bs.length 20) ∧ (hK h f = 13 ∧ hL h f = min bs.length 20) ∧ (hK h e_ = 13 ∧ hL h e_ = min bs.length 20)) ∧ (b ≠ s ∧ b ≠ f ∧ b ≠ e_ ∧ s ≠ f ∧ s ≠ e_ ∧ f ≠ e_) ∧ bs.length ≤ 120
def RdI (r s f e_ : Nat) (bs : List Int32) (its : List It) (wn : Bool) (fl : Int32 × Int32) (h : aH) : Prop := hI h 452 r = nI its.length ∧ its.length ≤ 20 ∧ hI h 453 r = fl.1 ∧ hI h 454 r = fl.2 ∧ hI h 455 r = bI wn ∧ ∀ i it, its[i]? = some it → itOk it ∧ ∃ on tw, hX h s i = nI it.1 ∧ hX h f i = nI on ∧ hX h e_ i = nI tw ∧ itR bs it on tw
abbrev Rd4 (r s f e_ b : Nat) : Prop := b = r ∨ b = s ∨ b = f ∨ b = e_
theorem RdX.of {r b s f e_ : Nat} {bs : List Int32} {h h' : aH} (x : RdX r b s f e_ bs h) (e1 : hK h' = hK h) (e2 : hR h' = hR h) (e3 : hL h' = hL h) (e4 : hX h' b = hX h b) : RdX r b s f e_ bs h' := by
  unfold RdX
  rw [e1, e2, e3, e4]; exact x
theorem elO_see (bs : List Int32) {k : Nat} (hk : k < 100000) : elO bs (nI k).toInt = seeL bs k := by
  unfold elO seeL
  rw [hi_n (by omega)]
  by_cases z : k < bs.length
  · rw [if_pos ⟨by omega, by omega⟩, if_pos z]; rfl
  · rw [if_neg (by omega), if_neg z]
theorem ec_byteAt (l : Launch) (G : aG) (k : Nat) (hk : k < 1000) (r b s f e_ : Nat) (bs : List Int32) (h : aH) (rx : RdX r b s f e_ bs h) : Ev l G 1 0 0 mX6_byteAt 0 (en 2 [.ref r, .int (nI k)]) [] h (Ex (some (.int (seeL bs k))) h) := by
  refine Ev_aload_n dX6_byteAt_0 rfl (by first | exact Or.inr ⟨_, rfl⟩ | exact rv_or _ | exact Or.inl rfl) ?_
  refine Ev_getA dX6_byteAt_1 fX6_21 rx.1.1 rx.1.2.1 ?_
  refine Ev_iload_n dX6_byteAt_4 rfl ?_
  refine Ev_SN0 [.ref b, .int (nI k)] dX6_byteAt_5 sX10_elementOf kX6_72 rfl rfl rfl (Nat.le_of_ble_eq_true rfl) (by omega) (ec_elementOf l G b bs (nI k) h rx.2.1.1 rx.2.1.2.1 rx.2.1.2.2 (by have := rx.2.2.2.2; omega)) ?_
  rw [elO_see bs (by omega)]
  refine Ev_iret dX6_byteAt_8 rfl ?_
  exact ⟨rfl, rfl⟩
theorem t52 : (nI 52).toInt = 52 := by decide
def ixB (bs : List Int32) (k : Nat) : Bool := decide (48 ≤ sv bs k ∧ sv bs k ≤ 51)
theorem ec_isIndex (l : Launch) (G : aG) (k : Nat) (hk : k < 1000) (r b s f e_ : Nat) (bs : List Int32) (h : aH) (rx : RdX r b s f e_ bs h) : Ev l G 2 0 0 mX6_isIndex 0 (en 2 [.ref r, .int (nI k)]) [] h (Ex (some (.int (bI (ixB bs k)))) h) := by
  refine Ev_aload_n dX6_isIndex_0 rfl (by first | exact Or.inr ⟨_, rfl⟩ | exact rv_or _ | exact Or.inl rfl) ?_
  refine Ev_iload_n dX6_isIndex_1 rfl ?_
  refine Ev_V0 [.int (nI (k))] dX6_isIndex_2 vX6_byteAt kX6_62 rx.1.1 rfl rfl rfl (Nat.le_of_ble_eq_true rfl) (by omega) (ec_byteAt l G (k) (by omega) r b s f e_ bs h rx) ?_
  refine Ev_bipush (v := nI 48) dX6_isIndex_5 (by decide) ?_
  refine Ev_icmp_ltT 24 dX6_isIndex_7 (by decide) (fun zb7_ => ?_) (fun zb7_ => ?_)
  · rw [t48] at zb7_
    refine Ev_iconst (v := nI 0) dX6_isIndex_24 (by decide) ?_
    refine Ev_zret dX6_isIndex_25 rfl (by decide) ?_
    refine ⟨?_, rfl⟩
    unfold ixB sv
    first
    | (rw [decide_eq_true (by omega)]; rfl)
    | (rw [decide_eq_false (by omega)]; rfl)
  · rw [t48] at zb7_
    refine Ev_aload_n dX6_isIndex_10 rfl (by first | exact Or.inr ⟨_, rfl⟩ | exact rv_or _ | exact Or.inl rfl) ?_
    refine Ev_iload_n dX6_isIndex_11 rfl ?_
    refine Ev_V0 [.int (nI (k))] dX6_isIndex_12 vX6_byteAt kX6_62 rx.1.1 rfl rfl rfl (Nat.le_of_ble_eq_true rfl) (by omega) (ec_byteAt l G (k) (by omega) r b s f e_ bs h rx) ?_
    refine Ev_bipush (v := nI 52) dX6_isIndex_15 (by decide) ?_
    refine Ev_icmp_geT 24 dX6_isIndex_17 (by decide) (fun zb17_ => ?_) (fun zb17_ => ?_)
    · rw [t52] at zb17_
      refine Ev_iconst (v := nI 0) dX6_isIndex_24 (by decide) ?_
      refine Ev_zret dX6_isIndex_25 rfl (by decide) ?_
      refine ⟨?_, rfl⟩
      unfold ixB sv
      first
      | (rw [decide_eq_true (by omega)]; rfl)
      | (rw [decide_eq_false (by omega)]; rfl)
    · rw [t52] at zb17_
      refine Ev_iconst (v := nI 1) dX6_isIndex_20 (by decide) ?_
      refine Ev_goto 25 dX6_isIndex_21 (by decide) ?_
      refine Ev_zret dX6_isIndex_25 rfl (by decide) ?_
      refine ⟨?_, rfl⟩
      unfold ixB sv
      first
      | (rw [decide_eq_true (by omega)]; rfl)
      | (rw [decide_eq_false (by omega)]; rfl)
def msF (bs : List Int32) (a : Nat) : Int32 := match mark bs a with
  | none => -1
  | some q => nI q.1.1
theorem msF_1 {bs : List Int32} {a : Nat} (e : sv bs (a + 2) = 62) : msF bs a = match mark1 (sv bs (a + 1)) with
  | none => -1
  | some it => nI it.1 := by
  unfold msF
  rw [mark_in e]
  cases mark1 (sv bs (a + 1)) <;> rfl
theorem msF_2 {bs : List Int32} {a : Nat} (e : ¬ sv bs (a + 2) = 62) : msF bs a = match mark2 bs a with
  | none => -1
  | some q => nI q.1.1 := by
  unfold msF
  rw [mark_out e]
theorem ix_62 {bs : List Int32} {k : Nat} (h : ixB bs k = true) : ¬ sv bs k = 62 := by
  have := of_decide_eq_true h; omega
theorem t105 : (nI 105).toInt = 105 := by decide
theorem ec_sortOfMark (l : Launch) (G : aG) (a : Nat) (ha : a < 200) (r b s f e_ : Nat) (bs : List Int32) (h : aH) (rx : RdX r b s f e_ bs h) : Ev l G 3 0 0 mX6_sortOfMark 0 (en 3 [.ref r, .int (nI a)]) [] h (Ex (some (.int (msF bs a))) h) := by
  refine Ev_aload_n dX6_sortOfMark_0 rfl (by first | exact Or.inr ⟨_, rfl⟩ | exact rv_or _ | exact Or.inl rfl) ?_
  refine Ev_iload_n dX6_sortOfMark_1 rfl ?_
  refine Ev_iconst (v := nI 1) dX6_sortOfMark_2 (by decide) ?_
  refine Ev_iaddN dX6_sortOfMark_3 ?_
  refine Ev_V0 [.int (nI (a + 1))] dX6_sortOfMark_4 vX6_byteAt kX6_62 rx.1.1 rfl rfl rfl (Nat.le_of_ble_eq_true rfl) (by omega) (ec_byteAt l G (a + 1) (by omega) r b s f e_ bs h rx) ?_
  refine Ev_istore_n dX6_sortOfMark_7 (by decide) ?_
  refine Ev_iload_n dX6_sortOfMark_8 rfl ?_
  refine Ev_bipush (v := nI 63) dX6_sortOfMark_9 (by decide) ?_
  refine Ev_icmp_neT 43 dX6_sortOfMark_11 (by decide) (fun zb11_ => ?_) (fun zb11_ => ?_)
  · rw [t63] at zb11_
    refine Ev_iload_n dX6_sortOfMark_43 rfl ?_
    refine Ev_bipush (v := nI 43) dX6_sortOfMark_44 (by decide) ?_
    refine Ev_icmp_neT 87 dX6_sortOfMark_46 (by decide) (fun zb46_ => ?_) (fun zb46_ => ?_)
    · rw [t43] at zb46_
      refine Ev_aload_n dX6_sortOfMark_87 rfl (by first | exact Or.inr ⟨_, rfl⟩ | exact rv_or _ | exact Or.inl rfl) ?_
      refine Ev_iload_n dX6_sortOfMark_88 rfl ?_
      refine Ev_iconst (v := nI 2) dX6_sortOfMark_89 (by decide) ?_
      refine Ev_iaddN dX6_sortOfMark_90 ?_
      refine Ev_V0 [.int (nI (a + 2))] dX6_sortOfMark_91 vX6_byteAt kX6_62 rx.1.1 rfl rfl rfl (Nat.le_of_ble_eq_true rfl) (by omega) (ec_byteAt l G (a + 2) (by omega) r b s f e_ bs h rx) ?_
      refine Ev_bipush (v := nI 62) dX6_sortOfMark_94 (by decide) ?_
      refine Ev_icmp_eqT 101 dX6_sortOfMark_96 (by decide) (fun zb96_ => ?_) (fun zb96_ => ?_)
      · rw [t62] at zb96_
        refine Ev_iload_n dX6_sortOfMark_101 rfl ?_
        have e62_ : sv bs (a + 2) = 62 := zb96_
        by_cases y1_ : (seeL bs (a + 1)).toInt = 33
        · refine Ev_lookup 148 dX6_sortOfMark_102 (by decide) (off := 46) (by rw [y1_]; decide) (by decide) ?_
          refine Ev_bipush (v := nI 7) dX6_sortOfMark_148 (by decide) ?_
          refine Ev_iret dX6_sortOfMark_150 rfl ?_
          refine ⟨?_, rfl⟩
          rw [msF_1 e62_]
          unfold mark1 sv
          rw [if_neg (by omega), if_neg (by omega), if_neg (by omega), if_neg (by omega), if_neg (by omega), if_pos (by omega)]
        by_cases y2_ : (seeL bs (a + 1)).toInt = 60
        · refine Ev_lookup 151 dX6_sortOfMark_102 (by decide) (off := 49) (by rw [y2_]; decide) (by decide) ?_
          refine Ev_iconst (v := nI 0) dX6_sortOfMark_151 (by decide) ?_
          refine Ev_iret dX6_sortOfMark_152 rfl ?_
          refine ⟨?_, rfl⟩
          rw [msF_1 e62_]
          unfold mark1 sv
          rw [if_pos (by omega)]
        by_cases y3_ : (seeL bs (a + 1)).toInt = 61
        · refine Ev_lookup 146 dX6_sortOfMark_102 (by decide) (off := 44) (by rw [y3_]; decide) (by decide) ?_
          refine Ev_iconst (v := nI 4) dX6_sortOfMark_146 (by decide) ?_
          refine Ev_iret dX6_sortOfMark_147 rfl ?_
          refine ⟨?_, rfl⟩
          rw [msF_1 e62_]
          unfold mark1 sv
          rw [if_neg (by omega), if_neg (by omega), if_neg (by omega), if_pos (by omega)]
        by_cases y4_ : (seeL bs (a + 1)).toInt = 110
        · refine Ev_lookup 144 dX6_sortOfMark_102 (by decide) (off := 42) (by rw [y4_]; decide) (by decide) ?_
          refine Ev_iconst (v := nI 1) dX6_sortOfMark_144 (by decide) ?_
          refine Ev_iret dX6_sortOfMark_145 rfl ?_
          refine ⟨?_, rfl⟩
          rw [msF_1 e62_]
          unfold mark1 sv
          rw [if_neg (by omega), if_pos (by omega)]
        refine Ev_lookup 153 dX6_sortOfMark_102 (by decide) (off := 51) ?_ (by decide) ?_
        · show (if (33 : Int) = (seeL bs (a + 1)).toInt then (46 : Int) else if (60 : Int) = (seeL bs (a + 1)).toInt then 49 else if (61 : Int) = (seeL bs (a + 1)).toInt then 44 else if (110 : Int) = (seeL bs (a + 1)).toInt then 42 else 51) = 51
          rw [if_neg (fun z => y1_ z.symm), if_neg (fun z => y2_ z.symm), if_neg (fun z => y3_ z.symm), if_neg (fun z => y4_ z.symm)]
        refine Ev_aload_n dX6_sortOfMark_153 rfl (by first | exact Or.inr ⟨_, rfl⟩ | exact rv_or _ | exact Or.inl rfl) ?_
        refine Ev_iload_n dX6_sortOfMark_154 rfl ?_
        refine Ev_iconst (v := nI 1) dX6_sortOfMark_155 (by decide) ?_
        refine Ev_iaddN dX6_sortOfMark_156 ?_
        refine Ev_V0 [.int (nI (a + 1))] dX6_sortOfMark_157 vX6_isIndex kX6_68 rx.1.1 rfl rfl rfl (Nat.le_of_ble_eq_true rfl) (by omega) (ec_isIndex l G (a + 1) (by omega) r b s f e_ bs h rx) ?_
        refine Ev_if_eqB 165 dX6_sortOfMark_160 (by decide) (fun zb160_ => ?_) (fun zb160_ => ?_)
        · have i1_ : ¬ (48 ≤ (seeL bs (a + 1)).toInt ∧ (seeL bs (a + 1)).toInt ≤ 51) := of_decide_eq_false zb160_
          refine Ev_iload_n dX6_sortOfMark_165 rfl ?_
          refine Ev_bipush (v := nI 97) dX6_sortOfMark_166 (by decide) ?_
          refine Ev_icmp_ltT 181 dX6_sortOfMark_168 (by decide) (fun zb168_ => ?_) (fun zb168_ => ?_)
          · rw [t97] at zb168_
            refine Ev_iconst (v := -1) dX6_sortOfMark_181 (by decide) ?_
            refine Ev_iret dX6_sortOfMark_182 rfl ?_
            first
            | (refine ⟨?_, rfl⟩; rw [msF_1 e62_]; unfold mark1 sv; rw [if_neg (by omega), if_neg (by omega), if_neg (by omega), if_neg (by omega), if_pos (by omega)]; done)
            | (refine ⟨?_, rfl⟩; rw [msF_1 e62_]; unfold mark1 sv; rw [if_neg (by omega), if_neg (by omega), if_neg (by omega), if_neg (by omega), if_neg (by omega), if_neg (by omega)]; done)
          · rw [t97] at zb168_
            refine Ev_iload_n dX6_sortOfMark_171 rfl ?_
            refine Ev_bipush (v := nI 105) dX6_sortOfMark_172 (by decide) ?_
            refine Ev_icmp_geT 181 dX6_sortOfMark_174 (by decide) (fun zb174_ => ?_) (fun zb174_ => ?_)
            · rw [t105] at zb174_
              refine Ev_iconst (v := -1) dX6_sortOfMark_181 (by decide) ?_
              refine Ev_iret dX6_sortOfMark_182 rfl ?_
              first
              | (refine ⟨?_, rfl⟩; rw [msF_1 e62_]; unfold mark1 sv; rw [if_neg (by omega), if_neg (by omega), if_neg (by omega), if_neg (by omega), if_pos (by omega)]; done)
              | (refine ⟨?_, rfl⟩; rw [msF_1 e62_]; unfold mark1 sv; rw [if_neg (by omega), if_neg (by omega), if_neg (by omega), if_neg (by omega), if_neg (by omega), if_neg (by omega)]; done)
            · rw [t105] at zb174_
              refine Ev_iconst (v := nI 5) dX6_sortOfMark_177 (by decide) ?_
              refine Ev_goto 182 dX6_sortOfMark_178 (by decide) ?_
              refine Ev_iret dX6_sortOfMark_182 rfl ?_
              first
              | (refine ⟨?_, rfl⟩; rw [msF_1 e62_]; unfold mark1 sv; rw [if_neg (by omega), if_neg (by omega), if_neg (by omega), if_neg (by omega), if_pos (by omega)]; done)
              | (refine ⟨?_, rfl⟩; rw [msF_1 e62_]; unfold mark1 sv; rw [if_neg (by omega), if_neg (by omega), if_neg (by omega), if_neg (by omega), if_neg (by omega), if_neg (by omega)]; done)
        · have i1_ : 48 ≤ (seeL bs (a + 1)).toInt ∧ (seeL bs (a + 1)).toInt ≤ 51 := of_decide_eq_true zb160_
          refine Ev_iconst (v := nI 2) dX6_sortOfMark_163 (by decide) ?_
          refine Ev_iret dX6_sortOfMark_164 rfl ?_
          refine ⟨?_, rfl⟩
          rw [msF_1 e62_]
          unfold mark1 sv
          rw [if_neg (by omega), if_neg (by omega), if_pos (by omega)]
      · rw [t62] at zb96_
        refine Ev_iconst (v := -1) dX6_sortOfMark_99 (by decide) ?_
        refine Ev_iret dX6_sortOfMark_100 rfl ?_
        refine ⟨?_, rfl⟩
        rw [msF_2 (fun z => zb96_ z)]
        unfold mark2
        rw [if_neg (fun z => zb11_ z.1), if_neg (fun z => zb46_ z.1)]
    · rw [t43] at zb46_
      have zc_ : sv bs (a + 1) = 43 := zb46_
      refine Ev_aload_n dX6_sortOfMark_49 rfl (by first | exact Or.inr ⟨_, rfl⟩ | exact rv_or _ | exact Or.inl rfl) ?_
      refine Ev_iload_n dX6_sortOfMark_50 rfl ?_
      refine Ev_iconst (v := nI 2) dX6_sortOfMark_51 (by decide) ?_
      refine Ev_iaddN dX6_sortOfMark_52 ?_
      refine Ev_V0 [.int (nI (a + 2))] dX6_sortOfMark_53 vX6_isIndex kX6_68 rx.1.1 rfl rfl rfl (Nat.le_of_ble_eq_true rfl) (by omega) (ec_isIndex l G (a + 2) (by omega) r b s f e_ bs h rx) ?_
      refine Ev_if_eqB 85 dX6_sortOfMark_56 (by decide) (fun zb56_ => ?_) (fun zb56_ => ?_)
      · refine Ev_iconst (v := -1) dX6_sortOfMark_85 (by decide) ?_
        refine Ev_iret dX6_sortOfMark_86 rfl ?_
        refine ⟨?_, rfl⟩
        have nn_ : msF bs a = -1 := by
          by_cases e62_ : sv bs (a + 2) = 62
          · rw [msF_1 e62_]
            unfold mark1
            unfold sv at zc_
            unfold sv
            rw [if_neg (by omega), if_neg (by omega), if_neg (by omega), if_neg (by omega), if_neg (by omega), if_neg (by omega)]
          · rw [msF_2 e62_]
            unfold mark2
            rw [if_neg (fun z => by have := z.1; unfold sv at this; unfold sv at zc_; omega), if_neg (fun z => absurd (decide_eq_true z.2.1) (by rw [show decide (48 ≤ sv bs (a + 2) ∧ sv bs (a + 2) ≤ 51) = false from zb56_]; decide))]
        rw [nn_]
      · refine Ev_aload_n dX6_sortOfMark_59 rfl (by first | exact Or.inr ⟨_, rfl⟩ | exact rv_or _ | exact Or.inl rfl) ?_
        refine Ev_iload_n dX6_sortOfMark_60 rfl ?_
        refine Ev_iconst (v := nI 3) dX6_sortOfMark_61 (by decide) ?_
        refine Ev_iaddN dX6_sortOfMark_62 ?_
        refine Ev_V0 [.int (nI (a + 3))] dX6_sortOfMark_63 vX6_isIndex kX6_68 rx.1.1 rfl rfl rfl (Nat.le_of_ble_eq_true rfl) (by omega) (ec_isIndex l G (a + 3) (by omega) r b s f e_ bs h rx) ?_
        refine Ev_if_eqB 85 dX6_sortOfMark_66 (by decide) (fun zb66_ => ?_) (fun zb66_ => ?_)
        · refine Ev_iconst (v := -1) dX6_sortOfMark_85 (by decide) ?_
          refine Ev_iret dX6_sortOfMark_86 rfl ?_
          refine ⟨?_, rfl⟩
          have nn_ : msF bs a = -1 := by
            by_cases e62_ : sv bs (a + 2) = 62
            · rw [msF_1 e62_]
              unfold mark1
              unfold sv at zc_
              unfold sv
              rw [if_neg (by omega), if_neg (by omega), if_neg (by omega), if_neg (by omega), if_neg (by omega), if_neg (by omega)]
            · rw [msF_2 e62_]
              unfold mark2
              rw [if_neg (fun z => by have := z.1; unfold sv at this; unfold sv at zc_; omega), if_neg (fun z => absurd (decide_eq_true z.2.2.1) (by rw [show decide (48 ≤ sv bs (a + 3) ∧ sv bs (a + 3) ≤ 51) = false from zb66_]; decide))]
          rw [nn_]
        · refine Ev_aload_n dX6_sortOfMark_69 rfl (by first | exact Or.inr ⟨_, rfl⟩ | exact rv_or _ | exact Or.inl rfl) ?_
          refine Ev_iload_n dX6_sortOfMark_70 rfl ?_
          refine Ev_iconst (v := nI 4) dX6_sortOfMark_71 (by decide) ?_
          refine Ev_iaddN dX6_sortOfMark_72 ?_
          refine Ev_V0 [.int (nI (a + 4))] dX6_sortOfMark_73 vX6_byteAt kX6_62 rx.1.1 rfl rfl rfl (Nat.le_of_ble_eq_true rfl) (by omega) (ec_byteAt l G (a + 4) (by omega) r b s f e_ bs h rx) ?_
          refine Ev_bipush (v := nI 62) dX6_sortOfMark_76 (by decide) ?_
          refine Ev_icmp_neT 85 dX6_sortOfMark_78 (by decide) (fun zb78_ => ?_) (fun zb78_ => ?_)
          · rw [t62] at zb78_
            refine Ev_iconst (v := -1) dX6_sortOfMark_85 (by decide) ?_
            refine Ev_iret dX6_sortOfMark_86 rfl ?_
            refine ⟨?_, rfl⟩
            have nn_ : msF bs a = -1 := by
              by_cases e62_ : sv bs (a + 2) = 62
              · rw [msF_1 e62_]
                unfold mark1
                unfold sv at zc_
                unfold sv
                rw [if_neg (by omega), if_neg (by omega), if_neg (by omega), if_neg (by omega), if_neg (by omega), if_neg (by omega)]
              · rw [msF_2 e62_]
                unfold mark2
                rw [if_neg (fun z => by have := z.1; unfold sv at this; unfold sv at zc_; omega), if_neg (fun z => zb78_ z.2.2.2)]
            rw [nn_]
          · rw [t62] at zb78_
            refine Ev_iconst (v := nI 3) dX6_sortOfMark_81 (by decide) ?_
            refine Ev_goto 86 dX6_sortOfMark_82 (by decide) ?_
            refine Ev_iret dX6_sortOfMark_86 rfl ?_
            refine ⟨?_, rfl⟩
            have i2_ := of_decide_eq_true zb56_
            have i3_ := of_decide_eq_true zb66_
            rw [msF_2 (ix_62 zb56_)]
            unfold mark2
            rw [if_neg (fun z => (by unfold sv; omega : ¬ sv bs (a + 1) = 63) z.1), if_pos ⟨zc_, i2_, i3_, zb78_⟩]
  · rw [t63] at zb11_
    have zc_ : sv bs (a + 1) = 63 := zb11_
    refine Ev_aload_n dX6_sortOfMark_14 rfl (by first | exact Or.inr ⟨_, rfl⟩ | exact rv_or _ | exact Or.inl rfl) ?_
    refine Ev_iload_n dX6_sortOfMark_15 rfl ?_
    refine Ev_iconst (v := nI 2) dX6_sortOfMark_16 (by decide) ?_
    refine Ev_iaddN dX6_sortOfMark_17 ?_
    refine Ev_V0 [.int (nI (a + 2))] dX6_sortOfMark_18 vX6_isIndex kX6_68 rx.1.1 rfl rfl rfl (Nat.le_of_ble_eq_true rfl) (by omega) (ec_isIndex l G (a + 2) (by omega) r b s f e_ bs h rx) ?_
    refine Ev_if_eqB 41 dX6_sortOfMark_21 (by decide) (fun zb21_ => ?_) (fun zb21_ => ?_)
    · refine Ev_iconst (v := -1) dX6_sortOfMark_41 (by decide) ?_
      refine Ev_iret dX6_sortOfMark_42 rfl ?_
      refine ⟨?_, rfl⟩
      have nn_ : msF bs a = -1 := by
        by_cases e62_ : sv bs (a + 2) = 62
        · rw [msF_1 e62_]
          unfold mark1
          unfold sv at zc_
          unfold sv
          rw [if_neg (by omega), if_neg (by omega), if_neg (by omega), if_neg (by omega), if_neg (by omega), if_neg (by omega)]
        · rw [msF_2 e62_]
          unfold mark2
          rw [if_neg (fun z => absurd (decide_eq_true z.2.1) (by rw [show decide (48 ≤ sv bs (a + 2) ∧ sv bs (a + 2) ≤ 51) = false from zb21_]; decide)), if_neg (fun z => by have := z.1; unfold sv at this; unfold sv at zc_; omega)]
      rw [nn_]
    · refine Ev_aload_n dX6_sortOfMark_24 rfl (by first | exact Or.inr ⟨_, rfl⟩ | exact rv_or _ | exact Or.inl rfl) ?_
      refine Ev_iload_n dX6_sortOfMark_25 rfl ?_
      refine Ev_iconst (v := nI 3) dX6_sortOfMark_26 (by decide) ?_
      refine Ev_iaddN dX6_sortOfMark_27 ?_
      refine Ev_V0 [.int (nI (a + 3))] dX6_sortOfMark_28 vX6_byteAt kX6_62 rx.1.1 rfl rfl rfl (Nat.le_of_ble_eq_true rfl) (by omega) (ec_byteAt l G (a + 3) (by omega) r b s f e_ bs h rx) ?_
      refine Ev_bipush (v := nI 62) dX6_sortOfMark_31 (by decide) ?_
      refine Ev_icmp_neT 41 dX6_sortOfMark_33 (by decide) (fun zb33_ => ?_) (fun zb33_ => ?_)
      · rw [t62] at zb33_
        refine Ev_iconst (v := -1) dX6_sortOfMark_41 (by decide) ?_
        refine Ev_iret dX6_sortOfMark_42 rfl ?_
        refine ⟨?_, rfl⟩
        have nn_ : msF bs a = -1 := by
          by_cases e62_ : sv bs (a + 2) = 62
          · rw [msF_1 e62_]
            unfold mark1
            unfold sv at zc_
            unfold sv
            rw [if_neg (by omega), if_neg (by omega), if_neg (by omega), if_neg (by omega), if_neg (by omega), if_neg (by omega)]
          · rw [msF_2 e62_]
            unfold mark2
            rw [if_neg (fun z => zb33_ z.2.2), if_neg (fun z => by have := z.1; unfold sv at this; unfold sv at zc_; omega)]
        rw [nn_]
      · rw [t62] at zb33_
        refine Ev_bipush (v := nI 6) dX6_sortOfMark_36 (by decide) ?_
        refine Ev_goto 42 dX6_sortOfMark_38 (by decide) ?_
        refine Ev_iret dX6_sortOfMark_42 rfl ?_
        refine ⟨?_, rfl⟩
        have i2_ := of_decide_eq_true zb21_
        rw [msF_2 (ix_62 zb21_)]
        unfold mark2
        rw [if_pos ⟨zc_, i2_, zb33_⟩]
