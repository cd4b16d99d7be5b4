/-! the class's public readers of the text -/
def PthR (m : Md) : List Nat → Option Nat → Prop
  | [], p => p = none
  | c :: r, p => p = some c ∧ c < mCm m ∧ PthR m r (mPa m c)
/-- what the model knows of a piece -/
def PcM (m : Md) (p : Pc) : Prop := pcC p < mCm m ∧ mSl m (pcC p) = pcS p ∧ mKd m (pcC p) = pcK p ∧ mDp m (pcC p) = (pcA p).length ∧ PcL p ∧ PthR m (pcA p).reverse (some (pcC p))
theorem CHd.is {ow : Ow} {o_ : Option (List Int32 × List Int32)} {q : Nat} {h : aH} (c : CHd ow o_ q h) : (hR h 391 q).isSome = o_.isSome := by
  cases o_ with
  | none => have e : hR h 391 q = none := c
            rw [e]; rfl
  | some hb => obtain ⟨d, e, -⟩ := c
               rw [e]; rfl
theorem goB_f {m : Md} {p : Pc} (z : PcM m p) (e : goB m (pcC p) = false) : mLv m (pcS p) = some (pcC p) := by
  unfold goB at e
  rw [z.2.1] at e
  simpa using e
theorem goB_t {m : Md} {p : Pc} (z : PcM m p) (e : goB m (pcC p) = true) : ¬ mLv m (pcS p) = some (pcC p) := by
  unfold goB at e
  rw [z.2.1] at e
  simpa using e
theorem ec_piece (l : Launch) (G : aG) (p_ wh : Int32) (g : Gh) (tp : List Int32) (m : Md) (ru : Nat → List It) (fa : Int32 × Int32) (ps : List Pc) (ln : List (List Int32 × Nat × Nat)) (fl : Nat) (h : aH) (cs : CS g tp m ru fa ps ln fl h) (hpm : ∀ p ∈ ps, PcM m p) : Ev l G 5 0 0 mX10_piece 0 (en 4 [.ref 3, .int p_, .int wh]) [] h (Ex (some (.int (pieceF m ps p_ wh))) h) := by
  have cf := cs.1.2.1
  have wf := cs.1.2.2
  have cm := cs.2.2.1
  have ct := cs.2.1
  obtain ⟨T, T', hTT_, q1_, q2_, tx, jk_⟩ := cs.2.2.2.2.2.1
  have hT : T = 18 ∨ T = 21 := by omega
  have tf_ := tx_f cf hT
  have n250_ := tx.2.1
  by_cases zi_ : 0 ≤ p_.toInt ∧ p_.toInt < ps.length
  · skip
    obtain ⟨i, hi_, rfl⟩ := as_nI (n := 249) (x := p_) (by omega) (by omega)
    rw [hi_n (by omega)] at zi_
    obtain ⟨p, hp_⟩ : ∃ p, ps[i]? = some p := ⟨_, List.getElem?_eq_getElem (by omega)⟩
    obtain ⟨q, hy_, cpc_, cp_⟩ := tx.p hp_
    have ha_ : txA T ps (nI i) h = some q := by unfold txA; rw [hi_n (by omega), if_pos ⟨by omega, by omega⟩]; exact hy_
    have at_ := atP_n hp_ (by omega)
    have hpm_ : p ∈ ps := List.mem_of_getElem? hp_
    have pm_ := hpm p hpm_
    have t1_ := cm.1 _ pm_.1
    refine Ev_aload_n dX10_piece_0 rfl (by first | exact Or.inr ⟨_, rfl⟩ | exact rv_or _ | exact Or.inl rfl) ?_
    refine Ev_getA dX10_piece_1 fX10_35 (ck_3 cf) q1_ ?_
    refine Ev_iload_n dX10_piece_4 rfl ?_
    refine Ev_V0 [.int (nI i)] dX10_piece_5 vX8_at kX10_148 tf_.1 rfl rfl rfl (Nat.le_of_ble_eq_true rfl) (by omega) (ec_txAt l G (nI i) g T ps h cf hT tx) ?_
    rw [ha_]
    refine Ev_top (y := .ref q) rfl ?_
    refine Ev_astore_n dX10_piece_8 (by decide) (by first | exact Or.inr ⟨_, rfl⟩ | exact rv_or _ | exact Or.inl rfl) ?_
    refine Ev_aload_n dX10_piece_9 rfl (by first | exact Or.inr ⟨_, rfl⟩ | exact rv_or _ | exact Or.inl rfl) ?_
    refine Ev_ifnonnull (o := some (q)) 15 dX10_piece_10 (by decide) (fun a_ z_ => ?_) (fun z_ => by cases z_)
    refine Ev_iload_n dX10_piece_15 rfl ?_
    by_cases zs_ : wh.toInt < 0 ∨ 8 < wh.toInt
    · refine Ev_tableOut 156 dX10_piece_16 zs_ (by decide) ?_
      refine Ev_iconst (v := -1) dX10_piece_156 (by decide) ?_
      refine Ev_iret dX10_piece_157 rfl ?_
      refine ⟨?_, rfl⟩
      unfold pieceF
      rw [at_]
      show _ = some (Value.int (pcF m p wh.toInt))
      unfold pcF
      rw [if_neg (by omega), if_neg (by omega), if_neg (by omega), if_neg (by omega), if_neg (by omega), if_neg (by omega), if_neg (by omega), if_neg (by omega), if_neg (by omega)]
    · rcases (show wh.toInt = 0 ∨ wh.toInt = 1 ∨ wh.toInt = 2 ∨ wh.toInt = 3 ∨ wh.toInt = 4 ∨ wh.toInt = 5 ∨ wh.toInt = 6 ∨ wh.toInt = 7 ∨ wh.toInt = 8 by omega) with zw_ | zw_ | zw_ | zw_ | zw_ | zw_ | zw_ | zw_ | zw_
      · refine Ev_tableIn (off := 52) 68 dX10_piece_16 (by rw [zw_]; decide) (by rw [zw_]; decide) (by rw [zw_]; rfl) (by decide) ?_
        refine Ev_aload_n dX10_piece_68 rfl (by first | exact Or.inr ⟨_, rfl⟩ | exact rv_or _ | exact Or.inl rfl) ?_
        refine Ev_getA dX10_piece_69 fX10_151 cp_.1.1 cpc_.1.2.2.1 ?_
        refine Ev_getE dX10_piece_72 fX10_156 t1_.1.1 t1_.1.2.2.2.2.2.2.2.2 ?_
        refine Ev_if_eqB 82 dX10_piece_75 (by decide) (fun zb75_ => ?_) (fun zb75_ => ?_)
        · refine Ev_aload_n dX10_piece_82 rfl (by first | exact Or.inr ⟨_, rfl⟩ | exact rv_or _ | exact Or.inl rfl) ?_
          refine Ev_getA dX10_piece_83 fX10_151 cp_.1.1 cpc_.1.2.2.1 ?_
          refine Ev_getE dX10_piece_86 fX10_159 t1_.1.1 t1_.1.2.2.1 ?_
          refine Ev_iret dX10_piece_89 rfl ?_
          refine ⟨?_, rfl⟩
          unfold pieceF
          rw [at_]
          show _ = some (Value.int (pcF m p wh.toInt))
          rw [zw_]
          unfold pcF
          rw [if_pos rfl]
          first
          | (rw [if_pos (goB_f pm_ zb75_), pm_.2.1]; done)
          | (rw [if_neg (goB_t pm_ zb75_)]; done)
        · refine Ev_iconst (v := -1) dX10_piece_78 (by decide) ?_
          refine Ev_goto 89 dX10_piece_79 (by decide) ?_
          refine Ev_iret dX10_piece_89 rfl ?_
          refine ⟨?_, rfl⟩
          unfold pieceF
          rw [at_]
          show _ = some (Value.int (pcF m p wh.toInt))
          rw [zw_]
          unfold pcF
          rw [if_pos rfl]
          first
          | (rw [if_pos (goB_f pm_ zb75_), pm_.2.1]; done)
          | (rw [if_neg (goB_t pm_ zb75_)]; done)
      · refine Ev_tableIn (off := 74) 90 dX10_piece_16 (by rw [zw_]; decide) (by rw [zw_]; decide) (by rw [zw_]; rfl) (by decide) ?_
        refine Ev_aload_n dX10_piece_90 rfl (by first | exact Or.inr ⟨_, rfl⟩ | exact rv_or _ | exact Or.inl rfl) ?_
        refine Ev_getE dX10_piece_91 fX10_162 cp_.1.1 cpc_.1.2.2.2.1 ?_
        refine Ev_iret dX10_piece_94 rfl ?_
        refine ⟨?_, rfl⟩
        unfold pieceF
        rw [at_]
        show _ = some (Value.int (pcF m p wh.toInt))
        rw [zw_]
        unfold pcF
        rw [if_neg (by decide), if_pos rfl]
      · refine Ev_tableIn (off := 79) 95 dX10_piece_16 (by rw [zw_]; decide) (by rw [zw_]; decide) (by rw [zw_]; rfl) (by decide) ?_
        refine Ev_aload_n dX10_piece_95 rfl (by first | exact Or.inr ⟨_, rfl⟩ | exact rv_or _ | exact Or.inl rfl) ?_
        refine Ev_getE dX10_piece_96 fX10_165 cp_.1.1 cpc_.1.2.2.2.2.1 ?_
        refine Ev_iret dX10_piece_99 rfl ?_
        refine ⟨?_, rfl⟩
        unfold pieceF
        rw [at_]
        show _ = some (Value.int (pcF m p wh.toInt))
        rw [zw_]
        unfold pcF
        rw [if_neg (by decide), if_neg (by decide), if_pos rfl]
      · refine Ev_tableIn (off := 84) 100 dX10_piece_16 (by rw [zw_]; decide) (by rw [zw_]; decide) (by rw [zw_]; rfl) (by decide) ?_
        refine Ev_aload_n dX10_piece_100 rfl (by first | exact Or.inr ⟨_, rfl⟩ | exact rv_or _ | exact Or.inl rfl) ?_
        refine Ev_V0 [] dX10_piece_101 vX5_shownLength kX10_168 cp_.1.1 rfl rfl rfl (Nat.le_of_ble_eq_true rfl) (by omega) (ec_shownLength l G g T q p h cp_) ?_
        refine Ev_iret dX10_piece_104 rfl ?_
        refine ⟨?_, rfl⟩
        unfold pieceF
        rw [at_]
        show _ = some (Value.int (pcF m p wh.toInt))
        rw [zw_]
        unfold pcF
        rw [if_neg (by decide), if_neg (by decide), if_neg (by decide), if_pos rfl]
      · refine Ev_tableIn (off := 89) 105 dX10_piece_16 (by rw [zw_]; decide) (by rw [zw_]; decide) (by rw [zw_]; rfl) (by decide) ?_
        refine Ev_aload_n dX10_piece_105 rfl (by first | exact Or.inr ⟨_, rfl⟩ | exact rv_or _ | exact Or.inl rfl) ?_
        refine Ev_getE dX10_piece_106 fX10_171 cp_.1.1 cp_.1.2.1 ?_
        refine Ev_iret dX10_piece_109 rfl ?_
        refine ⟨?_, rfl⟩
        unfold pieceF
        rw [at_]
        show _ = some (Value.int (pcF m p wh.toInt))
        rw [zw_]
        unfold pcF
        rw [if_neg (by decide), if_neg (by decide), if_neg (by decide), if_neg (by decide), if_pos rfl]
      · refine Ev_tableIn (off := 94) 110 dX10_piece_16 (by rw [zw_]; decide) (by rw [zw_]; decide) (by rw [zw_]; rfl) (by decide) ?_
        refine Ev_aload_n dX10_piece_110 rfl (by first | exact Or.inr ⟨_, rfl⟩ | exact rv_or _ | exact Or.inl rfl) ?_
        refine Ev_getR dX10_piece_111 fX10_172 cp_.1.1 ?_
        refine Ev_ifnonnull 121 dX10_piece_114 (by decide) (fun zx114_ zb114_ => ?_) (fun zb114_ => ?_)
        · refine Ev_iconst (v := nI 1) dX10_piece_121 (by decide) ?_
          refine Ev_iret dX10_piece_122 rfl ?_
          refine ⟨?_, rfl⟩
          unfold pieceF
          rw [at_]
          show _ = some (Value.int (pcF m p wh.toInt))
          rw [zw_]
          unfold pcF
          rw [if_neg (by decide), if_neg (by decide), if_neg (by decide), if_neg (by decide), if_neg (by decide), if_pos rfl]
          rw [← cpc_.2.is, zb114_]
          rfl
        · refine Ev_iconst (v := nI 0) dX10_piece_117 (by decide) ?_
          refine Ev_goto 122 dX10_piece_118 (by decide) ?_
          refine Ev_iret dX10_piece_122 rfl ?_
          refine ⟨?_, rfl⟩
          unfold pieceF
          rw [at_]
          show _ = some (Value.int (pcF m p wh.toInt))
          rw [zw_]
          unfold pcF
          rw [if_neg (by decide), if_neg (by decide), if_neg (by decide), if_neg (by decide), if_neg (by decide), if_pos rfl]
          rw [← cpc_.2.is, zb114_]
          rfl
      · refine Ev_tableIn (off := 107) 123 dX10_piece_16 (by rw [zw_]; decide) (by rw [zw_]; decide) (by rw [zw_]; rfl) (by decide) ?_
        refine Ev_aload_n dX10_piece_123 rfl (by first | exact Or.inr ⟨_, rfl⟩ | exact rv_or _ | exact Or.inl rfl) ?_
        refine Ev_getA dX10_piece_124 fX10_35 (ck_3 cf) q1_ ?_
        refine Ev_aload_n dX10_piece_127 rfl (by first | exact Or.inr ⟨_, rfl⟩ | exact rv_or _ | exact Or.inl rfl) ?_
        refine Ev_V0 [.ref q] dX10_piece_128 vX8_isClash kX10_176 tf_.1 rfl rfl rfl (Nat.le_of_ble_eq_true rfl) (by omega) (ec_isClash l G g T q p h cp_ cf hT) ?_
        refine Ev_if_eqB 138 dX10_piece_131 (by decide) (fun zb131_ => ?_) (fun zb131_ => ?_)
        · refine Ev_iconst (v := nI 0) dX10_piece_138 (by decide) ?_
          refine Ev_iret dX10_piece_139 rfl ?_
          refine ⟨?_, rfl⟩
          unfold pieceF
          rw [at_]
          show _ = some (Value.int (pcF m p wh.toInt))
          rw [zw_]
          unfold pcF
          rw [if_neg (by decide), if_neg (by decide), if_neg (by decide), if_neg (by decide), if_neg (by decide), if_neg (by decide), if_pos rfl]
          rw [zb131_]
          rfl
        · refine Ev_iconst (v := nI 1) dX10_piece_134 (by decide) ?_
          refine Ev_goto 139 dX10_piece_135 (by decide) ?_
          refine Ev_iret dX10_piece_139 rfl ?_
          refine ⟨?_, rfl⟩
          unfold pieceF
          rw [at_]
          show _ = some (Value.int (pcF m p wh.toInt))
          rw [zw_]
          unfold pcF
          rw [if_neg (by decide), if_neg (by decide), if_neg (by decide), if_neg (by decide), if_neg (by decide), if_neg (by decide), if_pos rfl]
          rw [zb131_]
          rfl
      · refine Ev_tableIn (off := 124) 140 dX10_piece_16 (by rw [zw_]; decide) (by rw [zw_]; decide) (by rw [zw_]; rfl) (by decide) ?_
        refine Ev_aload_n dX10_piece_140 rfl (by first | exact Or.inr ⟨_, rfl⟩ | exact rv_or _ | exact Or.inl rfl) ?_
        refine Ev_getA dX10_piece_141 fX10_151 cp_.1.1 cpc_.1.2.2.1 ?_
        refine Ev_getE dX10_piece_144 fX10_86 t1_.1.1 t1_.1.2.2.2.2.1 ?_
        refine Ev_iret dX10_piece_147 rfl ?_
        refine ⟨?_, rfl⟩
        unfold pieceF
        rw [at_]
        show _ = some (Value.int (pcF m p wh.toInt))
        rw [zw_]
        unfold pcF
        rw [if_neg (by decide), if_neg (by decide), if_neg (by decide), if_neg (by decide), if_neg (by decide), if_neg (by decide), if_neg (by decide), if_pos rfl]
        rw [pm_.2.2.2.1]
      · refine Ev_tableIn (off := 132) 148 dX10_piece_16 (by rw [zw_]; decide) (by rw [zw_]; decide) (by rw [zw_]; rfl) (by decide) ?_
        refine Ev_aload_n dX10_piece_148 rfl (by first | exact Or.inr ⟨_, rfl⟩ | exact rv_or _ | exact Or.inl rfl) ?_
        refine Ev_getA dX10_piece_149 fX10_151 cp_.1.1 cpc_.1.2.2.1 ?_
        refine Ev_getE dX10_piece_152 fX10_180 t1_.1.1 t1_.1.2.2.2.1 ?_
        refine Ev_iret dX10_piece_155 rfl ?_
        refine ⟨?_, rfl⟩
        unfold pieceF
        rw [at_]
        show _ = some (Value.int (pcF m p wh.toInt))
        rw [zw_]
        unfold pcF
        rw [if_neg (by decide), if_neg (by decide), if_neg (by decide), if_neg (by decide), if_neg (by decide), if_neg (by decide), if_neg (by decide), if_neg (by decide), if_pos rfl]
        rw [pm_.2.2.1]
  · skip
    refine Ev_aload_n dX10_piece_0 rfl (by first | exact Or.inr ⟨_, rfl⟩ | exact rv_or _ | exact Or.inl rfl) ?_
    refine Ev_getA dX10_piece_1 fX10_35 (ck_3 cf) q1_ ?_
    refine Ev_iload_n dX10_piece_4 rfl ?_
    refine Ev_V0 [.int p_] dX10_piece_5 vX8_at kX10_148 tf_.1 rfl rfl rfl (Nat.le_of_ble_eq_true rfl) (by omega) (ec_txAt l G p_ g T ps h cf hT tx) ?_
    rw [show txA T ps p_ h = none from if_neg zi_]
    refine Ev_astore_n dX10_piece_8 (by decide) (by first | exact Or.inr ⟨_, rfl⟩ | exact rv_or _ | exact Or.inl rfl) ?_
    refine Ev_aload_n dX10_piece_9 rfl (by first | exact Or.inr ⟨_, rfl⟩ | exact rv_or _ | exact Or.inl rfl) ?_
    refine Ev_ifnonnull (o := none) 15 dX10_piece_10 (by decide) (fun a_ z_ => by cases z_) (fun _ => ?_)
    refine Ev_iconst (v := -1) dX10_piece_13 (by decide) ?_
    refine Ev_iret dX10_piece_14 rfl ?_
    exact ⟨by unfold pieceF; rw [atP_no zi_], rfl⟩
theorem bytF_0 (p : Pc) (i : Int) : bytF p 0 i = elO (shP p) i := by
  unfold bytF
  split
  · unfold elO; rw [if_neg (by omega)]
  · rw [if_pos rfl]
theorem bytF_1 (p : Pc) (i : Int) : bytF p 1 i = elO (pcM p) i := by
  unfold bytF
  split
  · unfold elO; rw [if_neg (by omega)]
  · rw [if_neg (by decide), if_pos rfl]
theorem bytF_2 (p : Pc) (i : Int) : bytF p 2 i = (match pcH p with
  | none => -1
  | some hb => elO hb.2 i) := by
  unfold bytF
  split
  · cases pcH p with
    | none => rfl
    | some hb => show -1 = elO hb.2 i; unfold elO; rw [if_neg (by omega)]
  · rw [if_neg (by decide), if_neg (by decide), if_pos rfl]
    cases pcH p <;> rfl
theorem ec_byteOf (l : Launch) (G : aG) (p_ wh i_ : Int32) (g : Gh) (tp : List Int32) (m : Md) (ru : Nat → List It) (fa : Int32 × Int32) (ps : List Pc) (ln : List (List Int32 × Nat × Nat)) (fl : Nat) (h : aH) (cs : CS g tp m ru fa ps ln fl h) : Ev l G 3 0 0 mX10_byteOf 0 (en 5 [.ref 3, .int p_, .int wh, .int i_]) [] h (Ex (some (.int (byteF ps p_ wh i_))) h) := by
  have cf := cs.1.2.1
  have wf := cs.1.2.2
  have cm := cs.2.2.1
  have ct := cs.2.1
  obtain ⟨T, T', hTT_, q1_, q2_, tx, jk_⟩ := cs.2.2.2.2.2.1
  have hT : T = 18 ∨ T = 21 := by omega
  have tf_ := tx_f cf hT
  have n250_ := tx.2.1
  by_cases zi_ : 0 ≤ p_.toInt ∧ p_.toInt < ps.length
  · skip
    obtain ⟨i, hi_, rfl⟩ := as_nI (n := 249) (x := p_) (by omega) (by omega)
    rw [hi_n (by omega)] at zi_
    obtain ⟨p, hp_⟩ : ∃ p, ps[i]? = some p := ⟨_, List.getElem?_eq_getElem (by omega)⟩
    obtain ⟨q, hy_, cpc_, cp_⟩ := tx.p hp_
    have ha_ : txA T ps (nI i) h = some q := by unfold txA; rw [hi_n (by omega), if_pos ⟨by omega, by omega⟩]; exact hy_
    have at_ := atP_n hp_ (by omega)
    have hpm_ : p ∈ ps := List.mem_of_getElem? hp_
    refine Ev_aload_n dX10_byteOf_0 rfl (by first | exact Or.inr ⟨_, rfl⟩ | exact rv_or _ | exact Or.inl rfl) ?_
    refine Ev_getA dX10_byteOf_1 fX10_35 (ck_3 cf) q1_ ?_
    refine Ev_iload_n dX10_byteOf_4 rfl ?_
    refine Ev_V0 [.int (nI i)] dX10_byteOf_5 vX8_at kX10_148 tf_.1 rfl rfl rfl (Nat.le_of_ble_eq_true rfl) (by omega) (ec_txAt l G (nI i) g T ps h cf hT tx) ?_
    rw [ha_]
    refine Ev_top (y := .ref q) rfl ?_
    refine Ev_astore dX10_byteOf_8 (by decide) (by first | exact Or.inr ⟨_, rfl⟩ | exact rv_or _ | exact Or.inl rfl) ?_
    refine Ev_aload dX10_byteOf_10 rfl (by first | exact Or.inr ⟨_, rfl⟩ | exact rv_or _ | exact Or.inl rfl) ?_
    refine Ev_ifnonnull (o := some (q)) 17 dX10_byteOf_12 (by decide) (fun a_ z_ => ?_) (fun z_ => by cases z_)
    refine Ev_iload_n dX10_byteOf_17 rfl ?_
    by_cases zs_ : wh.toInt < 0 ∨ 2 < wh.toInt
    · refine Ev_tableOut 91 dX10_byteOf_18 zs_ (by decide) ?_
      refine Ev_iconst (v := -1) dX10_byteOf_91 (by decide) ?_
      refine Ev_iret dX10_byteOf_92 rfl ?_
      refine ⟨?_, rfl⟩
      unfold byteF
      rw [at_]
      show _ = some (Value.int (bytF p wh.toInt i_.toInt))
      unfold bytF
      split
      · rfl
      · rw [if_neg (by omega), if_neg (by omega), if_neg (by omega)]
    · rcases (show wh.toInt = 0 ∨ wh.toInt = 1 ∨ wh.toInt = 2 by omega) with zw_ | zw_ | zw_
      · refine Ev_tableIn (off := 26) 44 dX10_byteOf_18 (by rw [zw_]; decide) (by rw [zw_]; decide) (by rw [zw_]; rfl) (by decide) ?_
        refine Ev_aload_n dX10_byteOf_44 rfl (by first | exact Or.inr ⟨_, rfl⟩ | exact rv_or _ | exact Or.inl rfl) ?_
        refine Ev_getA dX10_byteOf_45 fX10_35 (ck_3 cf) q1_ ?_
        refine Ev_aload dX10_byteOf_48 rfl (by first | exact Or.inr ⟨_, rfl⟩ | exact rv_or _ | exact Or.inl rfl) ?_
        refine Ev_iload_n dX10_byteOf_50 rfl ?_
        refine Ev_V0 [.ref q, .int i_] dX10_byteOf_51 vX8_shownByte kX10_183 tf_.1 rfl rfl rfl (Nat.le_of_ble_eq_true rfl) (by omega) (ec_shownByte l G i_ g T q p h cp_ cf hT) ?_
        refine Ev_iret dX10_byteOf_54 rfl ?_
        refine ⟨?_, rfl⟩
        unfold byteF
        rw [at_]
        show _ = some (Value.int (bytF p wh.toInt i_.toInt))
        rw [zw_, bytF_0]
      · refine Ev_tableIn (off := 37) 55 dX10_byteOf_18 (by rw [zw_]; decide) (by rw [zw_]; decide) (by rw [zw_]; rfl) (by decide) ?_
        refine Ev_aload_n dX10_byteOf_55 rfl (by first | exact Or.inr ⟨_, rfl⟩ | exact rv_or _ | exact Or.inl rfl) ?_
        refine Ev_getA dX10_byteOf_56 fX10_35 (ck_3 cf) q1_ ?_
        refine Ev_aload dX10_byteOf_59 rfl (by first | exact Or.inr ⟨_, rfl⟩ | exact rv_or _ | exact Or.inl rfl) ?_
        refine Ev_iload_n dX10_byteOf_61 rfl ?_
        refine Ev_V0 [.ref q, .int i_] dX10_byteOf_62 vX8_madeByte kX10_187 tf_.1 rfl rfl rfl (Nat.le_of_ble_eq_true rfl) (by omega) (ec_madeByte l G i_ g T q p h cp_ cf hT) ?_
        refine Ev_iret dX10_byteOf_65 rfl ?_
        refine ⟨?_, rfl⟩
        unfold byteF
        rw [at_]
        show _ = some (Value.int (bytF p wh.toInt i_.toInt))
        rw [zw_, bytF_1]
      · refine Ev_tableIn (off := 48) 66 dX10_byteOf_18 (by rw [zw_]; decide) (by rw [zw_]; decide) (by rw [zw_]; rfl) (by decide) ?_
        refine Ev_aload dX10_byteOf_66 rfl (by first | exact Or.inr ⟨_, rfl⟩ | exact rv_or _ | exact Or.inl rfl) ?_
        refine Ev_getR dX10_byteOf_68 fX10_172 cp_.1.1 ?_
        refine Ev_ifnonnull 78 dX10_byteOf_71 (by decide) (fun zx71_ zb71_ => ?_) (fun zb71_ => ?_)
        · obtain ⟨hb, hp2_⟩ : ∃ hb, pcH p = some hb := by
            have z2_ := cpc_.2.is
            rw [zb71_] at z2_
            exact Option.isSome_iff_exists.mp z2_.symm
          have hb2_ := cp_.2.2.1 hb hp2_
          have c2_ := cpc_.2
          rw [hp2_] at c2_
          obtain ⟨d_, hd_, k1_, -, ⟨r_, h64_, ir_⟩, b_, h65_, ib_⟩ := c2_
          refine Ev_aload dX10_byteOf_78 rfl (by first | exact Or.inr ⟨_, rfl⟩ | exact rv_or _ | exact Or.inl rfl) ?_
          refine Ev_getA dX10_byteOf_80 fX10_172 cp_.1.1 hd_ ?_
          refine Ev_getA dX10_byteOf_83 fX10_190 k1_ h65_ ?_
          refine Ev_iload_n dX10_byteOf_86 rfl ?_
          refine Ev_S0 [.ref b_, .int i_] dX10_byteOf_87 sX10_elementOf kX10_195 rfl rfl rfl (Nat.le_of_ble_eq_true rfl) (by omega) (ec_elementOf l G b_ hb.2 i_ h ib_.1 ib_.2.1 ib_.2.2.2 (by omega)) ?_
          refine Ev_iret dX10_byteOf_90 rfl ?_
          refine ⟨?_, rfl⟩
          unfold byteF
          rw [at_]
          show _ = some (Value.int (bytF p wh.toInt i_.toInt))
          rw [zw_, bytF_2]
          first
          | (rw [hp2_]; done)
          | (rw [hn_]; done)
        · have hn_ : pcH p = none := by
            have z2_ := cpc_.2.is
            rw [zb71_] at z2_
            cases hp2_ : pcH p with
            | none => rfl
            | some hb => rw [hp2_] at z2_; cases z2_
          refine Ev_iconst (v := -1) dX10_byteOf_74 (by decide) ?_
          refine Ev_goto 90 dX10_byteOf_75 (by decide) ?_
          refine Ev_iret dX10_byteOf_90 rfl ?_
          refine ⟨?_, rfl⟩
          unfold byteF
          rw [at_]
          show _ = some (Value.int (bytF p wh.toInt i_.toInt))
          rw [zw_, bytF_2]
          first
          | (rw [hp2_]; done)
          | (rw [hn_]; done)
  · skip
    refine Ev_aload_n dX10_byteOf_0 rfl (by first | exact Or.inr ⟨_, rfl⟩ | exact rv_or _ | exact Or.inl rfl) ?_
    refine Ev_getA dX10_byteOf_1 fX10_35 (ck_3 cf) q1_ ?_
    refine Ev_iload_n dX10_byteOf_4 rfl ?_
    refine Ev_V0 [.int p_] dX10_byteOf_5 vX8_at kX10_148 tf_.1 rfl rfl rfl (Nat.le_of_ble_eq_true rfl) (by omega) (ec_txAt l G p_ g T ps h cf hT tx) ?_
    rw [show txA T ps p_ h = none from if_neg zi_]
    refine Ev_astore dX10_byteOf_8 (by decide) (by first | exact Or.inr ⟨_, rfl⟩ | exact rv_or _ | exact Or.inl rfl) ?_
    refine Ev_aload dX10_byteOf_10 rfl (by first | exact Or.inr ⟨_, rfl⟩ | exact rv_or _ | exact Or.inl rfl) ?_
    refine Ev_ifnonnull (o := none) 17 dX10_byteOf_12 (by decide) (fun a_ z_ => by cases z_) (fun _ => ?_)
    refine Ev_iconst (v := -1) dX10_byteOf_15 (by decide) ?_
    refine Ev_iret dX10_byteOf_16 rfl ?_
    exact ⟨by unfold byteF; rw [atP_no zi_], rfl⟩
theorem ec_maker (l : Launch) (G : aG) (a_ : Int32) (g : Gh) (tp : List Int32) (m : Md) (ru : Nat → List It) (fa : Int32 × Int32) (ps : List Pc) (ln : List (List Int32 × Nat × Nat)) (fl : Nat) (h : aH) (cs : CS g tp m ru fa ps ln fl h) : Ev l G 2 0 0 mX10_maker 0 (en 2 [.ref 3, .int a_]) [] h (Ex (some (.int (makerF ps a_))) h) := by
  have cf := cs.1.2.1
  have wf := cs.1.2.2
  have cm := cs.2.2.1
  have ct := cs.2.1
  obtain ⟨T, T', hTT_, q1_, q2_, tx, jk_⟩ := cs.2.2.2.2.2.1
  have hT : T = 18 ∨ T = 21 := by omega
  have tf_ := tx_f cf hT
  have n250_ := tx.2.1
  refine Ev_aload_n dX10_maker_0 rfl (by first | exact Or.inr ⟨_, rfl⟩ | exact rv_or _ | exact Or.inl rfl) ?_
  refine Ev_getA dX10_maker_1 fX10_35 (ck_3 cf) q1_ ?_
  refine Ev_iload_n dX10_maker_4 rfl ?_
  refine Ev_Vz [.int a_] dX10_maker_5 vX8_showing kX10_235 tf_.1 rfl rfl rfl (Nat.le_of_ble_eq_true rfl) (by omega) (ec_showing l G a_ g T ps h cf hT tx) (fun v_ h1 e_ => ?_)
  obtain ⟨e1_, e2_⟩ := e_
  subst h1
  rcases e2_ with ⟨mk_, rfl⟩ | ⟨j, r, p, mk_, hp_, hr_, rfl, hv_⟩
  · skip
    refine Ev_iret dX10_maker_8 rfl ?_
    exact ⟨by unfold makerF; rw [mk_]; rfl, rfl⟩
  · skip
    refine Ev_iret dX10_maker_8 rfl ?_
    exact ⟨by unfold makerF; rw [mk_]; rfl, rfl⟩
theorem ec_text (l : Launch) (G : aG) (a_ : Int32) (g : Gh) (tp : List Int32) (m : Md) (ru : Nat → List It) (fa : Int32 × Int32) (ps : List Pc) (ln : List (List Int32 × Nat × Nat)) (fl : Nat) (h : aH) (cs : CS g tp m ru fa ps ln fl h) : Ev l G 3 0 0 mX10_text 0 (en 4 [.ref 3, .int a_]) [] h (Ex (some (.int (textF ps a_))) h) := by
  have cf := cs.1.2.1
  have wf := cs.1.2.2
  have cm := cs.2.2.1
  have ct := cs.2.1
  obtain ⟨T, T', hTT_, q1_, q2_, tx, jk_⟩ := cs.2.2.2.2.2.1
  have hT : T = 18 ∨ T = 21 := by omega
  have tf_ := tx_f cf hT
  have n250_ := tx.2.1
  refine Ev_aload_n dX10_text_0 rfl (by first | exact Or.inr ⟨_, rfl⟩ | exact rv_or _ | exact Or.inl rfl) ?_
  refine Ev_getA dX10_text_1 fX10_35 (ck_3 cf) q1_ ?_
  refine Ev_iload_n dX10_text_4 rfl ?_
  refine Ev_Vz [.int a_] dX10_text_5 vX8_showing kX10_235 tf_.1 rfl rfl rfl (Nat.le_of_ble_eq_true rfl) (by omega) (ec_showing l G a_ g T ps h cf hT tx) (fun v_ h1 e_ => ?_)
  obtain ⟨e1_, e2_⟩ := e_
  subst h1
  rcases e2_ with ⟨mk_, rfl⟩ | ⟨j, r, p, mk_, hp_, hr_, rfl, hv_⟩
  · have zi_ : ¬ (0 ≤ (-1 : Int32).toInt ∧ (-1 : Int32).toInt < ps.length) := fun z => absurd z.1 (by decide)
    refine Ev_istore_n dX10_text_8 (by decide) ?_
    refine Ev_aload_n dX10_text_9 rfl (by first | exact Or.inr ⟨_, rfl⟩ | exact rv_or _ | exact Or.inl rfl) ?_
    refine Ev_getA dX10_text_10 fX10_35 (ck_3 cf) q1_ ?_
    refine Ev_iload_n dX10_text_13 rfl ?_
    refine Ev_V0 [.int (-1)] dX10_text_14 vX8_at kX10_148 tf_.1 rfl rfl rfl (Nat.le_of_ble_eq_true rfl) (by omega) (ec_txAt l G (-1) g T ps h cf hT tx) ?_
    rw [show txA T ps (-1) h = none from if_neg zi_]
    refine Ev_astore_n dX10_text_17 (by decide) (by first | exact Or.inr ⟨_, rfl⟩ | exact rv_or _ | exact Or.inl rfl) ?_
    refine Ev_aload_n dX10_text_18 rfl (by first | exact Or.inr ⟨_, rfl⟩ | exact rv_or _ | exact Or.inl rfl) ?_
    refine Ev_ifnonnull (o := none) 26 dX10_text_19 (by decide) (fun a_ z_ => by cases z_) (fun _ => ?_)
    refine Ev_iconst (v := -1) dX10_text_22 (by decide) ?_
    refine Ev_goto 44 dX10_text_23 (by decide) ?_
    refine Ev_iret dX10_text_44 rfl ?_
    exact ⟨by unfold textF; rw [mk_], rfl⟩
  · have hj_ := (List.getElem?_eq_some_iff.mp hp_).1
    obtain ⟨q, hy_, cpc_, cp_⟩ := tx.p hp_
    have sh_ := sh_le (tx.2.2.2.2.1 j p hp_).1
    have ha_ : txA T ps (nI j) h = some q := by unfold txA; rw [hi_n (by omega), if_pos ⟨by omega, by omega⟩]; exact hy_
    subst hv_
    refine Ev_istore_n dX10_text_8 (by decide) ?_
    refine Ev_aload_n dX10_text_9 rfl (by first | exact Or.inr ⟨_, rfl⟩ | exact rv_or _ | exact Or.inl rfl) ?_
    refine Ev_getA dX10_text_10 fX10_35 (ck_3 cf) q1_ ?_
    refine Ev_iload_n dX10_text_13 rfl ?_
    refine Ev_V0 [.int (nI j)] dX10_text_14 vX8_at kX10_148 tf_.1 rfl rfl rfl (Nat.le_of_ble_eq_true rfl) (by omega) (ec_txAt l G (nI j) g T ps h cf hT tx) ?_
    rw [ha_]
    refine Ev_top (y := .ref q) rfl ?_
    refine Ev_astore_n dX10_text_17 (by decide) (by first | exact Or.inr ⟨_, rfl⟩ | exact rv_or _ | exact Or.inl rfl) ?_
    refine Ev_aload_n dX10_text_18 rfl (by first | exact Or.inr ⟨_, rfl⟩ | exact rv_or _ | exact Or.inl rfl) ?_
    refine Ev_ifnonnull (o := some (q)) 26 dX10_text_19 (by decide) (fun a_ z_ => ?_) (fun z_ => by cases z_)
    refine Ev_aload_n dX10_text_26 rfl (by first | exact Or.inr ⟨_, rfl⟩ | exact rv_or _ | exact Or.inl rfl) ?_
    refine Ev_getA dX10_text_27 fX10_35 (ck_3 cf) q1_ ?_
    refine Ev_aload_n dX10_text_30 rfl (by first | exact Or.inr ⟨_, rfl⟩ | exact rv_or _ | exact Or.inl rfl) ?_
    refine Ev_iload_n dX10_text_31 rfl ?_
    refine Ev_aload_n dX10_text_32 rfl (by first | exact Or.inr ⟨_, rfl⟩ | exact rv_or _ | exact Or.inl rfl) ?_
    refine Ev_getA dX10_text_33 fX10_35 (ck_3 cf) q1_ ?_
    refine Ev_iload_n dX10_text_36 rfl ?_
    refine Ev_V0 [.int (nI j)] dX10_text_37 vX8_shownBefore kX10_239 tf_.1 rfl rfl rfl (Nat.le_of_ble_eq_true rfl) (by omega) (ec_shownBefore l G j g T ps h cf hT tx (by omega)) ?_
    have es_ : nI (shN (ps.take j) + r) - nI (shN (ps.take j)) = nI r := by rw [pk_sub (by omega), Nat.add_sub_cancel_left]
    refine Ev_isub dX10_text_40 ?_
    rw [es_]
    refine Ev_V0 [.ref q, .int (nI r)] dX10_text_41 vX8_shownByte kX10_183 tf_.1 rfl rfl rfl (Nat.le_of_ble_eq_true rfl) (by omega) (ec_shownByte l G (nI r) g T q p h cp_ cf hT) ?_
    refine Ev_iret dX10_text_44 rfl ?_
    refine ⟨?_, rfl⟩
    unfold textF
    rw [mk_]
    show _ = some (Value.int (match ps[j]? with | none => -1 | some p => (shP p).getD r 0))
    rw [hp_]
    unfold elO
    rw [hi_n (by omega), if_pos ⟨by omega, by omega⟩, Int.toNat_natCast]
theorem ec_about (l : Launch) (G : aG) (wh : Int32) (g : Gh) (tp : List Int32) (m : Md) (ru : Nat → List It) (fa : Int32 × Int32) (ps : List Pc) (ln : List (List Int32 × Nat × Nat)) (fl : Nat) (h : aH) (cs : CS g tp m ru fa ps ln fl h) : Ev l G 5 0 0 mX10_about 0 (en 2 [.ref 3, .int wh]) [] h (Ex (some (.int (aboutF m ru ps ln.length fl tp.length wh.toInt))) h) := by
  have cf := cs.1.2.1
  have wf := cs.1.2.2
  have cm := cs.2.2.1
  have ct := cs.2.1
  obtain ⟨T, T', hTT_, q1_, q2_, tx, jk_⟩ := cs.2.2.2.2.2.1
  have hT : T = 18 ∨ T = 21 := by omega
  have tf_ := tx_f cf hT
  have n250_ := tx.2.1
  obtain ⟨xs_, cl_⟩ := cs.2.2.2.2.2.2
  refine Ev_iload_n dX10_about_0 rfl ?_
  by_cases zs_ : wh.toInt < 0 ∨ 6 < wh.toInt
  · refine Ev_tableOut 110 dX10_about_1 zs_ (by decide) ?_
    refine Ev_iload_n dX10_about_110 rfl ?_
    refine Ev_bipush (v := nI 10) dX10_about_111 (by decide) ?_
    refine Ev_icmp_ltT 137 dX10_about_113 (by decide) (fun zb113_ => ?_) (fun zb113_ => ?_)
    · rw [show (nI 10).toInt = 10 from by decide] at zb113_
      refine Ev_iconst (v := -1) dX10_about_137 (by decide) ?_
      refine Ev_iret dX10_about_138 rfl ?_
      refine ⟨?_, rfl⟩
      unfold aboutF
      first
      | (rw [hi_n (by omega), if_pos ⟨by omega, by omega⟩, show ((((k + 10 : Nat) : Int) - 10).toNat) = k by omega]; done)
      | (rw [if_neg (by omega), if_neg (by omega), if_neg (by omega), if_neg (by omega), if_neg (by omega), if_neg (by omega), if_neg (by omega), if_neg (by omega)]; done)
    · rw [show (nI 10).toInt = 10 from by decide] at zb113_
      refine Ev_iload_n dX10_about_116 rfl ?_
      refine Ev_bipush (v := nI 18) dX10_about_117 (by decide) ?_
      refine Ev_icmp_geT 137 dX10_about_119 (by decide) (fun zb119_ => ?_) (fun zb119_ => ?_)
      · rw [show (nI 18).toInt = 18 from by decide] at zb119_
        refine Ev_iconst (v := -1) dX10_about_137 (by decide) ?_
        refine Ev_iret dX10_about_138 rfl ?_
        refine ⟨?_, rfl⟩
        unfold aboutF
        first
        | (rw [hi_n (by omega), if_pos ⟨by omega, by omega⟩, show ((((k + 10 : Nat) : Int) - 10).toNat) = k by omega]; done)
        | (rw [if_neg (by omega), if_neg (by omega), if_neg (by omega), if_neg (by omega), if_neg (by omega), if_neg (by omega), if_neg (by omega), if_neg (by omega)]; done)
      · rw [show (nI 18).toInt = 18 from by decide] at zb119_
        obtain ⟨k10, hk_, rfl⟩ := as_nI (n := 17) (x := wh) (by omega) (by omega)
        rw [hi_n (by omega)] at zb113_ zb119_
        obtain ⟨k, rfl⟩ : ∃ k, k10 = k + 10 := ⟨k10 - 10, by omega⟩
        obtain ⟨r_, ry_, ro_⟩ := cs.2.2.2.1 k (by omega)
        refine Ev_aload_n dX10_about_122 rfl (by first | exact Or.inr ⟨_, rfl⟩ | exact rv_or _ | exact Or.inl rfl) ?_
        refine Ev_getA dX10_about_123 fX10_25 (ck_3 cf) (cr_706_3 cf) ?_
        refine Ev_iload_n dX10_about_126 rfl ?_
        refine Ev_bipush (v := nI 10) dX10_about_127 (by decide) ?_
        refine Ev_isubN dX10_about_129 (by omega) ?_
        rw [Nat.add_sub_cancel]
        refine Ev_aald k dX10_about_130 (ck_12 cf) (by omega) (by omega) (hi_n (by omega)) (by rw [cl_12 cf]; omega) ?_
        rw [ry_]
        refine Ev_top (y := .ref r_) rfl ?_
        refine Ev_getE dX10_about_131 fX10_131 ro_.1.1 ro_.1.2.2.2 ?_
        refine Ev_goto 138 dX10_about_134 (by decide) ?_
        refine Ev_iret dX10_about_138 rfl ?_
        refine ⟨?_, rfl⟩
        unfold aboutF
        first
        | (rw [hi_n (by omega), if_pos ⟨by omega, by omega⟩, show ((((k + 10 : Nat) : Int) - 10).toNat) = k by omega]; done)
        | (rw [if_neg (by omega), if_neg (by omega), if_neg (by omega), if_neg (by omega), if_neg (by omega), if_neg (by omega), if_neg (by omega), if_neg (by omega)]; done)
  · rcases (show wh.toInt = 0 ∨ wh.toInt = 1 ∨ wh.toInt = 2 ∨ wh.toInt = 3 ∨ wh.toInt = 4 ∨ wh.toInt = 5 ∨ wh.toInt = 6 by omega) with zw_ | zw_ | zw_ | zw_ | zw_ | zw_ | zw_
    · refine Ev_tableIn (off := 43) 44 dX10_about_1 (by rw [zw_]; decide) (by rw [zw_]; decide) (by rw [zw_]; rfl) (by decide) ?_
      refine Ev_aload_n dX10_about_44 rfl (by first | exact Or.inr ⟨_, rfl⟩ | exact rv_or _ | exact Or.inl rfl) ?_
      refine Ev_getA dX10_about_45 fX10_19 (ck_3 cf) (cr_705_3 cf) ?_
      refine Ev_getE dX10_about_48 fX10_258 (ck_6 cf) cm.2.2.1 ?_
      refine Ev_iret dX10_about_51 rfl ?_
      refine ⟨?_, rfl⟩
      unfold aboutF
      rw [zw_, if_neg (by decide), if_pos rfl]
    · refine Ev_tableIn (off := 51) 52 dX10_about_1 (by rw [zw_]; decide) (by rw [zw_]; decide) (by rw [zw_]; rfl) (by decide) ?_
      refine Ev_aload_n dX10_about_52 rfl (by first | exact Or.inr ⟨_, rfl⟩ | exact rv_or _ | exact Or.inl rfl) ?_
      refine Ev_getA dX10_about_53 fX10_35 (ck_3 cf) q1_ ?_
      refine Ev_getE dX10_about_56 fX10_234 tf_.1 tx.2.2.2.1 ?_
      refine Ev_iret dX10_about_59 rfl ?_
      refine ⟨?_, rfl⟩
      unfold aboutF
      rw [zw_, if_neg (by decide), if_neg (by decide), if_pos rfl]
    · refine Ev_tableIn (off := 59) 60 dX10_about_1 (by rw [zw_]; decide) (by rw [zw_]; decide) (by rw [zw_]; rfl) (by decide) ?_
      refine Ev_aload_n dX10_about_60 rfl (by first | exact Or.inr ⟨_, rfl⟩ | exact rv_or _ | exact Or.inl rfl) ?_
      refine Ev_getA dX10_about_61 fX10_35 (ck_3 cf) q1_ ?_
      refine Ev_aload_n dX10_about_64 rfl (by first | exact Or.inr ⟨_, rfl⟩ | exact rv_or _ | exact Or.inl rfl) ?_
      refine Ev_getA dX10_about_65 fX10_35 (ck_3 cf) q1_ ?_
      refine Ev_getE dX10_about_68 fX10_234 tf_.1 tx.2.2.2.1 ?_
      refine Ev_V0 [.int (nI ps.length)] dX10_about_71 vX8_shownBefore kX10_239 tf_.1 rfl rfl rfl (Nat.le_of_ble_eq_true rfl) (by omega) (ec_shownBefore l G ps.length g T ps h cf hT tx (by omega)) ?_
      refine Ev_iret dX10_about_74 rfl ?_
      refine ⟨?_, rfl⟩
      unfold aboutF
      rw [zw_, if_neg (by decide), if_neg (by decide), if_neg (by decide), if_pos rfl]
      rw [List.take_length]
    · refine Ev_tableIn (off := 74) 75 dX10_about_1 (by rw [zw_]; decide) (by rw [zw_]; decide) (by rw [zw_]; rfl) (by decide) ?_
      refine Ev_aload_n dX10_about_75 rfl (by first | exact Or.inr ⟨_, rfl⟩ | exact rv_or _ | exact Or.inl rfl) ?_
      refine Ev_getA dX10_about_76 fX10_35 (ck_3 cf) q1_ ?_
      refine Ev_V0 [] dX10_about_79 vX8_countClashes kX10_231 tf_.1 rfl rfl rfl (Nat.le_of_ble_eq_true rfl) (by omega) (ec_countClashes l G g T ps h cf hT tx) ?_
      refine Ev_iret dX10_about_82 rfl ?_
      refine ⟨?_, rfl⟩
      unfold aboutF
      rw [zw_, if_neg (by decide), if_neg (by decide), if_neg (by decide), if_neg (by decide), if_pos rfl]
    · refine Ev_tableIn (off := 82) 83 dX10_about_1 (by rw [zw_]; decide) (by rw [zw_]; decide) (by rw [zw_]; rfl) (by decide) ?_
      refine Ev_aload_n dX10_about_83 rfl (by first | exact Or.inr ⟨_, rfl⟩ | exact rv_or _ | exact Or.inl rfl) ?_
      refine Ev_getA dX10_about_84 fX10_54 (ck_3 cf) (cr_708_3 cf) ?_
      refine Ev_getA dX10_about_87 fX10_259 (ck_26 cf) (cr_192_26 cf) ?_
      refine Ev_V0 [] dX10_about_90 vJx4a65c_size_8abf5 kX10_263 (ck_27 cf) rfl rfl rfl (Nat.le_of_ble_eq_true rfl) (by omega) (ej_size l G 27 xs_ 2 h cl_.1.1.1) ?_
      refine Ev_iret dX10_about_93 rfl ?_
      refine ⟨?_, rfl⟩
      unfold aboutF
      rw [zw_, if_neg (by decide), if_neg (by decide), if_neg (by decide), if_neg (by decide), if_neg (by decide), if_pos rfl]
      rw [cl_.2.1]
    · refine Ev_tableIn (off := 93) 94 dX10_about_1 (by rw [zw_]; decide) (by rw [zw_]; decide) (by rw [zw_]; rfl) (by decide) ?_
      refine Ev_aload_n dX10_about_94 rfl (by first | exact Or.inr ⟨_, rfl⟩ | exact rv_or _ | exact Or.inl rfl) ?_
      refine Ev_getA dX10_about_95 fX10_54 (ck_3 cf) (cr_708_3 cf) ?_
      refine Ev_getE dX10_about_98 fX10_268 (ck_26 cf) cl_.2.2.2.2 ?_
      refine Ev_iret dX10_about_101 rfl ?_
      refine ⟨?_, rfl⟩
      unfold aboutF
      rw [zw_, if_neg (by decide), if_neg (by decide), if_neg (by decide), if_neg (by decide), if_neg (by decide), if_neg (by decide), if_pos rfl]
    · refine Ev_tableIn (off := 101) 102 dX10_about_1 (by rw [zw_]; decide) (by rw [zw_]; decide) (by rw [zw_]; rfl) (by decide) ?_
      refine Ev_aload_n dX10_about_102 rfl (by first | exact Or.inr ⟨_, rfl⟩ | exact rv_or _ | exact Or.inl rfl) ?_
      refine Ev_getA dX10_about_103 fX10_10 (ck_3 cf) (cr_704_3 cf) ?_
      refine Ev_getE dX10_about_106 fX10_62 (ck_4 cf) ct.2.1 ?_
      refine Ev_iret dX10_about_109 rfl ?_
      refine ⟨?_, rfl⟩
      unfold aboutF
      rw [zw_, if_neg (by decide), if_neg (by decide), if_neg (by decide), if_neg (by decide), if_neg (by decide), if_neg (by decide), if_neg (by decide), if_pos rfl]
