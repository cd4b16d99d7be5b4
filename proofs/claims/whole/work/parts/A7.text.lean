/-! the class's texts: reading -/
theorem tx_f {h : aH} {T : Nat} (cf : Cf h) (hT : T = 18 ∨ T = 21) : hK h T = 9 ∧ hR h 576 T = some (T + 1) ∧ hR h 577 T = some (T + 2) ∧ (hK h (T + 1) = 16 ∧ hL h (T + 1) = 250) ∧ hK h (T + 2) = 13 ∧ hL h (T + 2) = 3000 := by
  rcases hT with rfl | rfl
  · exact ⟨ck_18 cf, cr_576_18 cf, cr_577_18 cf, ⟨ck_19 cf, cl_19 cf⟩, ck_20 cf, cl_20 cf⟩
  · exact ⟨ck_21 cf, cr_576_21 cf, cr_577_21 cf, ⟨ck_22 cf, cl_22 cf⟩, ck_23 cf, cl_23 cf⟩
/-- what the readers need of a piece's object -/
def CP1 (g : Gh) (T q : Nat) (p : Pc) (h : aH) : Prop := (hK h q = 6 ∧ hI h 390 q = nI (pcM p).length ∧ (pcM p).length ≤ 120) ∧ CHd (wO g) (pcH p) q h ∧ (∀ hb, pcH p = some hb → hb.1.length ≤ 60 ∧ hb.2.length ≤ 120) ∧ ∃ st, hI h 389 q = nI st ∧ st + (pcM p).length ≤ 3000 ∧ ∀ k, k < (pcM p).length → hX h (T + 2) (st + k) = (pcM p).getD k 0
theorem CTx.p {g : Gh} {T i : Nat} {ps : List Pc} {p : Pc} {h : aH} (tx : CTx g T ps h) (hp : ps[i]? = some p) : ∃ q, hY h (T + 1) i = some q ∧ CPc g (tTg T, i) q p (stt ps i) h ∧ CP1 g T q p h := by
  obtain ⟨b, q, h1, h2⟩ := tx.2.2.2.2.1 i p hp
  have sl := stt_le hp
  have f3 := tx.2.2.1
  exact ⟨q, h1, h2, ⟨h2.1.1, h2.1.2.2.2.2.2.2.2.2, b.2.2.2.2.2.2.1⟩, h2.2, b.2.2.2.2.2.2.2.2.2.2.2, stt ps i, h2.1.2.2.2.2.2.2.2.1, by omega, fun k hk => (tx.2.2.2.2.2 _ (by omega)).trans (flat_at hp hk)⟩
def txA (T : Nat) (ps : List Pc) (v : Int32) (h : aH) : Option Nat := if 0 ≤ v.toInt ∧ v.toInt < ps.length then hY h (T + 1) v.toInt.toNat else none
theorem ec_txAt (l : Launch) (G : aG) (v : Int32) (g : Gh) (T : Nat) (ps : List Pc) (h : aH) (cf : Cf h) (hT : T = 18 ∨ T = 21) (tx : CTx g T ps h) : Ev l G 0 0 0 mX8_at 0 (en 2 [.ref T, .int v]) [] h (Ex (some (rv (txA T ps v h))) h) := by
  have tf_ := tx_f cf hT
  have n250_ := tx.2.1
  refine Ev_iload_n dX8_at_0 rfl ?_
  refine Ev_if_ltT 21 dX8_at_1 (by decide) (fun zb1_ => ?_) (fun zb1_ => ?_)
  · refine Ev_null dX8_at_21 ?_
    refine Ev_aret dX8_at_22 rfl (Or.inl ⟨_, rfl⟩) (by first | exact Or.inr ⟨_, rfl⟩ | exact rv_or _ | exact Or.inl rfl) ?_
    refine ⟨?_, rfl⟩
    unfold txA
    first
    | (rw [hi_n (by omega), if_pos ⟨by omega, by omega⟩]; rfl)
    | (rw [if_neg (by omega)]; rfl)
  · refine Ev_iload_n dX8_at_4 rfl ?_
    refine Ev_aload_n dX8_at_5 rfl (by first | exact Or.inr ⟨_, rfl⟩ | exact rv_or _ | exact Or.inl rfl) ?_
    refine Ev_getE dX8_at_6 fX8_25 tf_.1 tx.2.2.2.1 ?_
    refine Ev_icmp_geT 21 dX8_at_9 (by decide) (fun zb9_ => ?_) (fun zb9_ => ?_)
    · rw [hi_n (by omega)] at zb9_
      refine Ev_null dX8_at_21 ?_
      refine Ev_aret dX8_at_22 rfl (Or.inl ⟨_, rfl⟩) (by first | exact Or.inr ⟨_, rfl⟩ | exact rv_or _ | exact Or.inl rfl) ?_
      refine ⟨?_, rfl⟩
      unfold txA
      first
      | (rw [hi_n (by omega), if_pos ⟨by omega, by omega⟩]; rfl)
      | (rw [if_neg (by omega)]; rfl)
    · rw [hi_n (by omega)] at zb9_
      obtain ⟨j, hj_, rfl⟩ := as_nI (n := 249) (x := v) (by omega) (by omega)
      rw [hi_n (by omega)] at zb9_
      refine Ev_aload_n dX8_at_12 rfl (by first | exact Or.inr ⟨_, rfl⟩ | exact rv_or _ | exact Or.inl rfl) ?_
      refine Ev_getA dX8_at_13 fX8_11 tf_.1 tf_.2.1 ?_
      refine Ev_iload_n dX8_at_16 rfl ?_
      refine Ev_aald j dX8_at_17 tf_.2.2.2.1.1 (by omega) (by omega) (hi_n (by omega)) (by rw [tf_.2.2.2.1.2]; omega) ?_
      refine Ev_goto 22 dX8_at_18 (by decide) ?_
      refine Ev_aret dX8_at_22 rfl (Or.inl ⟨_, rfl⟩) (by first | exact Or.inr ⟨_, rfl⟩ | exact rv_or _ | exact Or.inl rfl) ?_
      refine ⟨?_, rfl⟩
      unfold txA
      first
      | (rw [hi_n (by omega), if_pos ⟨by omega, by omega⟩]; rfl)
      | (rw [if_neg (by omega)]; rfl)
theorem ec_shownLength (l : Launch) (G : aG) (g : Gh) (T q : Nat) (p : Pc) (h : aH) (cp : CP1 g T q p h) : Ev l G 0 0 0 mX5_shownLength 0 (en 1 [.ref q]) [] h (Ex (some (.int (nI (shP p).length))) h) := by
  obtain ⟨⟨k6_, il_, l120_⟩, ch_, hbl_, st_, is_, sl_, xs_⟩ := cp
  cases hp_ : pcH p with
  | none =>
    have hd_ : hR h 391 q = none := by rw [hp_] at ch_; exact ch_
    refine Ev_aload_n dX5_shownLength_0 rfl (by first | exact Or.inr ⟨_, rfl⟩ | exact rv_or _ | exact Or.inl rfl) ?_
    refine Ev_getR dX5_shownLength_1 fX5_13 k6_ ?_
    refine Ev_ifnonnull 14 dX5_shownLength_4 (by decide) (fun zx4_ zb4_ => ?_) (fun zb4_ => ?_)
    · rw [hd_] at zb4_
      cases zb4_
    · refine Ev_aload_n dX5_shownLength_7 rfl (by first | exact Or.inr ⟨_, rfl⟩ | exact rv_or _ | exact Or.inl rfl) ?_
      refine Ev_getE dX5_shownLength_8 fX5_17 k6_ il_ ?_
      refine Ev_goto 22 dX5_shownLength_11 (by decide) ?_
      refine Ev_iret dX5_shownLength_22 rfl ?_
      refine ⟨?_, rfl⟩
      unfold shP
      rw [hp_]
  | some hb =>
    have hb2_ := hbl_ hb hp_
    rw [hp_] at ch_
    obtain ⟨d_, hd_, k1_, -, ⟨r_, h64_, ir_⟩, b_, h65_, ib_⟩ := ch_
    refine Ev_aload_n dX5_shownLength_0 rfl (by first | exact Or.inr ⟨_, rfl⟩ | exact rv_or _ | exact Or.inl rfl) ?_
    refine Ev_getR dX5_shownLength_1 fX5_13 k6_ ?_
    refine Ev_ifnonnull 14 dX5_shownLength_4 (by decide) (fun zx4_ zb4_ => ?_) (fun zb4_ => ?_)
    · refine Ev_aload_n dX5_shownLength_14 rfl (by first | exact Or.inr ⟨_, rfl⟩ | exact rv_or _ | exact Or.inl rfl) ?_
      refine Ev_getA dX5_shownLength_15 fX5_13 k6_ hd_ ?_
      refine Ev_getA dX5_shownLength_18 fX5_21 k1_ h64_ ?_
      refine Ev_alen dX5_shownLength_21 ir_.1 (by omega) (by omega) ?_
      rw [ir_.2.1]
      refine Ev_iret dX5_shownLength_22 rfl ?_
      refine ⟨?_, rfl⟩
      unfold shP
      rw [hp_]
    · rw [hd_] at zb4_
      cases zb4_
def rowL (h : aH) (r n : Nat) : List Int32 := (List.range n).map (hX h r)
theorem rowL_len (h : aH) (r n : Nat) : (rowL h r n).length = n := by simp [rowL]
theorem rowL_at {h : aH} {r n k : Nat} (hk : k < n) : (rowL h r n).getD k 0 = hX h r k := by simp [rowL, List.getD_eq_getElem?_getD, hk]
theorem ec_madeByte (l : Launch) (G : aG) (i : Int32) (g : Gh) (T q : Nat) (p : Pc) (h : aH) (cp : CP1 g T q p h) (cf : Cf h) (hT : T = 18 ∨ T = 21) : Ev l G 1 0 0 mX8_madeByte 0 (en 3 [.ref T, .ref q, .int i]) [] h (Ex (some (.int (elO (pcM p) i.toInt))) h) := by
  have tf_ := tx_f cf hT
  obtain ⟨st_, is_, sl_, xs_⟩ := cp.2.2.2
  have l120_ := cp.1.2.2
  refine Ev_iload_n dX8_madeByte_0 rfl ?_
  refine Ev_if_ltT 28 dX8_madeByte_1 (by decide) (fun zb1_ => ?_) (fun zb1_ => ?_)
  · refine Ev_iconst (v := -1) dX8_madeByte_28 (by decide) ?_
    refine Ev_iret dX8_madeByte_29 rfl ?_
    refine ⟨?_, rfl⟩
    first
    | (unfold elO
       rw [hi_n (by omega), hi_n (by omega), rowL_len, if_pos ⟨by omega, by omega⟩, if_pos ⟨by omega, by omega⟩, Int.toNat_natCast, Int.toNat_natCast, rowL_at (by omega), xs_ j (by omega)]
       done)
    | (unfold elO
       rw [if_neg (by omega)]
       done)
  · refine Ev_iload_n dX8_madeByte_4 rfl ?_
    refine Ev_aload_n dX8_madeByte_5 rfl (by first | exact Or.inr ⟨_, rfl⟩ | exact rv_or _ | exact Or.inl rfl) ?_
    refine Ev_getE dX8_madeByte_6 fX8_54 cp.1.1 cp.1.2.1 ?_
    refine Ev_icmp_geT 28 dX8_madeByte_9 (by decide) (fun zb9_ => ?_) (fun zb9_ => ?_)
    · rw [hi_n (by omega)] at zb9_
      refine Ev_iconst (v := -1) dX8_madeByte_28 (by decide) ?_
      refine Ev_iret dX8_madeByte_29 rfl ?_
      refine ⟨?_, rfl⟩
      first
      | (unfold elO
         rw [hi_n (by omega), hi_n (by omega), rowL_len, if_pos ⟨by omega, by omega⟩, if_pos ⟨by omega, by omega⟩, Int.toNat_natCast, Int.toNat_natCast, rowL_at (by omega), xs_ j (by omega)]
         done)
      | (unfold elO
         rw [if_neg (by omega)]
         done)
    · rw [hi_n (by omega)] at zb9_
      obtain ⟨j, hj_, rfl⟩ := as_nI (n := 119) (x := i) (by omega) (by omega)
      rw [hi_n (by omega)] at zb9_
      refine Ev_aload_n dX8_madeByte_12 rfl (by first | exact Or.inr ⟨_, rfl⟩ | exact rv_or _ | exact Or.inl rfl) ?_
      refine Ev_getA dX8_madeByte_13 fX8_17 tf_.1 tf_.2.2.1 ?_
      refine Ev_aload_n dX8_madeByte_16 rfl (by first | exact Or.inr ⟨_, rfl⟩ | exact rv_or _ | exact Or.inl rfl) ?_
      refine Ev_getE dX8_madeByte_17 fX8_51 cp.1.1 is_ ?_
      refine Ev_iload_n dX8_madeByte_20 rfl ?_
      refine Ev_iaddN dX8_madeByte_21 ?_
      refine Ev_SN0 [.ref (T + 2), .int (nI (st_ + j))] dX8_madeByte_22 sX10_elementOf kX8_67 rfl rfl rfl (Nat.le_of_ble_eq_true rfl) (by omega) (ec_elementOf l G (T + 2) (rowL h (T + 2) 3000) (nI (st_ + j)) h tf_.2.2.2.2.1 (by rw [rowL_len]; exact tf_.2.2.2.2.2) (fun k hk => (rowL_at (by rw [rowL_len] at hk; exact hk)).symm) (by rw [rowL_len]; omega)) ?_
      refine Ev_goto 29 dX8_madeByte_25 (by decide) ?_
      refine Ev_iret dX8_madeByte_29 rfl ?_
      refine ⟨?_, rfl⟩
      first
      | (unfold elO
         rw [hi_n (by omega), hi_n (by omega), rowL_len, if_pos ⟨by omega, by omega⟩, if_pos ⟨by omega, by omega⟩, Int.toNat_natCast, Int.toNat_natCast, rowL_at (by omega), xs_ j (by omega)]
         done)
      | (unfold elO
         rw [if_neg (by omega)]
         done)
theorem ec_shownByte (l : Launch) (G : aG) (i : Int32) (g : Gh) (T q : Nat) (p : Pc) (h : aH) (cp : CP1 g T q p h) (cf : Cf h) (hT : T = 18 ∨ T = 21) : Ev l G 2 0 0 mX8_shownByte 0 (en 3 [.ref T, .ref q, .int i]) [] h (Ex (some (.int (elO (shP p) i.toInt))) h) := by
  have tf_ := tx_f cf hT
  have cp := cp
  obtain ⟨⟨k6_, il_, l120_⟩, ch_, hbl_, st_, is_, sl_, xs_⟩ := id cp
  cases hp_ : pcH p with
  | none =>
    have hd_ : hR h 391 q = none := by rw [hp_] at ch_; exact ch_
    refine Ev_aload_n dX8_shownByte_0 rfl (by first | exact Or.inr ⟨_, rfl⟩ | exact rv_or _ | exact Or.inl rfl) ?_
    refine Ev_getR dX8_shownByte_1 fX8_57 k6_ ?_
    refine Ev_ifnonnull 16 dX8_shownByte_4 (by decide) (fun zx4_ zb4_ => ?_) (fun zb4_ => ?_)
    · rw [hd_] at zb4_
      cases zb4_
    · refine Ev_aload_n dX8_shownByte_7 rfl (by first | exact Or.inr ⟨_, rfl⟩ | exact rv_or _ | exact Or.inl rfl) ?_
      refine Ev_aload_n dX8_shownByte_8 rfl (by first | exact Or.inr ⟨_, rfl⟩ | exact rv_or _ | exact Or.inl rfl) ?_
      refine Ev_iload_n dX8_shownByte_9 rfl ?_
      refine Ev_V0 [.ref q, .int i] dX8_shownByte_10 vX8_madeByte kX8_71 tf_.1 rfl rfl rfl (Nat.le_of_ble_eq_true rfl) (by omega) (ec_madeByte l G i g T q p h cp cf hT) ?_
      refine Ev_goto 27 dX8_shownByte_13 (by decide) ?_
      refine Ev_iret dX8_shownByte_27 rfl ?_
      refine ⟨?_, rfl⟩
      unfold shP
      rw [hp_]
  | some hb =>
    have hb2_ := hbl_ hb hp_
    rw [hp_] at ch_
    obtain ⟨d_, hd_, k1_, -, ⟨r_, h64_, ir_⟩, b_, h65_, ib_⟩ := ch_
    refine Ev_aload_n dX8_shownByte_0 rfl (by first | exact Or.inr ⟨_, rfl⟩ | exact rv_or _ | exact Or.inl rfl) ?_
    refine Ev_getR dX8_shownByte_1 fX8_57 k6_ ?_
    refine Ev_ifnonnull 16 dX8_shownByte_4 (by decide) (fun zx4_ zb4_ => ?_) (fun zb4_ => ?_)
    · refine Ev_aload_n dX8_shownByte_16 rfl (by first | exact Or.inr ⟨_, rfl⟩ | exact rv_or _ | exact Or.inl rfl) ?_
      refine Ev_getA dX8_shownByte_17 fX8_57 k6_ hd_ ?_
      refine Ev_getA dX8_shownByte_20 fX8_75 k1_ h64_ ?_
      refine Ev_iload_n dX8_shownByte_23 rfl ?_
      refine Ev_SN0 [.ref r_, .int i] dX8_shownByte_24 sX10_elementOf kX8_67 rfl rfl rfl (Nat.le_of_ble_eq_true rfl) (by omega) (ec_elementOf l G r_ hb.1 i h ir_.1 ir_.2.1 ir_.2.2.2 (by omega)) ?_
      refine Ev_iret dX8_shownByte_27 rfl ?_
      refine ⟨?_, rfl⟩
      unfold shP
      rw [hp_]
    · rw [hd_] at zb4_
      cases zb4_
