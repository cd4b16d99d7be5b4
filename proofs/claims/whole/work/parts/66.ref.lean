section EV
variable {l : Launch} {G : aG} {d mc ms : Nat} {M : aM} {pc : Nat} {ls st : List Value} {h : aH} {Q : Option Value → aH → Prop}
theorem Ev_idivN {a b : Nat} (hdg : decode M.2.1 pc = .ok (.idiv, 1)) (h0 : 0 < b) (ha : a < 2 ^ 31) (hb : b < 2 ^ 31) (kk : Ev l G d mc ms M (pc + 1) ls (.int (nI (a / b)) :: st) h Q) : Ev l G d mc ms M pc ls (.int (nI b) :: .int (nI a) :: st) h Q := by
  refine Ev_idiv hdg (nI_ne0 h0 hb) ?_
  rw [pk_div ha h0 hb]; exact kk
theorem Ev_iremN {a b : Nat} (hdg : decode M.2.1 pc = .ok (.irem, 1)) (h0 : 0 < b) (ha : a < 2 ^ 31) (hb : b < 2 ^ 31) (kk : Ev l G d mc ms M (pc + 1) ls (.int (nI (a % b)) :: st) h Q) : Ev l G d mc ms M pc ls (.int (nI b) :: .int (nI a) :: st) h Q := by
  refine Ev_irem hdg (nI_ne0 h0 hb) ?_
  rw [pk_rem ha h0 hb]; exact kk
end EV
def wrH (h : aH) (w : Nat) (b : Int32) : aH := if w = 3000 then sI h 812 MO (nI 1) else sI (sX h 52 (3000 + w) b) 800 MO (nI (w + 1))
theorem ev_write (l : Launch) (G : aG) (b : Int32) (w : Nat) (hw : w ≤ 3000) (h : aH) (rf : Rf h) (ew_ : hI h 800 MO = nI w) : Ev l G 0 0 0 mX11_write 0 (en 2 [.ref MO, .int b]) [] h (Ex none (wrH h w b)) := by
  refine Ev_aload_n dX11_write_0 rfl (by first | exact Or.inr ⟨_, rfl⟩ | exact rv_or _ | exact Or.inl rfl) ?_
  refine Ev_getE dX11_write_1 fX11_203 rf.1 ew_ ?_
  refine Ev_sipush (v := nI 3000) dX11_write_4 (by decide) ?_
  refine Ev_icmp_neN 16 dX11_write_7 (by decide) (by omega) (by omega) (fun zb7_ => ?_) (fun zb7_ => ?_)
  · refine Ev_aload_n dX11_write_16 rfl (by first | exact Or.inr ⟨_, rfl⟩ | exact rv_or _ | exact Or.inl rfl) ?_
    refine Ev_getA dX11_write_17 fX11_86 rf.1 (rr_bytes rf) ?_
    refine Ev_sipush (v := nI 3000) dX11_write_20 (by decide) ?_
    refine Ev_aload_n dX11_write_23 rfl (by first | exact Or.inr ⟨_, rfl⟩ | exact rv_or _ | exact Or.inl rfl) ?_
    refine Ev_getE dX11_write_24 fX11_203 rf.1 ew_ ?_
    refine Ev_iaddN dX11_write_27 ?_
    refine Ev_iload_n dX11_write_28 rfl ?_
    refine Ev_iastL _ dX11_write_29 (rk_bytes rf) (rl_bytes rf) (hi_n (by omega)) (by omega) ?_
    refine Ev_aload_n dX11_write_30 rfl (by first | exact Or.inr ⟨_, rfl⟩ | exact rv_or _ | exact Or.inl rfl) ?_
    refine Ev_dup dX11_write_31 (by first | rfl | exact okv_rv _) ?_
    refine Ev_getE dX11_write_32 fX11_203 rf.1 ((gI_X _ _ _ _ _ _).trans ew_) ?_
    refine Ev_iconst (v := nI 1) dX11_write_35 (by decide) ?_
    refine Ev_iaddN dX11_write_36 ?_
    refine Ev_putI dX11_write_37 fX11_203 ⟨_, rfl, Or.inl rfl⟩ (Or.inl rfl) rf.1 ?_
    refine Ev_vret dX11_write_40 rfl ?_
    refine ⟨rfl, ?_⟩
    unfold wrH; rw [if_neg zb7_]
  · refine Ev_aload_n dX11_write_10 rfl (by first | exact Or.inr ⟨_, rfl⟩ | exact rv_or _ | exact Or.inl rfl) ?_
    refine Ev_iconst (v := nI 1) dX11_write_11 (by decide) ?_
    refine Ev_putI dX11_write_12 fX11_197 ⟨_, rfl, Or.inl rfl⟩ (Or.inr ⟨rfl, (by decide)⟩) rf.1 ?_
    refine Ev_vret dX11_write_15 rfl ?_
    refine ⟨rfl, ?_⟩
    unfold wrH; rw [if_pos zb7_]
/-- behind the writing of xs, from w bytes on -/
def WrI (w : Nat) (xs : List Int32) (h h' : aH) : Prop := Fr [800, 812] [52] h h' ∧ hI h' 800 MO = nI (min (w + xs.length) 3000) ∧ hI h' 812 MO = (if w + xs.length ≤ 3000 then hI h 812 MO else nI 1) ∧ (∀ k, k < 3000 + w → hX h' 52 k = hX h 52 k) ∧ ∀ k, k < xs.length → w + k < 3000 → hX h' 52 (3000 + w + k) = xs.getD k 0
theorem WrI.nil {w : Nat} {h : aH} (hw : w ≤ 3000) (e : hI h 800 MO = nI w) : WrI w [] h h :=
  ⟨Fr.rf, by rw [e]; congr 1; simp; omega, by rw [if_pos (by simpa using hw)], fun _ _ => rfl, fun k hk => by simp at hk⟩
theorem getD_app {xs : List Int32} {b : Int32} {k : Nat} (hk : k < xs.length) : (xs ++ [b]).getD k 0 = xs.getD k 0 := by
  simp only [List.getD_eq_getElem?_getD]
  rw [List.getElem?_append_left hk]
theorem getD_end {xs : List Int32} {b : Int32} : (xs ++ [b]).getD xs.length 0 = b := by
  simp [List.getD_eq_getElem?_getD]
theorem WrI.add {w : Nat} {xs : List Int32} {h h1 : aH} {b : Int32} (c : WrI w xs h h1) : WrI w (xs ++ [b]) h (wrH h1 (min (w + xs.length) 3000) b) := by
  obtain ⟨c1, c2, c3, c4, c5⟩ := c
  have el : (xs ++ [b]).length = xs.length + 1 := by simp
  unfold wrH
  by_cases z : min (w + xs.length) 3000 = 3000
  · rw [if_pos z]
    refine ⟨c1.tr (Fr.int (by decide)), ?_, ?_, fun k hk => c4 k hk, fun k hk hw => ?_⟩
    · rw [hI_o _ _ (by decide), c2, z, el]; congr 1; omega
    · rw [hI_s, if_neg (by omega)]
    · rw [getD_app (by omega)]; exact c5 k (by omega) hw
  · rw [if_neg z]
    have e1 : min (w + xs.length) 3000 = w + xs.length := by omega
    rw [e1]
    refine ⟨(c1.tr (Fr.row (by decide))).tr (Fr.int (by decide)), ?_, ?_, fun k hk => ?_, fun k hk hw => ?_⟩
    · rw [hI_s, el]; congr 1; omega
    · rw [hI_o _ _ (by decide)]
      show hI h1 812 MO = _
      rw [c3, if_pos (by omega), if_pos (by omega)]
    · show hX (sX h1 52 (3000 + (w + xs.length)) b) 52 k = _
      rw [hX_n _ _ (by omega)]; exact c4 k hk
    · show hX (sX h1 52 (3000 + (w + xs.length)) b) 52 (3000 + w + k) = _
      by_cases e : k = xs.length
      · subst e
        rw [Nat.add_assoc 3000 w, hX_s, getD_end]
      · rw [hX_n _ _ (by omega), getD_app (by omega)]
        exact c5 k (by omega) hw
theorem lg_of {v j : Nat} (hj : j ≤ 5) (h1 : j = 0 ∨ 10 ^ j ≤ v) (h2 : v < 10 ^ (j + 1)) (hv : v < 200000) : lg v = j := by
  rcases (show j = 0 ∨ j = 1 ∨ j = 2 ∨ j = 3 ∨ j = 4 ∨ j = 5 by omega) with rfl | rfl | rfl | rfl | rfl | rfl
  all_goals
    simp at h1 h2
    unfold lg
    repeat' split
    all_goals omega
theorem digs_take {v e : Nat} (he : e ≤ lg v) : (digs v).take (lg v - e + 1) = (digs v).take (lg v - e) ++ [nI (48 + v / 10 ^ e % 10)] := by
  have hl : lg v - e < (digs v).length := by rw [digs_len]; omega
  rw [List.take_succ_eq_append_getElem hl]
  congr 2
  have := digs_at (v := v) (k := lg v - e) (by omega)
  rw [List.getD_eq_getElem?_getD, List.getElem?_eq_getElem hl] at this
  rw [show lg v - (lg v - e) = e by omega] at this
  exact this
theorem pow_b {e : Nat} (h : e ≤ 5) : 0 < 10 ^ e ∧ 10 ^ e ≤ 100000 := by
  rcases (show e = 0 ∨ e = 1 ∨ e = 2 ∨ e = 3 ∨ e = 4 ∨ e = 5 by omega) with rfl | rfl | rfl | rfl | rfl | rfl <;> decide
theorem WrI.w3 {w : Nat} {xs : List Int32} {h h1 : aH} (c : WrI w xs h h1) : hI h1 800 MO = nI (min (w + xs.length) 3000) := c.2.1
theorem ev_writeNumber_d (l : Launch) (G : aG) (v w : Nat) (hv : v < 200000) (h : aH) (rf : Rf h) (e : Nat) : ∀ h1, e ≤ lg v → WrI w ((digs v).take (lg v - e)) h h1 → ∀ b_ : Nat, Ev l G 1 0 0 mX11_writeNumber 20 [.ref MO, .int (nI v), .int (nI b_), .int (nI (10 ^ e))] [] h1 (fun x h' => x = none ∧ WrI w (digs v) h h') := by
  have l5_ := lg_le v
  induction e with
  | zero =>
    intro h1 he wr_ b_
    have rf1_ := rf.fr wr_.1
    refine Ev_iload_n dX11_writeNumber_20 rfl ?_
    refine Ev_if_leT 45 dX11_writeNumber_21 (by decide) (fun zb21_ => ?_) (fun zb21_ => ?_)
    · exact absurd zb21_ (by decide)
    · refine Ev_aload_n dX11_writeNumber_24 rfl (by first | exact Or.inr ⟨_, rfl⟩ | exact rv_or _ | exact Or.inl rfl) ?_
      refine Ev_bipush (v := nI 48) dX11_writeNumber_25 (by decide) ?_
      refine Ev_iload_n dX11_writeNumber_27 rfl ?_
      refine Ev_iload_n dX11_writeNumber_28 rfl ?_
      refine Ev_idivN dX11_writeNumber_29 (by omega) (by omega) (by omega) ?_
      refine Ev_bipush (v := nI 10) dX11_writeNumber_30 (by decide) ?_
      refine Ev_iremN dX11_writeNumber_32 (by omega) (by omega) (by omega) ?_
      refine Ev_iaddN dX11_writeNumber_33 ?_
      refine Ev_V0 [.int (nI (48 + v / 10 ^ 0 % 10))] dX11_writeNumber_34 vX11_write kX11_206 rf1_.1 rfl rfl rfl (Nat.le_of_ble_eq_true rfl) (by omega) (ev_write l G _ (min (w + ((digs v).take (lg v - 0)).length) 3000) (by omega) h1 rf1_ wr_.2.1) ?_
      have w2_ : WrI w ((digs v).take (lg v - 0 + 1)) h (wrH h1 (min (w + ((digs v).take (lg v - 0)).length) 3000) (nI (48 + v / 10 ^ 0 % 10))) := by
        rw [digs_take (by omega)]; exact wr_.add
      refine Ev_iload_n dX11_writeNumber_37 rfl ?_
      refine Ev_bipush (v := nI 10) dX11_writeNumber_38 (by decide) ?_
      refine Ev_idivN dX11_writeNumber_40 (by omega) (by omega) (by omega) ?_
      refine Ev_istore_n dX11_writeNumber_41 (by decide) ?_
      refine Ev_goto 20 dX11_writeNumber_42 (by decide) ?_
      refine Ev_iload_n dX11_writeNumber_20 rfl ?_
      refine Ev_if_leT 45 dX11_writeNumber_21 (by decide) (fun zb21_ => ?_) (fun zb21_ => ?_)
      · refine Ev_vret dX11_writeNumber_45 rfl ?_
        refine ⟨rfl, ?_⟩
        rw [show lg v - 0 + 1 = (digs v).length by rw [digs_len]; omega, List.take_length] at w2_
        exact w2_
      · exact absurd t0 (by have := zb21_; rw [t0] at this; omega)
  | succ e ih_ =>
    intro h1 he wr_ b_
    have rf1_ := rf.fr wr_.1
    have pb_ := pow_b (e := e + 1) (by omega)
    have pl_ : v / 10 ^ (e + 1) ≤ v := Nat.div_le_self _ _
    refine Ev_iload_n dX11_writeNumber_20 rfl ?_
    refine Ev_if_leT 45 dX11_writeNumber_21 (by decide) (fun zb21_ => ?_) (fun zb21_ => ?_)
    · exact absurd zb21_ (by rw [hi_n (by omega)]; omega)
    · refine Ev_aload_n dX11_writeNumber_24 rfl (by first | exact Or.inr ⟨_, rfl⟩ | exact rv_or _ | exact Or.inl rfl) ?_
      refine Ev_bipush (v := nI 48) dX11_writeNumber_25 (by decide) ?_
      refine Ev_iload_n dX11_writeNumber_27 rfl ?_
      refine Ev_iload_n dX11_writeNumber_28 rfl ?_
      refine Ev_idivN dX11_writeNumber_29 (by omega) (by omega) (by omega) ?_
      refine Ev_bipush (v := nI 10) dX11_writeNumber_30 (by decide) ?_
      refine Ev_iremN dX11_writeNumber_32 (by omega) (by omega) (by omega) ?_
      refine Ev_iaddN dX11_writeNumber_33 ?_
      refine Ev_V0 [.int (nI (48 + v / 10 ^ (e + 1) % 10))] dX11_writeNumber_34 vX11_write kX11_206 rf1_.1 rfl rfl rfl (Nat.le_of_ble_eq_true rfl) (by omega) (ev_write l G _ (min (w + ((digs v).take (lg v - (e + 1))).length) 3000) (by omega) h1 rf1_ wr_.2.1) ?_
      have w2_ : WrI w ((digs v).take (lg v - (e + 1) + 1)) h (wrH h1 (min (w + ((digs v).take (lg v - (e + 1))).length) 3000) (nI (48 + v / 10 ^ (e + 1) % 10))) := by
        rw [digs_take (by omega)]; exact wr_.add
      refine Ev_iload_n dX11_writeNumber_37 rfl ?_
      refine Ev_bipush (v := nI 10) dX11_writeNumber_38 (by decide) ?_
      refine Ev_idivN dX11_writeNumber_40 (by omega) (by omega) (by omega) ?_
      refine Ev_istore_n dX11_writeNumber_41 (by decide) ?_
      refine Ev_goto 20 dX11_writeNumber_42 (by decide) ?_
      rw [show 10 ^ (e + 1) / 10 = 10 ^ e by rw [Nat.pow_succ]; omega]
      exact ih_ _ (by omega) (by rw [show lg v - e = lg v - (e + 1) + 1 by omega]; exact w2_) _
theorem ev_writeNumber_l (l : Launch) (G : aG) (v w : Nat) (hv : v < 200000) (hw : w ≤ 3000) (h : aH) (rf : Rf h) (ew_ : hI h 800 MO = nI w) (n : Nat) : ∀ j, 5 - j < n → j ≤ 5 → (j = 0 ∨ 10 ^ j ≤ v) → ∀ v3_ : Value, Ev l G 1 0 0 mX11_writeNumber 2 [.ref MO, .int (nI v), .int (nI (10 ^ j)), v3_] [] h (fun x h' => x = none ∧ WrI w (digs v) h h') := by
  induction n with
  | zero => intro j hj; omega
  | succ n ih_ =>
    intro j hj0_ hj_ hp_ v3_
    have pb_ := pow_b hj_
    have pl_ : v / 10 ^ j ≤ v := Nat.div_le_self _ _
    refine Ev_iload_n dX11_writeNumber_2 rfl ?_
    refine Ev_iload_n dX11_writeNumber_3 rfl ?_
    refine Ev_idivN dX11_writeNumber_4 (by omega) (by omega) (by omega) ?_
    refine Ev_bipush (v := nI 9) dX11_writeNumber_5 (by decide) ?_
    refine Ev_icmp_leN 18 dX11_writeNumber_7 (by decide) (by omega) (by omega) (fun zb7_ => ?_) (fun zb7_ => ?_)
    · refine Ev_iload_n dX11_writeNumber_18 rfl ?_
      refine Ev_istore_n dX11_writeNumber_19 (by decide) ?_
      have ej_ : j = lg v := (lg_of hj_ hp_ (by rw [Nat.pow_succ]; have := Nat.lt_mul_div_succ v pb_.1; rw [Nat.mul_add] at this; have h9 : v / 10 ^ j ≤ 9 := zb7_; have h10 := Nat.mul_le_mul_left (10 ^ j) h9; omega) hv).symm
      subst ej_
      exact ev_writeNumber_d l G v w hv h rf (lg v) h (by omega) (by rw [Nat.sub_self, List.take_zero]; exact WrI.nil hw ew_) _
    · refine Ev_iload_n dX11_writeNumber_10 rfl ?_
      refine Ev_bipush (v := nI 10) dX11_writeNumber_11 (by decide) ?_
      refine Ev_imulN dX11_writeNumber_13 ?_
      refine Ev_istore_n dX11_writeNumber_14 (by decide) ?_
      refine Ev_goto 2 dX11_writeNumber_15 (by decide) ?_
      have hq_ : 10 ^ j * 10 ≤ v := by
        have h9 : 10 ≤ v / 10 ^ j := by omega
        have h10 := Nat.mul_le_mul_left (10 ^ j) h9
        have h11 := Nat.mul_div_le v (10 ^ j)
        omega
      have hj5_ : j + 1 ≤ 5 := by
        apply Classical.byContradiction
        intro z
        have e5 : j = 5 := by omega
        subst e5
        simp at hq_
        omega
      rw [show 10 ^ j * 10 = 10 ^ (j + 1) from (Nat.pow_succ ..).symm]
      exact ih_ (j + 1) (by omega) hj5_ (Or.inr (by rw [Nat.pow_succ]; exact hq_)) _
theorem ev_writeNumber (l : Launch) (G : aG) (v w : Nat) (hv : v < 200000) (hw : w ≤ 3000) (h : aH) (rf : Rf h) (ew_ : hI h 800 MO = nI w) : Ev l G 1 0 0 mX11_writeNumber 0 (en 4 [.ref MO, .int (nI v)]) [] h (fun x h' => x = none ∧ WrI w (digs v) h h') := by
  refine Ev_iconst (v := nI 1) dX11_writeNumber_0 (by decide) ?_
  refine Ev_istore_n dX11_writeNumber_1 (by decide) ?_
  exact ev_writeNumber_l l G v w hv hw h rf ew_ 6 0 (by omega) (by omega) (Or.inl rfl) _
def bgH (h : aH) (u o_ : Nat) (t : Int32) : aH := sI (sX (sX (sX (sX (sI (sI h 811 MO (nI (u + 1))) 812 MO (bI (decide (2000 < u + 1)))) 58 o_ t) 59 o_ (nI 0)) 60 o_ (-1)) 61 o_ (nI 0)) 810 MO (nI (o_ + 1))
theorem ev_begin (l : Launch) (G : aG) (t : Int32) (u o_ : Nat) (hu : u ≤ 2000) (ho : o_ < 6) (h : aH) (rf : Rf h) (eu_ : hI h 811 MO = nI u) (ef_ : hI h 812 MO = bI false) (eo_ : hI h 810 MO = nI o_) : Ev l G 0 0 0 mX11_begin 0 (en 2 [.ref MO, .int t]) [] h (Ex none (bgH h u o_ t)) := by
  refine Ev_aload_n dX11_begin_0 rfl (by first | exact Or.inr ⟨_, rfl⟩ | exact rv_or _ | exact Or.inl rfl) ?_
  refine Ev_dup dX11_begin_1 (by first | rfl | exact okv_rv _) ?_
  refine Ev_getE dX11_begin_2 fX11_194 rf.1 eu_ ?_
  refine Ev_iconst (v := nI 1) dX11_begin_5 (by decide) ?_
  refine Ev_iaddN dX11_begin_6 ?_
  refine Ev_putI dX11_begin_7 fX11_194 ⟨_, rfl, Or.inl rfl⟩ (Or.inl rfl) rf.1 ?_
  refine Ev_aload_n dX11_begin_10 rfl (by first | exact Or.inr ⟨_, rfl⟩ | exact rv_or _ | exact Or.inl rfl) ?_
  refine Ev_aload_n dX11_begin_11 rfl (by first | exact Or.inr ⟨_, rfl⟩ | exact rv_or _ | exact Or.inl rfl) ?_
  refine Ev_getE dX11_begin_12 fX11_197 rf.1 ((hI_o _ _ (by decide)).trans ef_) ?_
  refine Ev_if_neB 28 dX11_begin_15 (by decide) (fun zb15_ => ?_) (fun zb15_ => ?_)
  · exact absurd zb15_ (by decide)
  · refine Ev_aload_n dX11_begin_18 rfl (by first | exact Or.inr ⟨_, rfl⟩ | exact rv_or _ | exact Or.inl rfl) ?_
    refine Ev_getE dX11_begin_19 fX11_194 rf.1 (hI_s _ _ _ _) ?_
    refine Ev_sipush (v := nI 2000) dX11_begin_22 (by decide) ?_
    refine Ev_icmp_leN 32 dX11_begin_25 (by decide) (by omega) (by omega) (fun zb25_ => ?_) (fun zb25_ => ?_)
    · refine Ev_iconst (v := nI 0) dX11_begin_32 (by decide) ?_
      refine Ev_putI dX11_begin_33 fX11_197 ⟨_, rfl, Or.inl rfl⟩ (Or.inr ⟨rfl, (by first | exact Or.inl rfl | exact Or.inr rfl)⟩) rf.1 ?_
      refine Ev_aload_n dX11_begin_36 rfl (by first | exact Or.inr ⟨_, rfl⟩ | exact rv_or _ | exact Or.inl rfl) ?_
      refine Ev_getA dX11_begin_37 fX11_106 rf.1 (rr_useThing rf) ?_
      refine Ev_aload_n dX11_begin_40 rfl (by first | exact Or.inr ⟨_, rfl⟩ | exact rv_or _ | exact Or.inl rfl) ?_
      refine Ev_getE dX11_begin_41 fX11_200 rf.1 ((hI_o _ _ (by decide)).trans ((hI_o _ _ (by decide)).trans eo_)) ?_
      refine Ev_iload_n dX11_begin_44 rfl ?_
      refine Ev_iastL _ dX11_begin_45 (rk_useThing rf) (rl_useThing rf) (hi_n (by omega)) (by omega) ?_
      refine Ev_aload_n dX11_begin_46 rfl (by first | exact Or.inr ⟨_, rfl⟩ | exact rv_or _ | exact Or.inl rfl) ?_
      refine Ev_getA dX11_begin_47 fX11_109 rf.1 (rr_useItem rf) ?_
      refine Ev_aload_n dX11_begin_50 rfl (by first | exact Or.inr ⟨_, rfl⟩ | exact rv_or _ | exact Or.inl rfl) ?_
      refine Ev_getE dX11_begin_51 fX11_200 rf.1 ((gI_X _ _ _ _ _ _).trans ((hI_o _ _ (by decide)).trans ((hI_o _ _ (by decide)).trans eo_))) ?_
      refine Ev_iconst (v := nI 0) dX11_begin_54 (by decide) ?_
      refine Ev_iastL _ dX11_begin_55 (rk_useItem rf) (rl_useItem rf) (hi_n (by omega)) (by omega) ?_
      refine Ev_aload_n dX11_begin_56 rfl (by first | exact Or.inr ⟨_, rfl⟩ | exact rv_or _ | exact Or.inl rfl) ?_
      refine Ev_getA dX11_begin_57 fX11_112 rf.1 (rr_useChild rf) ?_
      refine Ev_aload_n dX11_begin_60 rfl (by first | exact Or.inr ⟨_, rfl⟩ | exact rv_or _ | exact Or.inl rfl) ?_
      refine Ev_getE dX11_begin_61 fX11_200 rf.1 ((gI_X _ _ _ _ _ _).trans ((gI_X _ _ _ _ _ _).trans ((hI_o _ _ (by decide)).trans ((hI_o _ _ (by decide)).trans eo_)))) ?_
      refine Ev_iconst (v := -1) dX11_begin_64 (by decide) ?_
      refine Ev_iastL _ dX11_begin_65 (rk_useChild rf) (rl_useChild rf) (hi_n (by omega)) (by omega) ?_
      refine Ev_aload_n dX11_begin_66 rfl (by first | exact Or.inr ⟨_, rfl⟩ | exact rv_or _ | exact Or.inl rfl) ?_
      refine Ev_getA dX11_begin_67 fX11_115 rf.1 (rr_isLeft rf) ?_
      refine Ev_aload_n dX11_begin_70 rfl (by first | exact Or.inr ⟨_, rfl⟩ | exact rv_or _ | exact Or.inl rfl) ?_
      refine Ev_getE dX11_begin_71 fX11_200 rf.1 ((gI_X _ _ _ _ _ _).trans ((gI_X _ _ _ _ _ _).trans ((gI_X _ _ _ _ _ _).trans ((hI_o _ _ (by decide)).trans ((hI_o _ _ (by decide)).trans eo_))))) ?_
      refine Ev_iconst (v := nI 0) dX11_begin_74 (by decide) ?_
      refine Ev_zastL _ dX11_begin_75 (rk_isLeft rf) (rl_isLeft rf) (by decide) (hi_n (by omega)) (by omega) ?_
      refine Ev_aload_n dX11_begin_76 rfl (by first | exact Or.inr ⟨_, rfl⟩ | exact rv_or _ | exact Or.inl rfl) ?_
      refine Ev_dup dX11_begin_77 (by first | rfl | exact okv_rv _) ?_
      refine Ev_getE dX11_begin_78 fX11_200 rf.1 ((gI_X _ _ _ _ _ _).trans ((gI_X _ _ _ _ _ _).trans ((gI_X _ _ _ _ _ _).trans ((gI_X _ _ _ _ _ _).trans ((hI_o _ _ (by decide)).trans ((hI_o _ _ (by decide)).trans eo_)))))) ?_
      refine Ev_iconst (v := nI 1) dX11_begin_81 (by decide) ?_
      refine Ev_iaddN dX11_begin_82 ?_
      refine Ev_putI dX11_begin_83 fX11_200 ⟨_, rfl, Or.inl rfl⟩ (Or.inl rfl) rf.1 ?_
      refine Ev_vret dX11_begin_86 rfl ?_
      refine ⟨rfl, ?_⟩
      unfold bgH
      first | (rw [show decide (2000 < u + 1) = true from decide_eq_true (by omega)]; rfl) | (rw [show decide (2000 < u + 1) = false from decide_eq_false (by omega)]; rfl)
    · refine Ev_iconst (v := nI 1) dX11_begin_28 (by decide) ?_
      refine Ev_goto 33 dX11_begin_29 (by decide) ?_
      refine Ev_putI dX11_begin_33 fX11_197 ⟨_, rfl, Or.inl rfl⟩ (Or.inr ⟨rfl, (by first | exact Or.inl rfl | exact Or.inr rfl)⟩) rf.1 ?_
      refine Ev_aload_n dX11_begin_36 rfl (by first | exact Or.inr ⟨_, rfl⟩ | exact rv_or _ | exact Or.inl rfl) ?_
      refine Ev_getA dX11_begin_37 fX11_106 rf.1 (rr_useThing rf) ?_
      refine Ev_aload_n dX11_begin_40 rfl (by first | exact Or.inr ⟨_, rfl⟩ | exact rv_or _ | exact Or.inl rfl) ?_
      refine Ev_getE dX11_begin_41 fX11_200 rf.1 ((hI_o _ _ (by decide)).trans ((hI_o _ _ (by decide)).trans eo_)) ?_
      refine Ev_iload_n dX11_begin_44 rfl ?_
      refine Ev_iastL _ dX11_begin_45 (rk_useThing rf) (rl_useThing rf) (hi_n (by omega)) (by omega) ?_
      refine Ev_aload_n dX11_begin_46 rfl (by first | exact Or.inr ⟨_, rfl⟩ | exact rv_or _ | exact Or.inl rfl) ?_
      refine Ev_getA dX11_begin_47 fX11_109 rf.1 (rr_useItem rf) ?_
      refine Ev_aload_n dX11_begin_50 rfl (by first | exact Or.inr ⟨_, rfl⟩ | exact rv_or _ | exact Or.inl rfl) ?_
      refine Ev_getE dX11_begin_51 fX11_200 rf.1 ((gI_X _ _ _ _ _ _).trans ((hI_o _ _ (by decide)).trans ((hI_o _ _ (by decide)).trans eo_))) ?_
      refine Ev_iconst (v := nI 0) dX11_begin_54 (by decide) ?_
      refine Ev_iastL _ dX11_begin_55 (rk_useItem rf) (rl_useItem rf) (hi_n (by omega)) (by omega) ?_
      refine Ev_aload_n dX11_begin_56 rfl (by first | exact Or.inr ⟨_, rfl⟩ | exact rv_or _ | exact Or.inl rfl) ?_
      refine Ev_getA dX11_begin_57 fX11_112 rf.1 (rr_useChild rf) ?_
      refine Ev_aload_n dX11_begin_60 rfl (by first | exact Or.inr ⟨_, rfl⟩ | exact rv_or _ | exact Or.inl rfl) ?_
      refine Ev_getE dX11_begin_61 fX11_200 rf.1 ((gI_X _ _ _ _ _ _).trans ((gI_X _ _ _ _ _ _).trans ((hI_o _ _ (by decide)).trans ((hI_o _ _ (by decide)).trans eo_)))) ?_
      refine Ev_iconst (v := -1) dX11_begin_64 (by decide) ?_
      refine Ev_iastL _ dX11_begin_65 (rk_useChild rf) (rl_useChild rf) (hi_n (by omega)) (by omega) ?_
      refine Ev_aload_n dX11_begin_66 rfl (by first | exact Or.inr ⟨_, rfl⟩ | exact rv_or _ | exact Or.inl rfl) ?_
      refine Ev_getA dX11_begin_67 fX11_115 rf.1 (rr_isLeft rf) ?_
      refine Ev_aload_n dX11_begin_70 rfl (by first | exact Or.inr ⟨_, rfl⟩ | exact rv_or _ | exact Or.inl rfl) ?_
      refine Ev_getE dX11_begin_71 fX11_200 rf.1 ((gI_X _ _ _ _ _ _).trans ((gI_X _ _ _ _ _ _).trans ((gI_X _ _ _ _ _ _).trans ((hI_o _ _ (by decide)).trans ((hI_o _ _ (by decide)).trans eo_))))) ?_
      refine Ev_iconst (v := nI 0) dX11_begin_74 (by decide) ?_
      refine Ev_zastL _ dX11_begin_75 (rk_isLeft rf) (rl_isLeft rf) (by decide) (hi_n (by omega)) (by omega) ?_
      refine Ev_aload_n dX11_begin_76 rfl (by first | exact Or.inr ⟨_, rfl⟩ | exact rv_or _ | exact Or.inl rfl) ?_
      refine Ev_dup dX11_begin_77 (by first | rfl | exact okv_rv _) ?_
      refine Ev_getE dX11_begin_78 fX11_200 rf.1 ((gI_X _ _ _ _ _ _).trans ((gI_X _ _ _ _ _ _).trans ((gI_X _ _ _ _ _ _).trans ((gI_X _ _ _ _ _ _).trans ((hI_o _ _ (by decide)).trans ((hI_o _ _ (by decide)).trans eo_)))))) ?_
      refine Ev_iconst (v := nI 1) dX11_begin_81 (by decide) ?_
      refine Ev_iaddN dX11_begin_82 ?_
      refine Ev_putI dX11_begin_83 fX11_200 ⟨_, rfl, Or.inl rfl⟩ (Or.inl rfl) rf.1 ?_
      refine Ev_vret dX11_begin_86 rfl ?_
      refine ⟨rfl, ?_⟩
      unfold bgH
      first | (rw [show decide (2000 < u + 1) = true from decide_eq_true (by omega)]; rfl) | (rw [show decide (2000 < u + 1) = false from decide_eq_false (by omega)]; rfl)
