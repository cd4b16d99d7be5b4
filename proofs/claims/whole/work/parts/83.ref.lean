/-- the piece that shows a place, and the place in it -/
def pcAt : List Pc → Nat → Option (Nat × Nat)
  | [], _ => none
  | p :: ps, k => if k < (shP p).length then some (0, k) else (pcAt ps (k - (shP p).length)).map (fun q => (q.1 + 1, q.2))
def mkF (ps : List Pc) (a : Int32) : Option (Nat × Nat) := if 0 ≤ a.toInt then pcAt ps a.toInt.toNat else none
def textF (ps : List Pc) (a : Int32) : Int32 := match mkF ps a with
  | none => -1
  | some q => match ps[q.1]? with
    | none => -1
    | some p => (shP p).getD q.2 0
def makerF (ps : List Pc) (a : Int32) : Int32 := onI ((mkF ps a).map (fun q => q.1))
theorem drop_ps {ps : List Pc} {k : Nat} {p : Pc} (h : ps[k]? = some p) : ps.drop k = p :: ps.drop (k + 1) := by
  obtain ⟨hl, e⟩ := List.getElem?_eq_some_iff.mp h
  rw [List.drop_eq_getElem_cons hl, e]
theorem ev_pieceAt_l (l : Launch) (G : aG) (a : Nat) (ha : a < 2 ^ 31) (ps : List Pc) (h : aH) (rf : Rf h) (t_ : RTx ps 0 h) (ms : Nat) : ∀ k, ps.length - k < ms → k ≤ ps.length → ∀ r, r < 2 ^ 31 → mkF ps (nI a) = (pcAt (ps.drop k) r).map (fun q => (q.1 + k, q.2)) → Ev l G 1 0 0 mX11_pieceAt 4 [.ref MO, .int (nI a), .int (nI r), .int (nI k)] [] h (fun x h' => (mkF ps (nI a) = none ∧ x = some (.int (-1)) ∧ h' = h) ∨ (∃ j r p, mkF ps (nI a) = some (j, r) ∧ ps[j]? = some p ∧ r < (shP p).length ∧ x = some (.int (nI j)) ∧ h' = sI h 819 MO (nI r))) := by
  have n0_ := t_.1
  induction ms with
  | zero => intro k hk; omega
  | succ ms ih_ =>
    intro k hk1_ hk2_ r hr_ hv_
    by_cases z_ : k = ps.length
    · subst z_
      refine Ev_iload_n dX11_pieceAt_4 rfl ?_
      refine Ev_aload_n dX11_pieceAt_5 rfl (by first | exact Or.inr ⟨_, rfl⟩ | exact rv_or _ | exact Or.inl rfl) ?_
      refine Ev_getA dX11_pieceAt_6 fX11_56 rf.1 (rr_pieces rf) ?_
      refine Ev_iconst (v := nI 0) dX11_pieceAt_9 (by decide) ?_
      refine Ev_ialdE _ dX11_pieceAt_10 (rk_pieces rf) (rl_pieces rf) (hi_n (by omega)) (by omega) t_.2.2.1 ?_
      refine Ev_icmp_geN 48 dX11_pieceAt_11 (by decide) (by omega) (by omega) (fun zb11_ => ?_) (fun zb11_ => ?_)
      · refine Ev_iconst (v := -1) dX11_pieceAt_48 (by decide) ?_
        refine Ev_iret dX11_pieceAt_49 rfl ?_
        refine Or.inl ⟨?_, rfl, rfl⟩
        rw [hv_, List.drop_length]; rfl
      · exact False.elim (by omega)
    have il_ : k < ps.length := by omega
    obtain ⟨p, hp_⟩ : ∃ p, ps[k]? = some p := ⟨_, List.getElem?_eq_getElem il_⟩
    obtain ⟨bp_, rp_⟩ := t_.2.2.2.1 k p hp_
    rw [show 250 * 0 + k = k by omega] at rp_
    have sl_ := sh_le bp_
    refine Ev_iload_n dX11_pieceAt_4 rfl ?_
    refine Ev_aload_n dX11_pieceAt_5 rfl (by first | exact Or.inr ⟨_, rfl⟩ | exact rv_or _ | exact Or.inl rfl) ?_
    refine Ev_getA dX11_pieceAt_6 fX11_56 rf.1 (rr_pieces rf) ?_
    refine Ev_iconst (v := nI 0) dX11_pieceAt_9 (by decide) ?_
    refine Ev_ialdE _ dX11_pieceAt_10 (rk_pieces rf) (rl_pieces rf) (hi_n (by omega)) (by omega) t_.2.2.1 ?_
    refine Ev_icmp_geN 48 dX11_pieceAt_11 (by decide) (by omega) (by omega) (fun zb11_ => ?_) (fun zb11_ => ?_)
    · exact False.elim (by omega)
    · refine Ev_iload_n dX11_pieceAt_14 rfl ?_
      refine Ev_if_ltT 48 dX11_pieceAt_15 (by decide) (fun zb15_ => ?_) (fun zb15_ => ?_)
      · exact absurd zb15_ (by rw [hi_n (by omega)]; omega)
      · refine Ev_iload_n dX11_pieceAt_18 rfl ?_
        refine Ev_aload_n dX11_pieceAt_19 rfl (by first | exact Or.inr ⟨_, rfl⟩ | exact rv_or _ | exact Or.inl rfl) ?_
        refine Ev_iload_n dX11_pieceAt_20 rfl ?_
        refine Ev_V0 [.int (nI k)] dX11_pieceAt_21 vX11_shownLong kX11_266 rf.1 rfl rfl rfl (Nat.le_of_ble_eq_true rfl) (by omega) (ev_shownLong l G k (by omega) h rf) ?_
        rw [shL_eq bp_ rp_]
        refine Ev_icmp_geN 34 dX11_pieceAt_24 (by decide) (by omega) (by omega) (fun zb24_ => ?_) (fun zb24_ => ?_)
        · refine Ev_iload_n dX11_pieceAt_34 rfl ?_
          refine Ev_aload_n dX11_pieceAt_35 rfl (by first | exact Or.inr ⟨_, rfl⟩ | exact rv_or _ | exact Or.inl rfl) ?_
          refine Ev_iload_n dX11_pieceAt_36 rfl ?_
          refine Ev_V0 [.int (nI k)] dX11_pieceAt_37 vX11_shownLong kX11_266 rf.1 rfl rfl rfl (Nat.le_of_ble_eq_true rfl) (by omega) (ev_shownLong l G k (by omega) h rf) ?_
          rw [shL_eq bp_ rp_]
          refine Ev_isubN dX11_pieceAt_40 (by omega) ?_
          refine Ev_istore_n dX11_pieceAt_41 (by decide) ?_
          refine Ev_iincN 1 dX11_pieceAt_42 (by decide) (by decide) rfl ?_
          refine Ev_goto 4 dX11_pieceAt_45 (by decide) ?_
          refine ih_ (k + 1) (by omega) (by omega) (r - (shP p).length) (by omega) ?_
          rw [hv_, drop_ps hp_]
          show (if r < (shP p).length then some (0, r) else (pcAt (ps.drop (k + 1)) (r - (shP p).length)).map (fun q => (q.1 + 1, q.2))).map _ = _
          rw [if_neg (by omega), Option.map_map]
          congr 1
          funext q
          show (q.1 + 1 + k, q.2) = (q.1 + (k + 1), q.2)
          rw [Nat.add_assoc, Nat.add_comm 1 k]
        · refine Ev_aload_n dX11_pieceAt_27 rfl (by first | exact Or.inr ⟨_, rfl⟩ | exact rv_or _ | exact Or.inl rfl) ?_
          refine Ev_iload_n dX11_pieceAt_28 rfl ?_
          refine Ev_putI dX11_pieceAt_29 fX11_284 ⟨_, rfl, Or.inl rfl⟩ (Or.inl rfl) rf.1 ?_
          refine Ev_iload_n dX11_pieceAt_32 rfl ?_
          refine Ev_iret dX11_pieceAt_33 rfl ?_
          refine Or.inr ⟨k, r, p, ?_, hp_, by omega, rfl, rfl⟩
          rw [hv_, drop_ps hp_]
          show (if r < (shP p).length then some (0, r) else _).map _ = _
          rw [if_pos (by omega)]
          show some (0 + k, r) = _
          rw [Nat.zero_add]
theorem ev_pieceAt (l : Launch) (G : aG) (a_ : Int32) (ps : List Pc) (h : aH) (rf : Rf h) (t_ : RTx ps 0 h) : Ev l G 1 0 0 mX11_pieceAt 0 (en 4 [.ref MO, .int a_]) [] h (fun x h' => (mkF ps a_ = none ∧ x = some (.int (-1)) ∧ h' = h) ∨ (∃ j r p, mkF ps a_ = some (j, r) ∧ ps[j]? = some p ∧ r < (shP p).length ∧ x = some (.int (nI j)) ∧ h' = sI h 819 MO (nI r))) := by
  have n0_ := t_.1
  by_cases hz_ : 0 ≤ a_.toInt
  · obtain ⟨a, ha_, rfl⟩ : ∃ a : Nat, a < 2 ^ 31 ∧ a_ = nI a := nI_of (fun z => by have := Int32.lt_iff_toInt_lt.mp z; have e0 : (0 : Int32).toInt = 0 := (by decide); omega)
    refine Ev_iload_n dX11_pieceAt_0 rfl ?_
    refine Ev_istore_n dX11_pieceAt_1 (by decide) ?_
    refine Ev_iconst (v := nI 0) dX11_pieceAt_2 (by decide) ?_
    refine Ev_istore_n dX11_pieceAt_3 (by decide) ?_
    refine ev_pieceAt_l l G a (by omega) ps h rf t_ 251 0 (by omega) (by omega) a (by omega) ?_
    unfold mkF
    rw [hi_n (by omega), if_pos (by omega), List.drop_zero, Int.toNat_natCast]
    cases pcAt ps a with
    | none => rfl
    | some q => rfl
  · have hz2_ : a_.toInt < 0 := by omega
    refine Ev_iload_n dX11_pieceAt_0 rfl ?_
    refine Ev_istore_n dX11_pieceAt_1 (by decide) ?_
    refine Ev_iconst (v := nI 0) dX11_pieceAt_2 (by decide) ?_
    refine Ev_istore_n dX11_pieceAt_3 (by decide) ?_
    refine Ev_iload_n dX11_pieceAt_4 rfl ?_
    refine Ev_aload_n dX11_pieceAt_5 rfl (by first | exact Or.inr ⟨_, rfl⟩ | exact rv_or _ | exact Or.inl rfl) ?_
    refine Ev_getA dX11_pieceAt_6 fX11_56 rf.1 (rr_pieces rf) ?_
    refine Ev_iconst (v := nI 0) dX11_pieceAt_9 (by decide) ?_
    refine Ev_ialdE _ dX11_pieceAt_10 (rk_pieces rf) (rl_pieces rf) (hi_n (by omega)) (by omega) t_.2.2.1 ?_
    refine Ev_icmp_geN 48 dX11_pieceAt_11 (by decide) (by omega) (by omega) (fun zb11_ => ?_) (fun zb11_ => ?_)
    · refine Ev_iconst (v := -1) dX11_pieceAt_48 (by decide) ?_
      refine Ev_iret dX11_pieceAt_49 rfl ?_
      refine Or.inl ⟨?_, rfl, rfl⟩
      unfold mkF
      rw [if_neg (by omega)]
    · refine Ev_iload_n dX11_pieceAt_14 rfl ?_
      refine Ev_if_ltT 48 dX11_pieceAt_15 (by decide) (fun zb15_ => ?_) (fun zb15_ => ?_)
      · refine Ev_iconst (v := -1) dX11_pieceAt_48 (by decide) ?_
        refine Ev_iret dX11_pieceAt_49 rfl ?_
        refine Or.inl ⟨?_, rfl, rfl⟩
        unfold mkF
        rw [if_neg (by omega)]
      · exact absurd (by omega) zb15_
theorem ev_maker (l : Launch) (G : aG) (a_ : Int32) (ps : List Pc) (h : aH) (rf : Rf h) (t_ : RTx ps 0 h) : Ev l G 2 0 0 mX11_maker 0 (en 2 [.ref MO, .int a_]) [] h (fun x h' => x = some (.int (makerF ps a_)) ∧ Fr [819] [] h h') := by
  refine Ev_aload_n dX11_maker_0 rfl (by first | exact Or.inr ⟨_, rfl⟩ | exact rv_or _ | exact Or.inl rfl) ?_
  refine Ev_iload_n dX11_maker_1 rfl ?_
  refine Ev_Vz [.int a_] dX11_maker_2 vX11_pieceAt kX11_287 rf.1 rfl rfl rfl (Nat.le_of_ble_eq_true rfl) (by omega) (ev_pieceAt l G a_ ps h rf t_) (fun v_ h1 e_ => ?_)
  obtain ⟨em_, rfl, rfl⟩ | ⟨j, r, p, em_, hp_, hr_, rfl, rfl⟩ := e_
  · refine Ev_iret dX11_maker_5 rfl ?_
    refine ⟨?_, Fr.rf⟩
    unfold makerF; rw [em_]; rfl
  · refine Ev_iret dX11_maker_5 rfl ?_
    refine ⟨?_, Fr.int (by decide)⟩
    unfold makerF; rw [em_]; rfl
theorem ev_text (l : Launch) (G : aG) (a_ : Int32) (ps : List Pc) (h : aH) (rf : Rf h) (t_ : RTx ps 0 h) : Ev l G 2 0 0 mX11_text 0 (en 3 [.ref MO, .int a_]) [] h (fun x h' => x = some (.int (textF ps a_)) ∧ Fr [819] [] h h') := by
  have n0_ := t_.1
  refine Ev_aload_n dX11_text_0 rfl (by first | exact Or.inr ⟨_, rfl⟩ | exact rv_or _ | exact Or.inl rfl) ?_
  refine Ev_iload_n dX11_text_1 rfl ?_
  refine Ev_Vz [.int a_] dX11_text_2 vX11_pieceAt kX11_287 rf.1 rfl rfl rfl (Nat.le_of_ble_eq_true rfl) (by omega) (ev_pieceAt l G a_ ps h rf t_) (fun v_ h1 e_ => ?_)
  obtain ⟨em_, rfl, rfl⟩ | ⟨j, r, p, em_, hp_, hr_, rfl, rfl⟩ := e_
  · refine Ev_istore_n dX11_text_5 (by decide) ?_
    refine Ev_iload_n dX11_text_6 rfl ?_
    refine Ev_if_geT 14 dX11_text_7 (by decide) (fun zb7_ => ?_) (fun zb7_ => ?_)
    · exact absurd zb7_ (by decide)
    · refine Ev_iconst (v := -1) dX11_text_10 (by decide) ?_
      refine Ev_goto 23 dX11_text_11 (by decide) ?_
      refine Ev_iret dX11_text_23 rfl ?_
      refine ⟨?_, Fr.rf⟩
      unfold textF; rw [em_]
  · have jl_ := (List.getElem?_eq_some_iff.mp hp_).1
    refine Ev_istore_n dX11_text_5 (by decide) ?_
    refine Ev_iload_n dX11_text_6 rfl ?_
    refine Ev_if_geT 14 dX11_text_7 (by decide) (fun zb7_ => ?_) (fun zb7_ => ?_)
    · refine Ev_aload_n dX11_text_14 rfl (by first | exact Or.inr ⟨_, rfl⟩ | exact rv_or _ | exact Or.inl rfl) ?_
      refine Ev_iload_n dX11_text_15 rfl ?_
      refine Ev_aload_n dX11_text_16 rfl (by first | exact Or.inr ⟨_, rfl⟩ | exact rv_or _ | exact Or.inl rfl) ?_
      refine Ev_getE dX11_text_17 fX11_284 rf.1 (hI_s _ _ _ _) ?_
      have sp_ := ev_shownP l G ps 0 j r p (sI h 819 MO (nI r)) rf (t_.fr (Fr.int (ks := [819]) (as := []) (by decide)) (by decide)) (by omega) hp_ hr_
      rw [show 250 * 0 + j = j by omega] at sp_
      refine Ev_V0 [.int (nI j), .int (nI r)] dX11_text_20 vX11_shown kX11_269 rf.1 rfl rfl rfl (Nat.le_of_ble_eq_true rfl) (by omega) sp_ ?_
      refine Ev_iret dX11_text_23 rfl ?_
      refine ⟨?_, Fr.int (by decide)⟩
      unfold textF; rw [em_]
      show _ = some (Value.int (match ps[j]? with
        | none => -1
        | some p => (shP p).getD r 0))
      rw [hp_]
    · exact absurd (show (0 : Int) ≤ _ by rw [hi_n (by omega)]; omega) zb7_
def shN (ps : List Pc) : Nat := (ps.map (fun p => (shP p).length)).sum
def clN (ps : List Pc) : Nat := (ps.filter clB).length
theorem shN_add {ps : List Pc} {p : Pc} : shN (ps ++ [p]) = shN ps + (shP p).length := by simp [shN]
theorem clN_add {ps : List Pc} {p : Pc} : clN (ps ++ [p]) = clN ps + (if clB p = true then 1 else 0) := by
  unfold clN
  rw [List.filter_append, List.length_append]
  by_cases h : clB p = true
  · simp [h]
  · simp [h]
theorem shN_le {ps : List Pc} (h : ∀ p ∈ ps, (shP p).length ≤ 120) : shN ps ≤ 120 * ps.length := by
  induction ps with
  | nil => simp [shN]
  | cons p ps ih_ =>
    have h1 := h p List.mem_cons_self
    have h2 := ih_ (fun q hq => h q (List.mem_cons_of_mem _ hq))
    have e : shN (p :: ps) = (shP p).length + shN ps := by simp [shN]
    rw [e, List.length_cons]
    omega
def aboutF (m : Md) (ru : Nat → List It) (ps : List Pc) (nl fa nt : Nat) (w : Int) : Int32 := if 10 ≤ w ∧ w ≤ 17 then nI (ru (w - 10).toNat).length else if w = 0 then nI (mCnt m) else if w = 1 then nI ps.length else if w = 2 then nI (shN ps) else if w = 3 then nI (clN ps) else if w = 4 then nI nl else if w = 5 then nI fa else if w = 6 then nI nt else -1
theorem t17 : (nI 17).toInt = 17 := by decide
theorem ev_about_l (l : Launch) (G : aG) (wh : Int32) (ps : List Pc) (h : aH) (rf : Rf h) (t_ : RTx ps 0 h) {Q : Option Value → aH → Prop} (kk_ : Ev l G 1 0 0 mX11_about 72 [.ref MO, .int wh, .int (nI (shN ps)), .int (nI (clN ps)), .int (nI ps.length)] [] h Q) (ms : Nat) : ∀ k, ps.length - k < ms → k ≤ ps.length → Ev l G 1 0 0 mX11_about 28 [.ref MO, .int wh, .int (nI (shN (ps.take k))), .int (nI (clN (ps.take k))), .int (nI k)] [] h Q := by
  have n0_ := t_.1
  induction ms with
  | zero => intro k hk; omega
  | succ ms ih_ =>
    intro k hk1_ hk2_
    by_cases z_ : k = ps.length
    · subst z_
      rw [List.take_length]
      refine Ev_iload dX11_about_28 rfl ?_
      refine Ev_aload_n dX11_about_30 rfl (by first | exact Or.inr ⟨_, rfl⟩ | exact rv_or _ | exact Or.inl rfl) ?_
      refine Ev_getA dX11_about_31 fX11_56 rf.1 (rr_pieces rf) ?_
      refine Ev_iconst (v := nI 0) dX11_about_34 (by decide) ?_
      refine Ev_ialdE _ dX11_about_35 (rk_pieces rf) (rl_pieces rf) (hi_n (by omega)) (by omega) t_.2.2.1 ?_
      refine Ev_icmp_geN 72 dX11_about_36 (by decide) (by omega) (by omega) (fun zb36_ => ?_) (fun zb36_ => ?_)
      · exact kk_
      · exact False.elim (by omega)
    have il_ : k < ps.length := by omega
    obtain ⟨p, hp_⟩ : ∃ p, ps[k]? = some p := ⟨_, List.getElem?_eq_getElem il_⟩
    obtain ⟨bp_, rp_⟩ := t_.2.2.2.1 k p hp_
    rw [show 250 * 0 + k = k by omega] at rp_
    have es_ : shN (ps.take (k + 1)) = shN (ps.take k) + (shP p).length := by rw [take_ps hp_, shN_add]
    refine Ev_iload dX11_about_28 rfl ?_
    refine Ev_aload_n dX11_about_30 rfl (by first | exact Or.inr ⟨_, rfl⟩ | exact rv_or _ | exact Or.inl rfl) ?_
    refine Ev_getA dX11_about_31 fX11_56 rf.1 (rr_pieces rf) ?_
    refine Ev_iconst (v := nI 0) dX11_about_34 (by decide) ?_
    refine Ev_ialdE _ dX11_about_35 (rk_pieces rf) (rl_pieces rf) (hi_n (by omega)) (by omega) t_.2.2.1 ?_
    refine Ev_icmp_geN 72 dX11_about_36 (by decide) (by omega) (by omega) (fun zb36_ => ?_) (fun zb36_ => ?_)
    · exact False.elim (by omega)
    · refine Ev_iload_n dX11_about_39 rfl ?_
      refine Ev_aload_n dX11_about_40 rfl (by first | exact Or.inr ⟨_, rfl⟩ | exact rv_or _ | exact Or.inl rfl) ?_
      refine Ev_iload dX11_about_41 rfl ?_
      refine Ev_V0 [.int (nI k)] dX11_about_43 vX11_shownLong kX11_266 rf.1 rfl rfl rfl (Nat.le_of_ble_eq_true rfl) (by omega) (ev_shownLong l G k (by omega) h rf) ?_
      rw [shL_eq bp_ rp_]
      refine Ev_iaddN dX11_about_46 ?_
      refine Ev_istore_n dX11_about_47 (by decide) ?_
      refine Ev_iload_n dX11_about_48 rfl ?_
      refine Ev_aload_n dX11_about_49 rfl (by first | exact Or.inr ⟨_, rfl⟩ | exact rv_or _ | exact Or.inl rfl) ?_
      refine Ev_getA dX11_about_50 fX11_102 rf.1 (rr_clash rf) ?_
      refine Ev_iload dX11_about_53 rfl ?_
      refine Ev_zaldE _ dX11_about_55 (rk_clash rf) (rl_clash rf) (hi_n (by omega)) (by omega) rp_.2.2.2.2.1 ?_
      refine Ev_if_eqB 63 dX11_about_56 (by decide) (fun zb56_ => ?_) (fun zb56_ => ?_)
      · have ec_ : clN (ps.take (k + 1)) = clN (ps.take k) + 0 := by rw [take_ps hp_, clN_add, zb56_]; rfl
        refine Ev_iconst (v := nI 0) dX11_about_63 (by decide) ?_
        refine Ev_iaddN dX11_about_64 ?_
        refine Ev_istore_n dX11_about_65 (by decide) ?_
        refine Ev_iincN 1 dX11_about_66 (by decide) (by decide) rfl ?_
        refine Ev_goto 28 dX11_about_69 (by decide) ?_
        rw [← ec_, ← es_]
        exact ih_ (k + 1) (by omega) (by omega)
      · have ec_ : clN (ps.take (k + 1)) = clN (ps.take k) + 1 := by rw [take_ps hp_, clN_add, zb56_]; rfl
        refine Ev_iconst (v := nI 1) dX11_about_59 (by decide) ?_
        refine Ev_goto 64 dX11_about_60 (by decide) ?_
        refine Ev_iaddN dX11_about_64 ?_
        refine Ev_istore_n dX11_about_65 (by decide) ?_
        refine Ev_iincN 1 dX11_about_66 (by decide) (by decide) rfl ?_
        refine Ev_goto 28 dX11_about_69 (by decide) ?_
        rw [← ec_, ← es_]
        exact ih_ (k + 1) (by omega) (by omega)
theorem ev_about (l : Launch) (G : aG) (wh : Int32) (m : Md) (ru : Nat → List It) (tp : List Int32) (ps : List Pc) (ln : List (List Int32 × Nat × Nat)) (fa : Nat) (h : aH) (rf : Rf h) (rm : RM m h) (ru_ : RRu ru h) (rt_ : RTp tp h) (t_ : RTx ps 0 h) (rl_ : RLn ln fa h) : Ev l G 1 0 0 mX11_about 0 (en 5 [.ref MO, .int wh]) [] h (Ex (some (.int (aboutF m ru ps ln.length fa tp.length wh.toInt))) h) := by
  have n0_ := t_.1
  refine Ev_iload_n dX11_about_0 rfl ?_
  refine Ev_bipush (v := nI 10) dX11_about_1 (by decide) ?_
  refine Ev_bipush (v := nI 17) dX11_about_3 (by decide) ?_
  refine Ev_S0 [.int wh, .int (nI 10), .int (nI 17)] dX11_about_5 sX11_isIn kX11_130 rfl rfl rfl (Nat.le_of_ble_eq_true rfl) (by omega) (ev_isIn l G _ _ _ _) ?_
  refine Ev_if_eqB 21 dX11_about_8 (by decide) (fun zb8_ => ?_) (fun zb8_ => ?_)
  · have zi_ := inB_f t10 t17 zb8_
    refine Ev_iconst (v := nI 0) dX11_about_21 (by decide) ?_
    refine Ev_istore_n dX11_about_22 (by decide) ?_
    refine Ev_iconst (v := nI 0) dX11_about_23 (by decide) ?_
    refine Ev_istore_n dX11_about_24 (by decide) ?_
    refine Ev_iconst (v := nI 0) dX11_about_25 (by decide) ?_
    refine Ev_istore dX11_about_26 (by decide) ?_
    refine ev_about_l l G wh ps h rf t_ ?_ 251 0 (by omega) (by omega)
    refine Ev_iload_n dX11_about_72 rfl ?_
    by_cases zs_ : wh.toInt < 0 ∨ 6 < wh.toInt
    · refine Ev_tableOut 147 dX11_about_73 zs_ (by decide) ?_
      refine Ev_iconst (v := -1) dX11_about_147 (by decide) ?_
      refine Ev_iret dX11_about_148 rfl ?_
      refine ⟨?_, rfl⟩
      unfold aboutF
      rw [if_neg (by omega)]
      rw [if_neg (by omega), if_neg (by omega), if_neg (by omega), if_neg (by omega), if_neg (by omega), if_neg (by omega), if_neg (by omega)]
    · rcases (show wh.toInt = 0 ∨ wh.toInt = 1 ∨ wh.toInt = 2 ∨ wh.toInt = 3 ∨ wh.toInt = 4 ∨ wh.toInt = 5 ∨ wh.toInt = 6 by omega) with zw_ | zw_ | zw_ | zw_ | zw_ | zw_ | zw_
      · refine Ev_tableIn (off := 43) 116 dX11_about_73 (by rw [zw_]; decide) (by rw [zw_]; decide) (by rw [zw_]; rfl) (by decide) ?_
        refine Ev_aload_n dX11_about_116 rfl (by first | exact Or.inr ⟨_, rfl⟩ | exact rv_or _ | exact Or.inl rfl) ?_
        refine Ev_getE dX11_about_117 fX11_153 rf.1 rm.2.2.2.2.1 ?_
        refine Ev_iret dX11_about_120 rfl ?_
        refine ⟨?_, rfl⟩
        unfold aboutF
        rw [if_neg (by omega)]
        rw [zw_]; rfl
      · refine Ev_tableIn (off := 48) 121 dX11_about_73 (by rw [zw_]; decide) (by rw [zw_]; decide) (by rw [zw_]; rfl) (by decide) ?_
        refine Ev_aload_n dX11_about_121 rfl (by first | exact Or.inr ⟨_, rfl⟩ | exact rv_or _ | exact Or.inl rfl) ?_
        refine Ev_getA dX11_about_122 fX11_56 rf.1 (rr_pieces rf) ?_
        refine Ev_iconst (v := nI 0) dX11_about_125 (by decide) ?_
        refine Ev_ialdE _ dX11_about_126 (rk_pieces rf) (rl_pieces rf) (hi_n (by omega)) (by omega) t_.2.2.1 ?_
        refine Ev_iret dX11_about_127 rfl ?_
        refine ⟨?_, rfl⟩
        unfold aboutF
        rw [if_neg (by omega)]
        rw [zw_]; rfl
      · refine Ev_tableIn (off := 55) 128 dX11_about_73 (by rw [zw_]; decide) (by rw [zw_]; decide) (by rw [zw_]; rfl) (by decide) ?_
        refine Ev_iload_n dX11_about_128 rfl ?_
        refine Ev_iret dX11_about_129 rfl ?_
        refine ⟨?_, rfl⟩
        unfold aboutF
        rw [if_neg (by omega)]
        rw [zw_]; rfl
      · refine Ev_tableIn (off := 57) 130 dX11_about_73 (by rw [zw_]; decide) (by rw [zw_]; decide) (by rw [zw_]; rfl) (by decide) ?_
        refine Ev_iload_n dX11_about_130 rfl ?_
        refine Ev_iret dX11_about_131 rfl ?_
        refine ⟨?_, rfl⟩
        unfold aboutF
        rw [if_neg (by omega)]
        rw [zw_]; rfl
      · refine Ev_tableIn (off := 59) 132 dX11_about_73 (by rw [zw_]; decide) (by rw [zw_]; decide) (by rw [zw_]; rfl) (by decide) ?_
        refine Ev_aload_n dX11_about_132 rfl (by first | exact Or.inr ⟨_, rfl⟩ | exact rv_or _ | exact Or.inl rfl) ?_
        refine Ev_getE dX11_about_133 fX11_239 rf.1 rl_.2.1 ?_
        refine Ev_iret dX11_about_136 rfl ?_
        refine ⟨?_, rfl⟩
        unfold aboutF
        rw [if_neg (by omega)]
        rw [zw_]; rfl
      · refine Ev_tableIn (off := 64) 137 dX11_about_73 (by rw [zw_]; decide) (by rw [zw_]; decide) (by rw [zw_]; rfl) (by decide) ?_
        refine Ev_aload_n dX11_about_137 rfl (by first | exact Or.inr ⟨_, rfl⟩ | exact rv_or _ | exact Or.inl rfl) ?_
        refine Ev_getE dX11_about_138 fX11_245 rf.1 rl_.2.2.1 ?_
        refine Ev_iret dX11_about_141 rfl ?_
        refine ⟨?_, rfl⟩
        unfold aboutF
        rw [if_neg (by omega)]
        rw [zw_]; rfl
      · refine Ev_tableIn (off := 69) 142 dX11_about_73 (by rw [zw_]; decide) (by rw [zw_]; decide) (by rw [zw_]; rfl) (by decide) ?_
        refine Ev_aload_n dX11_about_142 rfl (by first | exact Or.inr ⟨_, rfl⟩ | exact rv_or _ | exact Or.inl rfl) ?_
        refine Ev_getE dX11_about_143 fX11_134 rf.1 rt_.2.1 ?_
        refine Ev_iret dX11_about_146 rfl ?_
        refine ⟨?_, rfl⟩
        unfold aboutF
        rw [if_neg (by omega)]
        rw [zw_]; rfl
  · have zi_ := inB_t t10 t17 zb8_
    obtain ⟨w, hw_, rfl⟩ := as_nI (n := 17) (x := wh) (by omega) (by omega)
    rw [hi_n (by omega)] at zi_
    refine Ev_aload_n dX11_about_11 rfl (by first | exact Or.inr ⟨_, rfl⟩ | exact rv_or _ | exact Or.inl rfl) ?_
    refine Ev_getA dX11_about_12 fX11_31 rf.1 (rr_items rf) ?_
    refine Ev_iload_n dX11_about_15 rfl ?_
    refine Ev_bipush (v := nI 10) dX11_about_16 (by decide) ?_
    refine Ev_isubN dX11_about_18 (by omega) ?_
    refine Ev_ialdE _ dX11_about_19 (rk_items rf) (rl_items rf) (hi_n (by omega)) (by omega) (ru_ (w - 10) (by omega)).2.1 ?_
    refine Ev_iret dX11_about_20 rfl ?_
    refine ⟨?_, rfl⟩
    unfold aboutF
    rw [hi_n (by omega), if_pos (by omega), show ((w : Int) - 10).toNat = w - 10 by omega]
