theorem ec_shownBefore_l (l : Launch) (G : aG) (n : Nat) (g : Gh) (T : Nat) (ps : List Pc) (h : aH) (cf : Cf h) (hT : T = 18 ∨ T = 21) (tx : CTx g T ps h) (hn : n ≤ ps.length) (ms : Nat) : ∀ k, n - k < ms → k ≤ n → Ev l G 1 0 0 mX8_shownBefore 4 [.ref T, .int (nI n), .int (nI (shN (ps.take k))), .int (nI k)] [] h (Ex (some (.int (nI (shN (ps.take n))))) h) := by
  have tf_ := tx_f cf hT
  have n250_ := tx.2.1
  induction ms with
  | zero => intro k hk; omega
  | succ ms ih_ =>
    intro k hk1_ hk2_
    refine Ev_iload_n dX8_shownBefore_4 rfl ?_
    refine Ev_iload_n dX8_shownBefore_5 rfl ?_
    refine Ev_icmp_geN 35 dX8_shownBefore_6 (by decide) (by omega) (by omega) (fun zb6_ => ?_) (fun zb6_ => ?_)
    · refine Ev_iload_n dX8_shownBefore_35 rfl ?_
      refine Ev_iret dX8_shownBefore_36 rfl ?_
      exact ⟨by rw [show n = k by omega], rfl⟩
    · obtain ⟨p, hp_⟩ : ∃ p, ps[k]? = some p := ⟨_, List.getElem?_eq_getElem (by omega)⟩
      obtain ⟨q, hy_, -, cp_⟩ := tx.p hp_
      refine Ev_iload_n dX8_shownBefore_9 rfl ?_
      refine Ev_aload_n dX8_shownBefore_10 rfl (by first | exact Or.inr ⟨_, rfl⟩ | exact rv_or _ | exact Or.inl rfl) ?_
      refine Ev_getE dX8_shownBefore_11 fX8_25 tf_.1 tx.2.2.2.1 ?_
      refine Ev_icmp_geN 35 dX8_shownBefore_14 (by decide) (by omega) (by omega) (fun zb14_ => ?_) (fun zb14_ => ?_)
      · exact False.elim (by omega)
      · refine Ev_iload_n dX8_shownBefore_17 rfl ?_
        refine Ev_aload_n dX8_shownBefore_18 rfl (by first | exact Or.inr ⟨_, rfl⟩ | exact rv_or _ | exact Or.inl rfl) ?_
        refine Ev_getA dX8_shownBefore_19 fX8_11 tf_.1 tf_.2.1 ?_
        refine Ev_iload_n dX8_shownBefore_22 rfl ?_
        refine Ev_aald k dX8_shownBefore_23 tf_.2.2.2.1.1 (by omega) (by omega) (hi_n (by omega)) (by rw [tf_.2.2.2.1.2]; omega) ?_
        rw [hy_]
        refine Ev_top (y := .ref q) rfl ?_
        refine Ev_V0 [] dX8_shownBefore_24 vX5_shownLength kX8_91 cp_.1.1 rfl rfl rfl (Nat.le_of_ble_eq_true rfl) (by omega) (ec_shownLength l G g T q p h cp_) ?_
        refine Ev_iaddN dX8_shownBefore_27 ?_
        refine Ev_istore_n dX8_shownBefore_28 (by decide) ?_
        refine Ev_iincN 1 dX8_shownBefore_29 (by decide) (by decide) rfl ?_
        refine Ev_goto 4 dX8_shownBefore_32 (by decide) ?_
        have e_ : shN (ps.take (k + 1)) = shN (ps.take k) + (shP p).length := by rw [take_ps hp_, shN_add]
        have ih2_ := ih_ (k + 1) (by omega) (by omega)
        rw [e_] at ih2_
        exact ih2_
theorem ec_shownBefore (l : Launch) (G : aG) (n : Nat) (g : Gh) (T : Nat) (ps : List Pc) (h : aH) (cf : Cf h) (hT : T = 18 ∨ T = 21) (tx : CTx g T ps h) (hn : n ≤ ps.length) : Ev l G 1 0 0 mX8_shownBefore 0 (en 4 [.ref T, .int (nI n)]) [] h (Ex (some (.int (nI (shN (ps.take n))))) h) := by
  refine Ev_iconst (v := nI 0) dX8_shownBefore_0 (by decide) ?_
  refine Ev_istore_n dX8_shownBefore_1 (by decide) ?_
  refine Ev_iconst (v := nI 0) dX8_shownBefore_2 (by decide) ?_
  refine Ev_istore_n dX8_shownBefore_3 (by decide) ?_
  exact ec_shownBefore_l l G n g T ps h cf hT tx hn (n + 1) 0 (by omega) (by omega)
theorem ec_showing_l (l : Launch) (G : aG) (a : Nat) (ha : a < 2 ^ 31) (g : Gh) (T : Nat) (ps : List Pc) (h : aH) (cf : Cf h) (hT : T = 18 ∨ T = 21) (tx : CTx g T ps h) (ms : Nat) : ∀ k, ps.length - k < ms → k ≤ ps.length → ∀ r, r < 2 ^ 31 → a = shN (ps.take k) + r → mkF ps (nI a) = (pcAt (ps.drop k) r).map (fun q => (q.1 + k, q.2)) → ∀ v4_ : Value, Ev l G 1 0 0 mX8_showing 4 [.ref T, .int (nI a), .int (nI r), .int (nI k), v4_] [] h (fun x h' => h' = h ∧ ((mkF ps (nI a) = none ∧ x = some (.int (-1))) ∨ (∃ j r p, mkF ps (nI a) = some (j, r) ∧ ps[j]? = some p ∧ r < (shP p).length ∧ x = some (.int (nI j)) ∧ (nI a) = nI (shN (ps.take j) + r)))) := by
  have tf_ := tx_f cf hT
  have n250_ := tx.2.1
  induction ms with
  | zero => intro k hk; omega
  | succ ms ih_ =>
    intro k hk1_ hk2_ r hr_ ha_ hv_ v4_
    refine Ev_iload_n dX8_showing_4 rfl ?_
    refine Ev_aload_n dX8_showing_5 rfl (by first | exact Or.inr ⟨_, rfl⟩ | exact rv_or _ | exact Or.inl rfl) ?_
    refine Ev_getE dX8_showing_6 fX8_25 tf_.1 tx.2.2.2.1 ?_
    refine Ev_icmp_geN 46 dX8_showing_9 (by decide) (by omega) (by omega) (fun zb9_ => ?_) (fun zb9_ => ?_)
    · refine Ev_iconst (v := -1) dX8_showing_46 (by decide) ?_
      refine Ev_iret dX8_showing_47 rfl ?_
      refine ⟨rfl, Or.inl ⟨?_, rfl⟩⟩
      rw [hv_, List.drop_eq_nil_of_le (by omega)]; rfl
    · obtain ⟨p, hp_⟩ : ∃ p, ps[k]? = some p := ⟨_, List.getElem?_eq_getElem (by omega)⟩
      obtain ⟨q, hy_, -, cp_⟩ := tx.p hp_
      refine Ev_iload_n dX8_showing_12 rfl ?_
      refine Ev_if_ltT 46 dX8_showing_13 (by decide) (fun zb13_ => ?_) (fun zb13_ => ?_)
      · exact absurd zb13_ (by rw [hi_n (by omega)]; omega)
      · refine Ev_aload_n dX8_showing_16 rfl (by first | exact Or.inr ⟨_, rfl⟩ | exact rv_or _ | exact Or.inl rfl) ?_
        refine Ev_getA dX8_showing_17 fX8_11 tf_.1 tf_.2.1 ?_
        refine Ev_iload_n dX8_showing_20 rfl ?_
        refine Ev_aald k dX8_showing_21 tf_.2.2.2.1.1 (by omega) (by omega) (hi_n (by omega)) (by rw [tf_.2.2.2.1.2]; omega) ?_
        rw [hy_]
        refine Ev_top (y := .ref q) rfl ?_
        refine Ev_V0 [] dX8_showing_22 vX5_shownLength kX8_91 cp_.1.1 rfl rfl rfl (Nat.le_of_ble_eq_true rfl) (by omega) (ec_shownLength l G g T q p h cp_) ?_
        refine Ev_istore dX8_showing_25 (by decide) ?_
        refine Ev_iload_n dX8_showing_27 rfl ?_
        refine Ev_iload dX8_showing_28 rfl ?_
        refine Ev_icmp_geN 35 dX8_showing_30 (by decide) (by have := sh_le (tx.2.2.2.2.1 k p hp_).1; omega) (by have := sh_le (tx.2.2.2.2.1 k p hp_).1; omega) (fun zb30_ => ?_) (fun zb30_ => ?_)
        · refine Ev_iload_n dX8_showing_35 rfl ?_
          refine Ev_iload dX8_showing_36 rfl ?_
          refine Ev_isubN dX8_showing_38 (by omega) ?_
          refine Ev_istore_n dX8_showing_39 (by decide) ?_
          refine Ev_iincN 1 dX8_showing_40 (by decide) (by decide) rfl ?_
          refine Ev_goto 4 dX8_showing_43 (by decide) ?_
          refine ih_ (k + 1) (by omega) (by omega) (r - (shP p).length) (by omega) (by rw [take_ps hp_, shN_add]; omega) ?_ _
          rw [hv_, drop_ps hp_]
          show (if r < (shP p).length then some (0, r) else (pcAt (ps.drop (k + 1)) (r - (shP p).length)).map (fun q => (q.1 + 1, q.2))).map (fun q => (q.1 + k, q.2)) = _
          rw [if_neg (by omega), Option.map_map]
          congr 1
          funext q
          show (q.1 + 1 + k, q.2) = (q.1 + (k + 1), q.2)
          rw [Nat.add_assoc, Nat.add_comm 1 k]
        · refine Ev_iload_n dX8_showing_33 rfl ?_
          refine Ev_iret dX8_showing_34 rfl ?_
          refine ⟨rfl, Or.inr ⟨k, r, p, ?_, hp_, by omega, rfl, by rw [ha_]⟩⟩
          rw [hv_, drop_ps hp_]
          show (if r < (shP p).length then some (0, r) else (pcAt (ps.drop (k + 1)) (r - (shP p).length)).map (fun q => (q.1 + 1, q.2))).map (fun q => (q.1 + k, q.2)) = _
          rw [if_pos (by omega)]
          show some (0 + k, r) = _
          rw [Nat.zero_add]
theorem ec_showing (l : Launch) (G : aG) (v : Int32) (g : Gh) (T : Nat) (ps : List Pc) (h : aH) (cf : Cf h) (hT : T = 18 ∨ T = 21) (tx : CTx g T ps h) : Ev l G 1 0 0 mX8_showing 0 (en 5 [.ref T, .int v]) [] h (fun x h' => h' = h ∧ ((mkF ps v = none ∧ x = some (.int (-1))) ∨ (∃ j r p, mkF ps v = some (j, r) ∧ ps[j]? = some p ∧ r < (shP p).length ∧ x = some (.int (nI j)) ∧ v = nI (shN (ps.take j) + r)))) := by
  have tf_ := tx_f cf hT
  have n250_ := tx.2.1
  by_cases z_ : 0 ≤ v.toInt
  · obtain ⟨a, ha_, rfl⟩ := as_nI (n := 2147483647) z_ (by have := Int32.toInt_lt v; omega)
    refine Ev_iload_n dX8_showing_0 rfl ?_
    refine Ev_istore_n dX8_showing_1 (by decide) ?_
    refine Ev_iconst (v := nI 0) dX8_showing_2 (by decide) ?_
    refine Ev_istore_n dX8_showing_3 (by decide) ?_
    exact ec_showing_l l G a (by omega) g T ps h cf hT tx (ps.length + 1) 0 (by omega) (by omega) a (by omega) (by simp [shN]) (by unfold mkF; rw [hi_n (by omega), if_pos (by omega), Int.toNat_natCast, List.drop_zero]; simp) _
  · skip
    refine Ev_iload_n dX8_showing_0 rfl ?_
    refine Ev_istore_n dX8_showing_1 (by decide) ?_
    refine Ev_iconst (v := nI 0) dX8_showing_2 (by decide) ?_
    refine Ev_istore_n dX8_showing_3 (by decide) ?_
    refine Ev_iload_n dX8_showing_4 rfl ?_
    refine Ev_aload_n dX8_showing_5 rfl (by first | exact Or.inr ⟨_, rfl⟩ | exact rv_or _ | exact Or.inl rfl) ?_
    refine Ev_getE dX8_showing_6 fX8_25 tf_.1 tx.2.2.2.1 ?_
    refine Ev_icmp_geN 46 dX8_showing_9 (by decide) (by omega) (by omega) (fun zb9_ => ?_) (fun zb9_ => ?_)
    · refine Ev_iconst (v := -1) dX8_showing_46 (by decide) ?_
      refine Ev_iret dX8_showing_47 rfl ?_
      exact ⟨rfl, Or.inl ⟨if_neg z_, rfl⟩⟩
    · refine Ev_iload_n dX8_showing_12 rfl ?_
      refine Ev_if_ltT 46 dX8_showing_13 (by decide) (fun zb13_ => ?_) (fun zb13_ => ?_)
      · refine Ev_iconst (v := -1) dX8_showing_46 (by decide) ?_
        refine Ev_iret dX8_showing_47 rfl ?_
        exact ⟨rfl, Or.inl ⟨if_neg z_, rfl⟩⟩
      · exact absurd zb13_ (by omega)
theorem ec_madeIs_0 (l : Launch) (G : aG) (d k T q r : Nat) (xs : List Int32) (h : aH) (hx_ : xs.length ≤ 120) (hk_ : k ≤ 200) (ow : Ow) (ir_ : IR ow r xs h) : Ev l G d 0 0 mX8_madeIs 18 [.ref T, .ref q, .ref r, .int (nI 0), .int (nI k)] [] h (Ex (some (.int (bI false))) h) := by
  refine Ev_iload dX8_madeIs_18 rfl ?_
  refine Ev_aload_n dX8_madeIs_20 rfl (by first | exact Or.inr ⟨_, rfl⟩ | exact rv_or _ | exact Or.inl rfl) ?_
  refine Ev_alen dX8_madeIs_21 ir_.1 (by omega) (by omega) ?_
  rw [ir_.2.1]
  refine Ev_icmp_geN 55 dX8_madeIs_22 (by decide) (by omega) (by omega) (fun zb22_ => ?_) (fun zb22_ => ?_)
  · refine Ev_iload_n dX8_madeIs_55 rfl ?_
    refine Ev_zret dX8_madeIs_56 rfl (by decide) ?_
    exact ⟨rfl, rfl⟩
  · refine Ev_iload_n dX8_madeIs_25 rfl ?_
    refine Ev_if_eqT 55 dX8_madeIs_26 (by decide) (fun zb26_ => ?_) (fun zb26_ => ?_)
    · refine Ev_iload_n dX8_madeIs_55 rfl ?_
      refine Ev_zret dX8_madeIs_56 rfl (by decide) ?_
      exact ⟨rfl, rfl⟩
    · exact absurd t0 zb26_
theorem elO_n {xs : List Int32} {k : Nat} (h1 : k < xs.length) (h2 : k < 1000) : elO xs (nI k).toInt = xs.getD k 0 := by
  unfold elO
  rw [hi_n (by omega), if_pos ⟨by omega, by omega⟩, Int.toNat_natCast]
theorem ext32 {xs ys : List Int32} (h1 : xs.length = ys.length) (h2 : ∀ k, k < xs.length → xs.getD k 0 = ys.getD k 0) : xs = ys := by
  apply List.ext_getElem h1
  intro k a b
  have := h2 k a
  rw [List.getD_eq_getElem?_getD, List.getD_eq_getElem?_getD, List.getElem?_eq_getElem a, List.getElem?_eq_getElem b] at this
  exact this
theorem ec_madeIs_l (l : Launch) (G : aG) (r : Nat) (xs : List Int32) (hx_ : xs.length ≤ 120) (g : Gh) (T q : Nat) (p : Pc) (h : aH) (cp : CP1 g T q p h) (cf : Cf h) (hT : T = 18 ∨ T = 21) (ir_ : IR (wO g) r xs h) (el_ : (pcM p).length = xs.length) (ms : Nat) : ∀ k, xs.length - k < ms → k ≤ xs.length → (∀ j, j < k → (pcM p).getD j 0 = xs.getD j 0) → Ev l G 2 0 0 mX8_madeIs 18 [.ref T, .ref q, .ref r, .int (nI 1), .int (nI k)] [] h (Ex (some (.int (bI (decide (pcM p = xs))))) h) := by
  have tf_ := tx_f cf hT
  induction ms with
  | zero => intro k hk; omega
  | succ ms ih_ =>
    intro k hk1_ hk2_ hq_
    refine Ev_iload dX8_madeIs_18 rfl ?_
    refine Ev_aload_n dX8_madeIs_20 rfl (by first | exact Or.inr ⟨_, rfl⟩ | exact rv_or _ | exact Or.inl rfl) ?_
    refine Ev_alen dX8_madeIs_21 ir_.1 (by omega) (by omega) ?_
    rw [ir_.2.1]
    refine Ev_icmp_geN 55 dX8_madeIs_22 (by decide) (by omega) (by omega) (fun zb22_ => ?_) (fun zb22_ => ?_)
    · refine Ev_iload_n dX8_madeIs_55 rfl ?_
      refine Ev_zret dX8_madeIs_56 rfl (by decide) ?_
      refine ⟨?_, rfl⟩
      rw [decide_eq_true (ext32 el_ (fun j hj => hq_ j (by omega)))]; rfl
    · refine Ev_iload_n dX8_madeIs_25 rfl ?_
      refine Ev_if_eqT 55 dX8_madeIs_26 (by decide) (fun zb26_ => ?_) (fun zb26_ => ?_)
      · exact absurd zb26_ (by decide)
      · refine Ev_aload_n dX8_madeIs_29 rfl (by first | exact Or.inr ⟨_, rfl⟩ | exact rv_or _ | exact Or.inl rfl) ?_
        refine Ev_aload_n dX8_madeIs_30 rfl (by first | exact Or.inr ⟨_, rfl⟩ | exact rv_or _ | exact Or.inl rfl) ?_
        refine Ev_iload dX8_madeIs_31 rfl ?_
        refine Ev_V0 [.ref q, .int (nI k)] dX8_madeIs_33 vX8_madeByte kX8_71 tf_.1 rfl rfl rfl (Nat.le_of_ble_eq_true rfl) (by omega) (ec_madeByte l G (nI k) g T q p h cp cf hT) ?_
        rw [elO_n (by omega) (by omega)]
        refine Ev_aload_n dX8_madeIs_36 rfl (by first | exact Or.inr ⟨_, rfl⟩ | exact rv_or _ | exact Or.inl rfl) ?_
        refine Ev_iload dX8_madeIs_37 rfl ?_
        refine Ev_ialdE k dX8_madeIs_39 ir_.1 ir_.2.1 (hi_n (by omega)) (by omega) (ir_.2.2.2 k (by omega)) ?_
        refine Ev_icmp_neT 47 dX8_madeIs_40 (by decide) (fun zb40_ => ?_) (fun zb40_ => ?_)
        · refine Ev_iconst (v := nI 0) dX8_madeIs_47 (by decide) ?_
          refine Ev_istore_n dX8_madeIs_48 (by decide) ?_
          refine Ev_iincN 1 dX8_madeIs_49 (by decide) (by decide) rfl ?_
          refine Ev_goto 18 dX8_madeIs_52 (by decide) ?_
          first
          | (refine ih_ (k + 1) (by omega) (by omega) (fun j hj => ?_)
             by_cases ej_ : j = k
             · rw [ej_]; exact Int32.toInt_inj.mp zb40_
             · exact hq_ j (by omega)
             done)
          | (refine Ev.post (fun x h' e => ?_) (ec_madeIs_0 l G 2 (k + 1) T q r xs h hx_ (by omega) (wO g) ir_)
             rw [decide_eq_false (fun z => zb40_ (by rw [z]))]
             exact e)
        · refine Ev_iconst (v := nI 1) dX8_madeIs_43 (by decide) ?_
          refine Ev_goto 48 dX8_madeIs_44 (by decide) ?_
          refine Ev_istore_n dX8_madeIs_48 (by decide) ?_
          refine Ev_iincN 1 dX8_madeIs_49 (by decide) (by decide) rfl ?_
          refine Ev_goto 18 dX8_madeIs_52 (by decide) ?_
          first
          | (refine ih_ (k + 1) (by omega) (by omega) (fun j hj => ?_)
             by_cases ej_ : j = k
             · rw [ej_]; exact Int32.toInt_inj.mp zb40_
             · exact hq_ j (by omega)
             done)
          | (refine Ev.post (fun x h' e => ?_) (ec_madeIs_0 l G 2 (k + 1) T q r xs h hx_ (by omega) (wO g) ir_)
             rw [decide_eq_false (fun z => zb40_ (by rw [z]))]
             exact e)
theorem ec_madeIs (l : Launch) (G : aG) (r : Nat) (xs : List Int32) (hx_ : xs.length ≤ 120) (g : Gh) (T q : Nat) (p : Pc) (h : aH) (cp : CP1 g T q p h) (cf : Cf h) (hT : T = 18 ∨ T = 21) (ir_ : IR (wO g) r xs h) : Ev l G 2 0 0 mX8_madeIs 0 (en 5 [.ref T, .ref q, .ref r]) [] h (Ex (some (.int (bI (decide (pcM p = xs))))) h) := by
  have l120_ := cp.1.2.2
  refine Ev_aload_n dX8_madeIs_0 rfl (by first | exact Or.inr ⟨_, rfl⟩ | exact rv_or _ | exact Or.inl rfl) ?_
  refine Ev_getE dX8_madeIs_1 fX8_54 cp.1.1 cp.1.2.1 ?_
  refine Ev_aload_n dX8_madeIs_4 rfl (by first | exact Or.inr ⟨_, rfl⟩ | exact rv_or _ | exact Or.inl rfl) ?_
  refine Ev_alen dX8_madeIs_5 ir_.1 (by omega) (by omega) ?_
  rw [ir_.2.1]
  refine Ev_icmp_neN 13 dX8_madeIs_6 (by decide) (by omega) (by omega) (fun zb6_ => ?_) (fun zb6_ => ?_)
  · refine Ev_iconst (v := nI 0) dX8_madeIs_13 (by decide) ?_
    refine Ev_istore_n dX8_madeIs_14 (by decide) ?_
    refine Ev_iconst (v := nI 0) dX8_madeIs_15 (by decide) ?_
    refine Ev_istore dX8_madeIs_16 (by decide) ?_
    first
    | exact ec_madeIs_l l G r xs hx_ g T q p h cp cf hT ir_ zb6_ (xs.length + 1) 0 (by omega) (by omega) (fun j hj => absurd hj (by omega))
    | (refine Ev.post (fun x h' e => ?_) (ec_madeIs_0 l G 2 0 T q r xs h hx_ (by omega) (wO g) ir_)
       rw [decide_eq_false (fun z => zb6_ (by rw [z]))]
       exact e)
  · refine Ev_iconst (v := nI 1) dX8_madeIs_9 (by decide) ?_
    refine Ev_goto 14 dX8_madeIs_10 (by decide) ?_
    refine Ev_istore_n dX8_madeIs_14 (by decide) ?_
    refine Ev_iconst (v := nI 0) dX8_madeIs_15 (by decide) ?_
    refine Ev_istore dX8_madeIs_16 (by decide) ?_
    first
    | exact ec_madeIs_l l G r xs hx_ g T q p h cp cf hT ir_ zb6_ (xs.length + 1) 0 (by omega) (by omega) (fun j hj => absurd hj (by omega))
    | (refine Ev.post (fun x h' e => ?_) (ec_madeIs_0 l G 2 0 T q r xs h hx_ (by omega) (wO g) ir_)
       rw [decide_eq_false (fun z => zb6_ (by rw [z]))]
       exact e)
theorem ec_isClash (l : Launch) (G : aG) (g : Gh) (T q : Nat) (p : Pc) (h : aH) (cp : CP1 g T q p h) (cf : Cf h) (hT : T = 18 ∨ T = 21) : Ev l G 3 0 0 mX8_isClash 0 (en 2 [.ref T, .ref q]) [] h (Ex (some (.int (bI (clB p)))) h) := by
  have tf_ := tx_f cf hT
  obtain ⟨⟨k6_, il_, l120_⟩, ch_, hbl_, st_, is_, sl_, xs_⟩ := id cp
  cases hp_ : pcH p with
  | none =>
    have hd_ : hR h 391 q = none := by rw [hp_] at ch_; exact ch_
    refine Ev_aload_n dX8_isClash_0 rfl (by first | exact Or.inr ⟨_, rfl⟩ | exact rv_or _ | exact Or.inl rfl) ?_
    refine Ev_getR dX8_isClash_1 fX8_57 k6_ ?_
    refine Ev_ifnull 26 dX8_isClash_4 (by decide) (fun zb4_ => ?_) (fun zx4_ zb4_ => ?_)
    · refine Ev_iconst (v := nI 0) dX8_isClash_26 (by decide) ?_
      refine Ev_zret dX8_isClash_27 rfl (by decide) ?_
      exact ⟨by unfold clB; rw [hp_]; rfl, rfl⟩
    · rw [hd_] at zb4_
      cases zb4_
  | some hb =>
    have hb2_ := hbl_ hb hp_
    rw [hp_] at ch_
    obtain ⟨d_, hd_, k1_, -, ⟨r_, h64_, ir_⟩, b_, h65_, ib_⟩ := ch_
    refine Ev_aload_n dX8_isClash_0 rfl (by first | exact Or.inr ⟨_, rfl⟩ | exact rv_or _ | exact Or.inl rfl) ?_
    refine Ev_getR dX8_isClash_1 fX8_57 k6_ ?_
    refine Ev_ifnull 26 dX8_isClash_4 (by decide) (fun zb4_ => ?_) (fun zx4_ zb4_ => ?_)
    · rw [hd_] at zb4_
      cases zb4_
    · refine Ev_aload_n dX8_isClash_7 rfl (by first | exact Or.inr ⟨_, rfl⟩ | exact rv_or _ | exact Or.inl rfl) ?_
      refine Ev_aload_n dX8_isClash_8 rfl (by first | exact Or.inr ⟨_, rfl⟩ | exact rv_or _ | exact Or.inl rfl) ?_
      refine Ev_aload_n dX8_isClash_9 rfl (by first | exact Or.inr ⟨_, rfl⟩ | exact rv_or _ | exact Or.inl rfl) ?_
      refine Ev_getA dX8_isClash_10 fX8_57 k6_ hd_ ?_
      refine Ev_getA dX8_isClash_13 fX8_80 k1_ h65_ ?_
      refine Ev_V0 [.ref q, .ref b_] dX8_isClash_16 vX8_madeIs kX8_83 tf_.1 rfl rfl rfl (Nat.le_of_ble_eq_true rfl) (by omega) (ec_madeIs l G b_ hb.2 hb2_.2 g T q p h cp cf hT ib_) ?_
      refine Ev_if_neB 26 dX8_isClash_19 (by decide) (fun zb19_ => ?_) (fun zb19_ => ?_)
      · refine Ev_iconst (v := nI 0) dX8_isClash_26 (by decide) ?_
        refine Ev_zret dX8_isClash_27 rfl (by decide) ?_
        have ec_ : clB p = !decide (pcM p = hb.2) := by
          unfold clB
          rw [hp_]
          exact decide_not
        refine ⟨?_, rfl⟩
        rw [ec_, zb19_]; rfl
      · refine Ev_iconst (v := nI 1) dX8_isClash_22 (by decide) ?_
        refine Ev_goto 27 dX8_isClash_23 (by decide) ?_
        refine Ev_zret dX8_isClash_27 rfl (by decide) ?_
        have ec_ : clB p = !decide (pcM p = hb.2) := by
          unfold clB
          rw [hp_]
          exact decide_not
        refine ⟨?_, rfl⟩
        rw [ec_, zb19_]; rfl
theorem ec_countClashes_l (l : Launch) (G : aG) (g : Gh) (T : Nat) (ps : List Pc) (h : aH) (cf : Cf h) (hT : T = 18 ∨ T = 21) (tx : CTx g T ps h) (ms : Nat) : ∀ k, ps.length - k < ms → k ≤ ps.length → Ev l G 4 0 0 mX8_countClashes 4 [.ref T, .int (nI (clN (ps.take k))), .int (nI k)] [] h (Ex (some (.int (nI (clN ps)))) h) := by
  have tf_ := tx_f cf hT
  have n250_ := tx.2.1
  induction ms with
  | zero => intro k hk; omega
  | succ ms ih_ =>
    intro k hk1_ hk2_
    refine Ev_iload_n dX8_countClashes_4 rfl ?_
    refine Ev_aload_n dX8_countClashes_5 rfl (by first | exact Or.inr ⟨_, rfl⟩ | exact rv_or _ | exact Or.inl rfl) ?_
    refine Ev_getE dX8_countClashes_6 fX8_25 tf_.1 tx.2.2.2.1 ?_
    refine Ev_icmp_geN 34 dX8_countClashes_9 (by decide) (by omega) (by omega) (fun zb9_ => ?_) (fun zb9_ => ?_)
    · refine Ev_iload_n dX8_countClashes_34 rfl ?_
      refine Ev_iret dX8_countClashes_35 rfl ?_
      exact ⟨by rw [show k = ps.length by omega, List.take_length], rfl⟩
    · obtain ⟨p, hp_⟩ : ∃ p, ps[k]? = some p := ⟨_, List.getElem?_eq_getElem (by omega)⟩
      obtain ⟨q, hy_, -, cp_⟩ := tx.p hp_
      refine Ev_aload_n dX8_countClashes_12 rfl (by first | exact Or.inr ⟨_, rfl⟩ | exact rv_or _ | exact Or.inl rfl) ?_
      refine Ev_aload_n dX8_countClashes_13 rfl (by first | exact Or.inr ⟨_, rfl⟩ | exact rv_or _ | exact Or.inl rfl) ?_
      refine Ev_getA dX8_countClashes_14 fX8_11 tf_.1 tf_.2.1 ?_
      refine Ev_iload_n dX8_countClashes_17 rfl ?_
      refine Ev_aald k dX8_countClashes_18 tf_.2.2.2.1.1 (by omega) (by omega) (hi_n (by omega)) (by rw [tf_.2.2.2.1.2]; omega) ?_
      rw [hy_]
      refine Ev_top (y := .ref q) rfl ?_
      refine Ev_V0 [.ref q] dX8_countClashes_19 vX8_isClash kX8_87 tf_.1 rfl rfl rfl (Nat.le_of_ble_eq_true rfl) (by omega) (ec_isClash l G g T q p h cp_ cf hT) ?_
      refine Ev_if_eqB 28 dX8_countClashes_22 (by decide) (fun zb22_ => ?_) (fun zb22_ => ?_)
      · refine Ev_iincN 1 dX8_countClashes_28 (by decide) (by decide) rfl ?_
        refine Ev_goto 4 dX8_countClashes_31 (by decide) ?_
        have e_ := clN_take hp_
        have ih2_ := ih_ (k + 1) (by omega) (by omega)
        rw [e_, zb22_] at ih2_
        exact ih2_
      · refine Ev_iincN 1 dX8_countClashes_25 (by decide) (by decide) rfl ?_
        refine Ev_iincN 1 dX8_countClashes_28 (by decide) (by decide) rfl ?_
        refine Ev_goto 4 dX8_countClashes_31 (by decide) ?_
        have e_ := clN_take hp_
        have ih2_ := ih_ (k + 1) (by omega) (by omega)
        rw [e_, zb22_] at ih2_
        exact ih2_
theorem ec_countClashes (l : Launch) (G : aG) (g : Gh) (T : Nat) (ps : List Pc) (h : aH) (cf : Cf h) (hT : T = 18 ∨ T = 21) (tx : CTx g T ps h) : Ev l G 4 0 0 mX8_countClashes 0 (en 3 [.ref T]) [] h (Ex (some (.int (nI (clN ps)))) h) := by
  refine Ev_iconst (v := nI 0) dX8_countClashes_0 (by decide) ?_
  refine Ev_istore_n dX8_countClashes_1 (by decide) ?_
  refine Ev_iconst (v := nI 0) dX8_countClashes_2 (by decide) ?_
  refine Ev_istore_n dX8_countClashes_3 (by decide) ?_
  exact ec_countClashes_l l G g T ps h cf hT tx (ps.length + 1) 0 (by omega) (by omega)
