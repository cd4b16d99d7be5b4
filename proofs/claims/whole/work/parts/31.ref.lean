def isPc (n : Nat) (p : Int32) : Bool := decide (0 ≤ p.toInt ∧ p.toInt < n)
theorem isPc_iff {n : Nat} {p : Int32} : isPc n p = true ↔ 0 ≤ p.toInt ∧ p.toInt < n := by simp [isPc]
theorem sub1 {n : Nat} (hn : n ≤ 100000) : (nI n - nI 1).toInt = (n : Int) - 1 := by
  rw [pk_sub_toInt (by omega) (by omega)]; rfl
theorem inB_lt {p : Int32} {n : Nat} (hn : n ≤ 100000) : inB p (nI 0) (nI n - nI 1) = isPc n p := by
  unfold inB isPc
  rw [t0, sub1 hn]
  congr 1
  apply propext
  omega
theorem ev_isPiece (l : Launch) (G : aG) (p : Int32) (n : Nat) (h : aH) (rf : Rf h) (hn : hX h 42 0 = nI n) (hn1 : n ≤ 100000) : Ev l G 1 0 0 mX11_isPiece 0 (en 2 [.ref MO, .int p]) [] h (Ex (some (.int (bI (isPc n p)))) h) := by
  refine Ev_iload_n dX11_isPiece_0 rfl ?_
  refine Ev_iconst (v := nI 0) dX11_isPiece_1 (by decide) ?_
  refine Ev_aload_n dX11_isPiece_2 rfl (by first | exact Or.inr ⟨_, rfl⟩ | exact rv_or _ | exact Or.inl rfl) ?_
  refine Ev_getA dX11_isPiece_3 fX11_56 rf.1 (rr_pieces rf) ?_
  refine Ev_iconst (v := nI 0) dX11_isPiece_6 (by decide) ?_
  refine Ev_ialdL 0 dX11_isPiece_7 (rk_pieces rf) (rl_pieces rf) t0 (by omega) ?_
  refine Ev_top (y := .int (nI n)) (by rw [hn]) ?_
  refine Ev_iconst (v := nI 1) dX11_isPiece_8 (by decide) ?_
  refine Ev_isub dX11_isPiece_9 ?_
  refine Ev_S0 [.int p, .int (nI 0), .int (nI n - nI 1)] dX11_isPiece_10 sX11_isIn kX11_130 rfl rfl rfl (by decide) (by omega) (ev_isIn l G _ _ _ _) ?_
  rw [inB_lt hn1]
  refine Ev_zret dX11_isPiece_13 rfl (bI_or _) ?_
  exact ⟨rfl, rfl⟩
def shL (h : aH) (p : Nat) : Int32 := if 0 ≤ (hX h 53 p).toInt then hX h 53 p else hX h 51 p
theorem ev_shownLong (l : Launch) (G : aG) (p : Nat) (hp : p < 500) (h : aH) (rf : Rf h) : Ev l G 0 0 0 mX11_shownLong 0 (en 2 [.ref MO, .int (nI p)]) [] h (Ex (some (.int (shL h p))) h) := by
  refine Ev_aload_n dX11_shownLong_0 rfl (by first | exact Or.inr ⟨_, rfl⟩ | exact rv_or _ | exact Or.inl rfl) ?_
  refine Ev_getA dX11_shownLong_1 fX11_89 rf.1 (rr_handLong rf) ?_
  refine Ev_iload_n dX11_shownLong_4 rfl ?_
  refine Ev_ialdL _ dX11_shownLong_5 (rk_handLong rf) (rl_handLong rf) (hi_n (by omega)) (by omega) ?_
  refine Ev_if_ltT 18 dX11_shownLong_6 (by decide) (fun zb6_ => ?_) (fun zb6_ => ?_)
  · refine Ev_aload_n dX11_shownLong_18 rfl (by first | exact Or.inr ⟨_, rfl⟩ | exact rv_or _ | exact Or.inl rfl) ?_
    refine Ev_getA dX11_shownLong_19 fX11_83 rf.1 (rr_madeLong rf) ?_
    refine Ev_iload_n dX11_shownLong_22 rfl ?_
    refine Ev_ialdL _ dX11_shownLong_23 (rk_madeLong rf) (rl_madeLong rf) (hi_n (by omega)) (by omega) ?_
    refine Ev_iret dX11_shownLong_24 rfl ?_
    first | (exact ⟨by rw [shL, if_neg (by omega)], rfl⟩) | (exact ⟨by rw [shL, if_pos (by omega)], rfl⟩)
  · refine Ev_aload_n dX11_shownLong_9 rfl (by first | exact Or.inr ⟨_, rfl⟩ | exact rv_or _ | exact Or.inl rfl) ?_
    refine Ev_getA dX11_shownLong_10 fX11_89 rf.1 (rr_handLong rf) ?_
    refine Ev_iload_n dX11_shownLong_13 rfl ?_
    refine Ev_ialdL _ dX11_shownLong_14 (rk_handLong rf) (rl_handLong rf) (hi_n (by omega)) (by omega) ?_
    refine Ev_goto 24 dX11_shownLong_15 (by decide) ?_
    refine Ev_iret dX11_shownLong_24 rfl ?_
    first | (exact ⟨by rw [shL, if_neg (by omega)], rfl⟩) | (exact ⟨by rw [shL, if_pos (by omega)], rfl⟩)
def mof (p : Nat) : Nat := if p < 250 then 0 else 3000
theorem mof_le (p : Nat) : mof p ≤ 3000 := by unfold mof; split <;> omega
def shB (h : aH) (p mf i : Nat) : Int32 := if 0 ≤ (hX h 53 p).toInt then hX h 54 (60 * p + i) else hX h 52 (mof p + mf + i)
theorem ev_shown (l : Launch) (G : aG) (p i mf : Nat) (hp : p < 500) (h : aH) (rf : Rf h) (hm : (hX h 53 p).toInt < 0 → hX h 50 p = nI mf) (hb : 0 ≤ (hX h 53 p).toInt → i < 60) (hb2 : (hX h 53 p).toInt < 0 → mf + i < 3000) (hb3 : mf < 100000 ∧ i < 100000) : Ev l G 0 0 0 mX11_shown 0 (en 3 [.ref MO, .int (nI p), .int (nI i)]) [] h (Ex (some (.int (shB h p mf i))) h) := by
  have jn_ : ∀ x : Nat, mof p = x → (hX h 53 p).toInt < 0 → Ev l G 0 0 0 mX11_shown 41 [.ref MO, .int (nI p), .int (nI i)] [.int (nI x), .ref 52] h (Ex (some (.int (shB h p mf i))) h) := by
    intro x hx_ hz
    subst hx_
    have hmo := mof_le p
    have hb4 := hb2 hz
    refine Ev_aload_n dX11_shown_41 rfl (by first | exact Or.inr ⟨_, rfl⟩ | exact rv_or _ | exact Or.inl rfl) ?_
    refine Ev_getA dX11_shown_42 fX11_80 rf.1 (rr_madeFrom rf) ?_
    refine Ev_iload_n dX11_shown_45 rfl ?_
    refine Ev_ialdL _ dX11_shown_46 (rk_madeFrom rf) (rl_madeFrom rf) (hi_n (by omega)) (by omega) ?_
    refine Ev_top (y := .int (nI mf)) (by rw [hm (by omega)]) ?_
    refine Ev_iaddN dX11_shown_47 ?_
    refine Ev_iload_n dX11_shown_48 rfl ?_
    refine Ev_iaddN dX11_shown_49 ?_
    refine Ev_ialdL _ dX11_shown_50 (rk_bytes rf) (rl_bytes rf) (hi_n (by omega)) (by omega) ?_
    refine Ev_iret dX11_shown_51 rfl ?_
    exact ⟨by rw [shB, if_neg (by omega)], rfl⟩
  refine Ev_aload_n dX11_shown_0 rfl (by first | exact Or.inr ⟨_, rfl⟩ | exact rv_or _ | exact Or.inl rfl) ?_
  refine Ev_getA dX11_shown_1 fX11_89 rf.1 (rr_handLong rf) ?_
  refine Ev_iload_n dX11_shown_4 rfl ?_
  refine Ev_ialdL _ dX11_shown_5 (rk_handLong rf) (rl_handLong rf) (hi_n (by omega)) (by omega) ?_
  refine Ev_if_ltT 23 dX11_shown_6 (by decide) (fun zb6_ => ?_) (fun zb6_ => ?_)
  · refine Ev_aload_n dX11_shown_23 rfl (by first | exact Or.inr ⟨_, rfl⟩ | exact rv_or _ | exact Or.inl rfl) ?_
    refine Ev_getA dX11_shown_24 fX11_86 rf.1 (rr_bytes rf) ?_
    refine Ev_iload_n dX11_shown_27 rfl ?_
    refine Ev_sipush (v := nI 250) dX11_shown_28 (by decide) ?_
    refine Ev_icmp_geN 38 dX11_shown_31 (by decide) (by omega) (by omega) (fun zb31_ => ?_) (fun zb31_ => ?_)
    · refine Ev_sipush (v := nI 3000) dX11_shown_38 (by decide) ?_
      exact jn_ _ (by unfold mof; first | (rw [if_neg (by omega)]) | (rw [if_pos (by omega)])) (by omega)
    · refine Ev_iconst (v := nI 0) dX11_shown_34 (by decide) ?_
      refine Ev_goto 41 dX11_shown_35 (by decide) ?_
      exact jn_ _ (by unfold mof; first | (rw [if_neg (by omega)]) | (rw [if_pos (by omega)])) (by omega)
  · refine Ev_aload_n dX11_shown_9 rfl (by first | exact Or.inr ⟨_, rfl⟩ | exact rv_or _ | exact Or.inl rfl) ?_
    refine Ev_getA dX11_shown_10 fX11_92 rf.1 (rr_hand rf) ?_
    refine Ev_bipush (v := nI 60) dX11_shown_13 (by decide) ?_
    refine Ev_iload_n dX11_shown_15 rfl ?_
    refine Ev_imulN dX11_shown_16 ?_
    refine Ev_iload_n dX11_shown_17 rfl ?_
    refine Ev_iaddN dX11_shown_18 ?_
    refine Ev_ialdL _ dX11_shown_19 (rk_hand rf) (rl_hand rf) (hi_n (by omega)) (by omega) ?_
    refine Ev_goto 51 dX11_shown_20 (by decide) ?_
    refine Ev_iret dX11_shown_51 rfl ?_
    exact ⟨by rw [shB, if_pos (by omega)], rfl⟩
def eqR (h : aH) (a1 o1 a2 o2 : Nat) : Nat → Bool
  | 0 => true
  | n + 1 => eqR h a1 o1 a2 o2 n && decide (hX h a1 (o1 + n) = hX h a2 (o2 + n))
theorem eqR_iff {h : aH} {a1 o1 a2 o2 : Nat} : ∀ {n : Nat}, eqR h a1 o1 a2 o2 n = true ↔ ∀ k, k < n → hX h a1 (o1 + k) = hX h a2 (o2 + k) := by
  intro n
  induction n with
  | zero => simp [eqR]
  | succ n ih_ =>
    rw [eqR, Bool.and_eq_true, ih_, decide_eq_true_eq]
    constructor
    · rintro ⟨h1, h2⟩ k hk
      by_cases e : k = n
      · rw [e]; exact h2
      · exact h1 k (by omega)
    · intro h1
      exact ⟨fun k hk => h1 k (by omega), h1 n (by omega)⟩
def isMd (h : aH) (p mf a f n : Nat) : Bool := decide (hX h 51 p = nI n) && eqR h 52 (mof p + mf) a f n
theorem isMd_iff {h : aH} {p mf a f n : Nat} : isMd h p mf a f n = true ↔ hX h 51 p = nI n ∧ ∀ k, k < n → hX h 52 (mof p + mf + k) = hX h a (f + k) := by
  rw [isMd, Bool.and_eq_true, decide_eq_true_eq, eqR_iff]
theorem ev_isMade_l (l : Launch) (G : aG) (p mf a f n : Nat) (h : aH) (rf : Rf h) (hka : hK h a = 13) (hlen : hX h 51 p = nI n) (hb : mof p + mf + n ≤ 6000) (hb2 : f + n ≤ hL h a) (hb3 : hL h a ≤ 100000) (ms : Nat) : ∀ k, n - k < ms → k ≤ n → (∀ q, q < k → hX h 52 (mof p + mf + q) = hX h a (f + q)) → Ev l G 0 0 0 mX11_isMade 39 [.ref MO, .int (nI p), .ref a, .int (nI f), .int (nI n), .int (nI (mof p + mf)), .int (nI k)] [] h (Ex (some (.int (bI (isMd h p mf a f n)))) h) := by
  induction ms with
  | zero => intro k hk; omega
  | succ ms ih_ =>
    intro k hk hkn hpre
    refine Ev_iload dX11_isMade_39 rfl ?_
    refine Ev_iload dX11_isMade_41 rfl ?_
    refine Ev_icmp_geN 73 dX11_isMade_43 (by decide) (by omega) (by omega) (fun zb43_ => ?_) (fun zb43_ => ?_)
    · refine Ev_iconst (v := nI 1) dX11_isMade_73 (by decide) ?_
      refine Ev_zret dX11_isMade_74 rfl (by decide) ?_
      exact Ex_b (bTr isMd_iff ⟨hlen, fun q hq => hpre q (by omega)⟩)
    · refine Ev_aload_n dX11_isMade_46 rfl (by first | exact Or.inr ⟨_, rfl⟩ | exact rv_or _ | exact Or.inl rfl) ?_
      refine Ev_getA dX11_isMade_47 fX11_86 rf.1 (rr_bytes rf) ?_
      refine Ev_iload dX11_isMade_50 rfl ?_
      refine Ev_iload dX11_isMade_52 rfl ?_
      refine Ev_iaddN dX11_isMade_54 ?_
      refine Ev_ialdL _ dX11_isMade_55 (rk_bytes rf) (rl_bytes rf) (hi_n (by omega)) (by omega) ?_
      refine Ev_aload_n dX11_isMade_56 rfl (by first | exact Or.inr ⟨_, rfl⟩ | exact rv_or _ | exact Or.inl rfl) ?_
      refine Ev_iload_n dX11_isMade_57 rfl ?_
      refine Ev_iload dX11_isMade_58 rfl ?_
      refine Ev_iaddN dX11_isMade_60 ?_
      refine Ev_iald _ dX11_isMade_61 hka (hi_n (by omega)) (by omega) ?_
      refine Ev_icmp_eqT 67 dX11_isMade_62 (by decide) (fun zb62_ => ?_) (fun zb62_ => ?_)
      · refine Ev_iincN 1 dX11_isMade_67 (by decide) (by decide) rfl ?_
        refine Ev_goto 39 dX11_isMade_70 (by decide) ?_
        exact ih_ (k + 1) (by omega) (by omega) (fun q hq => by
          by_cases e : q = k
          · rw [e]; exact Int32.toInt_inj.mp zb62_
          · exact hpre q (by omega))
      · refine Ev_iconst (v := nI 0) dX11_isMade_65 (by decide) ?_
        refine Ev_zret dX11_isMade_66 rfl (by decide) ?_
        exact Ex_b (bFa isMd_iff (fun q => zb62_ (by rw [q.2 k (by omega)])))
theorem ev_isMade (l : Launch) (G : aG) (p mf a f n : Nat) (hp : p < 500) (h : aH) (rf : Rf h) (hka : hK h a = 13) (hm : hX h 50 p = nI mf) (hb : hX h 51 p = nI n → mof p + mf + n ≤ 6000) (hb2 : hX h 51 p = nI n → f + n ≤ hL h a) (hb3 : hL h a ≤ 100000) : Ev l G 0 0 0 mX11_isMade 0 (en 7 [.ref MO, .int (nI p), .ref a, .int (nI f), .int (nI n)]) [] h (Ex (some (.int (bI (isMd h p mf a f n)))) h) := by
  have jn_ : ∀ x : Nat, mof p = x → (hX h 51 p).toInt = (nI n).toInt → Ev l G 0 0 0 mX11_isMade 27 (en 7 [.ref MO, .int (nI p), .ref a, .int (nI f), .int (nI n)]) [.int (nI x)] h (Ex (some (.int (bI (isMd h p mf a f n)))) h) := by
    intro x hx_ hz
    subst hx_
    have hl8 := Int32.toInt_inj.mp hz
    refine Ev_aload_n dX11_isMade_27 rfl (by first | exact Or.inr ⟨_, rfl⟩ | exact rv_or _ | exact Or.inl rfl) ?_
    refine Ev_getA dX11_isMade_28 fX11_80 rf.1 (rr_madeFrom rf) ?_
    refine Ev_iload_n dX11_isMade_31 rfl ?_
    refine Ev_ialdL _ dX11_isMade_32 (rk_madeFrom rf) (rl_madeFrom rf) (hi_n (by omega)) (by omega) ?_
    refine Ev_top (y := .int (nI mf)) (by rw [hm]) ?_
    refine Ev_iaddN dX11_isMade_33 ?_
    refine Ev_istore dX11_isMade_34 (by decide) ?_
    refine Ev_iconst (v := nI 0) dX11_isMade_36 (by decide) ?_
    refine Ev_istore dX11_isMade_37 (by decide) ?_
    exact ev_isMade_l l G p mf a f n h rf hka hl8 (hb hl8) (hb2 hl8) hb3 (n + 1) 0 (by omega) (by omega) (fun q hq => by omega)
  refine Ev_aload_n dX11_isMade_0 rfl (by first | exact Or.inr ⟨_, rfl⟩ | exact rv_or _ | exact Or.inl rfl) ?_
  refine Ev_getA dX11_isMade_1 fX11_83 rf.1 (rr_madeLong rf) ?_
  refine Ev_iload_n dX11_isMade_4 rfl ?_
  refine Ev_ialdL _ dX11_isMade_5 (rk_madeLong rf) (rl_madeLong rf) (hi_n (by omega)) (by omega) ?_
  refine Ev_iload dX11_isMade_6 rfl ?_
  refine Ev_icmp_eqT 13 dX11_isMade_8 (by decide) (fun zb8_ => ?_) (fun zb8_ => ?_)
  · refine Ev_iload_n dX11_isMade_13 rfl ?_
    refine Ev_sipush (v := nI 250) dX11_isMade_14 (by decide) ?_
    refine Ev_icmp_geN 24 dX11_isMade_17 (by decide) (by omega) (by omega) (fun zb17_ => ?_) (fun zb17_ => ?_)
    · refine Ev_sipush (v := nI 3000) dX11_isMade_24 (by decide) ?_
      exact jn_ _ (by unfold mof; first | (rw [if_neg (by omega)]) | (rw [if_pos (by omega)])) zb8_
    · refine Ev_iconst (v := nI 0) dX11_isMade_20 (by decide) ?_
      refine Ev_goto 27 dX11_isMade_21 (by decide) ?_
      exact jn_ _ (by unfold mof; first | (rw [if_neg (by omega)]) | (rw [if_pos (by omega)])) zb8_
  · refine Ev_iconst (v := nI 0) dX11_isMade_11 (by decide) ?_
    refine Ev_zret dX11_isMade_12 rfl (by decide) ?_
    exact Ex_b (bFa isMd_iff (fun q => zb8_ (by rw [q.1])))
