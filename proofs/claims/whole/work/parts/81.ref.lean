theorem sh_le {p : Pc} (b : PcB p) : (shP p).length ≤ 120 := by
  unfold shP
  cases hh : pcH p with
  | none => exact b.2.2.2.2.2.2.1
  | some hb => have := b.2.2.2.2.2.2.2.2.2.2.2 hb hh; show hb.1.length ≤ 120; omega
theorem ev_shownP (l : Launch) (G : aG) (ps : List Pc) (w i k : Nat) (p : Pc) (h : aH) (rf : Rf h) (t_ : RTx ps w h) (hw : w < 2) (hp_ : ps[i]? = some p) (hk : k < (shP p).length) : Ev l G 0 0 0 mX11_shown 0 (en 3 [.ref MO, .int (nI (250 * w + i)), .int (nI k)]) [] h (Ex (some (.int ((shP p).getD k 0))) h) := by
  rw [← shB_eq t_ hw hp_ hk]
  obtain ⟨b, r⟩ := t_.2.2.2.1 i p hp_
  have hil := (List.getElem?_eq_some_iff.mp hp_).1
  have h250 := t_.1
  have hst := stt_le hp_
  have f3 := t_.2.1
  have s120 := sh_le b
  refine ev_shown l G (250 * w + i) k (stt ps i) (by omega) h rf (fun _ => r.2.2.1) (fun z => ?_) (fun z => ?_) ⟨by omega, by omega⟩
  · have hd := r.2.2.2.2.2
    unfold shP at hk
    cases hh : pcH p with
    | none =>
      rw [hh] at hd
      have e : hX h 53 (250 * w + i) = -1 := hd
      rw [e] at z; exact absurd z (by decide)
    | some hb =>
      rw [hh] at hk
      have hl := b.2.2.2.2.2.2.2.2.2.2.2 hb hh
      have : k < hb.1.length := hk
      omega
  · have hd := r.2.2.2.2.2
    unfold shP at hk
    cases hh : pcH p with
    | none =>
      rw [hh] at hk
      have : k < (pcM p).length := hk
      omega
    | some hb =>
      rw [hh] at hd
      have hl := b.2.2.2.2.2.2.2.2.2.2.2 hb hh
      rw [hd.1, hi_n (by omega)] at z; omega
theorem RTx.mb {ps : List Pc} {w i k : Nat} {p : Pc} {h : aH} (t : RTx ps w h) (hp : ps[i]? = some p) (hk : k < (pcM p).length) : hX h 52 (3000 * w + stt ps i + k) = (pcM p).getD k 0 := by
  have hst := stt_le hp
  rw [Nat.add_assoc, t.2.2.2.2 _ (by omega), flat_at hp hk]
theorem elO_in {xs : List Int32} {k : Nat} (h : k < xs.length) (hk : k < 100000) : elO xs (nI k).toInt = xs.getD k 0 := by
  unfold elO
  rw [hi_n (by omega), if_pos ⟨by omega, by omega⟩]
  rfl
theorem elO_out {xs : List Int32} {i : Int} (h : (xs.length : Int) ≤ i) : elO xs i = -1 := by
  unfold elO
  rw [if_neg (by omega)]
theorem ev_byteOf (l : Launch) (G : aG) (p_ wh i_ : Int32) (ps : List Pc) (h : aH) (rf : Rf h) (t_ : RTx ps 0 h) : Ev l G 2 0 0 mX11_byteOf 0 (en 4 [.ref MO, .int p_, .int wh, .int i_]) [] h (Ex (some (.int (byteF ps p_ wh i_))) h) := by
  have n0_ := t_.1
  refine Ev_aload_n dX11_byteOf_0 rfl (by first | exact Or.inr ⟨_, rfl⟩ | exact rv_or _ | exact Or.inl rfl) ?_
  refine Ev_iload_n dX11_byteOf_1 rfl ?_
  refine Ev_V0 [.int p_] dX11_byteOf_2 vX11_isPiece kX11_263 rf.1 rfl rfl rfl (Nat.le_of_ble_eq_true rfl) (by omega) (ev_isPiece l G p_ ps.length h rf t_.2.2.1 (by omega)) ?_
  refine Ev_if_eqB 12 dX11_byteOf_5 (by decide) (fun zb5_ => ?_) (fun zb5_ => ?_)
  · have ea_ : atP ps p_ = none := atP_no (isPc_f zb5_)
    refine Ev_iconst (v := -1) dX11_byteOf_12 (by decide) ?_
    refine Ev_iret dX11_byteOf_13 rfl ?_
    refine ⟨?_, rfl⟩
    unfold byteF
    rw [ea_]
    first
    | done
    | (show _ = some (Value.int (bytF p wh.toInt i_.toInt)); unfold bytF; rw [if_pos (by omega)])
  · have zp_ := isPc_iff.mp zb5_
    obtain ⟨i, hi0_, rfl⟩ := as_nI (n := 250) zp_.1 (by omega)
    rw [hi_n (by omega)] at zp_
    have il_ : i < ps.length := by omega
    obtain ⟨p, hp_⟩ : ∃ p, ps[i]? = some p := ⟨_, List.getElem?_eq_getElem il_⟩
    obtain ⟨bp_, rp_⟩ := t_.2.2.2.1 i p hp_
    rw [show 250 * 0 + i = i by omega] at rp_
    have ea_ : atP ps (nI i) = some p := atP_n hp_ (by omega)
    have sl_ := sh_le bp_
    have ml_ := bp_.2.2.2.2.2.2.1
    have st_ := stt_le hp_
    have f3_ := t_.2.1
    have mb_ : ∀ k, k < (pcM p).length → hX h 52 (stt ps i + k) = (pcM p).getD k 0 := fun k hk => by have := t_.mb hp_ hk; rw [show 3000 * 0 + stt ps i + k = stt ps i + k by omega] at this; exact this
    refine Ev_iload_n dX11_byteOf_8 rfl ?_
    refine Ev_if_geT 14 dX11_byteOf_9 (by decide) (fun zb9_ => ?_) (fun zb9_ => ?_)
    · refine Ev_iload_n dX11_byteOf_14 rfl ?_
      refine Ev_if_neT 38 dX11_byteOf_15 (by decide) (fun zb15_ => ?_) (fun zb15_ => ?_)
      · refine Ev_iload_n dX11_byteOf_38 rfl ?_
        refine Ev_iconst (v := nI 1) dX11_byteOf_39 (by decide) ?_
        refine Ev_icmp_neT 71 dX11_byteOf_40 (by decide) (fun zb40_ => ?_) (fun zb40_ => ?_)
        · rw [t1] at zb40_
          have hd_ := rp_.2.2.2.2.2
          cases hh_ : pcH p with
          | none =>
            rw [hh_] at hd_
            have e53_ : hX h 53 i = -1 := hd_
            refine Ev_iload_n dX11_byteOf_71 rfl ?_
            refine Ev_iconst (v := nI 2) dX11_byteOf_72 (by decide) ?_
            refine Ev_icmp_neT 109 dX11_byteOf_73 (by decide) (fun zb73_ => ?_) (fun zb73_ => ?_)
            · rw [t2] at zb73_
              refine Ev_iconst (v := -1) dX11_byteOf_109 (by decide) ?_
              refine Ev_iret dX11_byteOf_110 rfl ?_
              refine ⟨?_, rfl⟩
              unfold byteF
              rw [ea_]
              show _ = some (Value.int (bytF p wh.toInt _))
              unfold bytF
              rw [if_neg (by omega)]
              rw [if_neg zb15_, if_neg zb40_]
              first
              | (rw [if_neg zb73_]; done)
              | (rw [if_pos zb73_, hh_]; done)
              | (rw [if_pos zb73_, hh_]; show _ = some (Value.int (elO hb.2 _)); first | (rw [elO_in (by omega) (by omega)]; done) | (rw [elO_out (by omega)]; done))
            · rw [t2] at zb73_
              refine Ev_aload_n dX11_byteOf_76 rfl (by first | exact Or.inr ⟨_, rfl⟩ | exact rv_or _ | exact Or.inl rfl) ?_
              refine Ev_getA dX11_byteOf_77 fX11_89 rf.1 (rr_handLong rf) ?_
              refine Ev_iload_n dX11_byteOf_80 rfl ?_
              refine Ev_ialdE _ dX11_byteOf_81 (rk_handLong rf) (rl_handLong rf) (hi_n (by omega)) (by omega) e53_ ?_
              refine Ev_if_ltT 109 dX11_byteOf_82 (by decide) (fun zb82_ => ?_) (fun zb82_ => ?_)
              · refine Ev_iconst (v := -1) dX11_byteOf_109 (by decide) ?_
                refine Ev_iret dX11_byteOf_110 rfl ?_
                refine ⟨?_, rfl⟩
                unfold byteF
                rw [ea_]
                show _ = some (Value.int (bytF p wh.toInt _))
                unfold bytF
                rw [if_neg (by omega)]
                rw [if_neg zb15_, if_neg zb40_]
                first
                | (rw [if_neg zb73_]; done)
                | (rw [if_pos zb73_, hh_]; done)
                | (rw [if_pos zb73_, hh_]; show _ = some (Value.int (elO hb.2 _)); first | (rw [elO_in (by omega) (by omega)]; done) | (rw [elO_out (by omega)]; done))
              · exact absurd (by decide) zb82_
          | some hb =>
            have hbl_ := bp_.2.2.2.2.2.2.2.2.2.2.2 hb hh_
            rw [hh_] at hd_
            refine Ev_iload_n dX11_byteOf_71 rfl ?_
            refine Ev_iconst (v := nI 2) dX11_byteOf_72 (by decide) ?_
            refine Ev_icmp_neT 109 dX11_byteOf_73 (by decide) (fun zb73_ => ?_) (fun zb73_ => ?_)
            · rw [t2] at zb73_
              refine Ev_iconst (v := -1) dX11_byteOf_109 (by decide) ?_
              refine Ev_iret dX11_byteOf_110 rfl ?_
              refine ⟨?_, rfl⟩
              unfold byteF
              rw [ea_]
              show _ = some (Value.int (bytF p wh.toInt _))
              unfold bytF
              rw [if_neg (by omega)]
              rw [if_neg zb15_, if_neg zb40_]
              first
              | (rw [if_neg zb73_]; done)
              | (rw [if_pos zb73_, hh_]; done)
              | (rw [if_pos zb73_, hh_]; show _ = some (Value.int (elO hb.2 _)); first | (rw [elO_in (by omega) (by omega)]; done) | (rw [elO_out (by omega)]; done))
            · rw [t2] at zb73_
              refine Ev_aload_n dX11_byteOf_76 rfl (by first | exact Or.inr ⟨_, rfl⟩ | exact rv_or _ | exact Or.inl rfl) ?_
              refine Ev_getA dX11_byteOf_77 fX11_89 rf.1 (rr_handLong rf) ?_
              refine Ev_iload_n dX11_byteOf_80 rfl ?_
              refine Ev_ialdE _ dX11_byteOf_81 (rk_handLong rf) (rl_handLong rf) (hi_n (by omega)) (by omega) hd_.1 ?_
              refine Ev_if_ltT 109 dX11_byteOf_82 (by decide) (fun zb82_ => ?_) (fun zb82_ => ?_)
              · exact absurd zb82_ (by rw [hi_n (by omega)]; omega)
              · refine Ev_iload_n dX11_byteOf_85 rfl ?_
                refine Ev_aload_n dX11_byteOf_86 rfl (by first | exact Or.inr ⟨_, rfl⟩ | exact rv_or _ | exact Or.inl rfl) ?_
                refine Ev_getA dX11_byteOf_87 fX11_95 rf.1 (rr_baseLong rf) ?_
                refine Ev_iload_n dX11_byteOf_90 rfl ?_
                refine Ev_ialdE _ dX11_byteOf_91 (rk_baseLong rf) (rl_baseLong rf) (hi_n (by omega)) (by omega) hd_.2.1 ?_
                refine Ev_icmp_geT 109 dX11_byteOf_92 (by decide) (fun zb92_ => ?_) (fun zb92_ => ?_)
                · rw [hi_n (by omega)] at zb92_
                  refine Ev_iconst (v := -1) dX11_byteOf_109 (by decide) ?_
                  refine Ev_iret dX11_byteOf_110 rfl ?_
                  refine ⟨?_, rfl⟩
                  unfold byteF
                  rw [ea_]
                  show _ = some (Value.int (bytF p wh.toInt _))
                  unfold bytF
                  rw [if_neg (by omega)]
                  rw [if_neg zb15_, if_neg zb40_]
                  first
                  | (rw [if_neg zb73_]; done)
                  | (rw [if_pos zb73_, hh_]; done)
                  | (rw [if_pos zb73_, hh_]; show _ = some (Value.int (elO hb.2 _)); first | (rw [elO_in (by omega) (by omega)]; done) | (rw [elO_out (by omega)]; done))
                · rw [hi_n (by omega)] at zb92_
                  obtain ⟨k, hk0_, rfl⟩ := as_nI (n := 120) zb9_ (by omega)
                  rw [hi_n (by omega)] at zb92_
                  refine Ev_aload_n dX11_byteOf_95 rfl (by first | exact Or.inr ⟨_, rfl⟩ | exact rv_or _ | exact Or.inl rfl) ?_
                  refine Ev_getA dX11_byteOf_96 fX11_99 rf.1 (rr_base rf) ?_
                  refine Ev_bipush (v := nI 120) dX11_byteOf_99 (by decide) ?_
                  refine Ev_iload_n dX11_byteOf_101 rfl ?_
                  refine Ev_imulN dX11_byteOf_102 ?_
                  refine Ev_iload_n dX11_byteOf_103 rfl ?_
                  refine Ev_iaddN dX11_byteOf_104 ?_
                  refine Ev_ialdE _ dX11_byteOf_105 (rk_base rf) (rl_base rf) (hi_n (by omega)) (by omega) (hd_.2.2.2 k (by omega)) ?_
                  refine Ev_goto 110 dX11_byteOf_106 (by decide) ?_
                  refine Ev_iret dX11_byteOf_110 rfl ?_
                  refine ⟨?_, rfl⟩
                  unfold byteF
                  rw [ea_]
                  show _ = some (Value.int (bytF p wh.toInt _))
                  unfold bytF
                  rw [if_neg (by omega)]
                  rw [if_neg zb15_, if_neg zb40_]
                  first
                  | (rw [if_neg zb73_]; done)
                  | (rw [if_pos zb73_, hh_]; done)
                  | (rw [if_pos zb73_, hh_]; show _ = some (Value.int (elO hb.2 _)); first | (rw [elO_in (by omega) (by omega)]; done) | (rw [elO_out (by omega)]; done))
        · rw [t1] at zb40_
          refine Ev_iload_n dX11_byteOf_43 rfl ?_
          refine Ev_aload_n dX11_byteOf_44 rfl (by first | exact Or.inr ⟨_, rfl⟩ | exact rv_or _ | exact Or.inl rfl) ?_
          refine Ev_getA dX11_byteOf_45 fX11_83 rf.1 (rr_madeLong rf) ?_
          refine Ev_iload_n dX11_byteOf_48 rfl ?_
          refine Ev_ialdE _ dX11_byteOf_49 (rk_madeLong rf) (rl_madeLong rf) (hi_n (by omega)) (by omega) rp_.2.2.2.1 ?_
          refine Ev_icmp_geT 69 dX11_byteOf_50 (by decide) (fun zb50_ => ?_) (fun zb50_ => ?_)
          · rw [hi_n (by omega)] at zb50_
            refine Ev_iconst (v := -1) dX11_byteOf_69 (by decide) ?_
            refine Ev_iret dX11_byteOf_70 rfl ?_
            refine ⟨?_, rfl⟩
            unfold byteF
            rw [ea_]
            show _ = some (Value.int (bytF p wh.toInt _))
            unfold bytF
            rw [if_neg (by omega)]
            rw [if_neg zb15_, if_pos zb40_]
            first
            | (rw [elO_in (by omega) (by omega)]; done)
            | (rw [elO_out (by omega)]; done)
          · rw [hi_n (by omega)] at zb50_
            obtain ⟨k, hk0_, rfl⟩ := as_nI (n := 120) zb9_ (by omega)
            rw [hi_n (by omega)] at zb50_
            refine Ev_aload_n dX11_byteOf_53 rfl (by first | exact Or.inr ⟨_, rfl⟩ | exact rv_or _ | exact Or.inl rfl) ?_
            refine Ev_getA dX11_byteOf_54 fX11_86 rf.1 (rr_bytes rf) ?_
            refine Ev_aload_n dX11_byteOf_57 rfl (by first | exact Or.inr ⟨_, rfl⟩ | exact rv_or _ | exact Or.inl rfl) ?_
            refine Ev_getA dX11_byteOf_58 fX11_80 rf.1 (rr_madeFrom rf) ?_
            refine Ev_iload_n dX11_byteOf_61 rfl ?_
            refine Ev_ialdE _ dX11_byteOf_62 (rk_madeFrom rf) (rl_madeFrom rf) (hi_n (by omega)) (by omega) rp_.2.2.1 ?_
            refine Ev_iload_n dX11_byteOf_63 rfl ?_
            refine Ev_iaddN dX11_byteOf_64 ?_
            refine Ev_ialdE _ dX11_byteOf_65 (rk_bytes rf) (rl_bytes rf) (hi_n (by omega)) (by omega) (mb_ k (by omega)) ?_
            refine Ev_goto 70 dX11_byteOf_66 (by decide) ?_
            refine Ev_iret dX11_byteOf_70 rfl ?_
            refine ⟨?_, rfl⟩
            unfold byteF
            rw [ea_]
            show _ = some (Value.int (bytF p wh.toInt _))
            unfold bytF
            rw [if_neg (by omega)]
            rw [if_neg zb15_, if_pos zb40_]
            first
            | (rw [elO_in (by omega) (by omega)]; done)
            | (rw [elO_out (by omega)]; done)
      · refine Ev_iload_n dX11_byteOf_18 rfl ?_
        refine Ev_aload_n dX11_byteOf_19 rfl (by first | exact Or.inr ⟨_, rfl⟩ | exact rv_or _ | exact Or.inl rfl) ?_
        refine Ev_iload_n dX11_byteOf_20 rfl ?_
        refine Ev_V0 [.int (nI i)] dX11_byteOf_21 vX11_shownLong kX11_266 rf.1 rfl rfl rfl (Nat.le_of_ble_eq_true rfl) (by omega) (ev_shownLong l G i (by omega) h rf) ?_
        rw [shL_eq bp_ rp_]
        refine Ev_icmp_geT 36 dX11_byteOf_24 (by decide) (fun zb24_ => ?_) (fun zb24_ => ?_)
        · rw [hi_n (by omega)] at zb24_
          refine Ev_iconst (v := -1) dX11_byteOf_36 (by decide) ?_
          refine Ev_iret dX11_byteOf_37 rfl ?_
          refine ⟨?_, rfl⟩
          unfold byteF
          rw [ea_]
          show _ = some (Value.int (bytF p wh.toInt _))
          unfold bytF
          rw [if_neg (by omega)]
          rw [if_pos zb15_]
          first
          | (rw [elO_in (by omega) (by omega)]; done)
          | (rw [elO_out (by omega)]; done)
        · rw [hi_n (by omega)] at zb24_
          obtain ⟨k, hk0_, rfl⟩ := as_nI (n := 120) zb9_ (by omega)
          rw [hi_n (by omega)] at zb24_
          refine Ev_aload_n dX11_byteOf_27 rfl (by first | exact Or.inr ⟨_, rfl⟩ | exact rv_or _ | exact Or.inl rfl) ?_
          refine Ev_iload_n dX11_byteOf_28 rfl ?_
          refine Ev_iload_n dX11_byteOf_29 rfl ?_
          have sp_ := ev_shownP l G ps 0 i k p h rf t_ (by omega) hp_ (by omega)
          rw [show 250 * 0 + i = i by omega] at sp_
          refine Ev_V0 [.int (nI i), .int (nI k)] dX11_byteOf_30 vX11_shown kX11_269 rf.1 rfl rfl rfl (Nat.le_of_ble_eq_true rfl) (by omega) sp_ ?_
          refine Ev_goto 37 dX11_byteOf_33 (by decide) ?_
          refine Ev_iret dX11_byteOf_37 rfl ?_
          refine ⟨?_, rfl⟩
          unfold byteF
          rw [ea_]
          show _ = some (Value.int (bytF p wh.toInt _))
          unfold bytF
          rw [if_neg (by omega)]
          rw [if_pos zb15_]
          first
          | (rw [elO_in (by omega) (by omega)]; done)
          | (rw [elO_out (by omega)]; done)
    · refine Ev_iconst (v := -1) dX11_byteOf_12 (by decide) ?_
      refine Ev_iret dX11_byteOf_13 rfl ?_
      refine ⟨?_, rfl⟩
      unfold byteF
      rw [ea_]
      first
      | done
      | (show _ = some (Value.int (bytF p wh.toInt i_.toInt)); unfold bytF; rw [if_pos (by omega)])
theorem ev_sb_l (l : Launch) (G : aG) (i mf n : Nat) (h : aH) (rf : Rf h) {Q : Option Value → aH → Prop} (hi : i < 250) (hn : n ≤ 120) (hm : mf + n ≤ 3000) (eL_ : hX h 51 i = nI n) (eM_ : hX h 50 i = nI mf) (kk_ : ∀ h1, Fr [] [56] h h1 → CpF (hX h 52) (hX h 56) (hX h1 56) (120 * i) (mf) (n) → Ev l G 0 0 0 mX11_setBase 54 [.ref MO, .int (nI i), .int (nI (n))] [] h1 Q) (ms : Nat) : ∀ k, n - k < ms → k ≤ n → ∀ h1, Fr [] [56] h h1 → CpF (hX h 52) (hX h 56) (hX h1 56) (120 * i) (mf) k → Ev l G 0 0 0 mX11_setBase 14 [.ref MO, .int (nI i), .int (nI k)] [] h1 Q := by
  induction ms with
  | zero => intro k hk; omega
  | succ ms ih_ =>
    intro k hk1_ hk2_ h1 fr_ cp_
    have rf1_ := rf.fr fr_
    have g_ : ∀ r, r ∉ [56] → ∀ {i : Nat} {v : Int32}, hX h r i = v → hX h1 r i = v := fun r hr i v e => (congrFun (fr_.2.2.2.2.2.2 r hr) i).trans e
    have gi_ : ∀ q, ∀ {v : Int32}, hI h q MO = v → hI h1 q MO = v := fun q v e => (fr_.2.2.2.2.2.1 q MO (fun z => absurd z.2 (by simp))).trans e
    refine Ev_iload_n dX11_setBase_14 rfl ?_
    refine Ev_aload_n dX11_setBase_15 rfl (by first | exact Or.inr ⟨_, rfl⟩ | exact rv_or _ | exact Or.inl rfl) ?_
    refine Ev_getA dX11_setBase_16 fX11_83 rf1_.1 (rr_madeLong rf1_) ?_
    refine Ev_iload_n dX11_setBase_19 rfl ?_
    refine Ev_ialdE _ dX11_setBase_20 (rk_madeLong rf1_) (rl_madeLong rf1_) (hi_n (by omega)) (by omega) (g_ 51 (by decide) eL_) ?_
    refine Ev_icmp_geN 54 dX11_setBase_21 (by decide) (by omega) (by omega) (fun zb21_ => ?_) (fun zb21_ => ?_)
    · have ek_ : k = n := by omega
      subst ek_
      exact kk_ _ fr_ cp_
    · refine Ev_aload_n dX11_setBase_24 rfl (by first | exact Or.inr ⟨_, rfl⟩ | exact rv_or _ | exact Or.inl rfl) ?_
      refine Ev_getA dX11_setBase_25 fX11_99 rf1_.1 (rr_base rf1_) ?_
      refine Ev_bipush (v := nI 120) dX11_setBase_28 (by decide) ?_
      refine Ev_iload_n dX11_setBase_30 rfl ?_
      refine Ev_imulN dX11_setBase_31 ?_
      refine Ev_iload_n dX11_setBase_32 rfl ?_
      refine Ev_iaddN dX11_setBase_33 ?_
      refine Ev_aload_n dX11_setBase_34 rfl (by first | exact Or.inr ⟨_, rfl⟩ | exact rv_or _ | exact Or.inl rfl) ?_
      refine Ev_getA dX11_setBase_35 fX11_86 rf1_.1 (rr_bytes rf1_) ?_
      refine Ev_aload_n dX11_setBase_38 rfl (by first | exact Or.inr ⟨_, rfl⟩ | exact rv_or _ | exact Or.inl rfl) ?_
      refine Ev_getA dX11_setBase_39 fX11_80 rf1_.1 (rr_madeFrom rf1_) ?_
      refine Ev_iload_n dX11_setBase_42 rfl ?_
      refine Ev_ialdE _ dX11_setBase_43 (rk_madeFrom rf1_) (rl_madeFrom rf1_) (hi_n (by omega)) (by omega) (g_ 50 (by decide) eM_) ?_
      refine Ev_iload_n dX11_setBase_44 rfl ?_
      refine Ev_iaddN dX11_setBase_45 ?_
      refine Ev_ialdL _ dX11_setBase_46 (rk_bytes rf1_) (rl_bytes rf1_) (hi_n (by omega)) (by omega) ?_
      refine Ev_iastL _ dX11_setBase_47 (rk_base rf1_) (rl_base rf1_) (hi_n (by omega)) (by omega) ?_
      refine Ev_iincN 1 dX11_setBase_48 (by decide) (by decide) rfl ?_
      refine Ev_goto 14 dX11_setBase_51 (by decide) ?_
      refine ih_ (k + 1) (by omega) (by omega) _ (fr_.tr (Fr.row (by decide))) ?_
      rw [hX_up]
      exact cp_.step (congrFun (fr_.2.2.2.2.2.2 52 (by decide)) _)
theorem ev_setBase (l : Launch) (G : aG) (i mf n : Nat) (h : aH) (rf : Rf h) (hi : i < 250) (hn : n ≤ 120) (hm : mf + n ≤ 3000) (eL_ : hX h 51 i = nI n) (eM_ : hX h 50 i = nI mf) : Ev l G 0 0 0 mX11_setBase 0 (en 3 [.ref MO, .int (nI i)]) [] h (fun x h' => x = none ∧ FH i h h' ∧ Fr [] [55, 56] h h' ∧ hX h' 55 i = nI n ∧ ∀ k, k < n → hX h' 56 (120 * i + k) = hX h 52 (mf + k)) := by
  refine Ev_aload_n dX11_setBase_0 rfl (by first | exact Or.inr ⟨_, rfl⟩ | exact rv_or _ | exact Or.inl rfl) ?_
  refine Ev_getA dX11_setBase_1 fX11_95 rf.1 (rr_baseLong rf) ?_
  refine Ev_iload_n dX11_setBase_4 rfl ?_
  refine Ev_aload_n dX11_setBase_5 rfl (by first | exact Or.inr ⟨_, rfl⟩ | exact rv_or _ | exact Or.inl rfl) ?_
  refine Ev_getA dX11_setBase_6 fX11_83 rf.1 (rr_madeLong rf) ?_
  refine Ev_iload_n dX11_setBase_9 rfl ?_
  refine Ev_ialdE _ dX11_setBase_10 (rk_madeLong rf) (rl_madeLong rf) (hi_n (by omega)) (by omega) eL_ ?_
  refine Ev_iastL _ dX11_setBase_11 (rk_baseLong rf) (rl_baseLong rf) (hi_n (by omega)) (by omega) ?_
  refine Ev_iconst (v := nI 0) dX11_setBase_12 (by decide) ?_
  refine Ev_istore_n dX11_setBase_13 (by decide) ?_
  refine ev_sb_l l G i mf n (sX h 55 i (nI n)) rf hi hn hm ((gX_X _ (by decide)).trans eL_) ((gX_X _ (by decide)).trans eM_) (fun h1 fr_ cp_ => ?_) 121 0 (by omega) (by omega) _ Fr.rf CpF.zero
  refine Ev_vret dX11_setBase_54 rfl ?_
  refine ⟨rfl, (FH.row (by decide)).tr (FH.base fr_ cp_ hn), (Fr.row (by decide)).tr (fr_.mo (by decide) (by decide)), (congrFun (fr_.2.2.2.2.2.2 55 (by decide)) _).trans (hX_s _ _ _ _), fun k hk => (cp_.in hk).trans (gX_X _ (by decide))⟩
theorem ev_hd_l (l : Launch) (G : aG) (i n : Nat) (h : aH) (rf : Rf h) {Q : Option Value → aH → Prop} (hi : i < 250) (hn : n ≤ 60) (en_ : hI h 785 MO = nI n) (kk_ : ∀ h1, Fr [] [54] h h1 → CpF (hX h 41) (hX h 54) (hX h1 54) (60 * i) (0) (n) → Ev l G 1 0 0 mX11_hand 83 [.ref MO, .int (nI i), .int (nI (n))] [] h1 Q) (ms : Nat) : ∀ k, n - k < ms → k ≤ n → ∀ h1, Fr [] [54] h h1 → CpF (hX h 41) (hX h 54) (hX h1 54) (60 * i) (0) k → Ev l G 1 0 0 mX11_hand 52 [.ref MO, .int (nI i), .int (nI k)] [] h1 Q := by
  induction ms with
  | zero => intro k hk; omega
  | succ ms ih_ =>
    intro k hk1_ hk2_ h1 fr_ cp_
    have rf1_ := rf.fr fr_
    have g_ : ∀ r, r ∉ [54] → ∀ {i : Nat} {v : Int32}, hX h r i = v → hX h1 r i = v := fun r hr i v e => (congrFun (fr_.2.2.2.2.2.2 r hr) i).trans e
    have gi_ : ∀ q, ∀ {v : Int32}, hI h q MO = v → hI h1 q MO = v := fun q v e => (fr_.2.2.2.2.2.1 q MO (fun z => absurd z.2 (by simp))).trans e
    refine Ev_iload_n dX11_hand_52 rfl ?_
    refine Ev_aload_n dX11_hand_53 rfl (by first | exact Or.inr ⟨_, rfl⟩ | exact rv_or _ | exact Or.inl rfl) ?_
    refine Ev_getE dX11_hand_54 fX11_134 rf1_.1 (gi_ 785 en_) ?_
    refine Ev_icmp_geN 83 dX11_hand_57 (by decide) (by omega) (by omega) (fun zb57_ => ?_) (fun zb57_ => ?_)
    · have ek_ : k = n := by omega
      subst ek_
      exact kk_ _ fr_ cp_
    · refine Ev_aload_n dX11_hand_60 rfl (by first | exact Or.inr ⟨_, rfl⟩ | exact rv_or _ | exact Or.inl rfl) ?_
      refine Ev_getA dX11_hand_61 fX11_92 rf1_.1 (rr_hand rf1_) ?_
      refine Ev_bipush (v := nI 60) dX11_hand_64 (by decide) ?_
      refine Ev_iload_n dX11_hand_66 rfl ?_
      refine Ev_imulN dX11_hand_67 ?_
      refine Ev_iload_n dX11_hand_68 rfl ?_
      refine Ev_iaddN dX11_hand_69 ?_
      refine Ev_aload_n dX11_hand_70 rfl (by first | exact Or.inr ⟨_, rfl⟩ | exact rv_or _ | exact Or.inl rfl) ?_
      refine Ev_getA dX11_hand_71 fX11_53 rf1_.1 (rr_tape rf1_) ?_
      refine Ev_iload_n dX11_hand_74 rfl ?_
      refine Ev_ialdL _ dX11_hand_75 (rk_tape rf1_) (rl_tape rf1_) (hi_n (by omega)) (by omega) ?_
      refine Ev_iastL _ dX11_hand_76 (rk_hand rf1_) (rl_hand rf1_) (hi_n (by omega)) (by omega) ?_
      refine Ev_iincN 1 dX11_hand_77 (by decide) (by decide) rfl ?_
      refine Ev_goto 52 dX11_hand_80 (by decide) ?_
      refine ih_ (k + 1) (by omega) (by omega) _ (fr_.tr (Fr.row (by decide))) ?_
      rw [hX_up]
      exact cp_.step (by rw [Nat.zero_add]; exact congrFun (fr_.2.2.2.2.2.2 41 (by decide)) _)
theorem ev_hand_52 (l : Launch) (G : aG) (tp : List Int32) (ps : List Pc) (i : Nat) (p : Pc) (h hA : aH) (rf : Rf h) (t_ : RTx ps 0 h) (rt_ : RTp tp h) (hp_ : ps[i]? = some p) (hl_ : tp.length ≤ 60) (fA_ : FH i h hA) (e53_ : hX hA 53 i = (if pcM p = tp then -1 else nI tp.length)) : Ev l G 1 0 0 mX11_hand 52 [.ref MO, .int (nI i), .int (nI 0)] [] hA (fun x h' => x = some (.int (nI 1)) ∧ RTx (ps.set i (setH p (if pcM p = tp then none else some (tp, pcM p)))) 0 h' ∧ RTp [] h' ∧ Fr [785] [53, 54, 55, 56, 57] h h') := by
  have n0_ := t_.1
  have il_ := (List.getElem?_eq_some_iff.mp hp_).1
  obtain ⟨bp_, rp_⟩ := t_.2.2.2.1 i p hp_
  rw [show 250 * 0 + i = i by omega] at rp_
  have st_ := stt_le hp_
  have f3x_ := t_.2.1
  have rfA_ : Rf hA := rf.fr fA_.1
  refine ev_hd_l l G i tp.length hA rfA_ (by omega) hl_ ((fA_.1.2.2.2.2.2.1 785 MO (fun z => absurd z.2 (by simp))).trans rt_.2.1) (fun h2 fr2_ cp2_ => ?_) 61 0 (by omega) (by omega) _ Fr.rf CpF.zero
  have f2_ : FH i h h2 := fA_.tr (FH.hand fr2_ cp2_ hl_)
  have rf2_ : Rf h2 := rf.fr f2_.1
  refine Ev_aload_n dX11_hand_83 rfl (by first | exact Or.inr ⟨_, rfl⟩ | exact rv_or _ | exact Or.inl rfl) ?_
  refine Ev_iload_n dX11_hand_84 rfl ?_
  refine Ev_Vz [.int (nI i)] dX11_hand_85 vX11_setBase kX11_272 rf2_.1 rfl rfl rfl (Nat.le_of_ble_eq_true rfl) (by omega) (ev_setBase l G i (stt ps i) (pcM p).length h2 rf2_ (by omega) bp_.2.2.2.2.2.2.1 (by omega) ((congrFun (f2_.1.2.2.2.2.2.2 51 (by decide)) _).trans rp_.2.2.2.1) ((congrFun (f2_.1.2.2.2.2.2.2 50 (by decide)) _).trans rp_.2.2.1)) (fun v_ h3 e_ => ?_)
  obtain ⟨rfl, fs_, fr3_, e55_, e56_⟩ := e_
  have f3_ : FH i h h3 := f2_.tr fs_
  have f4_ : FH i h (sX h3 57 i (nI 0)) := f3_.tr (FH.row (by decide))
  have v56_ : ∀ k, k < (pcM p).length → hX h3 56 (120 * i + k) = (pcM p).getD k 0 := fun k hk => (e56_ k hk).trans ((congrFun (f2_.1.2.2.2.2.2.2 52 (by decide)) _).trans (by have := t_.mb hp_ hk; rw [show 3000 * 0 + stt ps i + k = stt ps i + k by omega] at this; exact this))
  refine Ev_aload_n dX11_hand_88 rfl (by first | exact Or.inr ⟨_, rfl⟩ | exact rv_or _ | exact Or.inl rfl) ?_
  refine Ev_getA dX11_hand_89 fX11_102 (rf.fr f3_.1).1 (rr_clash (rf.fr f3_.1)) ?_
  refine Ev_iload_n dX11_hand_92 rfl ?_
  refine Ev_iconst (v := nI 0) dX11_hand_93 (by decide) ?_
  refine Ev_zastL _ dX11_hand_94 (rk_clash (rf.fr f3_.1)) (rl_clash (rf.fr f3_.1)) (by decide) (hi_n (by omega)) (by omega) ?_
  refine Ev_aload_n dX11_hand_95 rfl (by first | exact Or.inr ⟨_, rfl⟩ | exact rv_or _ | exact Or.inl rfl) ?_
  refine Ev_iconst (v := nI 0) dX11_hand_96 (by decide) ?_
  refine Ev_putI dX11_hand_97 fX11_134 ⟨_, rfl, Or.inl rfl⟩ (Or.inl rfl) (rf.fr f3_.1).1 ?_
  refine Ev_iconst (v := nI 1) dX11_hand_100 (by decide) ?_
  refine Ev_zret dX11_hand_101 rfl (by decide) ?_
  refine ⟨rfl, ?_, ⟨by simp, hI_s _ _ _ _, fun j hj => by simp at hj⟩, (f4_.1.mo (by decide) (by decide)).tr (Fr.int (by decide))⟩
  refine RTx.fr (h := sX h3 57 i (nI 0)) ?_ (Fr.int (ks := [785]) (as := []) (by decide)) (by decide)
  have key_ := t_.setH (hb := if pcM p = tp then none else some (tp, pcM p)) hp_ (by rw [show 250 * 0 + i = i by omega]; exact f4_) ?_ ?_ ?_
  · exact key_
  · rw [show 250 * 0 + i = i by omega]
    by_cases zq_ : pcM p = tp
    · rw [if_pos zq_] at e53_ ⊢
      exact (gX_X _ (by decide)).trans ((congrFun (fr3_.2.2.2.2.2.2 53 (by decide)) _).trans ((congrFun (fr2_.2.2.2.2.2.2 53 (by decide)) _).trans e53_))
    · rw [if_neg zq_] at e53_ ⊢
      exact ⟨(gX_X _ (by decide)).trans ((congrFun (fr3_.2.2.2.2.2.2 53 (by decide)) _).trans ((congrFun (fr2_.2.2.2.2.2.2 53 (by decide)) _).trans e53_)), (gX_X _ (by decide)).trans e55_, fun k hk => (gX_X _ (by decide)).trans ((congrFun (fr3_.2.2.2.2.2.2 54 (by decide)) _).trans ((cp2_.in hk).trans (by rw [Nat.zero_add, fA_.1.2.2.2.2.2.2 41 (by decide)]; exact rt_.2.2 k hk))), fun k hk => (gX_X _ (by decide)).trans (v56_ k hk)⟩
  · rw [show 250 * 0 + i = i by omega]
    refine (hX_s _ _ _ _).trans ?_
    by_cases zq_ : pcM p = tp
    · rw [if_pos zq_]; rfl
    · rw [if_neg zq_]
      show nI 0 = bI (decide (pcM p ≠ pcM p))
      simp; rfl
  · intro x hx
    by_cases zq_ : pcM p = tp
    · rw [if_pos zq_] at hx; cases hx
    · rw [if_neg zq_] at hx; cases hx
      exact ⟨by omega, bp_.2.2.2.2.2.2.1⟩ --end
def handL (ps : List Pc) (tp : List Int32) (v : Int32) : Option (List Pc) := if tp.length ≤ 60 then (match atP ps v with
  | none => none
  | some p => some (ps.set v.toInt.toNat (setH p (if pcM p = tp then none else some (tp, pcM p))))) else none
theorem ev_hand (l : Launch) (G : aG) (p_ : Int32) (tp : List Int32) (ps : List Pc) (h : aH) (rf : Rf h) (t_ : RTx ps 0 h) (rt_ : RTp tp h) : Ev l G 2 0 0 mX11_hand 0 (en 3 [.ref MO, .int p_]) [] h (fun x h' => (handL ps tp p_ = none ∧ x = some (.int (nI 0)) ∧ h' = h) ∨ (∃ ps', handL ps tp p_ = some ps' ∧ x = some (.int (nI 1)) ∧ RTx ps' 0 h' ∧ RTp [] h' ∧ Fr [785] [53, 54, 55, 56, 57] h h')) := by
  have n0_ := t_.1
  refine Ev_aload_n dX11_hand_0 rfl (by first | exact Or.inr ⟨_, rfl⟩ | exact rv_or _ | exact Or.inl rfl) ?_
  refine Ev_iload_n dX11_hand_1 rfl ?_
  refine Ev_V0 [.int p_] dX11_hand_2 vX11_isPiece kX11_263 rf.1 rfl rfl rfl (Nat.le_of_ble_eq_true rfl) (by omega) (ev_isPiece l G p_ ps.length h rf t_.2.2.1 (by omega)) ?_
  refine Ev_if_eqB 17 dX11_hand_5 (by decide) (fun zb5_ => ?_) (fun zb5_ => ?_)
  · have ea_ : atP ps p_ = none := atP_no (isPc_f zb5_)
    refine Ev_iconst (v := nI 0) dX11_hand_17 (by decide) ?_
    refine Ev_zret dX11_hand_18 rfl (by decide) ?_
    refine Or.inl ⟨?_, rfl, rfl⟩
    unfold handL
    first
    | (rw [ea_]; split <;> rfl)
    | (rw [if_neg (by omega)]; done)
  · have zp_ := isPc_iff.mp zb5_
    obtain ⟨i, hi0_, rfl⟩ := as_nI (n := 250) zp_.1 (by omega)
    rw [hi_n (by omega)] at zp_
    have il_ : i < ps.length := by omega
    obtain ⟨p, hp_⟩ : ∃ p, ps[i]? = some p := ⟨_, List.getElem?_eq_getElem il_⟩
    obtain ⟨bp_, rp_⟩ := t_.2.2.2.1 i p hp_
    rw [show 250 * 0 + i = i by omega] at rp_
    have ea_ : atP ps (nI i) = some p := atP_n hp_ (by omega)
    have b120_ := rt_.1
    have st_ := stt_le hp_
    have f3_ := t_.2.1
    have ml_ := bp_.2.2.2.2.2.2.1
    refine Ev_aload_n dX11_hand_8 rfl (by first | exact Or.inr ⟨_, rfl⟩ | exact rv_or _ | exact Or.inl rfl) ?_
    refine Ev_getE dX11_hand_9 fX11_134 rf.1 rt_.2.1 ?_
    refine Ev_bipush (v := nI 60) dX11_hand_12 (by decide) ?_
    refine Ev_icmp_leN 19 dX11_hand_14 (by decide) (by omega) (by omega) (fun zb14_ => ?_) (fun zb14_ => ?_)
    · refine Ev_aload_n dX11_hand_19 rfl (by first | exact Or.inr ⟨_, rfl⟩ | exact rv_or _ | exact Or.inl rfl) ?_
      refine Ev_getA dX11_hand_20 fX11_89 rf.1 (rr_handLong rf) ?_
      refine Ev_iload_n dX11_hand_23 rfl ?_
      refine Ev_aload_n dX11_hand_24 rfl (by first | exact Or.inr ⟨_, rfl⟩ | exact rv_or _ | exact Or.inl rfl) ?_
      refine Ev_iload_n dX11_hand_25 rfl ?_
      refine Ev_aload_n dX11_hand_26 rfl (by first | exact Or.inr ⟨_, rfl⟩ | exact rv_or _ | exact Or.inl rfl) ?_
      refine Ev_getA dX11_hand_27 fX11_53 rf.1 (rr_tape rf) ?_
      refine Ev_iconst (v := nI 0) dX11_hand_30 (by decide) ?_
      refine Ev_aload_n dX11_hand_31 rfl (by first | exact Or.inr ⟨_, rfl⟩ | exact rv_or _ | exact Or.inl rfl) ?_
      refine Ev_getE dX11_hand_32 fX11_134 rf.1 rt_.2.1 ?_
      refine Ev_V0 [.int (nI i), .ref 41, .int (nI 0), .int (nI tp.length)] dX11_hand_35 vX11_isMade kX11_229 rf.1 rfl rfl rfl (Nat.le_of_ble_eq_true rfl) (by omega) (ev_isMade l G i (stt ps i) 41 0 tp.length (by omega) h rf (rk_tape rf) rp_.2.2.1 (fun z => ?_) (fun z => by rw [rl_tape rf]; omega) (by rw [rl_tape rf]; omega)) ?_
      · have := mof_le i
        have el_ : tp.length = (pcM p).length := nI_inj (by omega) (by omega) (z.symm.trans rp_.2.2.2.1)
        omega
      rw [show isMd h i (stt ps i) 41 0 tp.length = decide (pcM p = tp) by have := t_.md (a := 41) (f := 0) (xs := tp) (by omega) hp_ (fun k hk => by rw [Nat.zero_add]; exact rt_.2.2 k hk) (by omega); rw [show 250 * 0 + i = i by omega] at this; exact this]
      refine Ev_if_eqB 45 dX11_hand_38 (by decide) (fun zb38_ => ?_) (fun zb38_ => ?_)
      · refine Ev_aload_n dX11_hand_45 rfl (by first | exact Or.inr ⟨_, rfl⟩ | exact rv_or _ | exact Or.inl rfl) ?_
        refine Ev_getE dX11_hand_46 fX11_134 rf.1 rt_.2.1 ?_
        refine Ev_iastL _ dX11_hand_49 (rk_handLong rf) (rl_handLong rf) (hi_n (by omega)) (by omega) ?_
        refine Ev_iconst (v := nI 0) dX11_hand_50 (by decide) ?_
        refine Ev_istore_n dX11_hand_51 (by decide) ?_
        refine Ev.deep (d' := 1) (by omega) (Ev.post (fun x h' e_ => ?_) (ev_hand_52 l G tp ps i p h _ rf t_ rt_ hp_ (by omega) (FH.row (by decide)) ((hX_s _ _ _ _).trans ?_)))
        · refine Or.inr ⟨_, ?_, e_.1, e_.2.1, e_.2.2.1, e_.2.2.2⟩
          unfold handL
          rw [if_pos (by omega), ea_]
          show some (ps.set (nI i).toInt.toNat _) = _
          rw [hi_n (by omega)]; rfl
        · first
          | (rw [if_pos (of_decide_eq_true zb38_)]; done)
          | (rw [if_neg (of_decide_eq_false zb38_)]; done)
      · refine Ev_iconst (v := -1) dX11_hand_41 (by decide) ?_
        refine Ev_goto 49 dX11_hand_42 (by decide) ?_
        refine Ev_iastL _ dX11_hand_49 (rk_handLong rf) (rl_handLong rf) (hi_n (by omega)) (by omega) ?_
        refine Ev_iconst (v := nI 0) dX11_hand_50 (by decide) ?_
        refine Ev_istore_n dX11_hand_51 (by decide) ?_
        refine Ev.deep (d' := 1) (by omega) (Ev.post (fun x h' e_ => ?_) (ev_hand_52 l G tp ps i p h _ rf t_ rt_ hp_ (by omega) (FH.row (by decide)) ((hX_s _ _ _ _).trans ?_)))
        · refine Or.inr ⟨_, ?_, e_.1, e_.2.1, e_.2.2.1, e_.2.2.2⟩
          unfold handL
          rw [if_pos (by omega), ea_]
          show some (ps.set (nI i).toInt.toNat _) = _
          rw [hi_n (by omega)]; rfl
        · first
          | (rw [if_pos (of_decide_eq_true zb38_)]; done)
          | (rw [if_neg (of_decide_eq_false zb38_)]; done)
    · refine Ev_iconst (v := nI 0) dX11_hand_17 (by decide) ?_
      refine Ev_zret dX11_hand_18 rfl (by decide) ?_
      refine Or.inl ⟨?_, rfl, rfl⟩
      unfold handL
      first
      | (rw [ea_]; split <;> rfl)
      | (rw [if_neg (by omega)]; done)
