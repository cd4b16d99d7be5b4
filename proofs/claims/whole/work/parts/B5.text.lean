theorem stE_len {a b : Nat × List Pc} {e : Option Pc} (h : stE a e = some b) (ha : a.2.length ≤ 250) : a.2.length ≤ b.2.length ∧ b.2.length ≤ 250 := by
  unfold stE at h
  cases e with
  | none =>
    simp only at h
    split at h
    · cases h; exact ⟨Nat.le_refl _, ha⟩
    · cases h
  | some p =>
    simp only at h
    split at h
    · next z => cases h; simp; omega
    · cases h
theorem fdE_len {es : List (Option Pc)} : ∀ {a b : Nat × List Pc}, fdE es a = some b → a.2.length ≤ 250 → a.2.length ≤ b.2.length ∧ b.2.length ≤ 250 := by
  induction es with
  | nil => intro a b h ha; cases h; exact ⟨Nat.le_refl _, ha⟩
  | cons e es ih_ =>
    intro a b h ha
    cases hs : stE a e with
    | none => rw [fdE_c0 hs] at h; cases h
    | some c =>
      rw [fdE_c1 hs] at h
      have h1 := stE_len hs ha
      have h2 := ih_ h h1.2
      exact ⟨by omega, h2.2⟩
def bdE (mid : Option (Nat × List Pc)) (fs : List (Option Pc)) : Option (Nat × List Pc) := match mid with
  | none => none
  | some b => fdE fs b
def rst (mid : Option (Nat × List Pc)) (fs : List (Option Pc)) : Nat := match mid with
  | none => 0
  | some b => cst (fdE fs b) b.2.length
theorem cst_bd {mid : Option (Nat × List Pc)} {fs : List (Option Pc)} {n : Nat} (hm : ∀ b, mid = some b → n ≤ b.2.length ∧ b.2.length ≤ 250) : cst mid n + rst mid fs = cst (bdE mid fs) n := by
  cases mid with
  | none => rfl
  | some b =>
    have h := hm b rfl
    show b.2.length - n + cst (fdE fs b) b.2.length = cst (fdE fs b) n
    cases hf : fdE fs b with
    | none => show b.2.length - n + (250 - b.2.length) = 250 - n; omega
    | some e =>
      have h2 := fdE_len hf h.2
      show b.2.length - n + (e.2.length - b.2.length) = e.2.length - n
      omega
theorem bdE_app (es fs : List (Option Pc)) (a : Nat × List Pc) : fdE (es ++ fs) a = bdE (fdE es a) fs := fdE_app
theorem bdE_c (e : Option Pc) (fs : List (Option Pc)) (a : Nat × List Pc) : fdE (e :: fs) a = bdE (stE a e) fs := rfl
theorem FlP.of {g : Gh} {o1 : Ow} {T : Nat} {h h1 h2 : aH} {r : Option (Nat × List Pc)} {x : Option Value} (f : FlF g o1 T h h1) (p : FlP (gw g o1) T h1 r x h2) : FlP g T h r x h2 := by
  obtain ⟨rfl, o2, f2, c2⟩ := p
  exact ⟨rfl, o2, f.tr f2, c2⟩
theorem mkP_C {m : Md} (k : MOk m) {an wy : List Nat} {c i : Nat} {it : It} (hcm : mCm m ≤ 600) (hc : mLive m c) (ok : itOk it) (h4 : it.1 ≤ 4) (hi : i < 20) (hl : an.length < 6) (hw : wy.length = an.length) (hw2 : ∀ x ∈ wy, x < 20) (ha : ∀ x ∈ an, x < 600) : PcB (mkP m an wy c i it) := by
  have h1 := (k.2.1 c (k.lt hc))
  refine ⟨?_, ?_, ?_, hi, h4, fun z => ok.2.1 (Or.inl z), mdF_len k hc ok, h1.2.1, k.sl hc, hw2, fun x hx => ?_, fun hb z => by cases z⟩
  · show 1 ≤ (an ++ [c]).length; simp
  · show (an ++ [c]).length ≤ 6; simp; omega
  · show wy.length + 1 = (an ++ [c]).length; simp; omega
  · rcases List.mem_append.mp (show x ∈ an ++ [c] from hx) with h2 | h2
    · exact ha x h2
    · rw [List.mem_singleton.mp h2]
      have := k.lt hc
      omega
theorem wyE_add (wy : List Nat) (i : Nat) : wyE (wy ++ [i]) = wyE wy * 32 + i := by simp [wyE, List.foldl_append]
/-- a use is made: the contract, by how deep it may still go -/
def UseC (l : Launch) (G : aG) (m : Md) (ru : Nat → List It) (T : Nat) (n : Nat) : Prop := ∀ (an wy : List Nat) (c u : Nat) (ps : List Pc) (g : Gh) (h : aH), n + an.length = 6 → wy.length = an.length → (∀ x ∈ wy, x < 20) → (∀ x ∈ an, x < 600) → mLive m c → mDp m c = an.length + 1 → WBd g m ru h → hR h 258 24 = some T → CBt g T u ps h → Ev l G (2 * n + 4) (cst (fdE (mkU m ru n an wy c) (u, ps)) ps.length) (9 * cst (fdE (mkU m ru n an wy c) (u, ps)) ps.length) mX3_makeUse 0 (en 8 [.ref 24, .ref (wA g c), .int (nI (wyE wy)), .int (nI (an.length + 1))]) [] h (FlP g T h (fdE (mkU m ru n an wy c) (u, ps)))
def kcE (m : Md) (ru : Nat → List It) (n : Nat) (an wy : List Nat) (c i kd : Nat) (xs : List Nat) : List (Option Pc) := mkC m (fun x => mkU m ru n (an ++ [c]) (wy ++ [i]) x) kd xs
def PartsC (l : Launch) (G : aG) (m : Md) (ru : Nat → List It) (T : Nat) (n : Nat) : Prop := ∀ (an wy : List Nat) (c i kd u : Nat) (ps : List Pc) (g : Gh) (h : aH), n + an.length = 5 → wy.length = an.length → (∀ x ∈ wy, x < 20) → (∀ x ∈ an, x < 600) → i < 20 → kd < 8 → mLive m c → mDp m c = an.length + 1 → WBd g m ru h → hR h 258 24 = some T → CBt g T u ps h → Ev l G (2 * n + 5) (cst (fdE (kcE m ru n an wy c i kd (mCh m (some c))) (u, ps)) ps.length) (9 * cst (fdE (kcE m ru n an wy c i kd (mCh m (some c))) (u, ps)) ps.length) mX3_makeParts 0 (en 7 [.ref 24, .ref (wA g c), .int (nI kd), .int (nI (wyE wy * 32 + i)), .int (nI (an.length + 1))]) [] h (FlP g T h (fdE (kcE m ru n an wy c i kd (mCh m (some c))) (u, ps)))
theorem ec_parts3F (l : Launch) (G : aG) (d : Nat) (hd_ : 3 ≤ d) (kd way dp k c : Nat) (v6_ : Value) (g : Gh) (m : Md) (ru : Nat → List It) (T : Nat) (h : aH) (w : WBd g m ru h) (mk : MOk m) (hT : T = 18 ∨ T = 21) (hc_ : mLive m c) (tg_ : hR h 258 24 = some T) (fu_ : hI h 580 T = nI 1) (hk_ : k ≤ 1000) : Ev l G d 0 0 mX3_makeParts 3 [.ref 24, .ref (wA g c), .int (nI kd), .int (nI way), .int (nI dp), .int (nI k), v6_] [] h (Ex none h) := by
  obtain ⟨n63_, cf, wf, cm, cr⟩ := id w
  have k24_ := ck_24 cf
  have kT_ := (tx_f cf hT).1
  have t1_ := cm.1 c (mk.lt hc_)
  have cl_ := (t1_.2.2.2 hc_).2.2
  have kl_ := t1_.2.2.1.1
  have lc_ : (mCh m (some c)).length ≤ 24 := ch_le mk (some c)
  refine Ev_iload dX3_makeParts_3 rfl ?_
  refine Ev_aload_n dX3_makeParts_5 rfl (by first | exact Or.inr ⟨_, rfl⟩ | exact rv_or _ | exact Or.inl rfl) ?_
  refine Ev_getA dX3_makeParts_6 fX3_32 t1_.1.1 t1_.1.2.2.2.2.2.2.2.1 ?_
  refine Ev_V0 [] dX3_makeParts_9 vJx4a65c_size_8abf5 kX3_38 kl_ rfl rfl rfl (Nat.le_of_ble_eq_true rfl) (by omega) (ej_size l G (wL g c) ((mCh m (some c)).map (wA g)) 10 h cl_.1.1) ?_
  rw [List.length_map]
  refine Ev_icmp_geN 65 dX3_makeParts_12 (by decide) (by omega) (by omega) (fun zb12_ => ?_) (fun zb12_ => ?_)
  · refine Ev_vret dX3_makeParts_65 rfl ?_
    exact ⟨rfl, rfl⟩
  · refine Ev_aload_n dX3_makeParts_15 rfl (by first | exact Or.inr ⟨_, rfl⟩ | exact rv_or _ | exact Or.inl rfl) ?_
    refine Ev_getA dX3_makeParts_16 fX3_19 k24_ tg_ ?_
    refine Ev_getE dX3_makeParts_19 fX3_44 kT_ fu_ ?_
    refine Ev_if_neT 65 dX3_makeParts_22 (by decide) (fun zb22_ => ?_) (fun zb22_ => ?_)
    · refine Ev_vret dX3_makeParts_65 rfl ?_
      exact ⟨rfl, rfl⟩
    · exact absurd zb22_ (by decide)
theorem ec_parts_l (l : Launch) (G : aG) (n : Nat) (m : Md) (ru : Nat → List It) (T : Nat) (mk : MOk m) (hcm : mCm m ≤ 600) (hT : T = 18 ∨ T = 21) (hU : UseC l G m ru T n) (an wy : List Nat) (c i kd : Nat) (hn_ : n + an.length = 5) (hw_ : wy.length = an.length) (hw2_ : ∀ x ∈ wy, x < 20) (ha_ : ∀ x ∈ an, x < 600) (hi_ : i < 20) (hkd_ : kd < 8) (hc_ : mLive m c) (dp_ : mDp m c = an.length + 1) : ∀ (rest : List Nat) (k : Nat), (mCh m (some c)).drop k = rest → k ≤ 1000 → ∀ (u : Nat) (ps : List Pc) (g : Gh) (h : aH) (v6_ : Value), WBd g m ru h → hR h 258 24 = some T → CBt g T u ps h → Ev l G (2 * n + 5) (cst (fdE (kcE m ru n an wy c i kd rest) (u, ps)) ps.length) (9 * cst (fdE (kcE m ru n an wy c i kd rest) (u, ps)) ps.length) mX3_makeParts 3 [.ref 24, .ref (wA g c), .int (nI kd), .int (nI (wyE wy * 32 + i)), .int (nI (an.length + 1)), .int (nI k), v6_] [] h (FlP g T h (fdE (kcE m ru n an wy c i kd rest) (u, ps))) := by
  intro rest
  induction rest with
  | nil =>
    intro k hd_ hk1000_ u ps g h v6_ w tg_ b
    have hk_ := List.drop_eq_nil_iff.mp hd_
    obtain ⟨n63_, cf, wf, cm, cr⟩ := id w
    have k24_ := ck_24 cf
    have kT_ := (tx_f cf hT).1
    have t1_ := cm.1 c (mk.lt hc_)
    have cl_ := (t1_.2.2.2 hc_).2.2
    have kl_ := t1_.2.2.1.1
    have fu_ := b.2.2.1
    have lc_ : (mCh m (some c)).length ≤ 24 := ch_le mk (some c)
    refine Ev_iload dX3_makeParts_3 rfl ?_
    refine Ev_aload_n dX3_makeParts_5 rfl (by first | exact Or.inr ⟨_, rfl⟩ | exact rv_or _ | exact Or.inl rfl) ?_
    refine Ev_getA dX3_makeParts_6 fX3_32 t1_.1.1 t1_.1.2.2.2.2.2.2.2.1 ?_
    refine Ev_V0 [] dX3_makeParts_9 vJx4a65c_size_8abf5 kX3_38 kl_ rfl rfl rfl (Nat.le_of_ble_eq_true rfl) (by omega) (ej_size l G (wL g c) ((mCh m (some c)).map (wA g)) 10 h cl_.1.1) ?_
    rw [List.length_map]
    refine Ev_icmp_geN 65 dX3_makeParts_12 (by decide) (by omega) (by omega) (fun zb12_ => ?_) (fun zb12_ => ?_)
    · refine Ev_vret dX3_makeParts_65 rfl ?_
      exact ⟨rfl, wO g, FlF.rf, b⟩
    · exact False.elim (by omega)
  | cons x rest ih_ =>
    intro k hd_ hk1000_ u ps g h v6_ w tg_ b
    refine Ev_hv (fun hv => ?_)
    have hx_ : (mCh m (some c))[k]? = some x := by
      have e := congrArg (fun q => q[0]?) hd_
      simpa using e
    have dr_ : (mCh m (some c)).drop (k + 1) = rest := by
      rw [← List.drop_drop, hd_]; rfl
    have hkl_ := (List.getElem?_eq_some_iff.mp hx_).1
    obtain ⟨n63_, cf, wf, cm, cr⟩ := id w
    have k24_ := ck_24 cf
    have kT_ := (tx_f cf hT).1
    have t1_ := cm.1 c (mk.lt hc_)
    have cl_ := (t1_.2.2.2 hc_).2.2
    have kl_ := t1_.2.2.1.1
    have fu_ := b.2.2.1
    have lc_ : (mCh m (some c)).length ≤ 24 := ch_le mk (some c)
    have lx_ := (mk.2.2.2.1 (some c) x).mp (List.mem_of_getElem? hx_)
    have tx_ := cm.1 x (mk.lt lx_.1)
    have kx_ := (mk.2.1 x (mk.lt lx_.1)).2.1
    have dx_ : mDp m x = mDp m c + 1 := ((mk.2.1 x (mk.lt lx_.1)).2.2.2.2.2 c lx_.2).2
    have wy2_ : ∀ y ∈ wy ++ [i], y < 20 := fun y hy => by
      rcases List.mem_append.mp hy with z | z
      · exact hw2_ y z
      · rw [List.mem_singleton.mp z]; exact hi_
    have an2_ : ∀ y ∈ an ++ [c], y < 600 := fun y hy => by
      rcases List.mem_append.mp hy with z | z
      · exact ha_ y z
      · rw [List.mem_singleton.mp z]; have := mk.lt hc_; omega
    have ne_ : ∀ h1, FlP g T h (fdE (mkU m ru n (an ++ [c]) (wy ++ [i]) x) (u, ps)) none h1 → Ev l G (2 * n + 5) (rst (fdE (mkU m ru n (an ++ [c]) (wy ++ [i]) x) (u, ps)) (kcE m ru n an wy c i kd rest)) (9 * rst (fdE (mkU m ru n (an ++ [c]) (wy ++ [i]) x) (u, ps)) (kcE m ru n an wy c i kd rest)) mX3_makeParts 59 [.ref 24, .ref (wA g c), .int (nI kd), .int (nI (wyE wy * 32 + i)), .int (nI (an.length + 1)), .int (nI k), .ref (wA g x)] [] h1 (FlP g T h (bdE (fdE (mkU m ru n (an ++ [c]) (wy ++ [i]) x) (u, ps)) (kcE m ru n an wy c i kd rest))) := by
      intro h1 e
      obtain ⟨-, o1, f1, c1⟩ := e
      have w1 := f1.wb w hv hT
      have tg1 : hR h1 258 24 = some T := (f1.2.2 _ _ (by decide)).trans tg_
      cases hm : fdE (mkU m ru n (an ++ [c]) (wy ++ [i]) x) (u, ps) with
      | none =>
        rw [hm] at c1
        refine Ev_iincN 1 dX3_makeParts_59 (by decide) (by decide) rfl ?_
        refine Ev_goto 3 dX3_makeParts_62 (by decide) ?_
        exact Ev.lift (Nat.le_refl _) (by omega) (by omega) (Ev.ex (ec_parts3F l G (2 * n + 5) (by omega) kd (wyE wy * 32 + i) (an.length + 1) (k + 1) c (.ref (wA g x)) (gw g o1) m ru T h1 w1 mk hT hc_ tg1 c1.2 (by omega)) ⟨rfl, o1, f1, c1⟩)
      | some b1 =>
        rw [hm] at c1
        refine Ev_iincN 1 dX3_makeParts_59 (by decide) (by decide) rfl ?_
        refine Ev_goto 3 dX3_makeParts_62 (by decide) ?_
        refine Ev.post (fun v h2 e2 => FlP.of f1 e2) (ih_ (k + 1) dr_ (by omega) b1.1 b1.2 (gw g o1) h1 _ w1 tg1 c1)
    refine Ev_iload dX3_makeParts_3 rfl ?_
    refine Ev_aload_n dX3_makeParts_5 rfl (by first | exact Or.inr ⟨_, rfl⟩ | exact rv_or _ | exact Or.inl rfl) ?_
    refine Ev_getA dX3_makeParts_6 fX3_32 t1_.1.1 t1_.1.2.2.2.2.2.2.2.1 ?_
    refine Ev_V0 [] dX3_makeParts_9 vJx4a65c_size_8abf5 kX3_38 kl_ rfl rfl rfl (Nat.le_of_ble_eq_true rfl) (by omega) (ej_size l G (wL g c) ((mCh m (some c)).map (wA g)) 10 h cl_.1.1) ?_
    rw [List.length_map]
    refine Ev_icmp_geN 65 dX3_makeParts_12 (by decide) (by omega) (by omega) (fun zb12_ => ?_) (fun zb12_ => ?_)
    · exact False.elim (by omega)
    · refine Ev_aload_n dX3_makeParts_15 rfl (by first | exact Or.inr ⟨_, rfl⟩ | exact rv_or _ | exact Or.inl rfl) ?_
      refine Ev_getA dX3_makeParts_16 fX3_19 k24_ tg_ ?_
      refine Ev_getE dX3_makeParts_19 fX3_44 kT_ fu_ ?_
      refine Ev_if_neT 65 dX3_makeParts_22 (by decide) (fun zb22_ => ?_) (fun zb22_ => ?_)
      · exact absurd zb22_ (by decide)
      · refine Ev_aload_n dX3_makeParts_25 rfl (by first | exact Or.inr ⟨_, rfl⟩ | exact rv_or _ | exact Or.inl rfl) ?_
        refine Ev_getA dX3_makeParts_26 fX3_32 t1_.1.1 t1_.1.2.2.2.2.2.2.2.1 ?_
        refine Ev_iload dX3_makeParts_29 rfl ?_
        refine Ev_V0 [.int (nI k)] dX3_makeParts_31 vJx4a65c_get_915e3 kX3_48 kl_ rfl rfl rfl (Nat.le_of_ble_eq_true rfl) (by omega) (ej_get l G (wL g c) k (wA g x) ((mCh m (some c)).map (wA g)) 10 h cl_.1.1 (by rw [List.getElem?_map, hx_]; rfl)) ?_
        refine Ev_cast dX3_makeParts_34 tx_.1.1 rfl qX3_33 ?_
        refine Ev_astore dX3_makeParts_37 (by decide) (by first | exact Or.inr ⟨_, rfl⟩ | exact rv_or _ | exact Or.inl rfl) ?_
        refine Ev_aload dX3_makeParts_39 rfl (by first | exact Or.inr ⟨_, rfl⟩ | exact rv_or _ | exact Or.inl rfl) ?_
        refine Ev_getE dX3_makeParts_41 fX3_56 tx_.1.1 tx_.1.2.2.2.1 ?_
        refine Ev_iload_n dX3_makeParts_44 rfl ?_
        refine Ev_icmp_neN 59 dX3_makeParts_45 (by decide) (by omega) (by omega) (fun zb45_ => ?_) (fun zb45_ => ?_)
        · have ec_ : fdE (kcE m ru n an wy c i kd (x :: rest)) (u, ps) = fdE (kcE m ru n an wy c i kd rest) (u, ps) := by
            show fdE (if mKd m x = kd then _ else _) _ = _
            rw [if_neg zb45_]
            rfl
          rw [ec_]
          first
          | exact ne_ h1 ⟨rfl, e2_⟩
          | (refine Ev_iincN 1 dX3_makeParts_59 (by decide) (by decide) rfl ?_
             refine Ev_goto 3 dX3_makeParts_62 (by decide) ?_
             exact ih_ (k + 1) dr_ (by omega) u ps g h _ w tg_ b)
        · have ec_ : fdE (kcE m ru n an wy c i kd (x :: rest)) (u, ps) = bdE (fdE (mkU m ru n (an ++ [c]) (wy ++ [i]) x) (u, ps)) (kcE m ru n an wy c i kd rest) := by
            rw [← bdE_app]
            show fdE (if mKd m x = kd then _ else _) _ = _
            rw [if_pos zb45_]
            rfl
          have ux_ := hU (an ++ [c]) (wy ++ [i]) x u ps g h (by simp; omega) (by simp; omega) wy2_ an2_ lx_.1 (by rw [dx_, dp_]; simp) w tg_ b
          rw [wyE_add, List.length_append] at ux_
          have ca_ := cst_bd (fs := kcE m ru n an wy c i kd rest) (n := ps.length) (mid := fdE (mkU m ru n (an ++ [c]) (wy ++ [i]) x) (u, ps)) (fun b1 h1 => fdE_len h1 b.1.2.1)
          rw [← ec_] at ca_
          refine Ev_aload_n dX3_makeParts_48 rfl (by first | exact Or.inr ⟨_, rfl⟩ | exact rv_or _ | exact Or.inl rfl) ?_
          refine Ev_aload dX3_makeParts_49 rfl (by first | exact Or.inr ⟨_, rfl⟩ | exact rv_or _ | exact Or.inl rfl) ?_
          refine Ev_iload_n dX3_makeParts_51 rfl ?_
          refine Ev_iload dX3_makeParts_52 rfl ?_
          refine Ev_iconst (v := nI 1) dX3_makeParts_54 (by decide) ?_
          refine Ev_iaddN dX3_makeParts_55 ?_
          refine Ev_Vg (mc2 := rst (fdE (mkU m ru n (an ++ [c]) (wy ++ [i]) x) (u, ps)) (kcE m ru n an wy c i kd rest)) (ms2 := 9 * rst (fdE (mkU m ru n (an ++ [c]) (wy ++ [i]) x) (u, ps)) (kcE m ru n an wy c i kd rest)) [.ref (wA g x), .int (nI (wyE wy * 32 + i)), .int (nI (an.length + 1 + 1))] dX3_makeParts_56 vX3_makeUse kX3_52 k24_ rfl rfl rfl (Nat.le_of_ble_eq_true rfl) (by omega) (by omega) (by omega) (ux_) (fun v_ h1 e_ => ?_)
          obtain ⟨rfl, e2_⟩ := e_
          rw [ec_]
          first
          | exact ne_ h1 ⟨rfl, e2_⟩
          | (refine Ev_iincN 1 dX3_makeParts_59 (by decide) (by decide) rfl ?_
             refine Ev_goto 3 dX3_makeParts_62 (by decide) ?_
             exact ih_ (k + 1) dr_ (by omega) u ps g h _ w tg_ b)
theorem ec_makeParts (l : Launch) (G : aG) (n : Nat) (m : Md) (ru : Nat → List It) (T : Nat) (mk : MOk m) (hcm : mCm m ≤ 600) (hT : T = 18 ∨ T = 21) (hU : UseC l G m ru T n) : PartsC l G m ru T n := by
  intro an wy c i kd u ps g h hn_ hw_ hw2_ ha_ hi_ hkd_ hc_ dp_ w tg_ b
  refine Ev_iconst (v := nI 0) dX3_makeParts_0 (by decide) ?_
  refine Ev_istore dX3_makeParts_1 (by decide) ?_
  exact ec_parts_l l G n m ru T mk hcm hT hU an wy c i kd hn_ hw_ hw2_ ha_ hi_ hkd_ hc_ dp_ (mCh m (some c)) 0 rfl (by omega) u ps g h _ w tg_ b
