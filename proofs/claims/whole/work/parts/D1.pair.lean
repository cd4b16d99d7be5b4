theorem CS.fed {g : Gh} {tp tp' : List Int32} {m : Md} {ru : Nat → List It} {fa : Int32 × Int32} {ps : List Pc} {ln : List (List Int32 × Nat × Nat)} {fl : Nat} {h h' : aH} (cs : CS g tp m ru fa ps ln fl h) (hv : Hv h) (hps : ∀ p ∈ ps, pcC p < mCm m) (f : FTp h h') (ct : CTp tp' h') : CS g tp' m ru fa ps ln fl h' ∧ FX h h' := by
  have wf := cs.1.2.2
  have fo : FO (fun b => b = 4 ∨ b = 5) h h' := ⟨Nat.le_of_eq f.1.symm, fun b _ => ⟨by rw [f.2.1], by rw [f.2.2.2.1], fun z => ⟨f.2.2.2.2.2.2 b (fun y => z (Or.inr y)), by rw [f.2.2.2.2.1], fun k => ⟨f.2.2.2.2.2.1 k b (fun y => z (Or.inl y.2)), by rw [f.2.2.1]⟩⟩⟩⟩
  have w4 : wO g 4 = (9, 4) := wf.1 4 (by decide)
  have w5 : wO g 5 = (9, 5) := wf.1 5 (by decide)
  refine cs.model hv (fo.mo (fun b _ z => ?_)) (fun _ _ => rfl) (fun _ _ => rfl) hps (fun k => ⟨by rw [f.2.2.1], by rw [f.2.2.1]⟩) ct (cs.2.2.1.fo cs.1.2.1 wf (S := fun tg => tg = (9, 4) ∨ tg = (9, 5)) (fo.mo (fun b _ z => ?_)) hv (fun _ _ => rfl) (fun tg ht z => ?_))
  · show SMd (wO g b)
    rcases z with rfl | rfl
    · rw [w4]; exact Or.inr (Or.inr (Or.inr (Or.inr (by decide))))
    · rw [w5]; exact Or.inr (Or.inr (Or.inr (Or.inr (by decide))))
  · rcases z with rfl | rfl
    · exact Or.inl w4
    · exact Or.inr w5
  · rcases z with rfl | rfl <;> revert ht <;> decide
theorem pr_feed (l : Launch) (G : aG) (a b c d e : Int32) {n : Nat} {h : aH} (S : Sim n h) (hn : n < 512) : Pair l G mX10_feed mX11_feed [.int a, .int b, .int c, .int d, .int e] h (Sim (n + 1)) := by
  obtain ⟨g, tp, m, ru, fa, ps, ln, fl, cs, rs, mk, ⟨mp, md⟩, cn, fln⟩ := S
  refine ⟨_, Ev_hvp (Ev.lift (by omega) (by omega) (by omega) (ec_feed l G a b c d e tp h cs.1.2.1 cs.2.1)), fun v h1 z => ?_⟩
  obtain ⟨hv, z⟩ := z
  rcases z with ⟨z, rfl, e1⟩ | ⟨z, rfl, ct, ft⟩
  · subst h1
    refine ⟨_, _, rfl, rs.1.1, Ev.lift (by omega) (by omega) (by omega) (ev_feed l G a b c d e tp h rs.1 rs.2.1), fun v' h2 y => ?_⟩
    rcases y with ⟨y, rfl, e2⟩ | ⟨y, -⟩
    · subst h2
      exact ⟨rfl, ⟨g, tp, m, ru, fa, ps, ln, fl, cs, rs, mk, ⟨mp, md⟩, by omega, by omega⟩⟩
    · omega
  · obtain ⟨cs1, fx⟩ := cs.fed hv (fun p hp => (mp p hp).1) ft ct
    have rs1 := rs.fx fx
    refine ⟨_, _, rfl, rs1.1.1, Ev_hvp (Ev.lift (by omega) (by omega) (by omega) (ev_feed l G a b c d e tp h1 rs1.1 rs1.2.1)), fun v' h2 y => ?_⟩
    obtain ⟨hv1, y⟩ := y
    rcases y with ⟨y, -⟩ | ⟨y, rfl, rt, fr⟩
    · omega
    · exact ⟨rfl, ⟨_, (tp ++ by4 a ++ by4 b ++ by4 c ++ by4 d ++ by4 e), m, ru, fa, ps, ln, fl, (cs1).fr hv1 fr (by decide), ⟨rs1.1.fr fr, rt, rs1.2.2.1.fr fr (by decide) (by decide), rs1.2.2.2.1.fr fr (by decide), rs1.2.2.2.2.1.fr fr (by decide), rs1.2.2.2.2.2.1.fr fr (by decide), rs1.2.2.2.2.2.2.fr fr (by decide) (by decide)⟩, mk, ⟨mp, md⟩, by omega, by omega⟩⟩
theorem pr_end (l : Launch) (G : aG) (n_ : Int32) {n : Nat} {h : aH} (S : Sim n h) (hn : n < 512) : Pair l G mX10_end mX11_end [.int n_] h (Sim (n + 1)) := by
  obtain ⟨g, tp, m, ru, fa, ps, ln, fl, cs, rs, mk, ⟨mp, md⟩, cn, fln⟩ := S
  refine ⟨_, Ev_hvp (Ev.lift (by omega) (by omega) (by omega) (ec_end l G n_ tp h cs.1.2.1 cs.2.1)), fun v h1 z => ?_⟩
  obtain ⟨hv, z⟩ := z
  rcases z with ⟨z, rfl, e1⟩ | ⟨j, z, ej, rfl, ct, ft⟩
  · subst h1
    refine ⟨_, _, rfl, rs.1.1, Ev.lift (by omega) (by omega) (by omega) (ev_end l G n_ tp h rs.1 rs.2.1), fun v' h2 y => ?_⟩
    rcases y with ⟨y, rfl, e2⟩ | ⟨j, y, ej, -⟩
    · subst h2
      exact ⟨rfl, ⟨g, tp, m, ru, fa, ps, ln, fl, cs, rs, mk, ⟨mp, md⟩, by omega, by omega⟩⟩
    · have t120 := rs.2.1.1
      exact absurd ⟨by rw [ej, hi_n (by omega)]; omega, by rw [ej, hi_n (by omega)]; omega⟩ z
  · obtain ⟨cs1, fx⟩ := cs.fed hv (fun p hp => (mp p hp).1) ft ct
    have rs1 := rs.fx fx
    have t120 := rs.2.1.1
    refine ⟨_, _, rfl, rs1.1.1, Ev_hvp (Ev.lift (by omega) (by omega) (by omega) (ev_end l G n_ tp h1 rs1.1 rs1.2.1)), fun v' h2 y => ?_⟩
    obtain ⟨hv1, y⟩ := y
    rcases y with ⟨y, -⟩ | ⟨j2, y, ej2, rfl, rt, fr⟩
    · exact absurd ⟨by rw [ej, hi_n (by omega)]; omega, by rw [ej, hi_n (by omega)]; omega⟩ y
    · have e3 : j = j2 := nI_inj (by omega) (by omega) (ej.symm.trans ej2)
      subst e3
      exact ⟨rfl, ⟨_, tp.take j, m, ru, fa, ps, ln, fl, (cs1).fr hv1 fr (by decide), ⟨rs1.1.fr fr, rt, rs1.2.2.1.fr fr (by decide) (by decide), rs1.2.2.2.1.fr fr (by decide), rs1.2.2.2.2.1.fr fr (by decide), rs1.2.2.2.2.2.1.fr fr (by decide), rs1.2.2.2.2.2.2.fr fr (by decide) (by decide)⟩, mk, ⟨mp, md⟩, by omega, by omega⟩⟩
theorem okTh_mk {m : Md} {tp : List Int32} {kd inn : Int32} {t kd' : Nat} {p : Option Nat} (h1 : frS m = some t) (h2 : kd' < 8) (h3 : kd = nI kd') (h4 : inn = pI m p) (h5 : ∀ q, p = some q → mLive m q ∧ mDp m q < 6) (h6 : nmB tp = true) : okTh m tp kd inn := by
  refine ⟨h6, ?_, ⟨p, h4, h5⟩, fun z => ?_⟩
  · rw [h3, hi_n (by omega)]; omega
  · have a := frS_at h1
    have b := (fb_ct_all (p := fun t => (mLv m t).isSome) (n := 24)).mp z t a.1
    simp only [a.2] at b
    cases b
theorem nT_at {m : Md} {t kd : Nat} {p : Option Nat} {tp : List Int32} : ∀ c, c < mCm m → (nT m t kd p tp).1 c = m.1 c := fun c hc => up1_n _ _ (by omega)
theorem nmB_len {tp : List Int32} (h : nmB tp = true) : 1 ≤ tp.length ∧ tp.length ≤ 6 := by
  unfold nmB at h
  exact of_decide_eq_true (Bool.and_eq_true_iff.mp h).1
theorem pr_thing (l : Launch) (G : aG) (kd inn : Int32) {n : Nat} {h : aH} (S : Sim n h) (hn : n < 512) : Pair l G mX10_thing mX11_thing [.int kd, .int inn] h (Sim (n + 1)) := by
  obtain ⟨g, tp, m, ru, fa, ps, ln, fl, cs, rs, mk, ⟨mp, md⟩, cn, fln⟩ := S
  refine ⟨_, Ev.lift (by omega) (by omega) (by omega) (ec_thing l G kd inn g tp m ru fa ps ln fl h cs mk (fun p hp => (mp p hp).1)), fun v h1 z => ?_⟩
  rcases z with ⟨z, rfl, e1⟩ | ⟨t, kd', p, z1, z2, z3, z4, z5, z6, rfl, g', cs1, fx⟩
  · subst h1
    refine ⟨_, _, rfl, rs.1.1, Ev.lift (by omega) (by omega) (by omega) (ev_thing l G kd inn tp m h rs.1 mk rs.2.2.1 rs.2.1 (by omega)), fun v' h2 y => ?_⟩
    rcases y with ⟨y, rfl, e2⟩ | ⟨t, kd', p, z1, z2, z3, z4, z5, z6, -⟩
    · subst h2
      exact ⟨rfl, ⟨g, tp, m, ru, fa, ps, ln, fl, cs, rs, mk, ⟨mp, md⟩, by omega, by omega⟩⟩
    · exact absurd (okTh_mk z1 z2 z3 z4 z5 z6) z
  · have rs1 := rs.fx fx
    refine ⟨_, _, rfl, rs1.1.1, Ev_hvp (Ev.lift (by omega) (by omega) (by omega) (ev_thing l G kd inn tp m h1 rs1.1 mk rs1.2.2.1 rs1.2.1 (by omega))), fun v' h2 y => ?_⟩
    obtain ⟨hv1, y⟩ := y
    rcases y with ⟨y, -⟩ | ⟨t2, kd2, p2, y1, y2, y3, y4, y5, y6, rfl, rm, rt, fr⟩
    · exact absurd (okTh_mk z1 z2 z3 z4 z5 z6) y
    · have e1 : t = t2 := Option.some.inj (z1.symm.trans y1)
      have e2 : kd' = kd2 := nI_inj (by omega) (by omega) (z3.symm.trans y3)
      have e3 : p = p2 := pI_one mk (fun q hq => (z5 q hq).1) (fun q hq => (y5 q hq).1) (z4.symm.trans y4)
      subst e1 e2 e3
      have fa_ := frS_at z1
      have nm := (nmB_len z6)
      exact ⟨rfl, ⟨_, [], nT m t kd' p tp, ru, fa, ps, ln, fl, (cs1).fr hv1 fr (by decide), ⟨rs1.1.fr fr, rt, rm, rs1.2.2.2.1.fr fr (by decide), rs1.2.2.2.2.1.fr fr (by decide), rs1.2.2.2.2.2.1.fr fr (by decide), rs1.2.2.2.2.2.2.fr fr (by decide) (by decide)⟩, mk.add fa_.2 fa_.1 z2 z5 nm, ⟨fun x hx => PcM.nT nT_at (by rw [nT_cm]; omega) (mp x hx), md⟩, by rw [nT_cm]; omega, by omega⟩⟩
theorem pr_number (l : Launch) (G : aG) (t j v : Int32) {n : Nat} {h : aH} (S : Sim n h) (hn : n < 512) : Pair l G mX10_number mX11_number [.int t, .int j, .int v] h (Sim (n + 1)) := by
  obtain ⟨g, tp, m, ru, fa, ps, ln, fl, cs, rs, mk, ⟨mp, md⟩, cn, fln⟩ := S
  refine ⟨_, Ev.lift (by omega) (by omega) (by omega) (ec_number l G t j v g tp m ru fa ps ln fl h cs mk (fun p hp => (mp p hp).1)), fun w h1 z => ?_⟩
  rcases z with ⟨z, rfl, e1⟩ | ⟨c, jj, z1, z2, z3, z4, z5, rfl, cs1, fx⟩
  · subst h1
    refine ⟨_, _, rfl, rs.1.1, Ev.lift (by omega) (by omega) (by omega) (ev_number l G t j v m h rs.1 mk rs.2.2.1), fun v' h2 y => ?_⟩
    rcases y with ⟨y, rfl, e2⟩ | ⟨c, jj, z1, z2, z3, z4, z5, -⟩
    · subst h2
      exact ⟨congrArg (fun z => some (Value.int z)) (by decide), ⟨g, tp, m, ru, fa, ps, ln, fl, cs, rs, mk, ⟨mp, md⟩, by omega, by omega⟩⟩
    · exact absurd ⟨⟨c, z1, z3⟩, by rw [z4, hi_n (by omega)]; omega, z5⟩ z
  · have rs1 := rs.fx fx
    refine ⟨_, _, rfl, rs1.1.1, Ev_hvp (Ev.lift (by omega) (by omega) (by omega) (ev_number l G t j v m h1 rs1.1 mk rs1.2.2.1)), fun v' h2 y => ?_⟩
    obtain ⟨hv1, y⟩ := y
    rcases y with ⟨y, -⟩ | ⟨c2, j2, y1, y2, y3, y4, y5, rfl, rm, fr⟩
    · exact absurd ⟨⟨c, z1, z3⟩, by rw [z4, hi_n (by omega)]; omega, z5⟩ y
    · have e1 : c = c2 := sl_one mk z1 y1 (z3.symm.trans y3)
      have e2 : jj = j2 := nI_inj (by omega) (by omega) (z4.symm.trans y4)
      subst e1 e2
      exact ⟨congrArg (fun z => some (Value.int z)) (by decide), ⟨_, tp, sNu m c jj v, ru, fa, ps, ln, fl, (cs1).fr hv1 fr (by decide), ⟨rs1.1.fr fr, rs1.2.1.fr fr (by decide) (by decide), rm, rs1.2.2.2.1.fr fr (by decide), rs1.2.2.2.2.1.fr fr (by decide), rs1.2.2.2.2.2.1.fr fr (by decide), rs1.2.2.2.2.2.2.fr fr (by decide) (by decide)⟩, mk.nu z5, ⟨fun x hx => PcM.cg (m := m) rfl (Nat.le_refl (mCm m)) (mp x hx), md⟩, by show mCm m ≤ n + 1; omega, by omega⟩⟩
theorem pr_name (l : Launch) (G : aG) (t : Int32) {n : Nat} {h : aH} (S : Sim n h) (hn : n < 512) : Pair l G mX10_name mX11_name [.int t] h (Sim (n + 1)) := by
  obtain ⟨g, tp, m, ru, fa, ps, ln, fl, cs, rs, mk, ⟨mp, md⟩, cn, fln⟩ := S
  refine ⟨_, Ev.lift (by omega) (by omega) (by omega) (ec_name l G t g tp m ru fa ps ln fl h cs mk (fun p hp => (mp p hp).1)), fun w h1 z => ?_⟩
  rcases z with ⟨z, rfl, e1⟩ | ⟨c, z1, z2, z3, rfl, g', cs1, fx⟩
  · subst h1
    refine ⟨_, _, rfl, rs.1.1, Ev.lift (by omega) (by omega) (by omega) (ev_name l G t tp m h rs.1 mk rs.2.2.1 rs.2.1), fun v' h2 y => ?_⟩
    rcases y with ⟨y, rfl, e2⟩ | ⟨c, z1, z2, z3, -⟩
    · subst h2
      exact ⟨congrArg (fun z => some (Value.int z)) (by decide), ⟨g, tp, m, ru, fa, ps, ln, fl, cs, rs, mk, ⟨mp, md⟩, by omega, by omega⟩⟩
    · exact absurd ⟨⟨c, z1, z2⟩, z3⟩ z
  · have rs1 := rs.fx fx
    refine ⟨_, _, rfl, rs1.1.1, Ev_hvp (Ev.lift (by omega) (by omega) (by omega) (ev_name l G t tp m h1 rs1.1 mk rs1.2.2.1 rs1.2.1)), fun v' h2 y => ?_⟩
    obtain ⟨hv1, y⟩ := y
    rcases y with ⟨y, -⟩ | ⟨c2, y1, y2, y3, rfl, rm, rt, fr⟩
    · exact absurd ⟨⟨c, z1, z2⟩, z3⟩ y
    · have e1 : c = c2 := sl_one mk z1 y1 (z2.symm.trans y2)
      subst e1
      exact ⟨congrArg (fun z => some (Value.int z)) (by decide), ⟨_, [], sNm m c tp, ru, fa, ps, ln, fl, (cs1).fr hv1 fr (by decide), ⟨rs1.1.fr fr, rt, rm, rs1.2.2.2.1.fr fr (by decide), rs1.2.2.2.2.1.fr fr (by decide), rs1.2.2.2.2.2.1.fr fr (by decide), rs1.2.2.2.2.2.2.fr fr (by decide) (by decide)⟩, mk.nm (nmB_len z3), ⟨fun x hx => PcM.cg (m := m) rfl (Nat.le_refl (mCm m)) (mp x hx), md⟩, by show mCm m ≤ n + 1; omega, by omega⟩⟩
theorem pr_move (l : Launch) (G : aG) (t k : Int32) {n : Nat} {h : aH} (S : Sim n h) (hn : n < 512) : Pair l G mX10_move mX11_move [.int t, .int k] h (Sim (n + 1)) := by
  obtain ⟨g, tp, m, ru, fa, ps, ln, fl, cs, rs, mk, ⟨mp, md⟩, cn, fln⟩ := S
  refine ⟨_, Ev.lift (by omega) (by omega) (by omega) (ec_move l G t k g tp m ru fa ps ln fl h cs mk (fun p hp => (mp p hp).1)), fun w h1 z => ?_⟩
  rcases z with ⟨z, rfl, e1⟩ | ⟨c, kk, z1, z2, z3, z4, rfl, cs1, fx⟩
  · subst h1
    refine ⟨_, _, rfl, rs.1.1, Ev.lift (by omega) (by omega) (by omega) (ev_move l G t k m h rs.1 mk rs.2.2.1), fun v' h2 y => ?_⟩
    rcases y with ⟨y, rfl, e2⟩ | ⟨c, kk, z1, z2, z3, z4, -⟩
    · subst h2
      exact ⟨congrArg (fun z => some (Value.int z)) (by decide), ⟨g, tp, m, ru, fa, ps, ln, fl, cs, rs, mk, ⟨mp, md⟩, by omega, by omega⟩⟩
    · have lc := ch_le mk (mPa m c)
      exact absurd ⟨c, z1, z3, by rw [z4, hi_n (by omega)]; omega, by rw [z4, hi_n (by omega)]; omega⟩ z
  · have rs1 := rs.fx fx
    have lc := ch_le mk (mPa m c)
    refine ⟨_, _, rfl, rs1.1.1, Ev_hvp (Ev.lift (by omega) (by omega) (by omega) (ev_move l G t k m h1 rs1.1 mk rs1.2.2.1)), fun v' h2 y => ?_⟩
    obtain ⟨hv1, y⟩ := y
    rcases y with ⟨y, -⟩ | ⟨c2, k2, y1, y2, y3, y4, rfl, rm, fr⟩
    · exact absurd ⟨c, z1, z3, by rw [z4, hi_n (by omega)]; omega, by rw [z4, hi_n (by omega)]; omega⟩ y
    · have e1 : c = c2 := sl_one mk z1 y1 (z3.symm.trans y3)
      subst e1
      have e2 : kk = k2 := nI_inj (by omega) (by omega) (z4.symm.trans y4)
      subst e2
      exact ⟨congrArg (fun z => some (Value.int z)) (by decide), ⟨_, tp, mvM m c kk, ru, fa, ps, ln, fl, (cs1).fr hv1 fr (by decide), ⟨rs1.1.fr fr, rs1.2.1.fr fr (by decide) (by decide), rm, rs1.2.2.2.1.fr fr (by decide), rs1.2.2.2.2.1.fr fr (by decide), rs1.2.2.2.2.2.1.fr fr (by decide), rs1.2.2.2.2.2.2.fr fr (by decide) (by decide)⟩, mk.mv z1 z2, ⟨fun x hx => PcM.cg (m := m) rfl (Nat.le_refl (mCm m)) (mp x hx), md⟩, by show mCm m ≤ n + 1; omega, by omega⟩⟩
theorem pr_drop (l : Launch) (G : aG) (t : Int32) {n : Nat} {h : aH} (S : Sim n h) (hn : n < 512) : Pair l G mX10_drop mX11_drop [.int t] h (Sim (n + 1)) := by
  obtain ⟨g, tp, m, ru, fa, ps, ln, fl, cs, rs, mk, ⟨mp, md⟩, cn, fln⟩ := S
  refine ⟨_, Ev.lift (by omega) (by omega) (by omega) (ec_drop l G t g tp m ru fa ps ln fl h cs mk (fun p hp => (mp p hp).1)), fun w h1 z => ?_⟩
  rcases z with ⟨z, rfl, e1⟩ | ⟨c, z1, z2, rfl, cs1, fx⟩
  · subst h1
    refine ⟨_, _, rfl, rs.1.1, Ev.lift (by omega) (by omega) (by omega) (ev_drop l G t m h rs.1 mk rs.2.2.1), fun v' h2 y => ?_⟩
    rcases y with ⟨y, rfl, e2⟩ | ⟨c, z1, z2, -⟩
    · subst h2
      exact ⟨rfl, ⟨g, tp, m, ru, fa, ps, ln, fl, cs, rs, mk, ⟨mp, md⟩, by omega, by omega⟩⟩
    · exact absurd ⟨c, z1, z2⟩ z
  · have rs1 := rs.fx fx
    refine ⟨_, _, rfl, rs1.1.1, Ev_hvp (Ev.lift (by omega) (by omega) (by omega) (ev_drop l G t m h1 rs1.1 mk rs1.2.2.1)), fun v' h2 y => ?_⟩
    obtain ⟨hv1, y⟩ := y
    rcases y with ⟨y, -⟩ | ⟨c2, y1, y2, rfl, rm, fr⟩
    · exact absurd ⟨c, z1, z2⟩ y
    · have e1 : c = c2 := sl_one mk z1 y1 (z2.symm.trans y2)
      subst e1
      exact ⟨rfl, ⟨_, tp, dropM m c, ru, fa, ps, ln, fl, (cs1).fr hv1 fr (by decide), ⟨rs1.1.fr fr, rs1.2.1.fr fr (by decide) (by decide), rm, rs1.2.2.2.1.fr fr (by decide), rs1.2.2.2.2.1.fr fr (by decide), rs1.2.2.2.2.2.1.fr fr (by decide), rs1.2.2.2.2.2.2.fr fr (by decide) (by decide)⟩, mk.drop c, ⟨fun x hx => PcM.cg (m := m) rfl (Nat.le_refl (mCm m)) (mp x hx), md⟩, by show mCm m ≤ n + 1; omega, by omega⟩⟩
theorem pr_rule (l : Launch) (G : aG) (kd : Int32) {n : Nat} {h : aH} (S : Sim n h) (hn : n < 512) : Pair l G mX10_rule mX11_rule [.int kd] h (Sim (n + 1)) := by
  obtain ⟨g, tp, m, ru, fa, ps, ln, fl, cs, rs, mk, ⟨mp, md⟩, cn, fln⟩ := S
  refine ⟨_, Ev.lift (by omega) (by omega) (by omega) (ec_rule l G kd g tp m ru fa ps ln fl h cs mk (fun p hp => (mp p hp).1)), fun w h1 z => ?_⟩
  rcases z with ⟨z, rfl, e1⟩ | ⟨k, z1, z2, g', fx, z3⟩
  · subst h1
    refine ⟨_, _, rfl, rs.1.1, Ev.lift (by omega) (by omega) (by omega) (ev_rule l G kd tp ru h rs.1 rs.2.1 rs.2.2.2.1), fun v' h2 y => ?_⟩
    rcases y with ⟨y, rfl, e2⟩ | ⟨k, z1, z2, -⟩
    · subst h2
      exact ⟨rfl, ⟨g, tp, m, ru, fa, ps, ln, fl, cs, rs, mk, ⟨mp, md⟩, by omega, by omega⟩⟩
    · exact absurd ⟨by rw [z2, hi_n (by omega)]; omega, by rw [z2, hi_n (by omega)]; omega⟩ z
  · have rs1 := rs.fx fx
    rcases z3 with ⟨f, pl, z4, rfl, cs1⟩ | ⟨its, z4, rfl, cs1⟩
    · refine ⟨_, _, rfl, rs1.1.1, Ev_hvp (Ev.lift (by omega) (by omega) (by omega) (ev_rule l G kd tp ru h1 rs1.1 rs1.2.1 rs1.2.2.2.1)), fun v' h2 y => ?_⟩
      obtain ⟨hv1, y⟩ := y
      rcases y with ⟨y, -⟩ | ⟨k2, y1, y2, fr, rt, y3⟩
      · exact absurd ⟨by rw [z2, hi_n (by omega)]; omega, by rw [z2, hi_n (by omega)]; omega⟩ y
      · rcases y3 with ⟨f2, pl2, y4, rfl, ra, rr⟩ | ⟨its2, y4, -⟩
        · rw [z4] at y4
          cases y4
          exact ⟨rfl, ⟨_, [], m, ru, (nI f, nI pl), ps, ln, fl, (cs1).fr hv1 fr (by decide), ⟨rs1.1.fr fr, rt, rs1.2.2.1.fr fr (by decide) (by decide), rr, ra, rs1.2.2.2.2.2.1.fr fr (by decide), rs1.2.2.2.2.2.2.fr fr (by decide) (by decide)⟩, mk, ⟨mp, md⟩, by omega, by omega⟩⟩
        · rw [z4] at y4; cases y4
    · refine ⟨_, _, rfl, rs1.1.1, Ev_hvp (Ev.lift (by omega) (by omega) (by omega) (ev_rule l G kd tp ru h1 rs1.1 rs1.2.1 rs1.2.2.2.1)), fun v' h2 y => ?_⟩
      obtain ⟨hv1, y⟩ := y
      rcases y with ⟨y, -⟩ | ⟨k2, y1, y2, fr, rt, y3⟩
      · exact absurd ⟨by rw [z2, hi_n (by omega)]; omega, by rw [z2, hi_n (by omega)]; omega⟩ y
      · have ek : k = k2 := nI_inj (by omega) (by omega) (z2.symm.trans y2)
        subst ek
        rcases y3 with ⟨f2, pl2, y4, -⟩ | ⟨its2, y4, rfl, ra, rr⟩
        · rw [z4] at y4; cases y4
        · rw [z4] at y4
          cases y4
          exact ⟨rfl, ⟨_, [], m, up1 ru k its, (nI 0, -1), ps, ln, fl, (cs1).fr hv1 fr (by decide), ⟨rs1.1.fr fr, rt, rs1.2.2.1.fr fr (by decide) (by decide), rr, ra, rs1.2.2.2.2.2.1.fr fr (by decide), rs1.2.2.2.2.2.2.fr fr (by decide) (by decide)⟩, mk, ⟨mp, md⟩, by omega, by omega⟩⟩
theorem pr_drops (l : Launch) (G : aG) (l_ : Int32) {n : Nat} {h : aH} (S : Sim n h) (hn : n < 512) : Pair l G mX10_drops mX11_drops [.int l_] h (Sim (n + 1)) := by
  obtain ⟨g, tp, m, ru, fa, ps, ln, fl, cs, rs, mk, ⟨mp, md⟩, cn, fln⟩ := S
  have l30 := rs.2.2.2.2.2.2.1
  refine ⟨_, Ev.lift (by omega) (by omega) (by omega) (ec_drops l G l_ g tp m ru fa ps ln fl h cs), fun w h1 z => ?_⟩
  rcases z with ⟨z, rfl, e1⟩ | ⟨k, z1, z2, rfl, g', cs1, fx⟩
  · subst h1
    refine ⟨_, _, rfl, rs.1.1, Ev.lift (by omega) (by omega) (by omega) (ev_drops l G l_ ln fl h rs.1 rs.2.2.2.2.2.2), fun v' h2 y => ?_⟩
    rcases y with ⟨y, rfl, e2⟩ | ⟨k, z1, z2, -⟩
    · subst h2
      exact ⟨congrArg (fun z => some (Value.int z)) (by decide), ⟨g, tp, m, ru, fa, ps, ln, fl, cs, rs, mk, ⟨mp, md⟩, by omega, by omega⟩⟩
    · exact absurd ⟨by rw [z2, hi_n (by omega)]; omega, by rw [z2, hi_n (by omega)]; omega⟩ z
  · have rs1 := rs.fx fx
    refine ⟨_, _, rfl, rs1.1.1, Ev_hvp (Ev.lift (by omega) (by omega) (by omega) (ev_drops l G l_ ln fl h1 rs1.1 rs1.2.2.2.2.2.2)), fun v' h2 y => ?_⟩
    obtain ⟨hv1, y⟩ := y
    rcases y with ⟨y, -⟩ | ⟨k2, y1, y2, rfl, rl, fr⟩
    · exact absurd ⟨by rw [z2, hi_n (by omega)]; omega, by rw [z2, hi_n (by omega)]; omega⟩ y
    · have ek : k = k2 := nI_inj (by omega) (by omega) (z2.symm.trans y2)
      subst ek
      exact ⟨congrArg (fun z => some (Value.int z)) (by decide), ⟨_, tp, m, ru, fa, ps, ln.eraseIdx k, fl, (cs1).fr hv1 fr (by decide), ⟨rs1.1.fr fr, rs1.2.1.fr fr (by decide) (by decide), rs1.2.2.1.fr fr (by decide) (by decide), rs1.2.2.2.1.fr fr (by decide), rs1.2.2.2.2.1.fr fr (by decide), rs1.2.2.2.2.2.1.fr fr (by decide), rl⟩, mk, ⟨mp, md⟩, by omega, by omega⟩⟩
theorem set_ok {m : Md} {ps : List Pc} {i : Nat} {p : Pc} {nb : Option (List Int32 × List Int32)} (mp : ∀ p ∈ ps, PcM m p) (md : MkD ps) (hp : ps[i]? = some p) : (∀ x ∈ ps.set i (setH p nb), PcM m x) ∧ MkD (ps.set i (setH p nb)) := ⟨fun x hx => by
  rcases List.mem_or_eq_of_mem_set hx with z | z
  · exact mp x z
  · subst z; exact mp p (List.mem_of_getElem? hp), md.set hp⟩
theorem atP_get {ps : List Pc} {v : Int32} {p : Pc} (h : atP ps v = some p) : ps[v.toInt.toNat]? = some p := by
  unfold atP at h
  split at h
  · exact h
  · cases h
theorem handL_ok {m : Md} {ps ps' : List Pc} {tp : List Int32} {v : Int32} (mp : ∀ p ∈ ps, PcM m p) (md : MkD ps) (h : handL ps tp v = some ps') : (∀ x ∈ ps', PcM m x) ∧ MkD ps' := by
  unfold handL at h
  split at h
  · cases ha : atP ps v with
    | none => rw [ha] at h; cases h
    | some p =>
      rw [ha] at h
      cases h
      exact set_ok mp md (atP_get ha)
  · cases h
theorem takeL_ok {m : Md} {ps ps' : List Pc} {v : Int32} {w : Int} (mp : ∀ p ∈ ps, PcM m p) (md : MkD ps) (h : takeL ps v w = some ps') : (∀ x ∈ ps', PcM m x) ∧ MkD ps' := by
  unfold takeL at h
  cases ha : atP ps v with
  | none => rw [ha] at h; cases h
  | some p =>
    rw [ha] at h
    simp only at h
    split at h
    · cases h
      exact set_ok mp md (atP_get ha)
    · cases h
theorem pr_hand (l : Launch) (G : aG) (p_ : Int32) {n : Nat} {h : aH} (S : Sim n h) (hn : n < 512) : Pair l G mX10_hand mX11_hand [.int p_] h (Sim (n + 1)) := by
  obtain ⟨g, tp, m, ru, fa, ps, ln, fl, cs, rs, mk, ⟨mp, md⟩, cn, fln⟩ := S
  refine ⟨_, Ev.lift (by omega) (by omega) (by omega) (ec_hand l G p_ g tp m ru fa ps ln fl h cs (fun p hp => (mp p hp).1)), fun w h1 z => ?_⟩
  rcases z with ⟨z, rfl, e1⟩ | ⟨ps', z, rfl, g', cs1, fx⟩
  · subst h1
    refine ⟨_, _, rfl, rs.1.1, Ev.lift (by omega) (by omega) (by omega) (ev_hand l G p_ tp ps h rs.1 rs.2.2.2.2.2.1 rs.2.1), fun v' h2 y => ?_⟩
    rcases y with ⟨y, rfl, e2⟩ | ⟨ps', y, -⟩
    · subst h2
      exact ⟨rfl, ⟨g, tp, m, ru, fa, ps, ln, fl, cs, rs, mk, ⟨mp, md⟩, by omega, by omega⟩⟩
    · rw [z] at y; cases y
  · have rs1 := rs.fx fx
    refine ⟨_, _, rfl, rs1.1.1, Ev_hvp (Ev.lift (by omega) (by omega) (by omega) (ev_hand l G p_ tp ps h1 rs1.1 rs1.2.2.2.2.2.1 rs1.2.1)), fun v' h2 y => ?_⟩
    obtain ⟨hv1, y⟩ := y
    rcases y with ⟨y, -⟩ | ⟨ps2, y, rfl, rx, rt, fr⟩
    · rw [z] at y; cases y
    · rw [z] at y
      cases y
      have hk := handL_ok mp md z
      exact ⟨rfl, ⟨_, [], m, ru, fa, ps', ln, fl, (cs1).fr hv1 fr (by decide), ⟨rs1.1.fr fr, rt, rs1.2.2.1.fr fr (by decide) (by decide), rs1.2.2.2.1.fr fr (by decide), rs1.2.2.2.2.1.fr fr (by decide), rx, rs1.2.2.2.2.2.2.fr fr (by decide) (by decide)⟩, mk, ⟨hk.1, hk.2⟩, by omega, by omega⟩⟩
theorem pr_take (l : Launch) (G : aG) (p_ wh : Int32) {n : Nat} {h : aH} (S : Sim n h) (hn : n < 512) : Pair l G mX10_take mX11_take [.int p_, .int wh] h (Sim (n + 1)) := by
  obtain ⟨g, tp, m, ru, fa, ps, ln, fl, cs, rs, mk, ⟨mp, md⟩, cn, fln⟩ := S
  refine ⟨_, Ev.lift (by omega) (by omega) (by omega) (ec_take l G p_ wh g tp m ru fa ps ln fl h cs (fun p hp => (mp p hp).1)), fun w h1 z => ?_⟩
  rcases z with ⟨z, rfl, e1⟩ | ⟨ps', z, rfl, g', cs1, fx⟩
  · subst h1
    refine ⟨_, _, rfl, rs.1.1, Ev.lift (by omega) (by omega) (by omega) (ev_take l G p_ wh ps h rs.1 rs.2.2.2.2.2.1), fun v' h2 y => ?_⟩
    rcases y with ⟨y, rfl, e2⟩ | ⟨ps', y, -⟩
    · subst h2
      exact ⟨rfl, ⟨g, tp, m, ru, fa, ps, ln, fl, cs, rs, mk, ⟨mp, md⟩, by omega, by omega⟩⟩
    · rw [z] at y; cases y
  · have rs1 := rs.fx fx
    refine ⟨_, _, rfl, rs1.1.1, Ev_hvp (Ev.lift (by omega) (by omega) (by omega) (ev_take l G p_ wh ps h1 rs1.1 rs1.2.2.2.2.2.1)), fun v' h2 y => ?_⟩
    obtain ⟨hv1, y⟩ := y
    rcases y with ⟨y, -⟩ | ⟨ps2, y, rfl, rx, fr⟩
    · rw [z] at y; cases y
    · rw [z] at y
      cases y
      have hk := takeL_ok mp md z
      exact ⟨rfl, ⟨_, tp, m, ru, fa, ps', ln, fl, (cs1).fr hv1 fr (by decide), ⟨rs1.1.fr fr, rs1.2.1.fr fr (by decide) (by decide), rs1.2.2.1.fr fr (by decide) (by decide), rs1.2.2.2.1.fr fr (by decide), rs1.2.2.2.2.1.fr fr (by decide), rx, rs1.2.2.2.2.2.2.fr fr (by decide) (by decide)⟩, mk, ⟨hk.1, hk.2⟩, by omega, by omega⟩⟩
