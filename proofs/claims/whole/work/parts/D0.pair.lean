theorem Ev_hvp {l : Launch} {G : aG} {d mc ms : Nat} {M : aM} {pc : Nat} {ls st : List Value} {h : aH} {Q : Option Value → aH → Prop} (k : Ev l G d mc ms M pc ls st h Q) : Ev l G d mc ms M pc ls st h (fun v h' => Hv h ∧ Q v h') := Ev_hv (fun hv => Ev.post (fun v h' e => ⟨hv, e⟩) k)
theorem RS.f819 {tp : List Int32} {m : Md} {ru : Nat → List It} {fa : Int32 × Int32} {ps : List Pc} {ln : List (List Int32 × Nat × Nat)} {fl : Nat} {h h' : aH} (r : RS tp m ru fa ps ln fl h) (f : Fr [819] [] h h') : RS tp m ru fa ps ln fl h' := ⟨r.1.fr f, r.2.1.fr f (by decide) (by decide), r.2.2.1.fr f (by decide) (by decide), r.2.2.2.1.fr f (by decide), r.2.2.2.2.1.fr f (by decide), r.2.2.2.2.2.1.fr f (by decide), r.2.2.2.2.2.2.fr f (by decide) (by decide)⟩
theorem lonF_at {ln : List (List Int32 × Nat × Nat)} {v w i : Int32} {x : Nat} {q : List Int32 × Nat × Nat} (e : v = nI x) (hx : x < ln.length) (h30 : ln.length ≤ 30) (hq : ln[x]? = some q) : lonF ln v w i = loF q w.toInt i.toInt := by
  unfold lonF
  rw [e, hi_n (by omega), if_pos ⟨by omega, by omega⟩, Int.toNat_natCast, List.getD_eq_getElem?_getD, hq]
  rfl
theorem sl_one {m : Md} (k : MOk m) {c c2 : Nat} (h1 : mLive m c) (h2 : mLive m c2) (e : nI (mSl m c) = nI (mSl m c2)) : c = c2 := by
  have s1 := k.sl h1
  have s2 := k.sl h2
  exact sl_inj h1 h2 (nI_inj (by omega) (by omega) e)
theorem pr_piece (l : Launch) (G : aG) (p_ wh : Int32) {n : Nat} {h : aH} (S : Sim n h) (hn : n < 512) : Pair l G mX10_piece mX11_piece [.int p_, .int wh] h (Sim (n + 1)) := by
  obtain ⟨g, tp, m, ru, fa, ps, ln, fl, cs, rs, mk, ⟨mp, md⟩, cn, fln⟩ := S
  refine ⟨_, Ev.lift (by omega) (by omega) (by omega) (ec_piece l G p_ wh g tp m ru fa ps ln fl h cs mp), fun v h1 e => ?_⟩
  obtain ⟨rfl, e1⟩ := e
  subst h1
  refine ⟨_, _, rfl, rs.1.1, Ev.lift (by omega) (by omega) (by omega) (ev_piece l G p_ wh m ps h rs.1 mk rs.2.2.1 rs.2.2.2.2.2.1 (fun p hp => (mp p hp).2.2.2.2.1)), fun v' h2 e => ?_⟩
  obtain ⟨rfl, e2⟩ := e
  subst h2
  exact ⟨rfl, ⟨g, tp, m, ru, fa, ps, ln, fl, cs, rs, mk, ⟨mp, md⟩, by omega, by omega⟩⟩
theorem pr_byteOf (l : Launch) (G : aG) (p_ wh i_ : Int32) {n : Nat} {h : aH} (S : Sim n h) (hn : n < 512) : Pair l G mX10_byteOf mX11_byteOf [.int p_, .int wh, .int i_] h (Sim (n + 1)) := by
  obtain ⟨g, tp, m, ru, fa, ps, ln, fl, cs, rs, mk, ⟨mp, md⟩, cn, fln⟩ := S
  refine ⟨_, Ev.lift (by omega) (by omega) (by omega) (ec_byteOf l G p_ wh i_ g tp m ru fa ps ln fl h cs), fun v h1 e => ?_⟩
  obtain ⟨rfl, e1⟩ := e
  subst h1
  refine ⟨_, _, rfl, rs.1.1, Ev.lift (by omega) (by omega) (by omega) (ev_byteOf l G p_ wh i_ ps h rs.1 rs.2.2.2.2.2.1), fun v' h2 e => ?_⟩
  obtain ⟨rfl, e2⟩ := e
  subst h2
  exact ⟨rfl, ⟨g, tp, m, ru, fa, ps, ln, fl, cs, rs, mk, ⟨mp, md⟩, by omega, by omega⟩⟩
theorem pr_text (l : Launch) (G : aG) (a_ : Int32) {n : Nat} {h : aH} (S : Sim n h) (hn : n < 512) : Pair l G mX10_text mX11_text [.int a_] h (Sim (n + 1)) := by
  obtain ⟨g, tp, m, ru, fa, ps, ln, fl, cs, rs, mk, ⟨mp, md⟩, cn, fln⟩ := S
  refine ⟨_, Ev_hvp (Ev.lift (by omega) (by omega) (by omega) (ec_text l G a_ g tp m ru fa ps ln fl h cs)), fun v h1 e => ?_⟩
  obtain ⟨hv, rfl, e1⟩ := e
  subst h1
  refine ⟨_, _, rfl, rs.1.1, Ev.lift (by omega) (by omega) (by omega) (ev_text l G a_ ps h rs.1 rs.2.2.2.2.2.1), fun v' h2 e => ?_⟩
  obtain ⟨rfl, fr⟩ := e
  exact ⟨rfl, g, tp, m, ru, fa, ps, ln, fl, cs.fr hv fr (fun a ha => by cases ha), rs.f819 fr, mk, ⟨mp, md⟩, by omega, by omega⟩
theorem pr_maker (l : Launch) (G : aG) (a_ : Int32) {n : Nat} {h : aH} (S : Sim n h) (hn : n < 512) : Pair l G mX10_maker mX11_maker [.int a_] h (Sim (n + 1)) := by
  obtain ⟨g, tp, m, ru, fa, ps, ln, fl, cs, rs, mk, ⟨mp, md⟩, cn, fln⟩ := S
  refine ⟨_, Ev_hvp (Ev.lift (by omega) (by omega) (by omega) (ec_maker l G a_ g tp m ru fa ps ln fl h cs)), fun v h1 e => ?_⟩
  obtain ⟨hv, rfl, e1⟩ := e
  subst h1
  refine ⟨_, _, rfl, rs.1.1, Ev.lift (by omega) (by omega) (by omega) (ev_maker l G a_ ps h rs.1 rs.2.2.2.2.2.1), fun v' h2 e => ?_⟩
  obtain ⟨rfl, fr⟩ := e
  exact ⟨rfl, g, tp, m, ru, fa, ps, ln, fl, cs.fr hv fr (fun a ha => by cases ha), rs.f819 fr, mk, ⟨mp, md⟩, by omega, by omega⟩
theorem pr_about (l : Launch) (G : aG) (wh : Int32) {n : Nat} {h : aH} (S : Sim n h) (hn : n < 512) : Pair l G mX10_about mX11_about [.int wh] h (Sim (n + 1)) := by
  obtain ⟨g, tp, m, ru, fa, ps, ln, fl, cs, rs, mk, ⟨mp, md⟩, cn, fln⟩ := S
  refine ⟨_, Ev.lift (by omega) (by omega) (by omega) (ec_about l G wh g tp m ru fa ps ln fl h cs), fun v h1 e => ?_⟩
  obtain ⟨rfl, e1⟩ := e
  subst h1
  refine ⟨_, _, rfl, rs.1.1, Ev.lift (by omega) (by omega) (by omega) (ev_about l G wh m ru tp ps ln fl h rs.1 rs.2.2.1 rs.2.2.2.1 rs.2.1 rs.2.2.2.2.2.1 rs.2.2.2.2.2.2), fun v' h2 e => ?_⟩
  obtain ⟨rfl, e2⟩ := e
  subst h2
  exact ⟨rfl, ⟨g, tp, m, ru, fa, ps, ln, fl, cs, rs, mk, ⟨mp, md⟩, by omega, by omega⟩⟩
theorem pr_fault (l : Launch) (G : aG) (wh : Int32) {n : Nat} {h : aH} (S : Sim n h) (hn : n < 512) : Pair l G mX10_fault mX11_fault [.int wh] h (Sim (n + 1)) := by
  obtain ⟨g, tp, m, ru, fa, ps, ln, fl, cs, rs, mk, ⟨mp, md⟩, cn, fln⟩ := S
  refine ⟨_, Ev.lift (by omega) (by omega) (by omega) (ec_fault l G wh g fa h cs.1.2.1 cs.2.2.2.2.1), fun v h1 e => ?_⟩
  obtain ⟨rfl, e1⟩ := e
  subst h1
  refine ⟨_, _, rfl, rs.1.1, Ev.lift (by omega) (by omega) (by omega) (ev_fault l G wh fa h rs.1 rs.2.2.2.2.1), fun v' h2 e => ?_⟩
  obtain ⟨rfl, e2⟩ := e
  subst h2
  exact ⟨rfl, ⟨g, tp, m, ru, fa, ps, ln, fl, cs, rs, mk, ⟨mp, md⟩, by omega, by omega⟩⟩
theorem pr_lone (l : Launch) (G : aG) (l_ wh i_ : Int32) {n : Nat} {h : aH} (S : Sim n h) (hn : n < 512) : Pair l G mX10_lone mX11_lone [.int l_, .int wh, .int i_] h (Sim (n + 1)) := by
  obtain ⟨g, tp, m, ru, fa, ps, ln, fl, cs, rs, mk, ⟨mp, md⟩, cn, fln⟩ := S
  refine ⟨_, Ev.lift (by omega) (by omega) (by omega) (ec_lone l G l_ wh i_ g tp m ru fa ps ln fl h cs), fun v h1 e => ?_⟩
  obtain ⟨rfl, e1⟩ := e
  subst h1
  refine ⟨_, _, rfl, rs.1.1, Ev.lift (by omega) (by omega) (by omega) (ev_lone l G l_ wh i_ ln fl h rs.1 rs.2.2.2.2.2.2), fun v' h2 e => ?_⟩
  have l30 := rs.2.2.2.2.2.2.1
  rcases e with ⟨z, rfl, e2⟩ | ⟨x, q, hx, e3, hq, rfl, e2⟩
  · subst h2
    exact ⟨by unfold lonF; rw [if_neg z], ⟨g, tp, m, ru, fa, ps, ln, fl, cs, rs, mk, ⟨mp, md⟩, by omega, by omega⟩⟩
  · subst h2
    exact ⟨by rw [lonF_at e3 hx l30 hq], ⟨g, tp, m, ru, fa, ps, ln, fl, cs, rs, mk, ⟨mp, md⟩, by omega, by omega⟩⟩
theorem pr_thingOf (l : Launch) (G : aG) (t wh : Int32) {n : Nat} {h : aH} (S : Sim n h) (hn : n < 512) : Pair l G mX10_thingOf mX11_thingOf [.int t, .int wh] h (Sim (n + 1)) := by
  obtain ⟨g, tp, m, ru, fa, ps, ln, fl, cs, rs, mk, ⟨mp, md⟩, cn, fln⟩ := S
  refine ⟨_, Ev.lift (by omega) (by omega) (by omega) (ec_thingOf l G t wh g tp m ru fa ps ln fl h cs mk (fun p hp => (mp p hp).1)), fun v h1 e => ?_⟩
  rcases e with ⟨z, rfl, e1⟩ | ⟨c, hc, rfl, rfl, e1⟩
  · subst h1
    refine ⟨_, _, rfl, rs.1.1, Ev.lift (by omega) (by omega) (by omega) (ev_thingOf l G t wh m h rs.1 mk rs.2.2.1), fun v' h2 e => ?_⟩
    rcases e with ⟨z2, rfl, e2⟩ | ⟨c2, hc2, e3, rfl, e2⟩
    · subst h2
      exact ⟨rfl, ⟨g, tp, m, ru, fa, ps, ln, fl, cs, rs, mk, ⟨mp, md⟩, by omega, by omega⟩⟩
    · exact absurd ⟨c2, hc2, e3⟩ z
  · subst h1
    refine ⟨_, _, rfl, rs.1.1, Ev.lift (by omega) (by omega) (by omega) (ev_thingOf l G (nI (mSl m c)) wh m h rs.1 mk rs.2.2.1), fun v' h2 e => ?_⟩
    rcases e with ⟨z2, rfl, e2⟩ | ⟨c2, hc2, e3, rfl, e2⟩
    · exact absurd ⟨c, hc, rfl⟩ z2
    · subst h2
      have ec := sl_one mk hc hc2 e3
      subst ec
      exact ⟨rfl, ⟨g, tp, m, ru, fa, ps, ln, fl, cs, rs, mk, ⟨mp, md⟩, by omega, by omega⟩⟩
