theorem kp_le : ∀ (xs : List Pc) (s : List (List Int32 × Nat × Nat) × Nat), (xs.foldl kpL s).2 ≤ s.2 + xs.length := by
  intro xs
  induction xs with
  | nil => intro s; exact Nat.le_refl _
  | cons x xs ih_ =>
    intro s
    have h1 := ih_ (kpL s x)
    have h2 := kpL_le s x
    rw [List.foldl_cons, List.length_cons]
    omega
theorem lnA_le2 (old new : List Pc) (s : List (List Int32 × Nat × Nat) × Nat) (h : old.length ≤ 250) : (lnA old new s).2 ≤ s.2 + 250 := by
  have h1 := kp_le (old.filter (lsB new)) s
  have h2 := List.length_filter_le (lsB new) old
  unfold lnA
  omega
theorem tk_ok {m : Md} {ps ps1 : List Pc} (mp : ∀ p ∈ ps1, PcM m p) (md : MkD ps1) : (∀ p ∈ tkA ps ps1, PcM m p) ∧ MkD (tkA ps ps1) := ⟨tkA_m ps ps1 mp, md.tk ps⟩
theorem pr_make (l : Launch) (G : aG) {n : Nat} {h : aH} (S : Sim n h) (hn : n < 512) : Pair l G mX10_make mX11_make [] h (Sim (n + 1)) := by
  obtain ⟨g, tp, m, ru, fa, ps, ln, fl, cs, rs, mk, ⟨mp, md⟩, cn, fln⟩ := S
  refine ⟨_, Ev.lift (by omega) (by omega) (by omega) (ec_make l G g tp m ru fa ps ln fl h cs mk (by omega) mp md), fun w h1 z => ?_⟩
  have lo : ps.length ≤ 250 := rs.2.2.2.2.2.1.1
  rcases z with ⟨z, rfl, g', cs1, fx⟩ | ⟨ps1, z, rfl, g', cs1, fx⟩
  · have rs1 := rs.fx fx
    refine ⟨_, _, rfl, rs1.1.1, Ev_hvp (Ev.lift (by omega) (by omega) (by omega) (ev_make l G m ru ps ln fl h1 rs1.1 mk rs1.2.2.1 rs1.2.2.2.1 rs1.2.2.2.2.2.1 rs1.2.2.2.2.2.2 (by omega))), fun v' h2 y => ?_⟩
    obtain ⟨hv1, y⟩ := y
    rcases y with ⟨y, rfl, fr, rx, rl⟩ | ⟨ps1, y, -⟩
    · exact ⟨rfl, ⟨_, tp, m, ru, fa, ps, ln, fl, (cs1).fr hv1 fr (by decide), ⟨rs1.1.fr fr, rs1.2.1.fr fr (by decide) (by decide), rs1.2.2.1.fr fr (by decide) (by decide), rs1.2.2.2.1.fr fr (by decide), rs1.2.2.2.2.1.fr fr (by decide), rx, rl⟩, mk, ⟨mp, md⟩, by omega, by omega⟩⟩
    · rw [z] at y; cases y
  · have rs1 := rs.fx fx
    refine ⟨_, _, rfl, rs1.1.1, Ev_hvp (Ev.lift (by omega) (by omega) (by omega) (ev_make l G m ru ps ln fl h1 rs1.1 mk rs1.2.2.1 rs1.2.2.2.1 rs1.2.2.2.2.2.1 rs1.2.2.2.2.2.2 (by omega))), fun v' h2 y => ?_⟩
    obtain ⟨hv1, y⟩ := y
    rcases y with ⟨y, -⟩ | ⟨ps2, y, rfl, fr, rx, rl⟩
    · rw [z] at y; cases y
    · rw [z] at y
      cases y
      have mo := mkNew_ok mk z
      have to := tk_ok (ps := ps) mo.1 mo.2.2
      exact ⟨rfl, ⟨_, tp, m, ru, fa, tkA ps ps1, (lnA ps ps1 (ln, fl)).1, (lnA ps ps1 (ln, fl)).2, (cs1).fr hv1 fr (by decide), ⟨rs1.1.fr fr, rs1.2.1.fr fr (by decide) (by decide), rs1.2.2.1.fr fr (by decide) (by decide), rs1.2.2.2.1.fr fr (by decide), rs1.2.2.2.2.1.fr fr (by decide), rx, rl⟩, mk, ⟨to.1, to.2⟩, by omega, by have := lnA_le2 ps ps1 (ln, fl) lo; show _ ≤ 250 * (n + 1); omega⟩⟩
theorem backQ_le {m : Md} {ps : List Pc} {v : Int32} {p : Pc} {k : Nat} (h : backQ m ps v = some (p, k)) : k ≤ 99999 := by
  unfold backQ at h
  cases ha : atP ps v with
  | none => rw [ha] at h; cases h
  | some q =>
    rw [ha] at h
    simp only at h
    split at h
    · unfold numH at h
      cases hq : pcH q with
      | none => rw [hq] at h; cases h
      | some hb =>
        rw [hq] at h
        simp only at h
        cases hn : numV hb.1 with
        | none => rw [hn] at h; cases h
        | some x =>
          rw [hn] at h
          cases h
          exact numV_le hn
    · cases h
theorem pr_back (l : Launch) (G : aG) (p_ : Int32) {n : Nat} {h : aH} (S : Sim n h) (hn : n < 512) : Pair l G mX10_back mX11_back [.int p_] h (Sim (n + 1)) := by
  obtain ⟨g, tp, m, ru, fa, ps, ln, fl, cs, rs, mk, ⟨mp, md⟩, cn, fln⟩ := S
  refine ⟨_, Ev.lift (by omega) (by omega) (by omega) (ec_back l G p_ g tp m ru fa ps ln fl h cs mk (by omega) mp md), fun w h1 z => ?_⟩
  have lo0 : ps.length ≤ 250 := rs.2.2.2.2.2.1.1
  have pl : ∀ p ∈ ps, PcL p := fun p hp => (mp p hp).2.2.2.2.1
  rcases z with ⟨z, rfl, e1⟩ | ⟨p, k, zq, ⟨z, rfl, g', cs1, fx⟩ | ⟨ps1, z, rfl, g', cs1, fx⟩⟩
  · subst h1
    refine ⟨_, _, rfl, rs.1.1, Ev.lift (by omega) (by omega) (by omega) (ev_back l G p_ m ru ps ln fl h rs.1 mk rs.2.2.1 rs.2.2.2.1 rs.2.2.2.2.2.1 rs.2.2.2.2.2.2 pl (by omega)), fun v' h2 y => ?_⟩
    rcases y with ⟨y, rfl, e2⟩ | ⟨p, k, y, -⟩
    · subst h2
      exact ⟨rfl, ⟨g, tp, m, ru, fa, ps, ln, fl, cs, rs, mk, ⟨mp, md⟩, by omega, by omega⟩⟩
    · rw [z] at y; cases y
  · have rs1 := rs.fx fx
    refine ⟨_, _, rfl, rs1.1.1, Ev_hvp (Ev.lift (by omega) (by omega) (by omega) (ev_back l G p_ m ru ps ln fl h1 rs1.1 mk rs1.2.2.1 rs1.2.2.2.1 rs1.2.2.2.2.2.1 rs1.2.2.2.2.2.2 pl (by omega))), fun v' h2 y => ?_⟩
    obtain ⟨hv1, y⟩ := y
    rcases y with ⟨y, -⟩ | ⟨p2, k2, yq, ⟨y, rfl, rm, fr, rx, rl⟩ | ⟨ps2, y, -⟩⟩
    · rw [zq] at y; cases y
    · rw [zq] at yq
      cases yq
      exact ⟨rfl, ⟨_, tp, m, ru, fa, ps, ln, fl, (cs1).fr hv1 fr (by decide), ⟨rs1.1.fr fr, rs1.2.1.fr fr (by decide) (by decide), rm, rs1.2.2.2.1.fr fr (by decide), rs1.2.2.2.2.1.fr fr (by decide), rx, rl⟩, mk, ⟨mp, md⟩, by omega, by omega⟩⟩
    · rw [zq] at yq
      cases yq
      rw [z] at y; cases y
  · have rs1 := rs.fx fx
    refine ⟨_, _, rfl, rs1.1.1, Ev_hvp (Ev.lift (by omega) (by omega) (by omega) (ev_back l G p_ m ru ps ln fl h1 rs1.1 mk rs1.2.2.1 rs1.2.2.2.1 rs1.2.2.2.2.2.1 rs1.2.2.2.2.2.2 pl (by omega))), fun v' h2 y => ?_⟩
    obtain ⟨hv1, y⟩ := y
    rcases y with ⟨y, -⟩ | ⟨p2, k2, yq, ⟨y, -⟩ | ⟨ps2, y, rfl, rm, fr, rx, rl⟩⟩
    · rw [zq] at y; cases y
    · rw [zq] at yq
      cases yq
      rw [z] at y; cases y
    · rw [zq] at yq
      cases yq
      rw [z] at y
      cases y
      have k9 : k ≤ 99999 := backQ_le zq
      have mk2 : MOk (sNu m (pcC p) (pcN p) (nI k)) := mk.nu (by rw [hi_n (by omega)]; omega)
      have mo := mkNew_ok mk2 z
      have to := tk_ok (ps := (ps.set p_.toInt.toNat (setH p none))) mo.1 mo.2.2
      have lo : (ps.set p_.toInt.toNat (setH p none)).length ≤ 250 := by rw [List.length_set]; exact lo0
      exact ⟨rfl, ⟨_, tp, (sNu m (pcC p) (pcN p) (nI k)), ru, fa, tkA (ps.set p_.toInt.toNat (setH p none)) ps1, (lnA (ps.set p_.toInt.toNat (setH p none)) ps1 (ln, fl)).1, (lnA (ps.set p_.toInt.toNat (setH p none)) ps1 (ln, fl)).2, (cs1).fr hv1 fr (by decide), ⟨rs1.1.fr fr, rs1.2.1.fr fr (by decide) (by decide), rm, rs1.2.2.2.1.fr fr (by decide), rs1.2.2.2.2.1.fr fr (by decide), rx, rl⟩, mk2, ⟨to.1, to.2⟩, by show mCm m ≤ n + 1; omega, by have := lnA_le2 (ps.set p_.toInt.toNat (setH p none)) ps1 (ln, fl) lo; show _ ≤ 250 * (n + 1); omega⟩⟩
theorem pr_touch (l : Launch) (G : aG) (t j v wh : Int32) {n : Nat} {h : aH} (S : Sim n h) (hn : n < 512) : Pair l G mX10_touch mX11_touch [.int t, .int j, .int v, .int wh] h (Sim (n + 1)) := by
  obtain ⟨g, tp, m, ru, fa, ps, ln, fl, cs, rs, mk, ⟨mp, md⟩, cn, fln⟩ := S
  refine ⟨_, Ev.lift (by omega) (by omega) (by omega) (ec_touch l G t j v wh g tp m ru fa ps ln fl h cs mk (by omega) mp md), fun w h1 z => ?_⟩
  rcases z with ⟨z, rfl, e1⟩ | ⟨c, jj, vv, z1, z2, z3, z4, z5, z6, z7, ⟨g', cs1, fx⟩, z⟩
  · subst h1
    refine ⟨_, _, rfl, rs.1.1, Ev.lift (by omega) (by omega) (by omega) (ev_touch l G t j v wh m ru ps ln fl h rs.1 mk rs.2.2.1 rs.2.2.2.1 rs.2.2.2.2.2.1 rs.2.2.2.2.2.2), fun v' h2 y => ?_⟩
    rcases y with ⟨y, rfl, e2⟩ | ⟨c, jj, vv, z1, z2, z3, z4, z5, z6, z7, -⟩
    · subst h2
      exact ⟨rfl, ⟨g, tp, m, ru, fa, ps, ln, fl, cs, rs, mk, ⟨mp, md⟩, by omega, by omega⟩⟩
    · exact absurd ⟨⟨⟨c, z1, z4⟩, ⟨by rw [z5, hi_n (by omega)]; omega, by rw [z5, hi_n (by omega)]; omega⟩, by rw [z6, hi_n (by omega)]; omega, by rw [z6, hi_n (by omega)]; omega⟩, z7⟩ z
  · have rs1 := rs.fx fx
    rcases z with ⟨z, rfl⟩ | ⟨ps1, z, rfl⟩
    · refine ⟨_, _, rfl, rs1.1.1, Ev_hvp (Ev.lift (by omega) (by omega) (by omega) (ev_touch l G t j v wh m ru ps ln fl h1 rs1.1 mk rs1.2.2.1 rs1.2.2.2.1 rs1.2.2.2.2.2.1 rs1.2.2.2.2.2.2)), fun v' h2 y => ?_⟩
      obtain ⟨hv1, y⟩ := y
      rcases y with ⟨y, -⟩ | ⟨c2, j2, v2, y1, y2, y3, y4, y5, y6, y7, rm, fr, rx, rl, y⟩
      · exact absurd ⟨⟨⟨c, z1, z4⟩, ⟨by rw [z5, hi_n (by omega)]; omega, by rw [z5, hi_n (by omega)]; omega⟩, by rw [z6, hi_n (by omega)]; omega, by rw [z6, hi_n (by omega)]; omega⟩, z7⟩ y
      · have e1 : c = c2 := sl_one mk z1 y1 (z4.symm.trans y4)
        have e2 : jj = j2 := nI_inj (by omega) (by omega) (z5.symm.trans y5)
        have e3 : vv = v2 := nI_inj (by omega) (by omega) (z6.symm.trans y6)
        subst e1 e2 e3
        rcases y with ⟨y, rfl⟩ | ⟨ps2, y, -⟩
        · exact ⟨rfl, ⟨_, tp, m, ru, fa, ps, ln, fl, (cs1).fr hv1 fr (by decide), ⟨rs1.1.fr fr, rs1.2.1.fr fr (by decide) (by decide), rm, rs1.2.2.2.1.fr fr (by decide), rs1.2.2.2.2.1.fr fr (by decide), rx, rl⟩, mk, ⟨mp, md⟩, by omega, by omega⟩⟩
        · rw [z] at y; cases y
    · refine ⟨_, _, rfl, rs1.1.1, Ev_hvp (Ev.lift (by omega) (by omega) (by omega) (ev_touch l G t j v wh m ru ps ln fl h1 rs1.1 mk rs1.2.2.1 rs1.2.2.2.1 rs1.2.2.2.2.2.1 rs1.2.2.2.2.2.2)), fun v' h2 y => ?_⟩
      obtain ⟨hv1, y⟩ := y
      rcases y with ⟨y, -⟩ | ⟨c2, j2, v2, y1, y2, y3, y4, y5, y6, y7, rm, fr, rx, rl, y⟩
      · exact absurd ⟨⟨⟨c, z1, z4⟩, ⟨by rw [z5, hi_n (by omega)]; omega, by rw [z5, hi_n (by omega)]; omega⟩, by rw [z6, hi_n (by omega)]; omega, by rw [z6, hi_n (by omega)]; omega⟩, z7⟩ y
      · have e1 : c = c2 := sl_one mk z1 y1 (z4.symm.trans y4)
        have e2 : jj = j2 := nI_inj (by omega) (by omega) (z5.symm.trans y5)
        have e3 : vv = v2 := nI_inj (by omega) (by omega) (z6.symm.trans y6)
        subst e1 e2 e3
        rcases y with ⟨y, -⟩ | ⟨ps2, y, rfl⟩
        · rw [z] at y; cases y
        · rw [z] at y
          cases y
          exact ⟨rfl, ⟨_, tp, m, ru, fa, ps, ln, fl, (cs1).fr hv1 fr (by decide), ⟨rs1.1.fr fr, rs1.2.1.fr fr (by decide) (by decide), rm, rs1.2.2.2.1.fr fr (by decide), rs1.2.2.2.2.1.fr fr (by decide), rx, rl⟩, mk, ⟨mp, md⟩, by omega, by omega⟩⟩
