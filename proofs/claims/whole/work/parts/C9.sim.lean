/-! what the class does leaves the reference as it was, and the other way round -/
theorem FX.x {h h' : aH} (f : FX h h') (r : Nat) (h1 : 28 ≤ r) (h2 : r ≤ 65) : hX h' r = hX h r := (f.2 r h1 h2).2.2.1
theorem FX.i {h h' : aH} (f : FX h h') (k : Nat) : hI h' k MO = hI h k MO := ((f.2 28 (by decide) (by decide)).2.2.2.2 k).1
theorem FX.r {h h' : aH} (f : FX h h') (k : Nat) : hR h' k MO = hR h k MO := ((f.2 28 (by decide) (by decide)).2.2.2.2 k).2
theorem Rf.fx {h h' : aH} (r : Rf h) (e : FX h h') : Rf h' := by
  refine ⟨((e.2 28 (by decide) (by decide)).1).trans r.1, fun q hq => ?_⟩
  have key : ∀ q ∈ rfL, 28 ≤ q.2.1 ∧ q.2.1 ≤ 65 := by decide
  have kq := key q hq
  have a := r.2 q hq
  have b := e.2 q.2.1 kq.1 kq.2
  exact ⟨(e.r _).trans a.1, b.1.trans a.2.1, b.2.1.trans a.2.2⟩
theorem RTp.fx {tp : List Int32} {h h' : aH} (r : RTp tp h) (e : FX h h') : RTp tp h' := by
  unfold RTp
  rw [e.i, e.x 41 (by decide) (by decide)]
  exact r
theorem RM.fx {m : Md} {h h' : aH} (r : RM m h) (e : FX h h') : RM m h' := by
  unfold RM RT1
  rw [e.i, e.i, e.x 29 (by decide) (by decide), e.x 30 (by decide) (by decide), e.x 31 (by decide) (by decide), e.x 32 (by decide) (by decide), e.x 33 (by decide) (by decide), e.x 34 (by decide) (by decide), e.x 35 (by decide) (by decide)]
  exact r
theorem RRu.fx {ru : Nat → List It} {h h' : aH} (r : RRu ru h) (e : FX h h') : RRu ru h' := by
  unfold RRu itW
  rw [e.x 36 (by decide) (by decide), e.x 37 (by decide) (by decide), e.x 38 (by decide) (by decide), e.x 39 (by decide) (by decide), e.x 40 (by decide) (by decide)]
  exact r
theorem RFa.fx {fa : Int32 × Int32} {h h' : aH} (r : RFa fa h) (e : FX h h') : RFa fa h' := ⟨(e.i _).trans r.1, (e.i _).trans r.2⟩
theorem RP1.fx {p : Pc} {q mf : Nat} {h h' : aH} (r : RP1 p q mf h) (e : FX h h') : RP1 p q mf h' := by
  unfold RP1 RHd
  rw [e.x 43 (by decide) (by decide), e.x 44 (by decide) (by decide), e.x 45 (by decide) (by decide), e.x 46 (by decide) (by decide), e.x 47 (by decide) (by decide), e.x 48 (by decide) (by decide), e.x 49 (by decide) (by decide), e.x 50 (by decide) (by decide), e.x 51 (by decide) (by decide), e.x 53 (by decide) (by decide), e.x 54 (by decide) (by decide), e.x 55 (by decide) (by decide), e.x 56 (by decide) (by decide), e.x 57 (by decide) (by decide)]
  exact r
theorem RTx.fx {ps : List Pc} {w : Nat} {h h' : aH} (r : RTx ps w h) (e : FX h h') : RTx ps w h' := by
  obtain ⟨r1, r2, r3, r4, r5⟩ := r
  refine ⟨r1, r2, ?_, fun i p hp => ⟨(r4 i p hp).1, (r4 i p hp).2.fx e⟩, fun k hk => ?_⟩
  · rw [e.x 42 (by decide) (by decide)]; exact r3
  · rw [e.x 52 (by decide) (by decide)]; exact r5 k hk
theorem RLn.fx {ln : List (List Int32 × Nat × Nat)} {fl : Nat} {h h' : aH} (r : RLn ln fl h) (e : FX h h') : RLn ln fl h' := by
  unfold RLn
  rw [e.i, e.i, e.x 62 (by decide) (by decide), e.x 63 (by decide) (by decide), e.x 64 (by decide) (by decide), e.x 65 (by decide) (by decide)]
  exact r
theorem RTp.fr {tp : List Int32} {h h' : aH} {ks as : List Nat} (r : RTp tp h) (f : Fr ks as h h') (h1 : 785 ∉ ks) (h2 : 41 ∉ as) : RTp tp h' := by
  unfold RTp
  rw [f.2.2.2.2.2.1 785 MO (fun z => h1 z.2), f.2.2.2.2.2.2 41 h2]
  exact r
theorem RFa.fr {fa : Int32 × Int32} {h h' : aH} {ks as : List Nat} (r : RFa fa h) (f : Fr ks as h h') (h1 : 782 ∉ ks ∧ 783 ∉ ks) : RFa fa h' := ⟨(f.2.2.2.2.2.1 782 MO (fun z => h1.1 z.2)).trans r.1, (f.2.2.2.2.2.1 783 MO (fun z => h1.2 z.2)).trans r.2⟩
theorem Fr.fs {g : Gh} {h h' : aH} {ks as : List Nat} (f : Fr ks as h h') (wf : OwF (wO g)) (ha : ∀ a ∈ as, 28 ≤ a ∧ a ≤ 65) : FS g (fun tg => tg.1 = 8) h h' := by
  refine ⟨Nat.le_of_eq f.1.symm, fun b hb => ⟨by rw [f.2.1], by rw [f.2.2.2.1], fun z => ⟨f.2.2.2.2.2.2 b (fun y => z ?_), by rw [f.2.2.2.2.1], fun k => ⟨f.2.2.2.2.2.1 k b (fun y => z ?_), by rw [f.2.2.1]⟩⟩⟩⟩
  · have := ha b y
    show (wO g b).1 = 8
    rw [wf.2 b this.1 this.2]
  · have e : b = 28 := y.1
    show (wO g b).1 = 8
    rw [e, wf.2 28 (by decide) (by decide)]
theorem n8 {a b : Nat} (h : a ≠ 8) : ¬ (fun tg : Nat × Nat => tg.1 = 8) (a, b) := h
theorem CS.fr {g : Gh} {tp : List Int32} {m : Md} {ru : Nat → List It} {fa : Int32 × Int32} {ps : List Pc} {ln : List (List Int32 × Nat × Nat)} {fl : Nat} {h h' : aH} {ks as : List Nat} (cs : CS g tp m ru fa ps ln fl h) (hv : Hv h) (fr : Fr ks as h h') (ha : ∀ a ∈ as, 28 ≤ a ∧ a ≤ 65) : CS g tp m ru fa ps ln fl h' := by
  obtain ⟨⟨n63, cf, wf⟩, ct, cm, cr, ca, ⟨T, T', hT, q1, q2, tx, jk⟩, cl⟩ := cs
  have f := fr.fs wf ha
  have e : OwX g (wO g) h := fun _ _ => rfl
  have xr : ∀ k a, hR h' k a = hR h k a := fun k a => by rw [fr.2.2.1]
  have xX : ∀ a, a < 28 → hX h' a = hX h a := fun a h1 => fr.2.2.2.2.2.2 a (fun z => by have := ha a z; omega)
  refine ⟨⟨by rw [fr.1]; exact n63, cf.fo hv f wf (fun q _ => xr _ _), wf⟩, ct.fs wf cf hv f (n8 (by decide)) (n8 (by decide)), cm.fo cf wf f hv e (fun tg ht => ?_), cr.fo cf wf f hv e (n8 (by decide)) (n8 (by decide)), ca.fo f hv e (n8 (by decide)) (xr _ _), ⟨T, T', hT, (xr _ _).trans q1, (xr _ _).trans q2, tx.fo f hv e (n8 (by decide)) (fun k => n8 (by have := tTg_45 T; omega)) (by rw [fr.2.2.2.2.1]) (fr.2.2.2.2.2.1 _ _ (fun z => by have z1 : T = 28 := z.1; omega)) (xX _ (by omega)), jk.fo f hv e (by rw [fr.2.2.2.2.1])⟩, cl.fo cf wf f hv e (fun tg ht => ?_)⟩
  · obtain ⟨a, b⟩ := tg
    rcases ht with z | z | z | z | z | z
    all_goals first
      | (have z2 : a = 0 := z; subst z2; exact n8 (by decide))
      | (have z2 : a = 1 := z; subst z2; exact n8 (by decide))
      | (have z2 : a = 2 := z; subst z2; exact n8 (by decide))
      | (have z2 : a = 3 := z; subst z2; exact n8 (by decide))
      | (have z2 : a = 10 := z; subst z2; exact n8 (by decide))
      | (have key : ∀ q ∈ [((9 : Nat), (6 : Nat)), (9, 7), (9, 10), (9, 11)], q.1 ≠ 8 := by decide
         exact key _ z)
  · rcases ht with rfl | rfl | rfl | rfl <;> exact n8 (by decide)
/-- the reference's state -/
def RS (tp : List Int32) (m : Md) (ru : Nat → List It) (fa : Int32 × Int32) (ps : List Pc) (ln : List (List Int32 × Nat × Nat)) (fl : Nat) (h : aH) : Prop := Rf h ∧ RTp tp h ∧ RM m h ∧ RRu ru h ∧ RFa fa h ∧ RTx ps 0 h ∧ RLn ln fl h
theorem RS.fx {tp : List Int32} {m : Md} {ru : Nat → List It} {fa : Int32 × Int32} {ps : List Pc} {ln : List (List Int32 × Nat × Nat)} {fl : Nat} {h h' : aH} (r : RS tp m ru fa ps ln fl h) (e : FX h h') : RS tp m ru fa ps ln fl h' := ⟨r.1.fx e, r.2.1.fx e, r.2.2.1.fx e, r.2.2.2.1.fx e, r.2.2.2.2.1.fx e, r.2.2.2.2.2.1.fx e, r.2.2.2.2.2.2.fx e⟩
/-- class and reference stand at the same, after n calls -/
def Sim (n : Nat) (h : aH) : Prop := ∃ (g : Gh) (tp : List Int32) (m : Md) (ru : Nat → List It) (fa : Int32 × Int32) (ps : List Pc) (ln : List (List Int32 × Nat × Nat)) (fl : Nat), CS g tp m ru fa ps ln fl h ∧ RS tp m ru fa ps ln fl h ∧ MOk m ∧ ((∀ p ∈ ps, PcM m p) ∧ MkD ps) ∧ mCm m ≤ n ∧ fl ≤ 250 * n
/-- a call of both -/
def Pair (l : Launch) (G : aG) (MC MR : aM) (avs : List Value) (h : aH) (R : aH → Prop) : Prop := ∃ QC : Option Value → aH → Prop, Ev l G 20 750 13750 MC 0 (en MC.2.2.1 (.ref 3 :: avs)) [] h QC ∧ ∀ v h1, QC v h1 → ∃ (x : Int32) (QR : Option Value → aH → Prop), v = some (.int x) ∧ hK h1 28 = 12 ∧ Ev l G 20 0 0 MR 0 (en MR.2.2.1 (.ref 28 :: avs)) [] h1 QR ∧ ∀ v' h2, QR v' h2 → v' = some (.int x) ∧ R h2
