def pdp (m : Md) (p : Option Nat) : Nat := match p with
  | none => 0
  | some q => mDp m q
theorem dpO_eq (m : Md) (p : Option Nat) : dpO m p = pdp m p + 1 := by cases p <;> rfl
def ow2 (g : Gh) (m : Md) (p : Option Nat) (N : Nat) : Ow := up1 (up1 (up1 (up1 (up1 (wO g) (N + 3) (10, mCm m)) (N + 4) (0, 0)) (N + 5) (1, mCm m)) (N + 6) (2, mCm m + 1)) (N + 7) (plE p)
def gh2 (g : Gh) (m : Md) (p : Option Nat) (N : Nat) : Gh := (ow2 g m p N, up1 g.2.1 (mCm m) (N + 3), up1 g.2.2.1 (mCm m) (N + 5), up1 g.2.2.2 (mCm m) (N + 6))
theorem ow2_o {g : Gh} {m : Md} {p : Option Nat} {N b : Nat} (h : b < N + 3) : ow2 g m p N b = wO g b := by
  unfold ow2
  rw [up1_n _ _ (by omega), up1_n _ _ (by omega), up1_n _ _ (by omega), up1_n _ _ (by omega), up1_n _ _ (by omega)]
theorem CS.thing {g : Gh} {tp : List Int32} {m : Md} {ru : Nat → List It} {fa : Int32 × Int32} {ps : List Pc} {ln : List (List Int32 × Nat × Nat)} {fl t kd : Nat} {p : Option Nat} {h hB hC hE : aH} (cs : CS g tp m ru fa ps ln fl h) (hv : Hv h) (hvC : Hv hC) (mk : MOk m) (hps : ∀ p ∈ ps, pcC p < mCm m) (hf : mLv m t = none) (ht : t < 24) (hp : ∀ q, p = some q → mLive m q) (cu : CuT tp (nO h 10) hB) (ti : TIn (hN h + 3) (nI t) (nI kd) (nI (pdp m p + 1)) (some (paO g p)) (hN h + 4) hB hC) (lp : LpA (plA g p) ((mCh m p).map (wA g) ++ [hN h + 3]) 10 (sY hC 11 t (some (hN h + 3))) hE) : ∃ g', CS g' [] (nT m t kd p tp) ru fa ps ln fl (sI hE 322 6 (nI (mCnt m + 1))) ∧ FX h (sI hE 322 6 (nI (mCnt m + 1))) := by
  have n63 := cs.1.1
  have cf := cs.1.2.1
  have wf := cs.1.2.2
  have cm := cs.2.2.1
  have nA_ : hN (nO h 10) = hN h + 1 := rfl
  have nB_ : hN hB = hN h + 2 := cu.1
  have nC_ : hN hC = hN h + 4 := by rw [ti.1, nB_]
  have fC0 : FO (fun b => wO g b = (9, 4) ∨ hN h + 3 ≤ b) h hC := (FO.nO.tr (cu.2.2.2.2.1.mo (fun b _ z => Or.inl (by rw [z]; exact wf.1 4 (by decide))))).tr (ti.2.1.mo (fun b _ z => Or.inr (by omega)))
  have fC : FS g (fun tg => tg = (9, 4)) h hC := fC0.mo (fun b hb z => z.elim id (fun z => by omega))
  have e2 : OwX g (ow2 g m p (hN h)) h := fun b hb => ow2_o hb
  have hAg : ∀ c, c < mCm m → wA (gh2 g m p (hN h)) c = wA g c := fun c hc => up1_n _ _ (by omega)
  have cmC : CM (gh2 g m p (hN h)) m hC := (cm.fo cf wf fC hv e2 (fun tg q z => by subst z; simp at q)).g mk rfl hAg (fun c hc => up1_n _ _ (by omega)) (fun c hc => up1_n _ _ (by omega))
  have sC : ∀ a ∈ [1, 3, 5, 6, 7, 9, 10, 11, 12, 18, 19, 20, 21, 22, 23, 24, 25, 26, 27], Sm a h hC := fun a ha => (fC.2 a (by have : a ≤ 27 := (by revert ha; revert a; decide); omega)).2.2 (by
    have q : a ≠ 4 ∧ a ∈ [1, 3, 4, 5, 6, 7, 9, 10, 11, 12, 18, 19, 20, 21, 22, 23, 24, 25, 26, 27] := by revert ha; revert a; decide
    show ¬ wO g a = (9, 4)
    rw [wf.1 a q.2]
    intro z; exact q.1 (congrArg Prod.snd z))
  have r4 : ∀ k, hR hC k 4 = hR h k 4 := fun k => by
    have q1 := ((ti.2.1.2 4 (by omega)).2.2 (by omega)).2.2 k
    have q2 := cu.2.2.2.2.2.2 k 4 (by omega)
    have q3 : hR (nO h 10) k 4 = hR h k 4 := if_neg (by omega)
    exact q1.2.trans (q2.trans q3)
  have cfC : Cf hC := cf.fo hv fC wf (fun q hq => by
    have key : ∀ q ∈ cfR, q.2.1 = 4 ∨ q.2.1 ∈ [1, 3, 5, 6, 7, 9, 10, 11, 12, 18, 19, 20, 21, 22, 23, 24, 25, 26, 27] := by decide
    rcases key q hq with z | z
    · rw [z]; exact r4 _
    · exact ((sC _ z).2.2 _).2)
  have wf2 : OwF (wO (gh2 g m p (hN h))) := ⟨fun a ha => (e2 a (by have : a ≤ 27 := (by revert ha; revert a; decide); omega)).trans (wf.1 a ha), fun a h1 h2 => (e2 a (by omega)).trans (wf.2 a h1 h2)⟩
  have epl : plA (gh2 g m p (hN h)) p = plA g p := by
    cases p with
    | none => rfl
    | some q => exact up1_n _ _ (by have := mk.lt (hp q rfl); omega)
  have epo : paO (gh2 g m p (hN h)) p = paO g p := by
    cases p with
    | none => rfl
    | some q => exact hAg q (mk.lt (hp q rfl))
  have emp : (mCh m p).map (wA (gh2 g m p (hN h))) = (mCh m p).map (wA g) := List.map_congr_left (fun x hx => hAg x (ch_lt mk hx))
  obtain ⟨-, -, lC, tC, kC⟩ := cmC.par cfC wf2 mk p hp
  rw [epl] at lC tC kC
  obtain ⟨ax, fo, rn⟩ := lp
  have ls_ : ∀ b, LsC (plA g p) (sY hC 11 t (some (hN h + 3))) b → SLs p (ow2 g m p (hN h) b) := fun b z => by
    rcases z with rfl | z
    · rw [show ow2 g m p (hN h) (plA g p) = plT p from tC]; exact Or.inl rfl
    · rcases lC.2.1 b z with rfl | q
      · rw [show ow2 g m p (hN h) 1 = (9, 1) from wf2.1 1 (by decide)]; exact Or.inr (Or.inr rfl)
      · rw [show ow2 g m p (hN h) b = plE p from q]; exact Or.inr (Or.inl rfl)
  have fF : FS (gh2 g m p (hN h)) (SPt p) hC (sI hE 322 6 (nI (mCnt m + 1))) := ((FO.sY (show SPt p (wO (gh2 g m p (hN h)) 11) by rw [wf2.1 11 (by decide)]; exact Or.inr (Or.inl rfl))).tr (fo.mo (fun b _ z => Or.inl (ls_ b z)))).tr (FO.sI (show SPt p (wO (gh2 g m p (hN h)) 6) by rw [wf2.1 6 (by decide)]; exact Or.inr (Or.inr rfl)))
  have n9 : ∀ b, b ≠ 10 → b ≠ 1 → b ≠ 11 → b ≠ 6 → ¬ SPt p (9, b) := fun b h1 h2 h3 h4 => by
    rintro (z | z | z)
    · exact SLs.no9 h1 h2 z
    · exact h3 (congrArg Prod.snd z)
    · exact h4 (congrArg Prod.snd z)
  have nl : CLs (wO (gh2 g m p (hN h))) (plA (gh2 g m p (hN h)) p) ((mCh m p ++ [mCm m]).map (wA (gh2 g m p (hN h)))) 10 (plE p) (sI hE 322 6 (nI (mCnt m + 1))) := by
    rw [epl, List.map_append, emp, show [mCm m].map (wA (gh2 g m p (hN h))) = [hN h + 3] from congrArg (fun x => [x]) (up1_s _ _ _)]
    refine ⟨⟨⟨ax.1.1, (hI_o _ _ (by decide)).trans ax.1.2.1, ax.1.2.2.1, ax.1.2.2.2.1, ax.1.2.2.2.2⟩, ax.2⟩, fun e_ he_ => ?_, by decide⟩
    have he2_ : hR hE 1 (plA g p) = some e_ := he_
    rcases rn with ⟨r1, -⟩ | ⟨r1, -⟩
    · exact lC.2.1 e_ (r1.symm.trans he2_)
    · have q : hN hC + 3 = e_ := Option.some.inj (r1.symm.trans he2_)
      refine Or.inr ?_
      show ow2 g m p (hN h) e_ = plE p
      rw [← q, nC_]
      exact up1_s _ _ _
  have n11 : ¬ LsC (plA g p) (sY hC 11 t (some (hN h + 3))) 11 := fun z => by
    have := ls_ 11 z
    rw [show ow2 g m p (hN h) 11 = (9, 11) from wf2.1 11 (by decide)] at this
    exact SLs.no9 (by decide) (by decide) this
  have n6 : ¬ LsC (plA g p) (sY hC 11 t (some (hN h + 3))) 6 := fun z => by
    have := ls_ 6 z
    rw [show ow2 g m p (hN h) 6 = (9, 6) from wf2.1 6 (by decide)] at this
    exact SLs.no9 (by decide) (by decide) this
  have hvD : Hv (sY hC 11 t (some (hN h + 3))) := hvC
  have s11 := fo.s hvD (show hK (sY hC 11 t (some (hN h + 3))) 11 = 18 from ck_11 cfC) (by decide) n11
  have s6 := fo.s hvD (show hK (sY hC 11 t (some (hN h + 3))) 6 = 5 from ck_6 cfC) (by decide) n6
  have hy : ∀ s, hY (sI hE 322 6 (nI (mCnt m + 1))) 11 s = if s = t then some (wA (gh2 g m p (hN h)) (mCm m)) else hY hC 11 s := fun s => by
    show hY hE 11 s = _
    rw [s11.2.1]
    by_cases z : s = t
    · subst z; rw [hY_s, if_pos rfl, show wA (gh2 g m p (hN h)) (mCm m) = hN h + 3 from up1_s _ _ _]
    · rw [hY_n _ _ z, if_neg z]
  have pn : p ≠ some (mCm m) := fun z => by have := mk.lt (hp _ z); omega
  have nw0 : CT1 (gh2 g m p (hN h)) (nT m t kd p tp) (mCm m) hC := by
    have eA : wA (gh2 g m p (hN h)) (mCm m) = hN h + 3 := up1_s _ _ _
    have eN : wN (gh2 g m p (hN h)) (mCm m) = hN h + 5 := up1_s _ _ _
    have eL : wL (gh2 g m p (hN h)) (mCm m) = hN h + 6 := up1_s _ _ _
    obtain ⟨t1, t2, ⟨t3, t4, t5, t6, t7⟩, ⟨t8, t9, t10, t11⟩, ⟨t12, t13, t14⟩, t15, t16⟩ := ti
    rw [nB_] at t9 t10 t12 t13 t14 t15 t16
    have lv : mLive (nT m t kd p tp) (mCm m) := (nT_live mk hf _).mpr (Or.inl rfl)
    have g0 : goB (nT m t kd p tp) (mCm m) = false := by
      show (!decide (mLv (nT m t kd p tp) (mSl (nT m t kd p tp) (mCm m)) = some (mCm m))) = false
      rw [decide_eq_true (show mLv (nT m t kd p tp) (mSl (nT m t kd p tp) (mCm m)) = some (mCm m) from lv)]; rfl
    have z647 : hI hC 647 (hN h + 3) = bI false := by
      rw [t7, (((cu.2.2.2.2.1.2 (hN h + 3) (by omega)).2.2 (by omega)).2.2 647).1]
      show (if hN h + 3 = hN h + 3 then 0 else hI h 647 (hN h + 3)) = _
      rw [if_pos rfl]; rfl
    have c0 : mCh m (some (mCm m)) = [] := by
      apply List.eq_nil_iff_forall_not_mem.mpr
      intro x hx
      have q := (mk.2.2.2.1 _ x).mp hx
      have q2 := mk.lt ((mk.2.2.1 x q.1).1 _ q.2)
      omega
    have ep : paA (gh2 g m p (hN h)) (nT m t kd p tp) (mCm m) = paO g p := by
      rw [paA_eq, nT_pa, if_pos rfl, epo]
    unfold CT1
    rw [eA, eN, eL, g0, ep, nT_sl, nT_kd, nT_dp, nT_nm, nT_ch, if_pos rfl, if_pos rfl, if_pos rfl, if_pos rfl, if_neg (fun z => pn z.symm), c0, dpO_eq]
    refine ⟨⟨t3, ?_, t4, t5, t6, t8, t9, t10, z647⟩, ⟨t12, t13, ?_⟩, ⟨t15.1.1, ?_⟩, fun _ => ⟨fun j hj => ?_, ⟨hN h + 4, t11, ?_⟩, t15, fun e_ he_ => Or.inl (Option.some.inj (he_.symm.trans t16)), by decide⟩⟩
    · show ow2 g m p (hN h) (hN h + 3) = _
      unfold ow2
      rw [up1_n _ _ (by omega), up1_n _ _ (by omega), up1_n _ _ (by omega), up1_n _ _ (by omega), up1_s]
    · show ow2 g m p (hN h) (hN h + 5) = _
      unfold ow2
      rw [up1_n _ _ (by omega), up1_n _ _ (by omega), up1_s]
    · show ow2 g m p (hN h) (hN h + 6) = _
      unfold ow2
      rw [up1_n _ _ (by omega), up1_s]
    · rw [nT_nu, if_pos rfl]; exact congrFun t14 j
    · have q := t2.2 (hN h + 4) (by omega)
      have q2 := q.2.2 (by omega)
      refine ⟨q.1.trans cu.2.1, q.2.1.trans cu.2.2.1, ?_, fun k hk => (congrFun q2.1 k).trans (cu.2.2.2.1 k hk)⟩
      show ow2 g m p (hN h) (hN h + 4) = _
      unfold ow2
      rw [up1_n _ _ (by omega), up1_n _ _ (by omega), up1_n _ _ (by omega), up1_s]
  have nw : CT1 (gh2 g m p (hN h)) (nT m t kd p tp) (mCm m) (sI hE 322 6 (nI (mCnt m + 1))) := by
    have m1 : ¬ SPt p (2, mCm m + 1) := by
      unfold SPt SLs plT plE
      cases p with
      | none => simp
      | some q => simp; intro z; exact pn (by rw [z])
    have m2 : ¬ SPt p (3, mCm m + 1) := by
      unfold SPt SLs plT plE
      cases p with
      | none => simp
      | some q => simp; intro z; exact pn (by rw [z])
    exact nw0.fo (ow' := wO (gh2 g m p (hN h))) fF hvC (fun _ _ => rfl) (SPt.no (by decide) (by decide) (by decide)) (SPt.no (by decide) (by decide) (by decide)) m1 m2 (SPt.no (by decide) (by decide) (by decide))
  have cmF := cmC.add cfC wf2 hvC mk hf ht hp fF nl hy (hI_s _ _ _ _) nw
  have fAll : FS g SMd h (sI hE 322 6 (nI (mCnt m + 1))) := by
    have q1 : FO (fun b => SMd (wO g b) ∨ hN h + 3 ≤ b) h hC := fC0.mo (fun b _ z => z.elim (fun z => Or.inl (by rw [z]; exact Or.inr (Or.inr (Or.inr (Or.inr (by decide)))))) Or.inr)
    have q2 : FO (fun b => SMd (wO g b) ∨ hN h + 3 ≤ b) hC (sI hE 322 6 (nI (mCnt m + 1))) := fF.mo (fun b _ z => by
      by_cases hb : b < hN h + 3
      · have z2 : SPt p (ow2 g m p (hN h) b) := z
        rw [ow2_o hb] at z2
        refine Or.inl ?_
        rcases z2 with y | y | y
        · exact y.md
        · rw [y]; exact Or.inr (Or.inr (Or.inr (Or.inr (by decide))))
        · rw [y]; exact Or.inr (Or.inr (Or.inr (Or.inr (by decide))))
      · exact Or.inr (by omega))
    exact (q1.tr q2).mo (fun b hb z => z.elim id (fun z => by omega))
  have ctC : CTp [] hC := by
    have q4 := (ti.2.1.2 4 (by omega)).2.2 (by omega)
    have q5 := (ti.2.1.2 5 (by omega)).2.2 (by omega)
    exact ⟨by simp, (q4.2.2 _).1.trans cu.2.2.2.2.2.1.2.1, fun j hj => by simp at hj⟩
  refine ⟨gh2 g m p (hN h), cs.model hv fAll e2 hAg hps (fun k => ⟨?_, ?_⟩) (ctC.fs wf2 cfC hvC fF (n9 _ (by decide) (by decide) (by decide) (by decide)) (n9 _ (by decide) (by decide) (by decide) (by decide))) cmF⟩
  · exact ((fF.s hvC (ck_4 cfC) (by decide) (by rw [wf2.1 4 (by decide)]; exact n9 _ (by decide) (by decide) (by decide) (by decide))).2.2 k).2.trans (r4 k)
  · exact ((s6.2.2 k).2).trans (((sC 6 (by decide)).2.2 k).2)
