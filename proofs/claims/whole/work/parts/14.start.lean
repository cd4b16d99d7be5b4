abbrev M_law : aM := (yL_law, cL_law, 4, some .boolean)
def h00 : aH := (0, fun _ => 99, fun _ _ => 0, fun _ _ => none, fun _ => 0, fun _ _ => 0, fun _ _ => none)
theorem inst_all : vwCl.all (fun r => decide (Cond.instantiable r.1 r.2.2 ∈ lw_tbl)) = true := by decide +kernel
theorem aTs_tbl {w : Cond} (h : w ∈ aTs) : w ∈ lw_tbl := (List.mem_filter.mp h).1
set_option maxHeartbeats 4000000 in
theorem start_of {p : Program} {e : Env} {s : State} {m : MethodId} {below : List Frame} {meth : Method} {c : Code} (l : Launch) {b L : Nat} {xs : Nat → Int32} (C0 : lw_At p s m meth c b L xs) (hEv : ∀ G : aG, gL G = L → gX G = xs → Ev l G 100 600000 7302250 M_law 0 (en 4 [.ref 0]) [] h00 (fun v _ => v = some (.int 1))) : W p l e room_1 s m #[Value.ref b] below meth c s.heap [] 0 0 (lw_Z below #[Value.ref b] s) (entryFrame m ([Value.ref b] : List Value).toArray 4) := by
  obtain ⟨hx, hb, hr, hml, hown, hts, hX, hbl, hlocks, hgv⟩ := C0
  have hg := flat_of_before _ hgv
  have kn : ∀ ci : Nat, ∃ (q : ClassId × (Nat → Nat)), ∀ r : vw_C, vwCl[ci]? = some r → u_Kn s r.1 r.2.1 r.2.2 q.1 q.2 := by
    intro ci
    cases hr : vwCl[ci]? with
    | none => exact ⟨(0, fun _ => 0), fun r h => by cases h⟩
    | some r =>
      have h1 : Cond.instantiable r.1 r.2.2 ∈ lw_tbl := of_decide_eq_true (List.all_eq_true.mp inst_all r (List.mem_of_getElem? hr))
      obtain ⟨c0, i0, h2⟩ := u_known (C := r.1) (T := r.2.1) (N := r.2.2) (n := r.2.2) hts (fun w hw => aTs_tbl (us_in hr w hw)) (hts _ h1)
      exact ⟨(c0, i0), fun r' h => by cases h; exact h2⟩
  obtain ⟨cI, kI, mI, i1, i2, i3⟩ := Cond.arrayClass_spec (hts (.arrayClass .int) (by decide +kernel))
  obtain ⟨cZ, kZ, mZ, z1, z2, z3⟩ := Cond.arrayClass_spec (hts (.arrayClass .boolean) (by decide +kernel))
  have ao : ∀ C : String, Cond.arrayOver (.object C) ∈ lw_tbl → ∃ cA : ClassId, ArrOfT s cA (.object C) ∧ va_RA s cA (.object C) := by
    intro C hC
    obtain ⟨comp, c1, k, h1, h2, h3, h4, h5⟩ := Cond.arrayOver_spec (hts _ hC)
    exact ⟨c1, fun N z => ⟨(fun k h => by cases h), k, h3, comp, h4⟩, k, comp, h3, h4, h1, h5⟩
  obtain ⟨cO, o1⟩ := ao "java/lang/Object" (by decide +kernel)
  obtain ⟨cP, p1⟩ := ao "MadeMended$Piece" (by decide +kernel)
  obtain ⟨cR, r1⟩ := ao "MadeMended$Rule" (by decide +kernel)
  obtain ⟨cT, t1⟩ := ao "MadeMended$Thing" (by decide +kernel)
  have hnA : ∀ a : Nat, a < s.heap.size → ¬ (fun q => s.heap.size ≤ q) a := fun a ha => Nat.not_le.mpr ha
  have hlen0 := va_eqt (hg (.eq (.length (.static "java/util/ArrayList" "DEFAULTCAPACITY_EMPTY_ELEMENTDATA" "[Ljava/lang/Object;")) (.int 0)) (by decide +kernel))
  obtain ⟨ea, he1, he2⟩ := va_Tof (N := 0) (f := fun _ => .null) (A := fun q => s.heap.size ≤ q) (by decide) (hg (.arrayOf (.static "java/util/ArrayList" "DEFAULTCAPACITY_EMPTY_ELEMENTDATA" "[Ljava/lang/Object;") (.object "java/lang/Object")) (by decide +kernel)) hlen0 (fun j hj => absurd hj (by omega)) hnA
  have he3 := va_Zref (A := fun q => s.heap.size ≤ q) (hts (.laysStatic "java/util/ArrayList" "DEFAULTCAPACITY_EMPTY_ELEMENTDATA" "[Ljava/lang/Object;") (by decide +kernel)) (hts (.initialized "java/util/ArrayList") (by decide +kernel)) he1 hnA
  obtain ⟨mi, hmi⟩ := va_Mi.of (hg (.isRef (.mirror "[Ljava/lang/Object;")) (by decide +kernel))
  have hea : ea < s.heap.size := by
    obtain ⟨cell, h1, -⟩ := he2
    exact (Array.getElem?_eq_some_iff.mp h1).1
  let G : aG := ((fun ci => (Classical.choose (kn ci)).1, fun ci => (Classical.choose (kn ci)).2), (fun kd => match kd with | 13 => cI | 14 => cZ | 15 => cO | 16 => cP | 17 => cR | _ => cT), s.heap.size, b, ea, mi, L, xs)
  have hK : va_K (gD G) vwCl (aTy G) s := by
    refine ⟨fun ci q hq => Classical.choose_spec (kn ci) q hq, fun k q hk => ?_⟩
    match k, hk with
    | 0, hk => cases hk; exact ⟨fun N z => ⟨(fun k h => by cases h), kI, i2, mI, i3⟩, i1⟩
    | 1, hk => cases hk; exact ⟨fun N z => ⟨(fun k h => by cases h), kZ, z2, mZ, z3⟩, z1⟩
    | 2, hk => cases hk; exact o1
    | 3, hk => cases hk; exact p1
    | 4, hk => cases hk; exact r1
    | 5, hk => cases hk; exact t1
    | k + 6, hk => simp [aTy] at hk
  have hW : aWd G s s.heap := ⟨hK, hX, hbl, he3, he2, hmi, fun w hw hk => by
    cases w with
    | castable => exact va_Nw.of rfl (hts _ hw)
    | methodLinkNest => exact va_Nw.of rfl (hts _ hw)
    | declares => exact va_Nw.of rfl (hts _ hw)
    | arrayOver t => cases t <;> first | (exact va_AO.of (hts _ hw)) | (simp [aWk] at hk)
    | _ => simp [aWk] at hk, Nat.le_refl _, hea⟩
  have hRp : aRp G h00 s.heap := ⟨rfl, fun k q hk => by simp [wl, h00, hN] at hk, fun a ha => absurd rfl ha⟩
  have hl := aLv_entry G (avs := [.ref 0]) (n := 4) rfl (by decide)
  have K := hEv G rfl rfl p e room_1 s m #[Value.ref b] below meth c s.heap [] 0 0 _ ⟨hx, hb, hml, hr, hown, fun w hw => hts w (aTs_tbl hw), hlocks, fun h => absurd h (by decide), hW⟩ (by decide) (by decide) (by decide) (by decide) hRp va_S.rf hl
  rw [lg_entry_eq]
  intro T hT X
  obtain ⟨t, q1, o, q2, q3, ⟨v, h', q4, q5, -⟩, Lc, q6, q7⟩ := K T hT X
  refine ⟨t, q1, o, q2, q3, ?_, q6.1, q6.2.1, ?_⟩
  · rw [q4, q5]; rfl
  · exact q6.2.2.weaken (fun y hy hlt => absurd hlt (Nat.not_lt.mpr (q7 y hy))) (Nat.le_refl _) (Nat.le_refl _)
