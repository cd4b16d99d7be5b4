/-- whoever has a kind is one of the cells made so far: to be had at any place -/
def Hv (h : aH) : Prop := ∀ a, hK h a ≠ 99 → 3 ≤ a ∧ a < hN h + 3
theorem Ev_hv {l : Launch} {G : aG} {d mc ms : Nat} {M : aM} {pc : Nat} {ls st : List Value} {h : aH} {Q : Option Value → aH → Prop} (k : Hv h → Ev l G d mc ms M pc ls st h Q) : Ev l G d mc ms M pc ls st h Q :=
  fun p e R s m args below meth c H locs cells slots lv C a1 a2 a3 a4 hP hS hl => k hP.2.2 p e R s m args below meth c H locs cells slots lv C a1 a2 a3 a4 hP hS hl
theorem Hv.fresh {h : aH} (v : Hv h) {a : Nat} (ha : hN h + 3 ≤ a) : hK h a = 99 := by
  apply Classical.byContradiction
  intro q
  have := v a q
  omega
theorem Hv.ne {h : aH} (v : Hv h) {a : Nat} (ha : hK h a ≠ 99) : a ≠ hN h + 3 := by
  have := v a ha
  omega
/-- what may have changed, with new cells behind the old ones -/
def FA (P R : Nat → Nat → Prop) (A B : Nat → Prop) (h h' : aH) : Prop := hN h ≤ hN h' ∧ ∀ b, b < hN h + 3 → hK h' b = hK h b ∧ hL h' b = hL h b ∧ (¬ A b → hX h' b = hX h b) ∧ (¬ B b → hY h' b = hY h b) ∧ (∀ k, ¬ P k b → hI h' k b = hI h k b) ∧ (∀ k, ¬ R k b → hR h' k b = hR h k b)
theorem FA.rf {P R : Nat → Nat → Prop} {A B : Nat → Prop} {h : aH} : FA P R A B h h := ⟨Nat.le_refl _, fun _ _ => ⟨rfl, rfl, fun _ => rfl, fun _ => rfl, fun _ _ => rfl, fun _ _ => rfl⟩⟩
theorem FA.tr {P R : Nat → Nat → Prop} {A B : Nat → Prop} {h h1 h2 : aH} (a : FA P R A B h h1) (b : FA P R A B h1 h2) : FA P R A B h h2 := by
  refine ⟨Nat.le_trans a.1 b.1, fun x hx => ?_⟩
  obtain ⟨a1, a2, a3, a4, a5, a6⟩ := a.2 x hx
  obtain ⟨b1, b2, b3, b4, b5, b6⟩ := b.2 x (by have := a.1; omega)
  exact ⟨b1.trans a1, b2.trans a2, fun q => (b3 q).trans (a3 q), fun q => (b4 q).trans (a4 q), fun k q => (b5 k q).trans (a5 k q), fun k q => (b6 k q).trans (a6 k q)⟩
theorem FA.mo {P R P' R' : Nat → Nat → Prop} {A B A' B' : Nat → Prop} {h h1 : aH} (a : FA P R A B h h1) (p1 : ∀ k x, P k x → P' k x) (p2 : ∀ k x, R k x → R' k x) (p3 : ∀ x, A x → A' x) (p4 : ∀ x, B x → B' x) : FA P' R' A' B' h h1 := by
  refine ⟨a.1, fun x hx => ?_⟩
  obtain ⟨a1, a2, a3, a4, a5, a6⟩ := a.2 x hx
  exact ⟨a1, a2, fun q => a3 (fun z => q (p3 _ z)), fun q => a4 (fun z => q (p4 _ z)), fun k q => a5 k (fun z => q (p1 _ _ z)), fun k q => a6 k (fun z => q (p2 _ _ z))⟩
theorem FA.sI {P R : Nat → Nat → Prop} {A B : Nat → Prop} {h : aH} {k a : Nat} {v : Int32} (hp : P k a) : FA P R A B h (sI h k a v) := by
  refine ⟨Nat.le_refl _, fun b _ => ⟨rfl, rfl, fun _ => rfl, fun _ => rfl, fun k' q => ?_, fun _ _ => rfl⟩⟩
  show up2 (hI h) k a v k' b = _
  by_cases e1 : b = a
  · by_cases e2 : k' = k
    · exact absurd (by rw [e1, e2]; exact hp) q
    · exact up2_k _ _ e2
  · exact up2_n _ _ e1
theorem FA.sR {P R : Nat → Nat → Prop} {A B : Nat → Prop} {h : aH} {k a : Nat} {v : Option Nat} (hp : R k a) : FA P R A B h (sR h k a v) := by
  refine ⟨Nat.le_refl _, fun b _ => ⟨rfl, rfl, fun _ => rfl, fun _ => rfl, fun _ _ => rfl, fun k' q => ?_⟩⟩
  show up2 (hR h) k a v k' b = _
  by_cases e1 : b = a
  · by_cases e2 : k' = k
    · exact absurd (by rw [e1, e2]; exact hp) q
    · exact up2_k _ _ e2
  · exact up2_n _ _ e1
theorem FA.sX {P R : Nat → Nat → Prop} {A B : Nat → Prop} {h : aH} {a j : Nat} {v : Int32} (hp : A a) : FA P R A B h (sX h a j v) := by
  refine ⟨Nat.le_refl _, fun b _ => ⟨rfl, rfl, fun q => ?_, fun _ => rfl, fun _ _ => rfl, fun _ _ => rfl⟩⟩
  funext i
  show up2 (hX h) a j v b i = _
  exact up2_k _ _ (fun e => q (by rw [e]; exact hp))
theorem FA.sY {P R : Nat → Nat → Prop} {A B : Nat → Prop} {h : aH} {a j : Nat} {v : Option Nat} (hp : B a) : FA P R A B h (sY h a j v) := by
  refine ⟨Nat.le_refl _, fun b _ => ⟨rfl, rfl, fun _ => rfl, fun q => ?_, fun _ _ => rfl, fun _ _ => rfl⟩⟩
  funext i
  show up2 (hY h) a j v b i = _
  exact up2_k _ _ (fun e => q (by rw [e]; exact hp))
theorem FA.sYs {P R : Nat → Nat → Prop} {A B : Nat → Prop} {h : aH} {a : Nat} {f : Nat → Option Nat} (hp : B a) : FA P R A B h (sYs h a f) :=
  ⟨Nat.le_refl _, fun b _ => ⟨rfl, rfl, fun _ => rfl, fun q => up1_n _ _ (fun e => q (by rw [e]; exact hp)), fun _ _ => rfl, fun _ _ => rfl⟩⟩
theorem FA.sXs {P R : Nat → Nat → Prop} {A B : Nat → Prop} {h : aH} {a : Nat} {f : Nat → Int32} (hp : A a) : FA P R A B h (sXs h a f) :=
  ⟨Nat.le_refl _, fun b _ => ⟨rfl, rfl, fun q => up1_n _ _ (fun e => q (by rw [e]; exact hp)), fun _ => rfl, fun _ _ => rfl, fun _ _ => rfl⟩⟩
theorem FA.nO {P R : Nat → Nat → Prop} {A B : Nat → Prop} {h : aH} {ci : Nat} : FA P R A B h (nO h ci) :=
  ⟨Nat.le_succ _, fun b hb => ⟨up1_n _ _ (by omega), rfl, fun _ => rfl, fun _ => rfl, fun _ _ => if_neg (by omega), fun _ _ => if_neg (by omega)⟩⟩
theorem FA.nA {P R : Nat → Nat → Prop} {A B : Nat → Prop} {h : aH} {kd n : Nat} : FA P R A B h (nA h kd n) :=
  ⟨Nat.le_succ _, fun b hb => ⟨up1_n _ _ (by omega), up1_n _ _ (by omega), fun _ => up1_n _ _ (by omega), fun _ => up1_n _ _ (by omega), fun _ _ => rfl, fun _ _ => rfl⟩⟩
