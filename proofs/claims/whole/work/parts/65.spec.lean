/-! pieces as values: the thing (the number with which it came, its slot, its kind, those around it, the outermost first and itself the last); the items of the uses around, the item, its sort, its number; what was made; what a hand made of it, with its base -/
abbrev Pc : Type := (Nat × Nat × Nat × List Nat) × (List Nat × Nat × Nat × Nat) × List Int32 × Option (List Int32 × List Int32)
def pcC (p : Pc) : Nat := p.1.1
def pcS (p : Pc) : Nat := p.1.2.1
def pcK (p : Pc) : Nat := p.1.2.2.1
def pcA (p : Pc) : List Nat := p.1.2.2.2
def pcW (p : Pc) : List Nat := p.2.1.1
def pcI (p : Pc) : Nat := p.2.1.2.1
def pcT (p : Pc) : Nat := p.2.1.2.2.1
def pcN (p : Pc) : Nat := p.2.1.2.2.2
def pcM (p : Pc) : List Int32 := p.2.2.1
def pcH (p : Pc) : Option (List Int32 × List Int32) := p.2.2.2
def setH (p : Pc) (hb : Option (List Int32 × List Int32)) : Pc := (p.1, p.2.1, p.2.2.1, hb)
def nuV (m : Md) (c j : Nat) : Nat := (mNu m c j).toInt.toNat
def lg (v : Nat) : Nat := if v < 10 then 0 else if v < 100 then 1 else if v < 1000 then 2 else if v < 10000 then 3 else if v < 100000 then 4 else 5
/-- a number's digits -/
def digs (v : Nat) : List Int32 := (List.range (lg v + 1)).map (fun k => nI (48 + v / 10 ^ (lg v - k) % 10))
theorem lg_le (v : Nat) : lg v ≤ 5 := by
  unfold lg
  repeat' split
  all_goals omega
theorem digs_len (v : Nat) : (digs v).length = lg v + 1 := by simp [digs]
theorem digs_at {v k : Nat} (h : k ≤ lg v) : (digs v).getD k 0 = nI (48 + v / 10 ^ (lg v - k) % 10) := by
  unfold digs
  rw [List.getD_eq_getElem?_getD, List.getElem?_map, List.getElem?_range (by omega)]
  rfl
def mdF (m : Md) (c : Nat) (it : It) : List Int32 := if it.1 = 0 then it.2.2.2 else if it.1 = 1 then mNm m c else if it.1 = 2 then digs (nuV m c it.2.1) else if it.1 = 3 then digs (nuV m c it.2.1 + nuV m c it.2.2.1) else []
def mkP (m : Md) (an wy : List Nat) (c i : Nat) (it : It) : Pc := ((c, mSl m c, mKd m c, an ++ [c]), (wy, i, it.1, it.2.1), mdF m c it, none)
/-- what the items of a use make, one by one: none is a use, some a piece -/
def mkI (m : Md) (f : Nat → Nat → List (Option Pc)) (an wy : List Nat) (c : Nat) : Nat → Bool → List It → List (Option Pc)
  | _, _, [] => []
  | i, sk, it :: its => if it.1 = 6 then mkI m f an wy c (i + 1) (decide (nuV m c it.2.1 = 0)) its else if it.1 = 7 then mkI m f an wy c (i + 1) false its else if sk = true then mkI m f an wy c (i + 1) sk its else if it.1 = 5 then f i it.2.1 ++ mkI m f an wy c (i + 1) sk its else some (mkP m an wy c i it) :: mkI m f an wy c (i + 1) sk its
def mkC (m : Md) (g : Nat → List (Option Pc)) (kd : Nat) : List Nat → List (Option Pc)
  | [] => []
  | x :: xs => if mKd m x = kd then g x ++ mkC m g kd xs else mkC m g kd xs
def mkU (m : Md) (ru : Nat → List It) : Nat → List Nat → List Nat → Nat → List (Option Pc)
  | 0, _, _, _ => []
  | n + 1, an, wy, c => none :: mkI m (fun i kd => mkC m (fun x => mkU m ru n (an ++ [c]) (wy ++ [i]) x) kd (mCh m (some c))) an wy c 0 false (ru (mKd m c))
def flat (ps : List Pc) : List Int32 := ps.flatMap pcM
theorem flat_add (ps : List Pc) (p : Pc) : flat (ps ++ [p]) = flat ps ++ pcM p := by simp [flat]
theorem flat_nil : flat [] = [] := rfl
def stE (a : Nat × List Pc) (e : Option Pc) : Option (Nat × List Pc) := match e with
  | none => if a.1 < 2000 then some (a.1 + 1, a.2) else none
  | some p => if a.2.length < 250 ∧ (flat a.2).length + (pcM p).length ≤ 3000 then some (a.1, a.2 ++ [p]) else none
def fdE : List (Option Pc) → (Nat × List Pc) → Option (Nat × List Pc)
  | [], a => some a
  | e :: es, a => match stE a e with
    | none => none
    | some b => fdE es b
theorem fdE_app {xs ys : List (Option Pc)} : ∀ {a : Nat × List Pc}, fdE (xs ++ ys) a = match fdE xs a with
    | none => none
    | some b => fdE ys b := by
  induction xs with
  | nil => intro a; rfl
  | cons e es ih_ =>
    intro a
    show (match stE a e with
      | none => none
      | some b => fdE (es ++ ys) b) = match (match stE a e with
      | none => none
      | some b => fdE es b) with
      | none => none
      | some b => fdE ys b
    cases stE a e with
    | none => rfl
    | some b => exact ih_
theorem fdE_c1 {e : Option Pc} {es : List (Option Pc)} {a b : Nat × List Pc} (h : stE a e = some b) : fdE (e :: es) a = fdE es b := by
  show (match stE a e with
      | none => none
      | some b => fdE es b) = _
  rw [h]
theorem fdE_c0 {e : Option Pc} {es : List (Option Pc)} {a : Nat × List Pc} (h : stE a e = none) : fdE (e :: es) a = none := by
  show (match stE a e with
      | none => none
      | some b => fdE es b) = _
  rw [h]
theorem fdE_a1 {xs ys : List (Option Pc)} {a b : Nat × List Pc} (h : fdE xs a = some b) : fdE (xs ++ ys) a = fdE ys b := by rw [fdE_app, h]
theorem fdE_a0 {xs ys : List (Option Pc)} {a : Nat × List Pc} (h : fdE xs a = none) : fdE (xs ++ ys) a = none := by rw [fdE_app, h]
def mkAll (m : Md) (ru : Nat → List It) : List (Option Pc) := (mCh m none).flatMap (mkU m ru 6 [] [])
def mkNew (m : Md) (ru : Nat → List It) : Option (List Pc) := (fdE (mkAll m ru) (0, [])).map (fun b => b.2)
/-- the place where a piece's bytes begin -/
def stt (ps : List Pc) (i : Nat) : Nat := (flat (ps.take i)).length
theorem stt_add {ps : List Pc} {p : Pc} {i : Nat} (h : i ≤ ps.length) : stt (ps ++ [p]) i = stt ps i := by
  unfold stt
  rw [List.take_append_of_le_length h]
theorem stt_len (ps : List Pc) : stt ps ps.length = (flat ps).length := by unfold stt; rw [List.take_length]
theorem stt_le {ps : List Pc} {i : Nat} {p : Pc} (h : ps[i]? = some p) : stt ps i + (pcM p).length ≤ (flat ps).length := by
  have hi := (List.getElem?_eq_some_iff.mp h).1
  have e : ps = ps.take i ++ p :: ps.drop (i + 1) := by
    have h2 := (List.getElem?_eq_some_iff.mp h).2
    rw [← h2, ← List.drop_eq_getElem_cons hi, List.take_append_drop]
  unfold stt
  conv => rhs; rw [e]
  simp [flat]
theorem flat_at {ps : List Pc} {i k : Nat} {p : Pc} (h : ps[i]? = some p) (hk : k < (pcM p).length) : (flat ps).getD (stt ps i + k) 0 = (pcM p).getD k 0 := by
  have hi := (List.getElem?_eq_some_iff.mp h).1
  have e : ps = ps.take i ++ p :: ps.drop (i + 1) := by
    have h2 := (List.getElem?_eq_some_iff.mp h).2
    rw [← h2, ← List.drop_eq_getElem_cons hi, List.take_append_drop]
  have e2 : flat ps = flat (ps.take i) ++ (pcM p ++ flat (ps.drop (i + 1))) := by
    conv => lhs; rw [e]
    simp [flat]
  rw [e2]
  unfold stt
  rw [List.getD_eq_getElem?_getD, List.getElem?_append_right (by omega), show (flat (ps.take i)).length + k - (flat (ps.take i)).length = k by omega, List.getElem?_append_left hk, List.getD_eq_getElem?_getD]
/-- the same maker -/
def smP (p q : Pc) : Bool := decide (pcC p = pcC q ∧ pcW p = pcW q ∧ pcI p = pcI q ∧ pcT p = pcT q)
theorem smP_iff {p q : Pc} : smP p q = true ↔ pcC p = pcC q ∧ pcW p = pcW q ∧ pcI p = pcI q ∧ pcT p = pcT q := by simp [smP]
def clB (p : Pc) : Bool := match pcH p with
  | none => false
  | some hb => decide (pcM p ≠ hb.2)
def shP (p : Pc) : List Int32 := match pcH p with
  | none => pcM p
  | some hb => hb.1
