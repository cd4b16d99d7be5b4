/-! the words that go along by the machine's tables, and are no good words -/
def aWk : Cond → Bool
  | .castable .. => true
  | .methodLinkNest .. => true
  | .declares _ => true
  | .arrayOver (.object _) => true
  | _ => false
theorem aNw_warm {s U : State} (hW : s.WarmedH U.vm) {w : Cond} (hw : aWk w = true) (h : va_Nw w s) : va_Nw w U := by
  cases w with
  | castable => exact va_Nw.warmC hW h
  | methodLinkNest => exact va_Nw.warmM hW h
  | declares => exact va_Nw.warmD hW h
  | arrayOver t => cases t <;> first | (exact va_AO.moved hW.alike h) | (simp [aWk] at hw)
  | _ => simp [aWk] at hw
/-- a method: its name, its bytes, how many variables, its answer's type -/
abbrev aM : Type := MethodName × ByteArray × Nat × Option FieldType
/-- the constants of a run: the numbers of classes and fields, of array kinds, the first free address, the script's address, the empty list's array, the mirror, the script's length and ints -/
abbrev aG : Type := va_G × (Nat → ClassId) × Nat × Nat × Nat × Nat × Nat × (Nat → Int32)
abbrev gD (G : aG) : va_G := G.1
abbrev gC (G : aG) : Nat → ClassId := G.2.1
abbrev gB (G : aG) : Nat := G.2.2.1
abbrev gb (G : aG) : Nat := G.2.2.2.1
abbrev ge (G : aG) : Nat := G.2.2.2.2.1
abbrev gm (G : aG) : Nat := G.2.2.2.2.2.1
abbrev gL (G : aG) : Nat := G.2.2.2.2.2.2.1
abbrev gX (G : aG) : Nat → Int32 := G.2.2.2.2.2.2.2
/-- the address of the cell that has number a here: 0 the script, 1 the empty array, 2 the mirror -/
def ad (G : aG) (a : Nat) : Nat := if a = 0 then gb G else if a = 1 then ge G else if a = 2 then gm G else gB G + (a - 3)
def tv (G : aG) : Value → Value
  | .ref a => .ref (ad G a)
  | v => v
def rv : Option Nat → Value
  | none => .null
  | some a => .ref a
theorem tv_rv (G : aG) (o : Option Nat) : tv G (rv o) = va_rf (o.map (ad G)) := by cases o <;> rfl
theorem ad_3 (G : aG) {a : Nat} (h : 3 ≤ a) : ad G a = gB G + (a - 3) := by
  unfold ad
  rw [if_neg (by omega), if_neg (by omega), if_neg (by omega)]
/-- the heap as fields by their numbers and addresses: how many cells; the kind of a cell; int fields; references; lengths; ints of rows; references of rows -/
abbrev aH : Type := Nat × (Nat → Nat) × (Nat → Nat → Int32) × (Nat → Nat → Option Nat) × (Nat → Nat) × (Nat → Nat → Int32) × (Nat → Nat → Option Nat)
def hN (h : aH) : Nat := h.1
def hK (h : aH) : Nat → Nat := h.2.1
def hI (h : aH) : Nat → Nat → Int32 := h.2.2.1
def hR (h : aH) : Nat → Nat → Option Nat := h.2.2.2.1
def hL (h : aH) : Nat → Nat := h.2.2.2.2.1
def hX (h : aH) : Nat → Nat → Int32 := h.2.2.2.2.2.1
def hY (h : aH) : Nat → Nat → Option Nat := h.2.2.2.2.2.2
def up1 {α : Type} (f : Nat → α) (a : Nat) (v : α) : Nat → α := fun b => if b = a then v else f b
def up2 {α : Type} (f : Nat → Nat → α) (k a : Nat) (v : α) : Nat → Nat → α := fun k' b => if k' = k then (if b = a then v else f k' b) else f k' b
def sI (h : aH) (k a : Nat) (v : Int32) : aH := (hN h, hK h, up2 (hI h) k a v, hR h, hL h, hX h, hY h)
def sR (h : aH) (k a : Nat) (v : Option Nat) : aH := (hN h, hK h, hI h, up2 (hR h) k a v, hL h, hX h, hY h)
def sX (h : aH) (a j : Nat) (v : Int32) : aH := (hN h, hK h, hI h, hR h, hL h, up2 (hX h) a j v, hY h)
def sY (h : aH) (a j : Nat) (v : Option Nat) : aH := (hN h, hK h, hI h, hR h, hL h, hX h, up2 (hY h) a j v)
def sXs (h : aH) (a : Nat) (f : Nat → Int32) : aH := (hN h, hK h, hI h, hR h, hL h, up1 (hX h) a f, hY h)
def sYs (h : aH) (a : Nat) (f : Nat → Option Nat) : aH := (hN h, hK h, hI h, hR h, hL h, hX h, up1 (hY h) a f)
/-- a new object of a kind: its number is hN h + 3 -/
def nO (h : aH) (ci : Nat) : aH := (hN h + 1, up1 (hK h) (hN h + 3) ci, fun k b => if b = hN h + 3 then 0 else hI h k b, fun k b => if b = hN h + 3 then none else hR h k b, hL h, hX h, hY h)
/-- a new row of a kind -/
def nA (h : aH) (kd n : Nat) : aH := (hN h + 1, up1 (hK h) (hN h + 3) kd, hI h, hR h, up1 (hL h) (hN h + 3) n, up1 (hX h) (hN h + 3) (fun _ => 0), up1 (hY h) (hN h + 3) (fun _ => none))
/-- the types of the fields of the kind ci -/
def fT : Nat → Nat → FieldType := fun ci => match ci with
  | 0 => tyJx4a65c
  | 1 => tyX0
  | 2 => tyX1
  | 3 => tyX2
  | 4 => tyX3
  | 5 => tyX4
  | 6 => tyX5
  | 7 => tyX6
  | 8 => tyX7
  | 9 => tyX8
  | 10 => tyX9
  | 11 => tyX10
  | _ => tyX11
def rfT (ty : FieldType) : Bool := match ty with
  | .object _ => true
  | .array _ => true
  | _ => false
def fn (ci : Nat) : Nat := match vwCl[ci]? with
  | some r => r.2.2
  | none => 0
def fv (G : aG) (h : aH) (ci j a : Nat) : Value := if rfT (fT ci j) = true then va_rf ((hR h (64 * ci + j) a).map (ad G)) else .int (hI h (64 * ci + j) a)
def aCl (G : aG) (h : aH) (a : Nat) : va_E :=
  if hK h a < 13 then .inr (hK h a, (List.range (fn (hK h a))).map (fun j => fv G h (hK h a) j a))
  else if hK h a < 15 then .inl (gC G (hK h a), hL h a, .inl (hX h a))
  else .inl (gC G (hK h a), hL h a, .inr (.inr (.inr (.inr (fun j => (hY h a j).map (ad G))))))
def wl (G : aG) (h : aH) : va_W := (List.range (hN h)).map (fun i => (gB G + i, aCl G h (i + 3)))
theorem wl_at (G : aG) (h : aH) (i : Nat) : (wl G h)[i]? = if i < hN h then some (gB G + i, aCl G h (i + 3)) else none := by
  unfold wl
  rw [List.getElem?_map]
  by_cases hi : i < hN h
  · rw [List.getElem?_range hi, if_pos hi]; rfl
  · rw [List.getElem?_eq_none (by simpa using hi), if_neg hi]; rfl
theorem wl_get (G : aG) {h : aH} {a : Nat} (h3 : 3 ≤ a) (hn : a < hN h + 3) : (wl G h)[a - 3]? = some (ad G a, aCl G h a) := by
  rw [wl_at, if_pos (by omega), ad_3 G h3, show a - 3 + 3 = a by omega]
theorem wl_len (G : aG) (h : aH) : (wl G h).length = hN h := by simp [wl]
theorem wl_set (G : aG) {h h' : aH} {a : Nat} (h3 : 3 ≤ a) (hn : a < hN h + 3) (e : hN h' = hN h) (o : ∀ b, b ≠ a → aCl G h' b = aCl G h b) : (wl G h).set (a - 3) (ad G a, aCl G h' a) = wl G h' := by
  apply List.ext_getElem?
  intro i
  rw [List.getElem?_set, wl_at, wl_at, wl_len, e]
  by_cases hi : a - 3 = i
  · subst hi
    rw [if_pos rfl, if_pos (by omega), if_pos (by omega), ad_3 G h3, show a - 3 + 3 = a by omega]
  · rw [if_neg hi]
    by_cases hl : i < hN h
    · rw [if_pos hl, if_pos hl, o (i + 3) (by omega)]
    · rw [if_neg hl, if_neg hl]
theorem wl_D (G : aG) (h : aH) : va_D (fun q => gB G ≤ q) (wl G h) := by
  refine ⟨fun i j p q hi hj e => ?_, fun k q hk => ?_⟩
  · rw [wl_at] at hi hj
    by_cases h1 : i < hN h
    · by_cases h2 : j < hN h
      · rw [if_pos h1] at hi; rw [if_pos h2] at hj
        cases hi; cases hj
        simp only at e
        omega
      · rw [if_neg h2] at hj; cases hj
    · rw [if_neg h1] at hi; cases hi
  · rw [wl_at] at hk
    by_cases h1 : k < hN h
    · rw [if_pos h1] at hk
      cases hk
      exact Nat.le_add_right _ _
    · rw [if_neg h1] at hk; cases hk
theorem wl_push (G : aG) {h h' : aH} (e : hN h' = hN h + 1) (o : ∀ b, b < hN h + 3 → aCl G h' b = aCl G h b) : wl G h ++ [(gB G + hN h, aCl G h' (hN h + 3))] = wl G h' := by
  apply List.ext_getElem?
  intro i
  rw [List.getElem?_append, wl_at, wl_at, wl_len, e]
  by_cases hl : i < hN h
  · rw [if_pos hl, if_pos hl, if_pos (by omega), o (i + 3) (by omega)]
  · rw [if_neg hl]
    by_cases h2 : i = hN h
    · subst h2
      rw [if_pos (by omega)]
      simp
    · rw [if_neg (by omega)]
      rw [List.getElem?_eq_none (by simp; omega)]
/-- what the machine's tables and first cells hold -/
def aTy (G : aG) : List (ClassId × FieldType) := [(gC G 13, .int), (gC G 14, .boolean), (gC G 15, .object "java/lang/Object"), (gC G 16, .object "MadeMended$Piece"), (gC G 17, .object "MadeMended$Rule"), (gC G 18, .object "MadeMended$Thing")]
def aWd (G : aG) (s : State) (H : Heap) : Prop := va_K (gD G) vwCl (aTy G) s ∧ va_X (gb G) (gL G) (gX G) s H ∧ gb G < gB G ∧ va_Z "java/util/ArrayList" "DEFAULTCAPACITY_EMPTY_ELEMENTDATA" "[Ljava/lang/Object;" (.ref (ge G)) (fun q => gB G ≤ q) s H ∧ va_T (.object "java/lang/Object") (ge G) 0 (fun _ => .null) (fun q => gB G ≤ q) s H ∧ va_Mi "[Ljava/lang/Object;" (gm G) s ∧ (∀ w ∈ lw_tbl, aWk w = true → va_Nw w s) ∧ gB G ≤ H.size ∧ ge G < gB G
theorem aWd.warm {G : aG} {s U : State} {H H1 : Heap} (hW : s.WarmedH U.vm) (hz : gB G ≤ H1.size) (hq : ∀ q, q < gB G → H1[q]? = H[q]?) (h : aWd G s H) : aWd G U H1 := by
  obtain ⟨h1, h2, h3, h4, h5, h6, h7, h8, h9⟩ := h
  refine ⟨va_K.moved hW.alike h1, (h2.kept (hq _ h3)).moved hW.alike, h3, (h4.kept (fun a _ ha => hq a (by omega))).moved hW.alike, (h5.kept (fun a _ ha => hq a (by omega))).moved hW.alike, h6.moved hW.alike, fun w hw hk => aNw_warm hW hk (h7 w hw hk), hz, h9⟩
