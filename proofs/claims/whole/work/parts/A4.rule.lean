def wdk (k : Nat) : Nat := if k = 3 then 5 else if k = 6 then 4 else 3
def tlk (k r : Nat) (h : aH) : aH := if k = 6 then sI h 455 r (bI true) else if k = 7 then sI h 455 r (bI false) else h
theorem ec_mtail (l : Launch) (G : aG) (d k a r : Nat) (h : aH) (hk10 : k < 10) (ha : a < 200) (hk_ : hK h r = 7) : Ev l G d 0 0 mX6_readMark 61 [.ref r, .int (nI a), .int (nI k)] [] h (Ex (some (.int (nI (a + wdk k)))) (tlk k r h)) := by
  refine Ev_iload_n dX6_readMark_61 rfl ?_
  refine Ev_bipush (v := nI 6) dX6_readMark_62 (by decide) ?_
  refine Ev_icmp_eqN 73 dX6_readMark_64 (by decide) (by omega) (by omega) (fun zb64_ => ?_) (fun zb64_ => ?_)
  · refine Ev_aload_n dX6_readMark_73 rfl (by first | exact Or.inr ⟨_, rfl⟩ | exact rv_or _ | exact Or.inl rfl) ?_
    refine Ev_iload_n dX6_readMark_74 rfl ?_
    refine Ev_bipush (v := nI 6) dX6_readMark_75 (by decide) ?_
    refine Ev_icmp_neN 84 dX6_readMark_77 (by decide) (by omega) (by omega) (fun zb77_ => ?_) (fun zb77_ => ?_)
    · refine Ev_iconst (v := nI 0) dX6_readMark_84 (by decide) ?_
      refine Ev_putI dX6_readMark_85 fX6_44 ⟨_, rfl, Or.inl rfl⟩ (Or.inr ⟨rfl, (by decide)⟩) hk_ ?_
      refine Ev_iload_n dX6_readMark_88 rfl ?_
      refine Ev_iload_n dX6_readMark_89 rfl ?_
      refine Ev_iconst (v := nI 3) dX6_readMark_90 (by decide) ?_
      refine Ev_icmp_neN 98 dX6_readMark_91 (by decide) (by omega) (by omega) (fun zb91_ => ?_) (fun zb91_ => ?_)
      · refine Ev_iload_n dX6_readMark_98 rfl ?_
        refine Ev_bipush (v := nI 6) dX6_readMark_99 (by decide) ?_
        refine Ev_icmp_neN 108 dX6_readMark_101 (by decide) (by omega) (by omega) (fun zb101_ => ?_) (fun zb101_ => ?_)
        · refine Ev_iconst (v := nI 3) dX6_readMark_108 (by decide) ?_
          refine Ev_iaddN dX6_readMark_109 ?_
          refine Ev_iret dX6_readMark_110 rfl ?_
          first
          | exact False.elim (by omega)
          | (have e1_ : k = 3 := by omega
             subst e1_; exact ⟨rfl, rfl⟩)
          | (have e1_ : k = 6 := by omega
             subst e1_; exact ⟨rfl, rfl⟩)
          | (have e1_ : k = 7 := by omega
             subst e1_; exact ⟨rfl, rfl⟩)
          | (refine ⟨?_, ?_⟩
             · unfold wdk; rw [if_neg (by omega), if_neg (by omega)]
             · unfold tlk; rw [if_neg (by omega), if_neg (by omega)])
        · refine Ev_iconst (v := nI 4) dX6_readMark_104 (by decide) ?_
          refine Ev_goto 109 dX6_readMark_105 (by decide) ?_
          refine Ev_iaddN dX6_readMark_109 ?_
          refine Ev_iret dX6_readMark_110 rfl ?_
          first
          | exact False.elim (by omega)
          | (have e1_ : k = 3 := by omega
             subst e1_; exact ⟨rfl, rfl⟩)
          | (have e1_ : k = 6 := by omega
             subst e1_; exact ⟨rfl, rfl⟩)
          | (have e1_ : k = 7 := by omega
             subst e1_; exact ⟨rfl, rfl⟩)
          | (refine ⟨?_, ?_⟩
             · unfold wdk; rw [if_neg (by omega), if_neg (by omega)]
             · unfold tlk; rw [if_neg (by omega), if_neg (by omega)])
      · refine Ev_iconst (v := nI 5) dX6_readMark_94 (by decide) ?_
        refine Ev_goto 109 dX6_readMark_95 (by decide) ?_
        refine Ev_iaddN dX6_readMark_109 ?_
        refine Ev_iret dX6_readMark_110 rfl ?_
        first
        | exact False.elim (by omega)
        | (have e1_ : k = 3 := by omega
           subst e1_; exact ⟨rfl, rfl⟩)
        | (have e1_ : k = 6 := by omega
           subst e1_; exact ⟨rfl, rfl⟩)
        | (have e1_ : k = 7 := by omega
           subst e1_; exact ⟨rfl, rfl⟩)
        | (refine ⟨?_, ?_⟩
           · unfold wdk; rw [if_neg (by omega), if_neg (by omega)]
           · unfold tlk; rw [if_neg (by omega), if_neg (by omega)])
    · refine Ev_iconst (v := nI 1) dX6_readMark_80 (by decide) ?_
      refine Ev_goto 85 dX6_readMark_81 (by decide) ?_
      refine Ev_putI dX6_readMark_85 fX6_44 ⟨_, rfl, Or.inl rfl⟩ (Or.inr ⟨rfl, (by decide)⟩) hk_ ?_
      refine Ev_iload_n dX6_readMark_88 rfl ?_
      refine Ev_iload_n dX6_readMark_89 rfl ?_
      refine Ev_iconst (v := nI 3) dX6_readMark_90 (by decide) ?_
      refine Ev_icmp_neN 98 dX6_readMark_91 (by decide) (by omega) (by omega) (fun zb91_ => ?_) (fun zb91_ => ?_)
      · refine Ev_iload_n dX6_readMark_98 rfl ?_
        refine Ev_bipush (v := nI 6) dX6_readMark_99 (by decide) ?_
        refine Ev_icmp_neN 108 dX6_readMark_101 (by decide) (by omega) (by omega) (fun zb101_ => ?_) (fun zb101_ => ?_)
        · refine Ev_iconst (v := nI 3) dX6_readMark_108 (by decide) ?_
          refine Ev_iaddN dX6_readMark_109 ?_
          refine Ev_iret dX6_readMark_110 rfl ?_
          first
          | exact False.elim (by omega)
          | (have e1_ : k = 3 := by omega
             subst e1_; exact ⟨rfl, rfl⟩)
          | (have e1_ : k = 6 := by omega
             subst e1_; exact ⟨rfl, rfl⟩)
          | (have e1_ : k = 7 := by omega
             subst e1_; exact ⟨rfl, rfl⟩)
          | (refine ⟨?_, ?_⟩
             · unfold wdk; rw [if_neg (by omega), if_neg (by omega)]
             · unfold tlk; rw [if_neg (by omega), if_neg (by omega)])
        · refine Ev_iconst (v := nI 4) dX6_readMark_104 (by decide) ?_
          refine Ev_goto 109 dX6_readMark_105 (by decide) ?_
          refine Ev_iaddN dX6_readMark_109 ?_
          refine Ev_iret dX6_readMark_110 rfl ?_
          first
          | exact False.elim (by omega)
          | (have e1_ : k = 3 := by omega
             subst e1_; exact ⟨rfl, rfl⟩)
          | (have e1_ : k = 6 := by omega
             subst e1_; exact ⟨rfl, rfl⟩)
          | (have e1_ : k = 7 := by omega
             subst e1_; exact ⟨rfl, rfl⟩)
          | (refine ⟨?_, ?_⟩
             · unfold wdk; rw [if_neg (by omega), if_neg (by omega)]
             · unfold tlk; rw [if_neg (by omega), if_neg (by omega)])
      · refine Ev_iconst (v := nI 5) dX6_readMark_94 (by decide) ?_
        refine Ev_goto 109 dX6_readMark_95 (by decide) ?_
        refine Ev_iaddN dX6_readMark_109 ?_
        refine Ev_iret dX6_readMark_110 rfl ?_
        first
        | exact False.elim (by omega)
        | (have e1_ : k = 3 := by omega
           subst e1_; exact ⟨rfl, rfl⟩)
        | (have e1_ : k = 6 := by omega
           subst e1_; exact ⟨rfl, rfl⟩)
        | (have e1_ : k = 7 := by omega
           subst e1_; exact ⟨rfl, rfl⟩)
        | (refine ⟨?_, ?_⟩
           · unfold wdk; rw [if_neg (by omega), if_neg (by omega)]
           · unfold tlk; rw [if_neg (by omega), if_neg (by omega)])
  · refine Ev_iload_n dX6_readMark_67 rfl ?_
    refine Ev_bipush (v := nI 7) dX6_readMark_68 (by decide) ?_
    refine Ev_icmp_neN 88 dX6_readMark_70 (by decide) (by omega) (by omega) (fun zb70_ => ?_) (fun zb70_ => ?_)
    · refine Ev_iload_n dX6_readMark_88 rfl ?_
      refine Ev_iload_n dX6_readMark_89 rfl ?_
      refine Ev_iconst (v := nI 3) dX6_readMark_90 (by decide) ?_
      refine Ev_icmp_neN 98 dX6_readMark_91 (by decide) (by omega) (by omega) (fun zb91_ => ?_) (fun zb91_ => ?_)
      · refine Ev_iload_n dX6_readMark_98 rfl ?_
        refine Ev_bipush (v := nI 6) dX6_readMark_99 (by decide) ?_
        refine Ev_icmp_neN 108 dX6_readMark_101 (by decide) (by omega) (by omega) (fun zb101_ => ?_) (fun zb101_ => ?_)
        · refine Ev_iconst (v := nI 3) dX6_readMark_108 (by decide) ?_
          refine Ev_iaddN dX6_readMark_109 ?_
          refine Ev_iret dX6_readMark_110 rfl ?_
          first
          | exact False.elim (by omega)
          | (have e1_ : k = 3 := by omega
             subst e1_; exact ⟨rfl, rfl⟩)
          | (have e1_ : k = 6 := by omega
             subst e1_; exact ⟨rfl, rfl⟩)
          | (have e1_ : k = 7 := by omega
             subst e1_; exact ⟨rfl, rfl⟩)
          | (refine ⟨?_, ?_⟩
             · unfold wdk; rw [if_neg (by omega), if_neg (by omega)]
             · unfold tlk; rw [if_neg (by omega), if_neg (by omega)])
        · refine Ev_iconst (v := nI 4) dX6_readMark_104 (by decide) ?_
          refine Ev_goto 109 dX6_readMark_105 (by decide) ?_
          refine Ev_iaddN dX6_readMark_109 ?_
          refine Ev_iret dX6_readMark_110 rfl ?_
          first
          | exact False.elim (by omega)
          | (have e1_ : k = 3 := by omega
             subst e1_; exact ⟨rfl, rfl⟩)
          | (have e1_ : k = 6 := by omega
             subst e1_; exact ⟨rfl, rfl⟩)
          | (have e1_ : k = 7 := by omega
             subst e1_; exact ⟨rfl, rfl⟩)
          | (refine ⟨?_, ?_⟩
             · unfold wdk; rw [if_neg (by omega), if_neg (by omega)]
             · unfold tlk; rw [if_neg (by omega), if_neg (by omega)])
      · refine Ev_iconst (v := nI 5) dX6_readMark_94 (by decide) ?_
        refine Ev_goto 109 dX6_readMark_95 (by decide) ?_
        refine Ev_iaddN dX6_readMark_109 ?_
        refine Ev_iret dX6_readMark_110 rfl ?_
        first
        | exact False.elim (by omega)
        | (have e1_ : k = 3 := by omega
           subst e1_; exact ⟨rfl, rfl⟩)
        | (have e1_ : k = 6 := by omega
           subst e1_; exact ⟨rfl, rfl⟩)
        | (have e1_ : k = 7 := by omega
           subst e1_; exact ⟨rfl, rfl⟩)
        | (refine ⟨?_, ?_⟩
           · unfold wdk; rw [if_neg (by omega), if_neg (by omega)]
           · unfold tlk; rw [if_neg (by omega), if_neg (by omega)])
    · refine Ev_aload_n dX6_readMark_73 rfl (by first | exact Or.inr ⟨_, rfl⟩ | exact rv_or _ | exact Or.inl rfl) ?_
      refine Ev_iload_n dX6_readMark_74 rfl ?_
      refine Ev_bipush (v := nI 6) dX6_readMark_75 (by decide) ?_
      refine Ev_icmp_neN 84 dX6_readMark_77 (by decide) (by omega) (by omega) (fun zb77_ => ?_) (fun zb77_ => ?_)
      · refine Ev_iconst (v := nI 0) dX6_readMark_84 (by decide) ?_
        refine Ev_putI dX6_readMark_85 fX6_44 ⟨_, rfl, Or.inl rfl⟩ (Or.inr ⟨rfl, (by decide)⟩) hk_ ?_
        refine Ev_iload_n dX6_readMark_88 rfl ?_
        refine Ev_iload_n dX6_readMark_89 rfl ?_
        refine Ev_iconst (v := nI 3) dX6_readMark_90 (by decide) ?_
        refine Ev_icmp_neN 98 dX6_readMark_91 (by decide) (by omega) (by omega) (fun zb91_ => ?_) (fun zb91_ => ?_)
        · refine Ev_iload_n dX6_readMark_98 rfl ?_
          refine Ev_bipush (v := nI 6) dX6_readMark_99 (by decide) ?_
          refine Ev_icmp_neN 108 dX6_readMark_101 (by decide) (by omega) (by omega) (fun zb101_ => ?_) (fun zb101_ => ?_)
          · refine Ev_iconst (v := nI 3) dX6_readMark_108 (by decide) ?_
            refine Ev_iaddN dX6_readMark_109 ?_
            refine Ev_iret dX6_readMark_110 rfl ?_
            first
            | exact False.elim (by omega)
            | (have e1_ : k = 3 := by omega
               subst e1_; exact ⟨rfl, rfl⟩)
            | (have e1_ : k = 6 := by omega
               subst e1_; exact ⟨rfl, rfl⟩)
            | (have e1_ : k = 7 := by omega
               subst e1_; exact ⟨rfl, rfl⟩)
            | (refine ⟨?_, ?_⟩
               · unfold wdk; rw [if_neg (by omega), if_neg (by omega)]
               · unfold tlk; rw [if_neg (by omega), if_neg (by omega)])
          · refine Ev_iconst (v := nI 4) dX6_readMark_104 (by decide) ?_
            refine Ev_goto 109 dX6_readMark_105 (by decide) ?_
            refine Ev_iaddN dX6_readMark_109 ?_
            refine Ev_iret dX6_readMark_110 rfl ?_
            first
            | exact False.elim (by omega)
            | (have e1_ : k = 3 := by omega
               subst e1_; exact ⟨rfl, rfl⟩)
            | (have e1_ : k = 6 := by omega
               subst e1_; exact ⟨rfl, rfl⟩)
            | (have e1_ : k = 7 := by omega
               subst e1_; exact ⟨rfl, rfl⟩)
            | (refine ⟨?_, ?_⟩
               · unfold wdk; rw [if_neg (by omega), if_neg (by omega)]
               · unfold tlk; rw [if_neg (by omega), if_neg (by omega)])
        · refine Ev_iconst (v := nI 5) dX6_readMark_94 (by decide) ?_
          refine Ev_goto 109 dX6_readMark_95 (by decide) ?_
          refine Ev_iaddN dX6_readMark_109 ?_
          refine Ev_iret dX6_readMark_110 rfl ?_
          first
          | exact False.elim (by omega)
          | (have e1_ : k = 3 := by omega
             subst e1_; exact ⟨rfl, rfl⟩)
          | (have e1_ : k = 6 := by omega
             subst e1_; exact ⟨rfl, rfl⟩)
          | (have e1_ : k = 7 := by omega
             subst e1_; exact ⟨rfl, rfl⟩)
          | (refine ⟨?_, ?_⟩
             · unfold wdk; rw [if_neg (by omega), if_neg (by omega)]
             · unfold tlk; rw [if_neg (by omega), if_neg (by omega)])
      · refine Ev_iconst (v := nI 1) dX6_readMark_80 (by decide) ?_
        refine Ev_goto 85 dX6_readMark_81 (by decide) ?_
        refine Ev_putI dX6_readMark_85 fX6_44 ⟨_, rfl, Or.inl rfl⟩ (Or.inr ⟨rfl, (by decide)⟩) hk_ ?_
        refine Ev_iload_n dX6_readMark_88 rfl ?_
        refine Ev_iload_n dX6_readMark_89 rfl ?_
        refine Ev_iconst (v := nI 3) dX6_readMark_90 (by decide) ?_
        refine Ev_icmp_neN 98 dX6_readMark_91 (by decide) (by omega) (by omega) (fun zb91_ => ?_) (fun zb91_ => ?_)
        · refine Ev_iload_n dX6_readMark_98 rfl ?_
          refine Ev_bipush (v := nI 6) dX6_readMark_99 (by decide) ?_
          refine Ev_icmp_neN 108 dX6_readMark_101 (by decide) (by omega) (by omega) (fun zb101_ => ?_) (fun zb101_ => ?_)
          · refine Ev_iconst (v := nI 3) dX6_readMark_108 (by decide) ?_
            refine Ev_iaddN dX6_readMark_109 ?_
            refine Ev_iret dX6_readMark_110 rfl ?_
            first
            | exact False.elim (by omega)
            | (have e1_ : k = 3 := by omega
               subst e1_; exact ⟨rfl, rfl⟩)
            | (have e1_ : k = 6 := by omega
               subst e1_; exact ⟨rfl, rfl⟩)
            | (have e1_ : k = 7 := by omega
               subst e1_; exact ⟨rfl, rfl⟩)
            | (refine ⟨?_, ?_⟩
               · unfold wdk; rw [if_neg (by omega), if_neg (by omega)]
               · unfold tlk; rw [if_neg (by omega), if_neg (by omega)])
          · refine Ev_iconst (v := nI 4) dX6_readMark_104 (by decide) ?_
            refine Ev_goto 109 dX6_readMark_105 (by decide) ?_
            refine Ev_iaddN dX6_readMark_109 ?_
            refine Ev_iret dX6_readMark_110 rfl ?_
            first
            | exact False.elim (by omega)
            | (have e1_ : k = 3 := by omega
               subst e1_; exact ⟨rfl, rfl⟩)
            | (have e1_ : k = 6 := by omega
               subst e1_; exact ⟨rfl, rfl⟩)
            | (have e1_ : k = 7 := by omega
               subst e1_; exact ⟨rfl, rfl⟩)
            | (refine ⟨?_, ?_⟩
               · unfold wdk; rw [if_neg (by omega), if_neg (by omega)]
               · unfold tlk; rw [if_neg (by omega), if_neg (by omega)])
        · refine Ev_iconst (v := nI 5) dX6_readMark_94 (by decide) ?_
          refine Ev_goto 109 dX6_readMark_95 (by decide) ?_
          refine Ev_iaddN dX6_readMark_109 ?_
          refine Ev_iret dX6_readMark_110 rfl ?_
          first
          | exact False.elim (by omega)
          | (have e1_ : k = 3 := by omega
             subst e1_; exact ⟨rfl, rfl⟩)
          | (have e1_ : k = 6 := by omega
             subst e1_; exact ⟨rfl, rfl⟩)
          | (have e1_ : k = 7 := by omega
             subst e1_; exact ⟨rfl, rfl⟩)
          | (refine ⟨?_, ?_⟩
             · unfold wdk; rw [if_neg (by omega), if_neg (by omega)]
             · unfold tlk; rw [if_neg (by omega), if_neg (by omega)])
theorem mark_wd {bs : List Int32} {a w : Nat} {it : It} (e : mark bs a = some (it, w)) : w = wdk it.1 := by
  rcases mark_case e with ⟨rfl, -, rfl⟩ | ⟨rfl, rfl⟩ | ⟨rfl, -, rfl⟩ | ⟨rfl, -, -, rfl⟩ | ⟨rfl, rfl⟩ | ⟨rfl, -, rfl⟩ | ⟨rfl, -, rfl⟩ | ⟨rfl, rfl⟩ <;> rfl
theorem RdI.wn {r s f e_ : Nat} {bs : List Int32} {its : List It} {wn wn' : Bool} {fl : Int32 × Int32} {h : aH} (x : RdI r s f e_ bs its wn fl h) : RdI r s f e_ bs its wn' fl (sI h 455 r (bI wn')) :=
  ⟨(hI_o _ _ (by decide)).trans x.1, x.2.1, (hI_o _ _ (by decide)).trans x.2.2.1, (hI_o _ _ (by decide)).trans x.2.2.2.1, hI_s _ _ _ _, fun i it hi => by
    obtain ⟨a1, on, tw, a2, a3, a4, a5⟩ := x.2.2.2.2.2 i it hi
    exact ⟨a1, on, tw, (gX_I _ _ _ _ _ _).trans a2, (gX_I _ _ _ _ _ _).trans a3, (gX_I _ _ _ _ _ _).trans a4, a5⟩⟩
def wn1 (k : Nat) (wn : Bool) : Bool := if k = 6 then true else if k = 7 then false else wn
theorem RdI.tl {r s f e_ k : Nat} {bs : List Int32} {its : List It} {wn : Bool} {fl : Int32 × Int32} {h : aH} (x : RdI r s f e_ bs its wn fl h) : RdI r s f e_ bs its (wn1 k wn) fl (tlk k r h) := by
  unfold wn1 tlk
  by_cases z : k = 6
  · rw [if_pos z, if_pos z]; exact x.wn
  by_cases z2 : k = 7
  · rw [if_neg z, if_neg z, if_pos z2, if_pos z2]; exact x.wn
  · rw [if_neg z, if_neg z, if_neg z2, if_neg z2]; exact x
theorem tlk_of {r b s f e_ k : Nat} {bs : List Int32} {h : aH} (x : RdX r b s f e_ bs h) : RdX r b s f e_ bs (tlk k r h) ∧ FO (Rd4 r s f e_) h (tlk k r h) ∧ hI (tlk k r h) 453 r = hI h 453 r ∧ hI (tlk k r h) 454 r = hI h 454 r := by
  unfold tlk
  split
  · exact ⟨x.ofI, FO.sI (Or.inl rfl), hI_o _ _ (by decide), hI_o _ _ (by decide)⟩
  split
  · exact ⟨x.ofI, FO.sI (Or.inl rfl), hI_o _ _ (by decide), hI_o _ _ (by decide)⟩
  · exact ⟨x, FO.rf, rfl, rfl⟩
/-- behind a step of the reading: a flaw, or one item more -/
def RsP (r b s f e_ a : Nat) (bs : List Int32) (its : List It) (wn : Bool) (h : aH) (x : Option Value) (h' : aH) : Prop := FO (Rd4 r s f e_) h h' ∧ RdX r b s f e_ bs h' ∧ ((∃ g p v, (∀ n, prs bs (n + 1) a its wn = .inl (g, p)) ∧ 0 < g ∧ g < 10 ∧ p ≤ 120 ∧ hI h' 453 r = nI g ∧ hI h' 454 r = nI p ∧ x = some (.int v)) ∨ (∃ it e wn', a < e ∧ e ≤ bs.length ∧ (∀ n, prs bs (n + 1) a its wn = prs bs n e (its ++ [it]) wn') ∧ x = some (.int (nI e)) ∧ RdI r s f e_ bs (its ++ [it]) wn' (nI 0, -1) h'))
theorem fo_bl {r s f e_ : Nat} {h : aH} {x y : Int32} : FO (Rd4 r s f e_) h (sI (sI h 453 r x) 454 r y) := (FO.sI (Or.inl rfl)).tr (FO.sI (Or.inl rfl))
theorem bl_i {r : Nat} {h : aH} {x y : Int32} : hI (sI (sI h 453 r x) 454 r y) 453 r = x ∧ hI (sI (sI h 453 r x) 454 r y) 454 r = y := ⟨(hI_o _ _ (by decide)).trans (hI_s _ _ _ _), hI_s _ _ _ _⟩
theorem ec_readMark_b (l : Launch) (G : aG) (it : It) (w_ : Nat) (a : Nat) (its : List It) (wn : Bool) (r b s f e_ : Nat) (bs : List Int32) (h : aH) (rx : RdX r b s f e_ bs h) (ha : a < bs.length) (hia : its.length ≤ a) (ri : RdI r s f e_ bs its wn (nI 0, -1) h) (h60 : sv bs a = 60) (em_ : mark bs a = some (it, w_)) (h7_ : it.1 ≤ 7) (bad_ : (it.1 = 6 ∧ wn = true) ∨ (it.1 = 7 ∧ wn = false)) : Ev l G 4 0 0 mX6_readMark 46 [.ref r, .int (nI a), .int (nI it.1)] [] h (RsP r b s f e_ a bs its wn h) := by
  have b120_ := rx.2.2.2.2
  refine Ev_aload_n dX6_readMark_46 rfl (by first | exact Or.inr ⟨_, rfl⟩ | exact rv_or _ | exact Or.inl rfl) ?_
  refine Ev_iconst (v := nI 3) dX6_readMark_47 (by decide) ?_
  refine Ev_iload_n dX6_readMark_48 rfl ?_
  refine Ev_V0 [.int (nI 3), .int (nI a)] dX6_readMark_49 vX6_blame kX6_48 rx.1.1 rfl rfl rfl (Nat.le_of_ble_eq_true rfl) (by omega) (ec_blame l G (nI 3) (nI a) (nI 0) r h rx.1.1 ri.2.2.1) ?_
  rw [if_pos (show nI 0 = 0 from rfl)]
  refine Ev_goto 61 dX6_readMark_52 (by decide) ?_
  refine Ev.post (fun x h' e => ?_) (ec_mtail l G 4 it.1 a r _ (by omega) (by omega) rx.1.1)
  obtain ⟨e1_, e2_⟩ := e
  have tk_ := tlk_of (k := it.1) ((rx.ofI (n := 453) (a := r) (v := nI 3)).ofI (n := 454) (a := r) (v := nI a))
  rw [e2_]
  exact ⟨fo_bl.tr tk_.2.1, tk_.1, Or.inl ⟨3, a, _, fun n => prs_sgF ha h60 (by unfold sgF; rw [em_]; exact if_pos bad_), by decide, by decide, by omega, tk_.2.2.1.trans bl_i.1, tk_.2.2.2.trans bl_i.2, e1_⟩⟩
theorem ec_readMark_o (l : Launch) (G : aG) (it : It) (w_ : Nat) (a : Nat) (its : List It) (wn : Bool) (r b s f e_ : Nat) (bs : List Int32) (h : aH) (rx : RdX r b s f e_ bs h) (ha : a < bs.length) (hia : its.length ≤ a) (ri : RdI r s f e_ bs its wn (nI 0, -1) h) (h60 : sv bs a = 60) (em_ : mark bs a = some (it, w_)) (h7_ : it.1 ≤ 7) (nb_ : ¬ ((it.1 = 6 ∧ wn = true) ∨ (it.1 = 7 ∧ wn = false))) : Ev l G 4 0 0 mX6_readMark 55 [.ref r, .int (nI a), .int (nI it.1)] [] h (RsP r b s f e_ a bs its wn h) := by
  have b120_ := rx.2.2.2.2
  refine Ev_aload_n dX6_readMark_55 rfl (by first | exact Or.inr ⟨_, rfl⟩ | exact rv_or _ | exact Or.inl rfl) ?_
  refine Ev_iload_n dX6_readMark_56 rfl ?_
  refine Ev_iload_n dX6_readMark_57 rfl ?_
  refine Ev_Vz [.int (nI a), .int (nI it.1)] dX6_readMark_58 vX6_addMark kX6_59 rx.1.1 rfl rfl rfl (Nat.le_of_ble_eq_true rfl) (by omega) (ec_addMark l G w_ a it its wn r b s f e_ bs h rx ha hia ri em_) (fun v_ h2 z_ => ?_)
  obtain ⟨rfl, ad_⟩ := z_
  refine Ev.post (fun x h' e => ?_) (ec_mtail l G 4 it.1 a r _ (by omega) (by omega) ad_.2.1.1.1)
  obtain ⟨e1_, e2_⟩ := e
  have tk_ := tlk_of (k := it.1) ad_.2.1
  rw [e2_]
  refine ⟨ad_.1.tr tk_.2.1, tk_.1, ?_⟩
  rcases ad_.2.2 with ⟨n20_, f1_, f2_⟩ | ⟨n20_, ri2_⟩
  · exact Or.inl ⟨5, a, _, fun n => prs_sgF ha h60 (by unfold sgF; rw [em_]; exact (if_neg nb_).trans (if_pos n20_)), by decide, by decide, by omega, tk_.2.2.1.trans f1_, tk_.2.2.2.trans f2_, e1_⟩
  · have ml_ := mark_len em_
    refine Or.inr ⟨it, a + w_, wn1 it.1 wn, by omega, by omega, fun n => prs_sgO ha h60 (by unfold sgF; rw [em_]; exact (if_neg nb_).trans (if_neg (by omega))), ?_, ri2_.tl⟩
    rw [e1_, mark_wd em_]
theorem ec_readMark (l : Launch) (G : aG) (a : Nat) (its : List It) (wn : Bool) (r b s f e_ : Nat) (bs : List Int32) (h : aH) (rx : RdX r b s f e_ bs h) (ha : a < bs.length) (hia : its.length ≤ a) (ri : RdI r s f e_ bs its wn (nI 0, -1) h) (h60 : sv bs a = 60) : Ev l G 4 0 0 mX6_readMark 0 (en 3 [.ref r, .int (nI a)]) [] h (RsP r b s f e_ a bs its wn h) := by
  have b120_ := rx.2.2.2.2
  rcases em_ : mark bs a with _ | ⟨it, w_⟩
  · skip
    refine Ev_aload_n dX6_readMark_0 rfl (by first | exact Or.inr ⟨_, rfl⟩ | exact rv_or _ | exact Or.inl rfl) ?_
    refine Ev_iload_n dX6_readMark_1 rfl ?_
    refine Ev_V0 [.int (nI a)] dX6_readMark_2 vX6_sortOfMark kX6_56 rx.1.1 rfl rfl rfl (Nat.le_of_ble_eq_true rfl) (by omega) (ec_sortOfMark l G a (by omega) r b s f e_ bs h rx) ?_
    rw [show msF bs a = -1 by unfold msF; rw [em_]]
    refine Ev_istore_n dX6_readMark_5 (by decide) ?_
    refine Ev_iload_n dX6_readMark_6 rfl ?_
    refine Ev_iconst (v := -1) dX6_readMark_7 (by decide) ?_
    refine Ev_icmp_neT 20 dX6_readMark_8 (by decide) (fun zb8_ => ?_) (fun zb8_ => ?_)
    · exact absurd rfl zb8_
    · refine Ev_aload_n dX6_readMark_11 rfl (by first | exact Or.inr ⟨_, rfl⟩ | exact rv_or _ | exact Or.inl rfl) ?_
      refine Ev_iconst (v := nI 2) dX6_readMark_12 (by decide) ?_
      refine Ev_iload_n dX6_readMark_13 rfl ?_
      refine Ev_V0 [.int (nI 2), .int (nI a)] dX6_readMark_14 vX6_blame kX6_48 rx.1.1 rfl rfl rfl (Nat.le_of_ble_eq_true rfl) (by omega) (ec_blame l G (nI 2) (nI a) (nI 0) r h rx.1.1 ri.2.2.1) ?_
      rw [if_pos (show nI 0 = 0 from rfl)]
      refine Ev_goto 61 dX6_readMark_17 (by decide) ?_
      refine Ev_iload_n dX6_readMark_61 rfl ?_
      refine Ev_bipush (v := nI 6) dX6_readMark_62 (by decide) ?_
      refine Ev_icmp_eqT 73 dX6_readMark_64 (by decide) (fun zb64_ => ?_) (fun zb64_ => ?_)
      · exact absurd zb64_ (by decide)
      · refine Ev_iload_n dX6_readMark_67 rfl ?_
        refine Ev_bipush (v := nI 7) dX6_readMark_68 (by decide) ?_
        refine Ev_icmp_neT 88 dX6_readMark_70 (by decide) (fun zb70_ => ?_) (fun zb70_ => ?_)
        · refine Ev_iload_n dX6_readMark_88 rfl ?_
          refine Ev_iload_n dX6_readMark_89 rfl ?_
          refine Ev_iconst (v := nI 3) dX6_readMark_90 (by decide) ?_
          refine Ev_icmp_neT 98 dX6_readMark_91 (by decide) (fun zb91_ => ?_) (fun zb91_ => ?_)
          · refine Ev_iload_n dX6_readMark_98 rfl ?_
            refine Ev_bipush (v := nI 6) dX6_readMark_99 (by decide) ?_
            refine Ev_icmp_neT 108 dX6_readMark_101 (by decide) (fun zb101_ => ?_) (fun zb101_ => ?_)
            · refine Ev_iconst (v := nI 3) dX6_readMark_108 (by decide) ?_
              refine Ev_iaddN dX6_readMark_109 ?_
              refine Ev_iret dX6_readMark_110 rfl ?_
              exact ⟨fo_bl, rx.ofI.ofI, Or.inl ⟨2, a, _, fun n => prs_sgF ha h60 (by unfold sgF; rw [em_]), by decide, by decide, by omega, bl_i.1, bl_i.2, rfl⟩⟩
            · exact absurd zb101_ (by decide)
          · exact absurd zb91_ (by decide)
        · exact absurd zb70_ (by decide)
  · have h7_ : it.1 ≤ 7 := (mark_ok em_).1
    refine Ev_aload_n dX6_readMark_0 rfl (by first | exact Or.inr ⟨_, rfl⟩ | exact rv_or _ | exact Or.inl rfl) ?_
    refine Ev_iload_n dX6_readMark_1 rfl ?_
    refine Ev_V0 [.int (nI a)] dX6_readMark_2 vX6_sortOfMark kX6_56 rx.1.1 rfl rfl rfl (Nat.le_of_ble_eq_true rfl) (by omega) (ec_sortOfMark l G a (by omega) r b s f e_ bs h rx) ?_
    rw [show msF bs a = nI it.1 by unfold msF; rw [em_]]
    refine Ev_istore_n dX6_readMark_5 (by decide) ?_
    refine Ev_iload_n dX6_readMark_6 rfl ?_
    refine Ev_iconst (v := -1) dX6_readMark_7 (by decide) ?_
    refine Ev_icmp_neT 20 dX6_readMark_8 (by decide) (fun zb8_ => ?_) (fun zb8_ => ?_)
    · refine Ev_iload_n dX6_readMark_20 rfl ?_
      refine Ev_bipush (v := nI 6) dX6_readMark_21 (by decide) ?_
      refine Ev_icmp_neN 33 dX6_readMark_23 (by decide) (by omega) (by omega) (fun zb23_ => ?_) (fun zb23_ => ?_)
      · refine Ev_iload_n dX6_readMark_33 rfl ?_
        refine Ev_bipush (v := nI 7) dX6_readMark_34 (by decide) ?_
        refine Ev_icmp_neN 55 dX6_readMark_36 (by decide) (by omega) (by omega) (fun zb36_ => ?_) (fun zb36_ => ?_)
        · exact ec_readMark_o l G it w_ a its wn r b s f e_ bs h rx ha hia ri h60 em_ h7_ (by
            intro z
            rcases z with ⟨z1, z2⟩ | ⟨z1, z2⟩ <;> first | omega | exact absurd (z2.symm.trans zb30_) (by decide) | exact absurd (z2.symm.trans zb43_) (by decide))
        · refine Ev_aload_n dX6_readMark_39 rfl (by first | exact Or.inr ⟨_, rfl⟩ | exact rv_or _ | exact Or.inl rfl) ?_
          refine Ev_getE dX6_readMark_40 fX6_44 rx.1.1 ri.2.2.2.2.1 ?_
          refine Ev_if_neB 55 dX6_readMark_43 (by decide) (fun zb43_ => ?_) (fun zb43_ => ?_)
          · exact ec_readMark_o l G it w_ a its wn r b s f e_ bs h rx ha hia ri h60 em_ h7_ (by
              intro z
              rcases z with ⟨z1, z2⟩ | ⟨z1, z2⟩ <;> first | omega | exact absurd (z2.symm.trans zb30_) (by decide) | exact absurd (z2.symm.trans zb43_) (by decide))
          · exact ec_readMark_b l G it w_ a its wn r b s f e_ bs h rx ha hia ri h60 em_ h7_ (by first | exact Or.inl ⟨zb23_, zb30_⟩ | exact Or.inr ⟨zb36_, zb43_⟩)
      · refine Ev_aload_n dX6_readMark_26 rfl (by first | exact Or.inr ⟨_, rfl⟩ | exact rv_or _ | exact Or.inl rfl) ?_
        refine Ev_getE dX6_readMark_27 fX6_44 rx.1.1 ri.2.2.2.2.1 ?_
        refine Ev_if_neB 46 dX6_readMark_30 (by decide) (fun zb30_ => ?_) (fun zb30_ => ?_)
        · exact ec_readMark_b l G it w_ a its wn r b s f e_ bs h rx ha hia ri h60 em_ h7_ (by first | exact Or.inl ⟨zb23_, zb30_⟩ | exact Or.inr ⟨zb36_, zb43_⟩)
        · refine Ev_iload_n dX6_readMark_33 rfl ?_
          refine Ev_bipush (v := nI 7) dX6_readMark_34 (by decide) ?_
          refine Ev_icmp_neN 55 dX6_readMark_36 (by decide) (by omega) (by omega) (fun zb36_ => ?_) (fun zb36_ => ?_)
          · exact ec_readMark_o l G it w_ a its wn r b s f e_ bs h rx ha hia ri h60 em_ h7_ (by
              intro z
              rcases z with ⟨z1, z2⟩ | ⟨z1, z2⟩ <;> first | omega | exact absurd (z2.symm.trans zb30_) (by decide) | exact absurd (z2.symm.trans zb43_) (by decide))
          · refine Ev_aload_n dX6_readMark_39 rfl (by first | exact Or.inr ⟨_, rfl⟩ | exact rv_or _ | exact Or.inl rfl) ?_
            refine Ev_getE dX6_readMark_40 fX6_44 rx.1.1 ri.2.2.2.2.1 ?_
            refine Ev_if_neB 55 dX6_readMark_43 (by decide) (fun zb43_ => ?_) (fun zb43_ => ?_)
            · exact ec_readMark_o l G it w_ a its wn r b s f e_ bs h rx ha hia ri h60 em_ h7_ (by
                intro z
                rcases z with ⟨z1, z2⟩ | ⟨z1, z2⟩ <;> first | omega | exact absurd (z2.symm.trans zb30_) (by decide) | exact absurd (z2.symm.trans zb43_) (by decide))
            · exact ec_readMark_b l G it w_ a its wn r b s f e_ bs h rx ha hia ri h60 em_ h7_ (by first | exact Or.inl ⟨zb23_, zb30_⟩ | exact Or.inr ⟨zb36_, zb43_⟩)
    · exact absurd zb8_ (by rw [hi_n (by omega), show (-1 : Int32).toInt = -1 by decide]; omega)
theorem ec_readWord_l (l : Launch) (G : aG) (a : Nat) (r b s f e_ : Nat) (bs : List Int32) (h : aH) (rx : RdX r b s f e_ bs h) {Q : Option Value → aH → Prop} (kk_ : ∀ e, a ≤ e → e ≤ bs.length → wEnd bs a = e → (∀ j, a ≤ j → j < e → gdB bs j = true) → ¬ gdB bs e = true → Ev l G 2 0 0 mX6_readWord 50 [.ref r, .int (nI a), .int (nI e)] [] h Q) (ms : Nat) : ∀ t, bs.length - t < ms → a ≤ t → t ≤ bs.length → (∀ j, a ≤ j → j < t → gdB bs j = true) → Ev l G 2 0 0 mX6_readWord 2 [.ref r, .int (nI a), .int (nI t)] [] h Q := by
  have b120_ := rx.2.2.2.2
  induction ms with
  | zero => intro t hk; omega
  | succ ms ih_ =>
    intro t ht_ h1t_ h2t_ hg_
    refine Ev_iload_n dX6_readWord_2 rfl ?_
    refine Ev_aload_n dX6_readWord_3 rfl (by first | exact Or.inr ⟨_, rfl⟩ | exact rv_or _ | exact Or.inl rfl) ?_
    refine Ev_getA dX6_readWord_4 fX6_21 rx.1.1 rx.1.2.1 ?_
    refine Ev_alen dX6_readWord_7 rx.2.1.1 (by omega) (by omega) ?_
    rw [rx.2.1.2.1]
    refine Ev_icmp_geN 50 dX6_readWord_8 (by decide) (by omega) (by omega) (fun zb8_ => ?_) (fun zb8_ => ?_)
    · exact kk_ t (by omega) (by omega) (wE_eq (by omega) hg_ (fun z => by have := gdB_iff.mp z; omega) (by omega)) hg_ (fun z => by have := gdB_iff.mp z; omega)
    · refine Ev_aload_n dX6_readWord_11 rfl (by first | exact Or.inr ⟨_, rfl⟩ | exact rv_or _ | exact Or.inl rfl) ?_
      refine Ev_getA dX6_readWord_12 fX6_21 rx.1.1 rx.1.2.1 ?_
      refine Ev_iload_n dX6_readWord_15 rfl ?_
      refine Ev_ialdE t dX6_readWord_16 rx.2.1.1 rx.2.1.2.1 (hi_n (by omega)) (by omega) (rx.2.1.2.2 t (by omega)) ?_
      refine Ev_bipush (v := nI 32) dX6_readWord_17 (by decide) ?_
      refine Ev_icmp_ltT 50 dX6_readWord_19 (by decide) (fun zb19_ => ?_) (fun zb19_ => ?_)
      · rw [t32, ← sv_at (by omega)] at zb19_
        exact kk_ t (by omega) (by omega) (wE_eq (by omega) hg_ (fun z => by have := gdB_iff.mp z; omega) (by omega)) hg_ (fun z => by have := gdB_iff.mp z; omega)
      · rw [t32, ← sv_at (by omega)] at zb19_
        refine Ev_aload_n dX6_readWord_22 rfl (by first | exact Or.inr ⟨_, rfl⟩ | exact rv_or _ | exact Or.inl rfl) ?_
        refine Ev_getA dX6_readWord_23 fX6_21 rx.1.1 rx.1.2.1 ?_
        refine Ev_iload_n dX6_readWord_26 rfl ?_
        refine Ev_ialdE t dX6_readWord_27 rx.2.1.1 rx.2.1.2.1 (hi_n (by omega)) (by omega) (rx.2.1.2.2 t (by omega)) ?_
        refine Ev_bipush (v := nI 126) dX6_readWord_28 (by decide) ?_
        refine Ev_icmp_gtT 50 dX6_readWord_30 (by decide) (fun zb30_ => ?_) (fun zb30_ => ?_)
        · rw [t126, ← sv_at (by omega)] at zb30_
          exact kk_ t (by omega) (by omega) (wE_eq (by omega) hg_ (fun z => by have := gdB_iff.mp z; omega) (by omega)) hg_ (fun z => by have := gdB_iff.mp z; omega)
        · rw [t126, ← sv_at (by omega)] at zb30_
          refine Ev_aload_n dX6_readWord_33 rfl (by first | exact Or.inr ⟨_, rfl⟩ | exact rv_or _ | exact Or.inl rfl) ?_
          refine Ev_getA dX6_readWord_34 fX6_21 rx.1.1 rx.1.2.1 ?_
          refine Ev_iload_n dX6_readWord_37 rfl ?_
          refine Ev_ialdE t dX6_readWord_38 rx.2.1.1 rx.2.1.2.1 (hi_n (by omega)) (by omega) (rx.2.1.2.2 t (by omega)) ?_
          refine Ev_bipush (v := nI 60) dX6_readWord_39 (by decide) ?_
          refine Ev_icmp_eqT 50 dX6_readWord_41 (by decide) (fun zb41_ => ?_) (fun zb41_ => ?_)
          · rw [t60, ← sv_at (by omega)] at zb41_
            exact kk_ t (by omega) (by omega) (wE_eq (by omega) hg_ (fun z => by have := gdB_iff.mp z; omega) (by omega)) hg_ (fun z => by have := gdB_iff.mp z; omega)
          · rw [t60, ← sv_at (by omega)] at zb41_
            refine Ev_iincN 1 dX6_readWord_44 (by decide) (by decide) rfl ?_
            refine Ev_goto 2 dX6_readWord_47 (by decide) ?_
            refine ih_ (t + 1) (by omega) (by omega) (by omega) (fun j h1_ h2_ => ?_)
            by_cases ej_ : j = t
            · rw [ej_]; exact gdB_iff.mpr ⟨by omega, by omega, by omega, zb41_⟩
            · exact hg_ j h1_ (by omega)
def tlw (bs : List Int32) (e r : Nat) (v : Int32) (h : aH) : aH := if e < bs.length ∧ ¬ sv bs e = 60 then (if v = 0 then sI (sI h 453 r (nI 1)) 454 r (nI e) else h) else h
theorem ec_rw65 (l : Launch) (G : aG) (a e : Nat) (v : Int32) (r b s f e_ : Nat) (bs : List Int32) (h : aH) (rx : RdX r b s f e_ bs h) (he : e ≤ bs.length) (hv_ : hI h 453 r = v) : Ev l G 2 0 0 mX6_readWord 65 [.ref r, .int (nI a), .int (nI e)] [] h (Ex (some (.int (nI e))) (tlw bs e r v h)) := by
  have b120_ := rx.2.2.2.2
  refine Ev_iload_n dX6_readWord_65 rfl ?_
  refine Ev_aload_n dX6_readWord_66 rfl (by first | exact Or.inr ⟨_, rfl⟩ | exact rv_or _ | exact Or.inl rfl) ?_
  refine Ev_getA dX6_readWord_67 fX6_21 rx.1.1 rx.1.2.1 ?_
  refine Ev_alen dX6_readWord_70 rx.2.1.1 (by omega) (by omega) ?_
  rw [rx.2.1.2.1]
  refine Ev_icmp_geN 91 dX6_readWord_71 (by decide) (by omega) (by omega) (fun zb71_ => ?_) (fun zb71_ => ?_)
  · refine Ev_iload_n dX6_readWord_91 rfl ?_
    refine Ev_iret dX6_readWord_92 rfl ?_
    first
    | exact ⟨rfl, by unfold tlw; rw [if_neg (by omega)]⟩
    | exact ⟨rfl, (if_pos (show e < bs.length ∧ ¬ sv bs e = 60 from ⟨by omega, zb82_⟩)).symm⟩
  · refine Ev_aload_n dX6_readWord_74 rfl (by first | exact Or.inr ⟨_, rfl⟩ | exact rv_or _ | exact Or.inl rfl) ?_
    refine Ev_getA dX6_readWord_75 fX6_21 rx.1.1 rx.1.2.1 ?_
    refine Ev_iload_n dX6_readWord_78 rfl ?_
    refine Ev_ialdE e dX6_readWord_79 rx.2.1.1 rx.2.1.2.1 (hi_n (by omega)) (by omega) (rx.2.1.2.2 e (by omega)) ?_
    refine Ev_bipush (v := nI 60) dX6_readWord_80 (by decide) ?_
    refine Ev_icmp_eqT 91 dX6_readWord_82 (by decide) (fun zb82_ => ?_) (fun zb82_ => ?_)
    · rw [t60, ← sv_at (by omega)] at zb82_
      refine Ev_iload_n dX6_readWord_91 rfl ?_
      refine Ev_iret dX6_readWord_92 rfl ?_
      first
      | exact ⟨rfl, by unfold tlw; rw [if_neg (by omega)]⟩
      | exact ⟨rfl, (if_pos (show e < bs.length ∧ ¬ sv bs e = 60 from ⟨by omega, zb82_⟩)).symm⟩
    · rw [t60, ← sv_at (by omega)] at zb82_
      refine Ev_aload_n dX6_readWord_85 rfl (by first | exact Or.inr ⟨_, rfl⟩ | exact rv_or _ | exact Or.inl rfl) ?_
      refine Ev_iconst (v := nI 1) dX6_readWord_86 (by decide) ?_
      refine Ev_iload_n dX6_readWord_87 rfl ?_
      refine Ev_V0 [.int (nI 1), .int (nI e)] dX6_readWord_88 vX6_blame kX6_48 rx.1.1 rfl rfl rfl (Nat.le_of_ble_eq_true rfl) (by omega) (ec_blame l G (nI 1) (nI e) v r h rx.1.1 hv_) ?_
      refine Ev_iload_n dX6_readWord_91 rfl ?_
      refine Ev_iret dX6_readWord_92 rfl ?_
      first
      | exact ⟨rfl, by unfold tlw; rw [if_neg (by omega)]⟩
      | exact ⟨rfl, (if_pos (show e < bs.length ∧ ¬ sv bs e = 60 from ⟨by omega, zb82_⟩)).symm⟩
theorem ec_readWord (l : Launch) (G : aG) (a : Nat) (its : List It) (wn : Bool) (r b s f e_ : Nat) (bs : List Int32) (h : aH) (rx : RdX r b s f e_ bs h) (ha : a < bs.length) (hia : its.length ≤ a) (ri : RdI r s f e_ bs its wn (nI 0, -1) h) (h60 : ¬ sv bs a = 60) : Ev l G 2 0 0 mX6_readWord 0 (en 3 [.ref r, .int (nI a)]) [] h (RsP r b s f e_ a bs its wn h) := by
  have b120_ := rx.2.2.2.2
  refine Ev_iload_n dX6_readWord_0 rfl ?_
  refine Ev_istore_n dX6_readWord_1 (by decide) ?_
  refine ec_readWord_l l G a r b s f e_ bs h rx (fun e h1e_ h2e_ we_ hg_ hn_ => ?_) (bs.length + 1) a (by omega) (by omega) (by omega) (fun j q1 q2 => absurd q2 (by omega))
  refine Ev_iload_n dX6_readWord_50 rfl ?_
  refine Ev_iload_n dX6_readWord_51 rfl ?_
  refine Ev_icmp_leN 65 dX6_readWord_52 (by decide) (by omega) (by omega) (fun zb52_ => ?_) (fun zb52_ => ?_)
  · have ea_ : e = a := by omega
    have gn_ : ¬ (32 ≤ sv bs a ∧ sv bs a ≤ 126) := fun z => hn_ (by rw [ea_]; exact gdB_iff.mpr ⟨by omega, z.1, z.2, h60⟩)
    refine Ev.post (fun x h' q => ?_) (ec_rw65 l G a e (nI 0) r b s f e_ bs h rx (by omega) ri.2.2.1)
    obtain ⟨q1_, q2_⟩ := q
    have q3_ : tlw bs e r (nI 0) h = sI (sI h 453 r (nI 1)) 454 r (nI e) := (if_pos ⟨by omega, by rw [ea_]; exact h60⟩).trans (if_pos rfl)
    rw [q2_, q3_]
    exact ⟨fo_bl, rx.ofI.ofI, Or.inl ⟨1, a, _, fun n => prs_bad ha h60 gn_, by decide, by decide, by omega, bl_i.1, by rw [← ea_]; exact bl_i.2, q1_⟩⟩
  · refine Ev_aload_n dX6_readWord_55 rfl (by first | exact Or.inr ⟨_, rfl⟩ | exact rv_or _ | exact Or.inl rfl) ?_
    refine Ev_iload_n dX6_readWord_56 rfl ?_
    refine Ev_iconst (v := nI 0) dX6_readWord_57 (by decide) ?_
    refine Ev_iload_n dX6_readWord_58 rfl ?_
    refine Ev_iload_n dX6_readWord_59 rfl ?_
    refine Ev_iload_n dX6_readWord_60 rfl ?_
    refine Ev_isubN dX6_readWord_61 (by omega) ?_
    refine Ev_Vz [.int (nI a), .int (nI (wItem bs a e).1), .int (nI a), .int (nI (e - a))] dX6_readWord_62 vX6_add kX6_52 rx.1.1 rfl rfl rfl (Nat.le_of_ble_eq_true rfl) (by omega) (ec_addIt l G a (e - a) a (wItem bs a e) its wn r b s f e_ bs h rx ha hia ri (wItem_ok (by omega) (by omega) (by omega)) ⟨fun _ => ⟨(len_dt bs (by omega) (by omega)).symm, by omega, fun k hk => (getD_dt bs a (e - a) k hk).symm⟩, fun z => absurd rfl z⟩) (fun v_ h2 z_ => ?_)
    obtain ⟨rfl, ad_⟩ := z_
    have g0_ := gdB_iff.mp (hg_ a (by omega) (by omega))
    rcases ad_.2.2 with ⟨n20_, f1_, f2_⟩ | ⟨n20_, ri2_⟩
    · refine Ev.post (fun x h' q => ?_) (ec_rw65 l G a e (nI 5) r b s f e_ bs h2 ad_.2.1 (by omega) f1_)
      obtain ⟨q1_, q2_⟩ := q
      have q3_ : tlw bs e r (nI 5) h2 = h2 := by
        unfold tlw
        split
        · exact if_neg (by decide)
        · rfl
      rw [q2_, q3_]
      exact ⟨ad_.1, ad_.2.1, Or.inl ⟨5, a, _, fun n => by rw [prs_w ha h60 ⟨g0_.2.1, g0_.2.2.1⟩, if_pos n20_], by decide, by decide, by omega, f1_, f2_, q1_⟩⟩
    · refine Ev.post (fun x h' q => ?_) (ec_rw65 l G a e (nI 0) r b s f e_ bs h2 ad_.2.1 (by omega) ri2_.2.2.1)
      obtain ⟨q1_, q2_⟩ := q
      by_cases zz_ : e < bs.length ∧ ¬ sv bs e = 60
      · have q3_ : tlw bs e r (nI 0) h2 = sI (sI h2 453 r (nI 1)) 454 r (nI e) := (if_pos zz_).trans (if_pos rfl)
        rw [q2_, q3_]
        exact ⟨ad_.1.tr fo_bl, ad_.2.1.ofI.ofI, Or.inl ⟨1, e, _, fun n => by rw [prs_w ha h60 ⟨g0_.2.1, g0_.2.2.1⟩, if_neg (by omega), we_, if_pos zz_], by decide, by decide, by omega, bl_i.1, bl_i.2, q1_⟩⟩
      · have q3_ : tlw bs e r (nI 0) h2 = h2 := if_neg zz_
        rw [q2_, q3_]
        exact ⟨ad_.1, ad_.2.1, Or.inr ⟨wItem bs a e, e, wn, by omega, by omega, fun n => by rw [prs_w ha h60 ⟨g0_.2.1, g0_.2.2.1⟩, if_neg (by omega), we_, if_neg zz_], q1_, ri2_⟩⟩
theorem ec_rI_f (l : Launch) (G : aG) (n g r : Nat) (v : Int32) (h : aH) (hn : n ≤ 21) (hg : 0 < g ∧ g < 10) (hk_ : hK h r = 7) (hg_ : hI h 453 r = nI g) : Ev l G 5 0 0 mX6_readItems 4 [.ref r, .int v, .int (nI n)] [] h (Ex none h) := by
  refine Ev_iload_n dX6_readItems_4 rfl ?_
  refine Ev_bipush (v := nI 20) dX6_readItems_5 (by decide) ?_
  refine Ev_icmp_gtN 57 dX6_readItems_7 (by decide) (by omega) (by omega) (fun zb7_ => ?_) (fun zb7_ => ?_)
  · refine Ev_aload_n dX6_readItems_57 rfl (by first | exact Or.inr ⟨_, rfl⟩ | exact rv_or _ | exact Or.inl rfl) ?_
    refine Ev_getE dX6_readItems_58 fX6_34 hk_ hg_ ?_
    refine Ev_if_neT 81 dX6_readItems_61 (by decide) (fun zb61_ => ?_) (fun zb61_ => ?_)
    · refine Ev_vret dX6_readItems_81 rfl ?_
      exact ⟨rfl, rfl⟩
    · exact absurd zb61_ (by rw [hi_n (by omega)]; omega)
  · refine Ev_aload_n dX6_readItems_10 rfl (by first | exact Or.inr ⟨_, rfl⟩ | exact rv_or _ | exact Or.inl rfl) ?_
    refine Ev_getE dX6_readItems_11 fX6_34 hk_ hg_ ?_
    refine Ev_if_neT 57 dX6_readItems_14 (by decide) (fun zb14_ => ?_) (fun zb14_ => ?_)
    · refine Ev_aload_n dX6_readItems_57 rfl (by first | exact Or.inr ⟨_, rfl⟩ | exact rv_or _ | exact Or.inl rfl) ?_
      refine Ev_getE dX6_readItems_58 fX6_34 hk_ hg_ ?_
      refine Ev_if_neT 81 dX6_readItems_61 (by decide) (fun zb61_ => ?_) (fun zb61_ => ?_)
      · refine Ev_vret dX6_readItems_81 rfl ?_
        exact ⟨rfl, rfl⟩
      · exact absurd zb61_ (by rw [hi_n (by omega)]; omega)
    · exact absurd zb14_ (by rw [hi_n (by omega)]; omega)
/-- behind the reading of a rule -/
def RiP (r b s f e_ : Nat) (bs : List Int32) (h h' : aH) : Prop := FO (Rd4 r s f e_) h h' ∧ RdX r b s f e_ bs h' ∧ ((∃ g p, rdF bs = .inl (g, p) ∧ 0 < g ∧ g < 10 ∧ p ≤ 120 ∧ hI h' 453 r = nI g ∧ hI h' 454 r = nI p) ∨ (∃ its, rdF bs = .inr its ∧ its.length ≤ bs.length ∧ RdI r s f e_ bs its false (nI 0, -1) h'))
theorem ec_readItems_l (l : Launch) (G : aG) (r b s f e_ : Nat) (bs : List Int32) (h0 : aH) (ms : Nat) : ∀ (its : List It) (a : Nat) (wn : Bool) (h : aH), bs.length - a < ms → its.length ≤ a → a ≤ bs.length → RdX r b s f e_ bs h → RdI r s f e_ bs its wn (nI 0, -1) h → FO (Rd4 r s f e_) h0 h → ∀ n, bs.length - a ≤ n → rdF bs = prs bs (n + 1) a its wn → Ev l G 5 0 0 mX6_readItems 4 [.ref r, .int (nI a), .int (nI its.length)] [] h (fun x h' => x = none ∧ RiP r b s f e_ bs h0 h') := by
  induction ms with
  | zero => intro its a wn h hk; omega
  | succ ms ih_ =>
    intro its a wn h hk hia_ hal_ rx ri fo_ n_ hn_ hp_
    have b120_ := rx.2.2.2.2
    have l20_ := ri.2.1
    refine Ev_iload_n dX6_readItems_4 rfl ?_
    refine Ev_bipush (v := nI 20) dX6_readItems_5 (by decide) ?_
    refine Ev_icmp_gtN 57 dX6_readItems_7 (by decide) (by omega) (by omega) (fun zb7_ => ?_) (fun zb7_ => ?_)
    · exact False.elim (by omega)
    · refine Ev_aload_n dX6_readItems_10 rfl (by first | exact Or.inr ⟨_, rfl⟩ | exact rv_or _ | exact Or.inl rfl) ?_
      refine Ev_getE dX6_readItems_11 fX6_34 rx.1.1 ri.2.2.1 ?_
      refine Ev_if_neT 57 dX6_readItems_14 (by decide) (fun zb14_ => ?_) (fun zb14_ => ?_)
      · exact absurd t0 zb14_
      · refine Ev_iload_n dX6_readItems_17 rfl ?_
        refine Ev_aload_n dX6_readItems_18 rfl (by first | exact Or.inr ⟨_, rfl⟩ | exact rv_or _ | exact Or.inl rfl) ?_
        refine Ev_getA dX6_readItems_19 fX6_21 rx.1.1 rx.1.2.1 ?_
        refine Ev_alen dX6_readItems_22 rx.2.1.1 (by omega) (by omega) ?_
        rw [rx.2.1.2.1]
        refine Ev_icmp_geN 57 dX6_readItems_23 (by decide) (by omega) (by omega) (fun zb23_ => ?_) (fun zb23_ => ?_)
        · have pe_ : rdF bs = if wn = true then .inl (4, bs.length) else .inr its := by
            rw [hp_]
            exact prs_end (by omega)
          refine Ev_aload_n dX6_readItems_57 rfl (by first | exact Or.inr ⟨_, rfl⟩ | exact rv_or _ | exact Or.inl rfl) ?_
          refine Ev_getE dX6_readItems_58 fX6_34 rx.1.1 ri.2.2.1 ?_
          refine Ev_if_neT 81 dX6_readItems_61 (by decide) (fun zb61_ => ?_) (fun zb61_ => ?_)
          · exact absurd t0 zb61_
          · refine Ev_aload_n dX6_readItems_64 rfl (by first | exact Or.inr ⟨_, rfl⟩ | exact rv_or _ | exact Or.inl rfl) ?_
            refine Ev_getE dX6_readItems_65 fX6_44 rx.1.1 ri.2.2.2.2.1 ?_
            refine Ev_if_eqB 81 dX6_readItems_68 (by decide) (fun zb68_ => ?_) (fun zb68_ => ?_)
            · refine Ev_vret dX6_readItems_81 rfl ?_
              first
              | exact ⟨rfl, fo_, rx, Or.inr ⟨its, by rw [pe_, zb68_]; rfl, by omega, by rw [← zb68_]; exact ri⟩⟩
              | exact ⟨rfl, fo_.tr fo_bl, rx.ofI.ofI, Or.inl ⟨4, bs.length, by rw [pe_, if_pos zb68_], by decide, by decide, by omega, bl_i.1, bl_i.2⟩⟩
            · refine Ev_aload_n dX6_readItems_71 rfl (by first | exact Or.inr ⟨_, rfl⟩ | exact rv_or _ | exact Or.inl rfl) ?_
              refine Ev_iconst (v := nI 4) dX6_readItems_72 (by decide) ?_
              refine Ev_aload_n dX6_readItems_73 rfl (by first | exact Or.inr ⟨_, rfl⟩ | exact rv_or _ | exact Or.inl rfl) ?_
              refine Ev_getA dX6_readItems_74 fX6_21 rx.1.1 rx.1.2.1 ?_
              refine Ev_alen dX6_readItems_77 rx.2.1.1 (by omega) (by omega) ?_
              rw [rx.2.1.2.1]
              refine Ev_V0 [.int (nI 4), .int (nI bs.length)] dX6_readItems_78 vX6_blame kX6_48 rx.1.1 rfl rfl rfl (Nat.le_of_ble_eq_true rfl) (by omega) (ec_blame l G (nI 4) (nI bs.length) (nI 0) r h rx.1.1 ri.2.2.1) ?_
              rw [if_pos (show nI 0 = 0 from rfl)]
              refine Ev_vret dX6_readItems_81 rfl ?_
              first
              | exact ⟨rfl, fo_, rx, Or.inr ⟨its, by rw [pe_, zb68_]; rfl, by omega, by rw [← zb68_]; exact ri⟩⟩
              | exact ⟨rfl, fo_.tr fo_bl, rx.ofI.ofI, Or.inl ⟨4, bs.length, by rw [pe_, if_pos zb68_], by decide, by decide, by omega, bl_i.1, bl_i.2⟩⟩
        · have zb23_ : a < bs.length := by omega
          refine Ev_aload_n dX6_readItems_26 rfl (by first | exact Or.inr ⟨_, rfl⟩ | exact rv_or _ | exact Or.inl rfl) ?_
          refine Ev_getA dX6_readItems_27 fX6_21 rx.1.1 rx.1.2.1 ?_
          refine Ev_iload_n dX6_readItems_30 rfl ?_
          refine Ev_ialdE a dX6_readItems_31 rx.2.1.1 rx.2.1.2.1 (hi_n (by omega)) (by omega) (rx.2.1.2.2 a (by omega)) ?_
          refine Ev_bipush (v := nI 60) dX6_readItems_32 (by decide) ?_
          refine Ev_icmp_neT 45 dX6_readItems_34 (by decide) (fun zb34_ => ?_) (fun zb34_ => ?_)
          · refine Ev_aload_n dX6_readItems_45 rfl (by first | exact Or.inr ⟨_, rfl⟩ | exact rv_or _ | exact Or.inl rfl) ?_
            refine Ev_iload_n dX6_readItems_46 rfl ?_
            refine Ev_Vz [.int (nI a)] dX6_readItems_47 vX6_readWord kX6_41 rx.1.1 rfl rfl rfl (Nat.le_of_ble_eq_true rfl) (by omega) (ec_readWord l G a its wn r b s f e_ bs h rx zb23_ hia_ ri (fun z => zb34_ (by rw [t60]; rw [← sv_at zb23_]; exact z))) (fun v_ h2 z_ => ?_)
            obtain ⟨fo2_, rx2_, ⟨g_, p_, vv_, pe_, g0_, g10_, p120_, f1_, f2_, rfl⟩ | ⟨it_, e1_, wn2_, ae_, el_, pe_, rfl, ri2_⟩⟩ := z_
            · refine Ev_istore_n dX6_readItems_50 (by decide) ?_
              refine Ev_iincN 1 dX6_readItems_51 (by decide) (by decide) rfl ?_
              refine Ev_goto 4 dX6_readItems_54 (by decide) ?_
              refine Ev.post (fun x h' q => ?_) (ec_rI_f l G (its.length + 1) g_ r _ h2 (by omega) ⟨g0_, g10_⟩ rx2_.1.1 f1_)
              obtain ⟨q1_, q2_⟩ := q
              rw [q2_]
              refine ⟨q1_, fo_.tr fo2_, rx2_, Or.inl ⟨g_, p_, ?_, g0_, g10_, p120_, f1_, f2_⟩⟩
              rw [hp_]
              exact pe_ _
            · refine Ev_istore_n dX6_readItems_50 (by decide) ?_
              refine Ev_iincN 1 dX6_readItems_51 (by decide) (by decide) rfl ?_
              refine Ev_goto 4 dX6_readItems_54 (by decide) ?_
              have l2_ : (its ++ [it_]).length = its.length + 1 := by simp
              have ih2_ := ih_ (its ++ [it_]) e1_ wn2_ h2 (by omega) (by rw [l2_]; omega) (by omega) rx2_ ri2_ (fo_.tr fo2_) (n_ - 1) (by omega) (by
                rw [hp_, pe_, show n_ - 1 + 1 = n_ by omega])
              rw [l2_] at ih2_
              exact ih2_
            --end
          · refine Ev_aload_n dX6_readItems_37 rfl (by first | exact Or.inr ⟨_, rfl⟩ | exact rv_or _ | exact Or.inl rfl) ?_
            refine Ev_iload_n dX6_readItems_38 rfl ?_
            refine Ev_Vz [.int (nI a)] dX6_readItems_39 vX6_readMark kX6_37 rx.1.1 rfl rfl rfl (Nat.le_of_ble_eq_true rfl) (by omega) (ec_readMark l G a its wn r b s f e_ bs h rx zb23_ hia_ ri (by rw [← t60]; rw [sv_at zb23_]; exact zb34_)) (fun v_ h2 z_ => ?_)
            obtain ⟨fo2_, rx2_, ⟨g_, p_, vv_, pe_, g0_, g10_, p120_, f1_, f2_, rfl⟩ | ⟨it_, e1_, wn2_, ae_, el_, pe_, rfl, ri2_⟩⟩ := z_
            · refine Ev_goto 50 dX6_readItems_42 (by decide) ?_
              refine Ev_istore_n dX6_readItems_50 (by decide) ?_
              refine Ev_iincN 1 dX6_readItems_51 (by decide) (by decide) rfl ?_
              refine Ev_goto 4 dX6_readItems_54 (by decide) ?_
              refine Ev.post (fun x h' q => ?_) (ec_rI_f l G (its.length + 1) g_ r _ h2 (by omega) ⟨g0_, g10_⟩ rx2_.1.1 f1_)
              obtain ⟨q1_, q2_⟩ := q
              rw [q2_]
              refine ⟨q1_, fo_.tr fo2_, rx2_, Or.inl ⟨g_, p_, ?_, g0_, g10_, p120_, f1_, f2_⟩⟩
              rw [hp_]
              exact pe_ _
            · refine Ev_goto 50 dX6_readItems_42 (by decide) ?_
              refine Ev_istore_n dX6_readItems_50 (by decide) ?_
              refine Ev_iincN 1 dX6_readItems_51 (by decide) (by decide) rfl ?_
              refine Ev_goto 4 dX6_readItems_54 (by decide) ?_
              have l2_ : (its ++ [it_]).length = its.length + 1 := by simp
              have ih2_ := ih_ (its ++ [it_]) e1_ wn2_ h2 (by omega) (by rw [l2_]; omega) (by omega) rx2_ ri2_ (fo_.tr fo2_) (n_ - 1) (by omega) (by
                rw [hp_, pe_, show n_ - 1 + 1 = n_ by omega])
              rw [l2_] at ih2_
              exact ih2_
            --end
