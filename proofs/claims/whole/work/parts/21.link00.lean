/-! names of methods with their bytes; words by their places -/
theorem okv_rv (x : Option Nat) : okv (rv x) = true := by cases x <;> rfl
theorem rv_or (x : Option Nat) : rv x = .null ∨ ∃ a, rv x = .ref a := by
  cases x
  · exact Or.inl rfl
  · exact Or.inr ⟨_, rfl⟩
def aVm (Mc : aM) (n ci : Nat) : Prop := aCo Mc n ∧ Cond.instanceMethod Mc.1 ∈ aTs ∧ n + 1 ≤ Mc.2.2.1 ∧ ∃ r : vw_C, vwCl[ci]? = some r ∧ Cond.selects r.1 Mc.1 Mc.1 ∈ aTs
def aSm (Mc : aM) (n : Nat) : Prop := aCo Mc n ∧ Cond.static Mc.1 ∈ aTs ∧ n ≤ Mc.2.2.1
def aIm (Mc : aM) (n : Nat) : Prop := aCo Mc n ∧ Cond.instanceMethod Mc.1 ∈ aTs ∧ n + 1 ≤ Mc.2.2.1 ∧ Mc.2.2.2 = none ∧ Mc.1.name = "<init>"
section EV
variable {l : Launch} {G : aG} {d mc ms : Nat} {M : aM} {pc : Nat} {ls st : List Value} {h : aH} {Q : Option Value → aH → Prop}
variable {mc1 ms1 idx n : Nat} {Mc : aM} {Q' : Option Value → aH → Prop}
theorem Ev_V {a ci : Nat} (avs : List Value) (hdg : decode M.2.1 pc = .ok (.invokevirtual idx, 3)) (hv : aVm Mc n ci) (w1 : Cond.methodLink M.1.cls idx Mc.1 ∈ aTs) (hk : hK h a = ci) (hn : avs.length = n) (hok : avs.all okv = true) (hst : st.all okv = true) (hlen : st.length ≤ 8) (hC : Ev l G d mc1 ms1 Mc 0 (en Mc.2.2.1 (.ref a :: avs)) [] h Q') (kk : ∀ v h', Q' v h' → Ev l G (d + 1) mc ms M (pc + 3) ls (v.toList ++ st) h' Q) : Ev l G (d + 1) (mc1 + mc) (ms1 + ms) M pc ls (avs.reverse ++ .ref a :: st) h Q := by
  obtain ⟨h1, h2, h3, r, h4, h5⟩ := hv
  exact Ev_callV hdg h1 w1 h2 h5 hk h4 hn hok h3 hst hlen hC kk
theorem Ev_S (avs : List Value) (hdg : decode M.2.1 pc = .ok (.invokestatic idx, 3)) (hv : aSm Mc n) (w1 : Cond.methodLink M.1.cls idx Mc.1 ∈ aTs) (hn : avs.length = n) (hok : avs.all okv = true) (hst : st.all okv = true) (hlen : st.length ≤ 8) (hC : Ev l G d mc1 ms1 Mc 0 (en Mc.2.2.1 avs) [] h Q') (kk : ∀ v h', Q' v h' → Ev l G (d + 1) mc ms M (pc + 3) ls (v.toList ++ st) h' Q) : Ev l G (d + 1) (mc1 + mc) (ms1 + ms) M pc ls (avs.reverse ++ st) h Q :=
  Ev_callS hdg hv.1 w1 hv.2.1 hn hok hv.2.2 hst hlen hC kk
theorem Ev_SN {host : String} (avs : List Value) (hdg : decode M.2.1 pc = .ok (.invokestatic idx, 3)) (hv : aSm Mc n) (w1 : Cond.methodLinkNest M.1.cls idx Mc.1 host ∈ lw_tbl) (hn : avs.length = n) (hok : avs.all okv = true) (hst : st.all okv = true) (hlen : st.length ≤ 8) (hC : Ev l G d mc1 ms1 Mc 0 (en Mc.2.2.1 avs) [] h Q') (kk : ∀ v h', Q' v h' → Ev l G (d + 1) mc ms M (pc + 3) ls (v.toList ++ st) h' Q) : Ev l G (d + 1) (mc1 + mc) (ms1 + ms) M pc ls (avs.reverse ++ st) h Q :=
  Ev_callSN hdg hv.1 w1 hv.2.1 hn hok hv.2.2 hst hlen hC kk
theorem Ev_I {a : Nat} (avs : List Value) (hdg : decode M.2.1 pc = .ok (.invokespecial idx, 3)) (hv : aIm Mc n) (w1 : Cond.methodLink M.1.cls idx Mc.1 ∈ aTs) (hn : avs.length = n) (hok : avs.all okv = true) (hst : st.all okv = true) (hlen : st.length ≤ 8) (hC : Ev l G d mc1 ms1 Mc 0 (en Mc.2.2.1 (.ref a :: avs)) [] h Q') (kk : ∀ v h', Q' v h' → Ev l G (d + 1) mc ms M (pc + 3) ls (v.toList ++ st) h' Q) : Ev l G (d + 1) (mc1 + mc) (ms1 + ms) M pc ls (avs.reverse ++ .ref a :: st) h Q :=
  Ev_callI hdg hv.1 hv.2.2.2.1 hv.2.2.2.2 w1 hv.2.1 hn hok hv.2.2.1 hst hlen hC kk
theorem Ev_IN {a : Nat} {host : String} (avs : List Value) (hdg : decode M.2.1 pc = .ok (.invokespecial idx, 3)) (hv : aIm Mc n) (w1 : Cond.methodLinkNest M.1.cls idx Mc.1 host ∈ lw_tbl) (hn : avs.length = n) (hok : avs.all okv = true) (hst : st.all okv = true) (hlen : st.length ≤ 8) (hC : Ev l G d mc1 ms1 Mc 0 (en Mc.2.2.1 (.ref a :: avs)) [] h Q') (kk : ∀ v h', Q' v h' → Ev l G (d + 1) mc ms M (pc + 3) ls (v.toList ++ st) h' Q) : Ev l G (d + 1) (mc1 + mc) (ms1 + ms) M pc ls (avs.reverse ++ .ref a :: st) h Q :=
  Ev_callIN hdg hv.1 hv.2.2.2.1 hv.2.2.2.2 w1 hv.2.1 hn hok hv.2.2.1 hst hlen hC kk
end EV
