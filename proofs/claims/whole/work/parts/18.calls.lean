/-! blocks and methods: what the small machine says holds of the big one -/
theorem Met.ofWF {l : Launch} {y : MethodName} {ws ws' : List Cond} {rm : Room} {Pc : Array Value → State → Prop} {Qc : Array Value → State → Outcome → State → Prop} {mc ms : Nat} {free : Addr → Prop} {cc : ByteArray} {maxL : Nat} {ret : Option FieldType}
    (hy : plainFor y = true) (hw : ws = Cond.code y cc maxL ret :: ws')
    (body : ∀ p e s m args below meth c s₁, BodyLoose p l y (headSpec ws rm) cc maxL ret e s m args below meth c s₁ → c.maxLocals = maxL → Pc args s →
      W p l e (headSpec ws rm).room s m args below meth c s.heap [] 0 0 (MQ below Qc args s mc ms free) (entryFrame m args maxL)) : Met l y ws rm Pc Qc mc ms free := by
  refine MetFree.of_bodySF (code := cc) (maxLocals := maxL) (ret := ret) hy ?_ ?_
  · intro args s m h hn
    obtain ⟨meth, c, h1, h2, h3, h4, h5, h6, -, -⟩ := Cond.code_spec hn (atoms_spec (ws := ws) h _ (by rw [hw]; exact List.mem_cons_self))
    exact ⟨meth, c, h1, h2, h3, h4, h5, h6⟩
  · intro p e s m args below meth c s₁ B hml hP _
    have hh0 : s₁.heap = s.heap := by rw [B.state]; rfl
    obtain ⟨t, a1, o, b1, b2, b3⟩ := body p e s m args below meth c s₁ B hml hP s₁ hh0 (Stand.of_body B)
    exact ⟨t, o, a1, b1, b2, ⟨b3.1, b3.2⟩⟩
def xRv (r : Value) : Option Value := match r with
  | .null => none
  | v => some v
def xNr (r : Value) : Prop := r = .null ∨ (∃ x, r = .int x) ∨ (∃ x, r = .long x)
theorem xNr_push {r : Value} (h : xNr r) (ad : Nat → Nat) (st : List Value) : (xRv r).toList ++ st.map (xCv ad) = (xPush r st).map (xCv ad) := by
  rcases h with rfl | ⟨x, rfl⟩ | ⟨x, rfl⟩ <;> rfl
theorem xNr_ok {r : Value} (h : xNr r) {n : Nat} {st : List Value} (hs : xOkL n st) : xOkL n (xPush r st) := by
  rcases h with rfl | ⟨x, rfl⟩ | ⟨x, rfl⟩
  · exact hs
  · exact hs.cons (xOk_int x)
  · exact hs.cons (xOk_long x)
def xWs (j : Nat) : List Cond := .code (xMy j) (xMc j) (xMl j) (xMr j) :: xBW
def xRm (f j n : Nat) : Room := { frames := f, cells := xAl j, slots := xSl (n + xAl j) - xSl n, locals := 200 * f }
def xPre (xs : xSc) (dC : Nat → ClassId) (dI : Nat → Nat → Nat) (cy : Nat → ClassId) (aS : Nat → Nat) (z0 : Nat) (ad : Nat → Nat) (h : xHp) (sz : Nat) : State → Prop := fun U => U.heap.size = sz ∧ va_P (dC, dI) vwCl (xW cy ad h) U.heap ∧ va_K (dC, dI) vwCl (xTy cy) U ∧ va_D (fun _ => True) (xW cy ad h) ∧ xAmb xs aS z0 U U.heap
def xPst (dC : Nat → ClassId) (dI : Nat → Nat → Nat) (cy : Nat → ClassId) (aS ad : Nat → Nat) (h : xHp) (j : Nat) (Q : Value → xHp → Prop) (A : Nat → Prop) : Array Value → State → Outcome → State → Prop := fun _ st oc t =>
  (∃ (r : Value) (h' : xHp) (ad' : Nat → Nat), oc = .returned (xRv r) ∧ Q r h' ∧ xNr r ∧ h'.1 = h.1 + xAl j ∧ xOkH h' ∧ (∀ p, p < h.1 → ad' p = ad p) ∧ (∀ p, 1000 ≤ p → ad' p = aS p) ∧ va_P (dC, dI) vwCl (xW cy ad' h') t.heap ∧ va_D A (xW cy ad' h')) ∧ va_F A st t
theorem xBW_good {w : Cond} (h : w ∈ xBW) : (w.onTables && w.keeps) = true ∨ ∃ ty, w = .arrayClass ty := good_of_word (List.mem_filter.mp h).2
/-- what the tables say of a method, told -/
theorem xMok_use {j : Nat} (h : xMok j = true) : Cond.code (xMy j) (xMc j) (xMl j) (xMr j) ∈ xBW ∧ Cond.initialized (xMy j).cls ∈ xBW ∧ plainFor (xMy j) = true ∧ (xMy j).cls ≠ "java/lang/invoke/MethodHandle" ∧ (xMy j).cls ≠ "java/lang/invoke/VarHandle" ∧ (parseMethodDescriptor (xMy j).desc).map (fun d => d.parameters.length) = some (if xMk j = 1 then xMa j else xMa j - 1) ∧ (xMy j).cls = xCn (xMo j) ∧ xMl j ≤ 100 ∧
    (xMk j = 0 → 1 ≤ xMa j ∧ Cond.instanceMethod (xMy j) ∈ xBW ∧ Cond.selects (xMy j).cls (xMy j) (xMy j) ∈ xBW ∧ (xRk j < 7 ∧ (xMy j).cls = xRn (xRk j) ∨ xRk j = 100 ∧ (xMy j).cls = "java/lang/String")) ∧
    (xMk j = 1 → Cond.static (xMy j) ∈ xBW) ∧ (xMk j = 2 → 1 ≤ xMa j ∧ (xMy j).name = "<init>" ∧ Cond.instanceMethod (xMy j) ∈ xBW ∧ xMr j = none ∧ xRk j = 98) := by
  unfold xMok at h
  simp only [Bool.and_eq_true, decide_eq_true_eq] at h
  obtain ⟨⟨⟨⟨⟨⟨⟨⟨⟨h1, h2⟩, h3⟩, h4⟩, h5⟩, h6⟩, h7⟩, h8⟩, h9⟩, -⟩ := h
  refine ⟨xInK_ok h1, xInK_ok h2, h3, h4, h5, h6, h7, h8, fun k => ?_, fun k => ?_, fun k => ?_⟩
  · rw [if_pos k] at h9
    simp only [Bool.and_eq_true, Bool.or_eq_true, decide_eq_true_eq] at h9
    obtain ⟨⟨⟨a1, a2⟩, a3⟩, a4⟩ := h9
    exact ⟨a1, xInK_ok a2, xInK_ok a3, a4⟩
  · rw [if_neg (by omega), if_pos k] at h9
    simp only [Bool.and_eq_true, decide_eq_true_eq] at h9
    exact xInK_ok h9.1
  · rw [if_neg (by omega), if_neg (by omega)] at h9
    simp only [Bool.and_eq_true, decide_eq_true_eq] at h9
    obtain ⟨⟨⟨⟨⟨-, a1⟩, a2⟩, a3⟩, a5⟩, a4⟩ := h9
    exact ⟨a1, a2, xInK_ok a3, a4, a5⟩
section XR
variable {xs : xSc} {p : Program} {l : Launch} {e : Env} {R : Room} {s : State} {m : MethodId} {args : Array Value} {below : List Frame} {meth : Method} {c : Code} {Q : State → Prop}
variable {dC : Nat → ClassId} {dI : Nat → Nat → Nat} {cy : Nat → ClassId} {aS ad0 : Nat → Nat} {A : Nat → Prop} {z0 i b0 lim pc a b n : Nat} {al st : List Value} {h : xHp} {ad : Nat → Nat} {H : Heap} {locs : List Loc} {ls : Array Slot} {v : Int32} {w : Int64}
theorem x_call {j cells slots mc ms : Nat} {st0 rest : List Value} {Qp : Value → xHp → Prop} {A1 : Nat → Prop} {a0 : Array Value} {free : Addr → Prop}
    (hr : va_Run p l e R s m args below meth c H locs cells slots mc ms (F0 m pc ls st0) rest (xPst dC dI cy aS ad h j Qp A1 a0) free) (hS : va_S A s.heap H locs) (hA : ∀ q, q < H.size → A1 q → A q) (hf : ∀ q, free q → A q)
    (kk : ∀ (r : Value) (h' : xHp) (ad' : Nat → Nat) (H1 : Heap) (locs1 : List Loc), Qp r h' → xNr r → h'.1 = h.1 + xAl j → xOkH h' → (∀ p, p < h.1 → ad' p = ad p) → (∀ p, 1000 ≤ p → ad' p = aS p) → va_P (dC, dI) vwCl (xW cy ad' h') H1 → va_D A1 (xW cy ad' h') → va_S A s.heap H1 locs1 →
      W p l e R s m args below meth c H1 locs1 (cells + mc) (slots + ms) Q (F0 m (pc + 3) ls ((xRv r).toList ++ rest))) : W p l e R s m args below meth c H locs cells slots Q (F0 m pc ls st0) := by
  intro T hT X
  obtain ⟨v, st₀, t, T', L, h0, X', hL, e1, e2, ⟨⟨r, h', ad', hv, q1, q2, q3, q4, q5, q6, q7, q8⟩, hz, hk⟩, st⟩ := hr T hT X
  cases hv
  rw [h0] at hz hk
  obtain ⟨t2, a1, b1⟩ := kk r h' ad' T'.heap (locs ++ L) q1 q2 q3 q4 q5 q6 (by rw [e1]; exact q7) q8
    ⟨Nat.le_trans hS.1 (by rw [e1]; exact hz), fun q h1 h2 => by rw [e1, hk q (Nat.lt_of_lt_of_le h1 hS.1) (fun z => h2 (hA q (Nat.lt_of_lt_of_le h1 hS.1) z))]; exact hS.2.1 q h1 h2, fun q hq => by
      rcases List.mem_append.mp hq with h | h
      · exact hS.2.2 q h
      · exact hf _ (hL q h)⟩ T' rfl X'
  exact ⟨t2, st t2 a1, b1⟩
/-- a contract that a call may use -/
def xHas (xs : xSc) (l : Launch) (dC : Nat → ClassId) (dI : Nat → Nat → Nat) (cy : Nat → ClassId) (aS : Nat → Nat) (z0 f : Nat) (C : xT) : Prop :=
  ∀ (j : Nat) (vs : List Value) (h : xHp) (Qp : Value → xHp → Prop), C j vs h Qp → j < xNM → xOkH h → xOkL h.1 vs → ∀ (ad : Nat → Nat) (sz : Nat), (∀ p, p < h.1 → z0 ≤ ad p) → z0 ≤ sz → (∀ p, 1000 ≤ p → ad p = aS p) →
    Met l (xMy j) (xWs j) (xRm f j h.1) (va_Pc (vs.map (xCv ad)) (xPre xs dC dI cy aS z0 ad h sz)) (xPst dC dI cy aS ad h j Qp (va_A (xW cy ad h) sz)) (xAl j) (xSl (h.1 + xAl j) - xSl h.1) (va_A (xW cy ad h) sz)
theorem xPre_blind {ad : Nat → Nat} {sz : Nat} {vs : List Value} (hzs : z0 ≤ sz) : FrameBlind (va_Pc vs (xPre xs dC dI cy aS z0 ad h sz)) := by
  intro a U g mk q
  obtain ⟨q0, q1, qP, qK, qD, qA⟩ := q
  refine ⟨q0, q1, qP, va_K.moved (u := U) (U := U.calling g mk a) (Vm.Alike.refl U.vm) qK, qD, ?_⟩
  exact xAmb.step qA (State.WarmedH.refl U) (by rw [q1]; exact hzs) (fun _ _ _ => rfl)
/-- a call, of whatever kind: the callee's contract from the state of the small machine -/
theorem x_goes {f j : Nat} {C : xT} {Qp : Value → xHp → Prop} {st0 : List Value} (X : xCx xs p s m args meth c dC dI cy aS z0 i) (hAz : ∀ q, A q → z0 ≤ q) (hAs : ∀ q, s.heap.size ≤ q → A q) (hz0 : z0 ≤ s.heap.size)
    (hMk : xMok j = true) (hC : xHas xs l dC dI cy aS z0 f C) (hRf : f + 1 ≤ R.frames) (hRl : 200 * (f + 1) ≤ R.locals) (hRc : lim - b0 ≤ R.cells) (hRs : xSl lim - xSl b0 ≤ R.slots)
    (hj : j < xNM) (hb : b ≤ st.length) (hlim : h.1 + xAl j ≤ lim) (hCj : C j (st.take b).reverse h Qp) (J : xJ s dC dI cy aS ad0 A b0 lim (xMl i) al st h ad H locs ls)
    (hrun : ∀ (Pc : Array Value → State → Prop) (Qc : Array Value → State → Outcome → State → Prop) (free : Addr → Prop), Met l (xMy j) (xWs j) (xRm f j h.1) Pc Qc (xAl j) (xSl (h.1 + xAl j) - xSl h.1) free → FrameBlind Pc → (∀ U : State, U.heap = H → s.WarmedH U.vm → Pc ((st.take b).reverse.map (xCv ad)).toArray U) →
      (xRm f j h.1).frames + 1 ≤ R.frames → 8 + (xMl j + 11) + (xRm f j h.1).locals ≤ R.locals → (∀ w ∈ xWs j, ∀ (a' : Array Value) (U : State), s.WarmedH U.vm → w.before a' U = true) → Cond.code (xMy j) (xMc j) (xMl j) (xMr j) ∈ xWs j → (h.1 - b0 + xAl j ≤ R.cells ∧ xSl h.1 - xSl b0 + (xSl (h.1 + xAl j) - xSl h.1) ≤ R.slots) →
      va_Run p l e R s m args below meth c H locs (h.1 - b0) (xSl h.1 - xSl b0) (xAl j) (xSl (h.1 + xAl j) - xSl h.1) (F0 m pc ls st0) ((st.drop b).map (xCv ad)) (Qc ((st.take b).reverse.map (xCv ad)).toArray) free)
    (kk : ∀ (r : Value) (h' : xHp) (ad' : Nat → Nat) (H1 : Heap) (locs1 : List Loc), Qp r h' → xJ s dC dI cy aS ad0 A b0 lim (xMl i) al (xPush r (st.drop b)) h' ad' H1 locs1 ls → W p l e R s m args below meth c H1 locs1 (h'.1 - b0) (xSl h'.1 - xSl b0) Q (F0 m (pc + 3) ls ((xPush r (st.drop b)).map (xCv ad')))) :
    W p l e R s m args below meth c H locs (h.1 - b0) (xSl h.1 - xSl b0) Q (F0 m pc ls st0) := by
  obtain ⟨j1, j2, j3, j4, j5, j6, j7, j8, j9, j10, j11⟩ := J
  obtain ⟨hx, hcb, hml, hown, hts, hK, hret, hlocks, hini, hAm⟩ := X
  obtain ⟨u1, u2, u3, u4, u5, u6, u7, u8, -⟩ := xMok_use hMk
  have okT : xOkL h.1 (st.take b).reverse := fun v hv => j3 v (List.mem_of_mem_take (List.mem_reverse.mp hv))
  have okD : xOkL h.1 (st.drop b) := fun v hv => j3 v (List.mem_of_mem_drop hv)
  have hAd : ∀ p, p < h.1 → A (ad p) := fun p hp => j6.2 p _ (xW_get hp)
  have hFc : ∀ q, va_A (xW cy ad h) H.size q → A q := by
    intro q hq
    rcases hq with ⟨k, e, hk⟩ | hq
    · exact j6.2 k _ hk
    · exact hAs q (Nat.le_trans j7.1 hq)
  have hMet := hC j _ h Qp hCj hj j4 okT ad H.size (fun p hp => hAz _ (hAd p hp)) (Nat.le_trans hz0 j7.1) j11
  have hsl1 := xSl_mono j8
  have hsl2 := xSl_mono (Nat.le_add_right h.1 (xAl j))
  have hsl3 := xSl_mono hlim
  have hr := hrun _ _ _ hMet (xPre_blind (Nat.le_trans hz0 j7.1)) (fun U hU hW => ⟨rfl, by rw [hU], by rw [hU]; exact j5, va_K.moved hW.alike hK, j6.weaken (fun _ _ _ _ => trivial), by
      rw [hU]
      exact xAmb.step hAm hW hz0 (fun a h1 h2 => j7.2.1 a h1 (fun z => h2 (hAz a z)))⟩) (by exact hRf) (by show 8 + (xMl j + 11) + 200 * f ≤ R.locals; omega)
    (fun w hw a' U hW => by
      rcases List.mem_cons.mp hw with rfl | hw
      · exact word_at hW (xBW_good u1) (hts _ u1)
      · exact word_at hW (xBW_good hw) (hts _ hw)) List.mem_cons_self ⟨by omega, by omega⟩
  refine x_call hr j7 (fun q _ hq => hFc q hq) hFc (fun r h' ad' H1 locs1 q1 q2 q3 q4 q5 q6 q7 q8 q9 => ?_)
  have e1 : ∀ p, 1000 ≤ p → ad' p = ad p := fun p hp => (q6 p hp).trans (j11 p hp).symm
  have hst : (st.drop b).map (xCv ad') = (st.drop b).map (xCv ad) := xCv_map q5 e1 okD
  have g1 : h'.1 - b0 = h.1 - b0 + xAl j := by omega
  have g2 : xSl h'.1 - xSl b0 = xSl h.1 - xSl b0 + (xSl (h.1 + xAl j) - xSl h.1) := by rw [q3]; omega
  have hle : h.1 ≤ h'.1 := by omega
  have hg := kk r h' ad' H1 locs1 q1 ⟨j1.ad q5 e1 j2, j2.mono hle, xNr_ok q2 (okD.mono hle), q4, q7, q8.weaken (fun _ q _ hq => hFc q.1 hq), q9, Nat.le_trans j8 hle, by omega, fun p hp => (q5 p (by omega)).trans (j10 p hp), q6⟩
  rw [← xNr_push q2, hst, g1, g2] at hg
  exact hg
end XR
