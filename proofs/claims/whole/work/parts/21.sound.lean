/-! a whole block; a whole method -/
section XB
variable {xs : xSc} {p : Program} {l : Launch} {e : Env} {R : Room} {s : State} {m : MethodId} {args : Array Value} {below : List Frame} {meth : Method} {c : Code}
variable {dC : Nat → ClassId} {dI : Nat → Nat → Nat} {cy : Nat → ClassId} {aS ad0 : Nat → Nat} {A : Nat → Prop} {z0 i b0 lim f : Nat} {C : xT}
def xTe : Instr → Bool
  | .ireturn => true
  | .lreturn => true
  | .return_ => true
  | _ => false
theorem x_ends {Qp : Value → xHp → Prop} {hI : xHp} (F : xFr xs p l R s m args meth c dC dI cy aS A z0 i b0 lim f C) (hI1 : hI.1 = b0) (hlim : lim = b0 + xAl i) {pc a b n : Nat} {v : Int32} {w : Int64} {ts : List (Int32 × Nat)} {al st : List Value} {h : xHp} {ad : Nat → Nat} {H : Heap} {locs : List Loc} {ls : Array Slot} {K : Nat → List Value → List Value → xHp → Prop} {k : List Value → List Value → xHp → Prop} {ins : Instr} (ht : xTe ins = true)
    (hd : decode (xMc i) pc = .ok (ins, n)) (hn : xSwI ins = true ∨ n = xLen ins) (hk : xGk (xMo i) (xMr i) (decide (xMk i = 2)) pc a b v w ts ins = true) (hR : xStep xs xAl xRk C lim K Qp a b v w ts al st h k ins) (J : xJ s dC dI cy aS ad0 A b0 lim (xMl i) al st h ad H locs ls) :
    W p l e R s m args below meth c H locs (h.1 - b0) (xSl h.1 - xSl b0) (MQ below (xPst dC dI cy aS ad0 hI i Qp A) args s (xAl i) (xSl (b0 + xAl i) - xSl b0) A) (F0 m pc ls (st.map (xCv ad))) := by
  have hx := F.1.1
  have hb := F.1.2.1
  have hret := F.1.2.2.2.2.2.2.1
  have hlocks := F.1.2.2.2.2.2.2.2.1
  cases ins <;> first | exact Bool.noConfusion ht | skip
  case ireturn =>
    have hn : n = 1 := hn.resolve_left (fun z => Bool.noConfusion z)
    subst hn
    have hk : xMr i = some (xRt b) := of_decide_eq_true hk
    unfold xStep at hR
    dsimp only at hR
    split at hR
    · rename_i x
      obtain ⟨r1, r2, r3⟩ := hR
      have hnar : narrow (xRt b) (.int x) = .int x := by
        match b, r1 with
        | 0, _ => rfl
        | 1, r1 => rcases r1 with e | e <;> subst e <;> rfl
        | 2, r1 => exact r1
        | b + 3, r1 => exact r1
      exact x_end F hI1 hlim rfl J r3 (Or.inr (Or.inl ⟨x, rfl⟩)) r2 (fun hq hf => W.zret hx hb (hret.trans hk) hnar hq hf hd hlocks)
    · exact hR.elim
  case lreturn =>
    have hn : n = 1 := hn.resolve_left (fun z => Bool.noConfusion z)
    subst hn
    have hk : xMr i = some .long := of_decide_eq_true hk
    unfold xStep at hR
    dsimp only at hR
    split at hR
    · rename_i x
      obtain ⟨r2, r3⟩ := hR
      exact x_end F hI1 hlim rfl J r3 (Or.inr (Or.inr ⟨x, rfl⟩)) r2 (fun hq hf => W.lret hx hb (hret.trans hk) hq hf hd hlocks)
    · exact hR.elim
  case return_ =>
    have hn : n = 1 := hn.resolve_left (fun z => Bool.noConfusion z)
    subst hn
    have hk : xMr i = none := of_decide_eq_true hk
    unfold xStep at hR
    dsimp only at hR
    split at hR
    · obtain ⟨r2, r3⟩ := hR
      exact x_end F hI1 hlim rfl J r3 (Or.inl rfl) r2 (fun hq hf => W.vret hx hb (hret.trans hk) hq hf hd hlocks)
    · exact hR.elim
set_option maxHeartbeats 2000000 in
theorem xR_snd {Qp : Value → xHp → Prop} {Qs : State → Prop} (F : xFr xs p l R s m args meth c dC dI cy aS A z0 i b0 lim f C) {K : Nat → List Value → List Value → xHp → Prop} {ep : Nat}
    (hK : ∀ (pc : Nat) (al st : List Value) (h : xHp) (ad : Nat → Nat) (H : Heap) (locs : List Loc) (ls : Array Slot), K pc al st h → xJ s dC dI cy aS ad0 A b0 lim (xMl i) al st h ad H locs ls → W p l e R s m args below meth c H locs (h.1 - b0) (xSl h.1 - xSl b0) Qs (F0 m pc ls (st.map (xCv ad)))) :
    (∀ (pc a b n : Nat) (v : Int32) (w : Int64) (ts : List (Int32 × Nat)) (al st : List Value) (h : xHp) (ad : Nat → Nat) (H : Heap) (locs : List Loc) (ls : Array Slot) (k : List Value → List Value → xHp → Prop) (ins : Instr), xTe ins = true → decode (xMc i) pc = .ok (ins, n) → (xSwI ins = true ∨ n = xLen ins) → xGk (xMo i) (xMr i) (decide (xMk i = 2)) pc a b v w ts ins = true → xStep xs xAl xRk C lim K Qp a b v w ts al st h k ins → xJ s dC dI cy aS ad0 A b0 lim (xMl i) al st h ad H locs ls → W p l e R s m args below meth c H locs (h.1 - b0) (xSl h.1 - xSl b0) Qs (F0 m pc ls (st.map (xCv ad)))) →
    ∀ (L : List xEl) (pc : Nat) (al st : List Value) (h : xHp) (ad : Nat → Nat) (H : Heap) (locs : List Loc) (ls : Array Slot), xGl i ep pc L = true → xR xs xAl xRk C lim K ep Qp L al st h → xJ s dC dI cy aS ad0 A b0 lim (xMl i) al st h ad H locs ls →
      W p l e R s m args below meth c H locs (h.1 - b0) (xSl h.1 - xSl b0) Qs (F0 m pc ls (st.map (xCv ad))) := by
  intro hEnd L
  induction L with
  | nil =>
    intro pc al st h ad H locs ls hg hR J
    have e : pc = ep := of_decide_eq_true hg
    subst e
    exact hK pc al st h ad H locs ls hR J
  | cons el L ih =>
    obtain ⟨ins, ⟨pc', n, a, b⟩, v, w, ts⟩ := el
    intro pc al st h ad H locs ls hg hR J
    unfold xGl at hg
    rw [Bool.and_eq_true, Bool.or_eq_true] at hg
    obtain ⟨hge, htail⟩ := hg
    unfold xGe at hge
    simp only [Bool.and_eq_true, Bool.or_eq_true, decide_eq_true_eq] at hge
    obtain ⟨⟨⟨hd, hn⟩, hpc⟩, hk⟩ := hge
    replace hR : xStep xs xAl xRk C lim K Qp a b v w ts al st h (fun ls st h => xR xs xAl xRk C lim K ep Qp L ls st h) ins := hR
    have hnext : xTm ins = false → ∀ (al st : List Value) (h : xHp) (ad : Nat → Nat) (H : Heap) (locs : List Loc) (ls : Array Slot), xR xs xAl xRk C lim K ep Qp L al st h → xJ s dC dI cy aS ad0 A b0 lim (xMl i) al st h ad H locs ls →
        W p l e R s m args below meth c H locs (h.1 - b0) (xSl h.1 - xSl b0) Qs (F0 m (pc + n) ls (st.map (xCv ad))) := by
      intro ht al st h ad H locs ls h1 h2
      rcases htail with z | z
      · rw [ht] at z; cases z
      · exact ih (pc + n) al st h ad H locs ls z h1 h2
    have fin : xCt ins = false → xTm ins = false → W p l e R s m args below meth c H locs (h.1 - b0) (xSl h.1 - xSl b0) Qs (F0 m pc ls (st.map (xCv ad))) := by
      intro hct htm
      obtain ⟨cn, al', st', h', e1, e2, e3⟩ := xStep_simple hct hR
      exact xS_snd F.1 F.2.1 F.2.2.1 F.2.2.2.1 F.2.2.2.2.2.2.2.2.1 F.2.2.2.2.2.2.2.2.2 hd hn hk e1 e2 J (fun ad' H' locs' ls' J' => hnext htm al' st' h' ad' H' locs' ls' e3 J')
    have hx := F.1.1
    have hb := F.1.2.1
    have hret := F.1.2.2.2.2.2.2.1
    have hlocks := F.1.2.2.2.2.2.2.2.1
    cases ins with
    | goto off =>
      have hn : n = 3 := hn.resolve_left (fun z => Bool.noConfusion z)
      have hk : (pc : Int) + off = (a : Int) := of_decide_eq_true hk
      exact x_jump F hd hn hk (hK a al st h ad H locs ls hR J)
    | ifCond cn off =>
      have hn : n = 3 := hn.resolve_left (fun z => Bool.noConfusion z)
      subst hn
      have hk : (pc : Int) + off = (a : Int) := of_decide_eq_true hk
      unfold xStep at hR
      dsimp only at hR
      split at hR
      · exact x_if F hd hk (fun z => hK a al _ h ad H locs ls (hR.1 z) (J.stk J.2.2.1.tail)) (fun z => hnext rfl al _ h ad H locs ls (hR.2 z) (J.stk J.2.2.1.tail))
      · exact hR.elim
    | if_icmp cn off =>
      have hn : n = 3 := hn.resolve_left (fun z => Bool.noConfusion z)
      subst hn
      have hk : (pc : Int) + off = (a : Int) := of_decide_eq_true hk
      unfold xStep at hR
      dsimp only at hR
      split at hR
      · exact x_icmp F hd hk (fun z => hK a al _ h ad H locs ls (hR.1 z) (J.stk J.2.2.1.tail.tail)) (fun z => hnext rfl al _ h ad H locs ls (hR.2 z) (J.stk J.2.2.1.tail.tail))
      · exact hR.elim
    | tableswitch d lo hi offs =>
      delta xGk at hk
      dsimp only at hk
      simp only [Bool.and_eq_true, decide_eq_true_eq] at hk
      obtain ⟨⟨⟨⟨k1, k2⟩, k3⟩, k4⟩, k5⟩ := hk
      unfold xStep at hR
      dsimp only at hR
      split at hR
      · exact x_table F hd k1 k2 k3 k4 k5 hR (fun t ht => hK t al _ h ad H locs ls ht (J.stk J.2.2.1.tail))
      · exact hR.elim
    | lookupswitch d ps =>
      delta xGk at hk
      dsimp only at hk
      simp only [Bool.and_eq_true, decide_eq_true_eq] at hk
      obtain ⟨⟨k1, k2⟩, k3⟩ := hk
      unfold xStep at hR
      dsimp only at hR
      split at hR
      · exact x_lookup F hd k1 k2 k3 hR (fun t ht => hK t al _ h ad H locs ls ht (J.stk J.2.2.1.tail))
      · exact hR.elim
    | ireturn => exact hEnd pc a b n v w ts al st h ad H locs ls _ .ireturn rfl hd hn hk hR J
    | lreturn => exact hEnd pc a b n v w ts al st h ad H locs ls _ .lreturn rfl hd hn hk hR J
    | return_ => exact hEnd pc a b n v w ts al st h ad H locs ls _ .return_ rfl hd hn hk hR J
    | invokevirtual ix =>
      have hn : n = 3 := hn.resolve_left (fun z => Bool.noConfusion z)
      subst hn
      delta xGk at hk
      dsimp only at hk
      simp only [Bool.or_eq_true, Bool.and_eq_true, decide_eq_true_eq] at hk
      have hR : xInv xAl xRk C lim a b st h (fun st h => xR xs xAl xRk C lim K ep Qp L al st h) := hR
      rcases hk with hk | ⟨⟨k1, k2⟩, k3⟩
      · subst hk
        unfold xInv at hR
        rw [if_neg (by decide), if_neg (by decide), if_pos rfl] at hR
        exact hR.elim
      · exact x_virtual F hd k1 k2 k3 hR J (fun ad' H' locs' st' h' q J' => hnext rfl al st' h' ad' H' locs' ls q J')
    | invokestatic ix =>
      have hn : n = 3 := hn.resolve_left (fun z => Bool.noConfusion z)
      subst hn
      delta xGk at hk
      dsimp only at hk
      simp only [Bool.or_eq_true, Bool.and_eq_true, decide_eq_true_eq] at hk
      have hR : xInv xAl xRk C lim a b st h (fun st h => xR xs xAl xRk C lim K ep Qp L al st h) := hR
      rcases hk with ((hk | hk) | hk) | ⟨⟨k1, k2⟩, k3⟩
      · subst hk
        unfold xInv at hR
        rw [if_neg (by decide), if_neg (by decide), if_pos rfl] at hR
        exact hR.elim
      · exact x_lib F hd (Or.inl hk) hR J (fun ad' H' locs' st' h' q J' => hnext rfl al st' h' ad' H' locs' ls q J')
      · exact x_lib F hd (Or.inr hk) hR J (fun ad' H' locs' st' h' q J' => hnext rfl al st' h' ad' H' locs' ls q J')
      · exact x_static F hd k1 k2 k3 hR J (fun ad' H' locs' st' h' q J' => hnext rfl al st' h' ad' H' locs' ls q J')
    | invokespecial ix =>
      have hn : n = 3 := hn.resolve_left (fun z => Bool.noConfusion z)
      subst hn
      delta xGk at hk
      dsimp only at hk
      simp only [Bool.or_eq_true, Bool.and_eq_true, decide_eq_true_eq] at hk
      have hR : xInv xAl xRk C lim a b st h (fun st h => xR xs xAl xRk C lim K ep Qp L al st h) := hR
      rcases hk with ⟨k1, k2⟩ | ⟨⟨k1, k2⟩, k3⟩
      · exact x_objInit F hd k2 k1 hR J (fun ad' H' locs' st' h' q J' => hnext rfl al st' h' ad' H' locs' ls q J')
      · exact x_init F hd k1 k2 k3 hR J (fun ad' H' locs' st' h' q J' => hnext rfl al st' h' ad' H' locs' ls q J')
    | _ => exact fin rfl rfl
end XB
/-- THE SMALL MACHINE IS SOUND: a method of which it says that Q comes has a contract that says so -/
theorem xM_snd (xs : xSc) (l : Launch) (dC : Nat → ClassId) (dI : Nat → Nat → Nat) (cy : Nat → ClassId) (aS : Nat → Nat) (z0 : Nat) (hMk : ∀ j, j < xNM → xMok j = true) (hGb : ∀ j, j < xNM → xGb j = true) : ∀ f, xHas xs l dC dI cy aS z0 f (xM xs xAl xRk xMl xBl f) := by
  intro f
  induction f with
  | zero => exact fun j vs h Qp hC => hC.elim
  | succ f ih =>
    intro j vs h Qp hC hj hok hvs ad sz hz hzs haS
    obtain ⟨hlen, hE⟩ := hC
    obtain ⟨u1, u2, u3, u4, u5, u6, u7, u8, -, -, u9⟩ := xMok_use (hMk j hj)
    refine Met.ofWF (cc := xMc j) (maxL := xMl j) (ret := xMr j) u3 rfl ?_
    intro p e s m args below meth c s₁ B hml hv
    obtain ⟨rfl, hsz, hP, hK, hD0, hAm⟩ := hv
    have hts := atoms_spec (ws := xWs j) B.pre
    have hown : s.vm.findClass (xMy j).cls = some m.cls := findClass_of_methodNamed B.named
    subst hsz
    have hD := hD0.self (sz := s.heap.size)
    have hF : xFr xs p l (headSpec (xWs j) (xRm (f + 1) j h.1)).room s m (vs.map (xCv ad)).toArray meth c dC dI cy aS (va_A (xW cy ad h) s.heap.size) z0 j h.1 (h.1 + xAl j) f (xM xs xAl xRk xMl xBl f) := by
      refine ⟨⟨B.exec, B.bytes, hml, by rw [← u7]; exact hown, fun w hw => hts w (List.mem_cons_of_mem _ hw), hK, B.returns, B.notSynchronized, fun k2 => ?_, hAm⟩, fun q hq => ?_, fun q hq => Or.inr hq, hzs, hMk, ih, Nat.le_refl _, Nat.le_refl _, ?_, Nat.le_refl _⟩
      · rw [(name_of_methodNamed B.named B.method).1]
        exact (u9 k2).2.1
      · rcases hq with ⟨k, e, hk⟩ | hq
        · obtain ⟨hkl, hke⟩ := xW_inv hk
          have : q = ad k := congrArg Prod.fst hke
          rw [this]
          exact hz k hkl
        · exact Nat.le_trans hzs hq
      · show h.1 + xAl j - h.1 ≤ xAl j
        omega
    rw [lg_entry_eq]
    have hJ : xJ s dC dI cy aS ad (va_A (xW cy ad h) s.heap.size) h.1 (h.1 + xAl j) (xMl j) (xEnt (xMl j) vs) [] h ad s.heap [] ((lg_sl (vs.map (xCv ad)) ++ List.replicate (xMl j - (lg_sl (vs.map (xCv ad))).length) Slot.unset).toArray) := by
      refine ⟨xLh_entry ad vs hlen, ?_, fun v hv => absurd hv List.not_mem_nil, hok, hP, hD, va_S.rf, Nat.le_refl _, Nat.le_add_right _ _, fun _ _ => rfl, haS⟩
      intro v hv
      have hv : v ∈ xSl2 vs ++ List.replicate (xMl j - (xSl2 vs).length) xU := hv
      rcases List.mem_append.mp hv with hv | hv
      · unfold xSl2 at hv
        obtain ⟨u, hu, hv⟩ := List.mem_flatMap.mp hv
        by_cases hc : u.category = 2
        · rw [if_pos hc] at hv
          rcases List.mem_cons.mp hv with rfl | hv
          · exact hvs _ hu
          · rw [List.mem_singleton.mp hv]; exact xOk_u
        · rw [if_neg hc] at hv
          rw [List.mem_singleton.mp hv]
          exact hvs _ hu
      · rw [List.eq_of_mem_replicate hv]; exact xOk_u
    have key := hE (fun pc al st h1 => ∀ (ad1 : Nat → Nat) (H : Heap) (locs : List Loc) (ls : Array Slot), xJ s dC dI cy aS ad (va_A (xW cy ad h) s.heap.size) h.1 (h.1 + xAl j) (xMl j) al st h1 ad1 H locs ls →
      W p l e (headSpec (xWs j) (xRm (f + 1) j h.1)).room s m (vs.map (xCv ad)).toArray below meth c H locs (h1.1 - h.1) (xSl h1.1 - xSl h.1) (MQ below (xPst dC dI cy aS ad h j Qp (va_A (xW cy ad h) s.heap.size)) (vs.map (xCv ad)).toArray s (xAl j) (xSl (h.1 + xAl j) - xSl h.1) (va_A (xW cy ad h) s.heap.size)) (F0 m pc ls (st.map (xCv ad1)))) ?_
    · have hg := key ad s.heap [] _ hJ
      rw [Nat.sub_self, Nat.sub_self] at hg
      exact hg
    · intro pc ep L al st h1 hmem hR ad1 H locs ls J
      have hgl : xGl j ep pc L = true := List.all_eq_true.mp (hGb j hj) _ hmem
      exact xR_snd hF (fun pc al st h ad H locs ls hk J => hk ad H locs ls J) (fun pc a b n v w ts al st h2 ad H locs ls k ins t1 t2 t3 t4 t5 t6 => x_ends hF rfl rfl t1 t2 t3 t4 t5 t6) L pc al st h1 ad1 H locs ls hgl hR J
