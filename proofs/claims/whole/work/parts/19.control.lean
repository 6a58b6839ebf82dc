/-! control: jumps, switches, ends, calls; a whole block; a whole method -/
theorem xb_rng (x : Int32) : -2147483648 ≤ x.toInt ∧ x.toInt < 2147483648 := by
  have h1 := Int32.le_toInt x
  have h2 := Int32.toInt_lt x
  omega
theorem xb_bmod {z : Int} (h1 : -2147483648 ≤ z) (h2 : z < 2147483648) : z.bmod (2 ^ 32) = z := by
  rw [Int.bmod_eq_of_le (by omega) (by omega)]
theorem xb_ofI {z : Int} (h1 : -2147483648 ≤ z) (h2 : z < 2147483648) : (Int32.ofInt z).toInt = z := by
  rw [Int32.toInt_ofInt, xb_bmod h1 h2]
theorem xb_asI (x : Int32) : Int32.ofInt x.toInt = x := Int32.ofInt_toInt x
theorem xSw_cases {K : Nat → Prop} {d : Nat} {x : Int32} : ∀ {ts : List (Int32 × Nat)}, xSw K d x ts → (∃ t, (x, t) ∈ ts ∧ K t) ∨ ((∀ q ∈ ts, q.1 ≠ x) ∧ K d)
  | [], h => Or.inr ⟨fun _ h => absurd h List.not_mem_nil, h⟩
  | (k, t) :: ts, h => by
    obtain ⟨h1, h2⟩ := h
    by_cases e : x = k
    · exact Or.inl ⟨t, by rw [e]; exact List.mem_cons_self, h1 e⟩
    · rcases xSw_cases (h2 e) with ⟨t', h3, h4⟩ | ⟨h3, h4⟩
      · exact Or.inl ⟨t', List.mem_cons_of_mem _ h3, h4⟩
      · refine Or.inr ⟨fun q hq => ?_, h4⟩
        rcases List.mem_cons.mp hq with rfl | hq
        · exact fun z => e z.symm
        · exact h3 q hq
theorem xGts_in {pc : Nat} : ∀ {offs : List Int} {ts : List (Int32 × Nat)} {lo : Int}, xGts pc lo offs ts = true → ∀ {x : Int32} {t : Nat}, (x, t) ∈ ts → ∃ (j : Nat) (o : Int), offs[j]? = some o ∧ x = Int32.ofInt (lo + j) ∧ (pc : Int) + o = (t : Int)
  | [], [], _, _, x, t, h => absurd h List.not_mem_nil
  | o :: os, (k, u) :: ts, lo, hg, x, t, h => by
    unfold xGts at hg
    simp only [Bool.and_eq_true, decide_eq_true_eq] at hg
    obtain ⟨⟨h1, h2⟩, h3⟩ := hg
    rcases List.mem_cons.mp h with e | e
    · cases e
      exact ⟨0, o, rfl, by rw [h1]; simp, h2⟩
    · obtain ⟨j, o', a1, a2, a3⟩ := xGts_in h3 e
      exact ⟨j + 1, o', a1, by rw [a2]; congr 1; push_cast; omega, a3⟩
  | [], _ :: _, _, hg, _, _, _ => absurd hg (by simp [xGts])
  | _ :: _, [], _, hg, _, _, _ => absurd hg (by simp [xGts])
theorem xGts_all {pc : Nat} : ∀ {offs : List Int} {ts : List (Int32 × Nat)} {lo : Int}, xGts pc lo offs ts = true → ∀ {j : Nat}, j < offs.length → ∃ t, (Int32.ofInt (lo + j), t) ∈ ts
  | [], [], _, _, j, h => absurd h (Nat.not_lt_zero _)
  | o :: os, (k, u) :: ts, lo, hg, j, h => by
    unfold xGts at hg
    simp only [Bool.and_eq_true, decide_eq_true_eq] at hg
    obtain ⟨⟨h1, h2⟩, h3⟩ := hg
    cases j with
    | zero => exact ⟨u, by rw [h1]; simp⟩
    | succ j =>
      obtain ⟨t, ht⟩ := xGts_all h3 (j := j) (by simpa using h)
      refine ⟨t, List.mem_cons_of_mem _ ?_⟩
      rw [show lo + ((j + 1 : Nat) : Int) = lo + 1 + (j : Int) by push_cast; omega]
      exact ht
  | [], _ :: _, _, hg, _, _ => absurd hg (by simp [xGts])
  | _ :: _, [], _, hg, _, _ => absurd hg (by simp [xGts])
theorem xGlu_ok {pc d : Nat} {dflt : Int} (hd : (pc : Int) + dflt = (d : Int)) {K : Nat → Prop} {x : Int32} : ∀ {ps : List (Int × Int)} {ts : List (Int32 × Nat)}, xGlu pc ps ts = true → xSw K d x ts → ∃ tgt : Nat, (pc : Int) + Op.lookupswitch.offset ps dflt x.toInt = (tgt : Int) ∧ K tgt
  | [], [], _, h => ⟨d, hd, h⟩
  | (q, o) :: os, (k, t) :: ts, hg, h => by
    unfold xGlu at hg
    simp only [Bool.and_eq_true, decide_eq_true_eq] at hg
    obtain ⟨⟨⟨⟨h1, h2⟩, h3⟩, h4⟩, h5⟩ := hg
    rw [Op.lookupswitch.offset_cons]
    by_cases e : q = x.toInt
    · rw [if_pos e]
      exact ⟨t, h4, h.1 (by rw [h1, e, xb_asI])⟩
    · rw [if_neg e]
      refine xGlu_ok hd h5 (h.2 fun z => e ?_)
      rw [z, h1, xb_ofI h2 h3]
  | [], _ :: _, hg, _ => absurd hg (by simp [xGlu])
  | _ :: _, [], hg, _ => absurd hg (by simp [xGlu])
def xCt : Instr → Bool
  | .goto _ => true
  | .ifCond _ _ => true
  | .if_icmp _ _ => true
  | .tableswitch _ _ _ _ => true
  | .lookupswitch _ _ => true
  | .ireturn => true
  | .lreturn => true
  | .return_ => true
  | .invokevirtual _ => true
  | .invokestatic _ => true
  | .invokespecial _ => true
  | _ => false
theorem xStep_simple {xs : xSc} {al rk : Nat → Nat} {C : xT} {lim : Nat} {K : Nat → List Value → List Value → xHp → Prop} {Q : Value → xHp → Prop} {a b : Nat} {v : Int32} {w : Int64} {ts : List (Int32 × Nat)} {ls st : List Value} {h : xHp} {k : List Value → List Value → xHp → Prop} {ins : Instr} (hct : xCt ins = false)
    (hs : xStep xs al rk C lim K Q a b v w ts ls st h k ins) : ∃ c ls' st' h', xS xs lim ls st h a b v w ins = some (c, ls', st', h') ∧ c ∧ k ls' st' h' := by
  have hs2 : (match xS xs lim ls st h a b v w ins with
    | some (c, ls, st, h) => c ∧ k ls st h
    | none => False) := by
    cases ins <;> first | exact hs | exact Bool.noConfusion hct
  cases e : xS xs lim ls st h a b v w ins with
  | none => rw [e] at hs2; exact hs2.elim
  | some q =>
    obtain ⟨c, ls', st', h'⟩ := q
    rw [e] at hs2
    exact ⟨c, ls', st', h', rfl, hs2.1, hs2.2⟩
section XC
variable {xs : xSc} {p : Program} {l : Launch} {e : Env} {R : Room} {s : State} {m : MethodId} {args : Array Value} {below : List Frame} {meth : Method} {c : Code} {Q : State → Prop}
variable {dC : Nat → ClassId} {dI : Nat → Nat → Nat} {cy : Nat → ClassId} {aS ad0 : Nat → Nat} {A : Nat → Prop} {z0 i b0 lim pc a b n f : Nat} {al st : List Value} {h : xHp} {ad : Nat → Nat} {H : Heap} {locs : List Loc} {ls : Array Slot} {v : Int32} {w : Int64} {ts : List (Int32 × Nat)} {C : xT}
/-- a frame that may call -/
def xFr (xs : xSc) (p : Program) (l : Launch) (R : Room) (s : State) (m : MethodId) (args : Array Value) (meth : Method) (c : Code) (dC : Nat → ClassId) (dI : Nat → Nat → Nat) (cy : Nat → ClassId) (aS : Nat → Nat) (A : Nat → Prop) (z0 i b0 lim f : Nat) (C : xT) : Prop :=
  xCx xs p s m args meth c dC dI cy aS z0 i ∧ (∀ q, A q → z0 ≤ q) ∧ (∀ q, s.heap.size ≤ q → A q) ∧ z0 ≤ s.heap.size ∧ (∀ j, j < xNM → xMok j = true) ∧ xHas xs l dC dI cy aS z0 f C ∧ f + 1 ≤ R.frames ∧ 200 * (f + 1) ≤ R.locals ∧ lim - b0 ≤ R.cells ∧ xSl lim - xSl b0 ≤ R.slots
theorem x_jump {off : Int} (F : xFr xs p l R s m args meth c dC dI cy aS A z0 i b0 lim f C) (hd : decode (xMc i) pc = .ok (.goto off, n)) (hn : n = xLen (.goto off)) (hk : (pc : Int) + off = (a : Int))
    (kk : W p l e R s m args below meth c H locs (h.1 - b0) (xSl h.1 - xSl b0) Q (F0 m a ls (st.map (xCv ad)))) : W p l e R s m args below meth c H locs (h.1 - b0) (xSl h.1 - xSl b0) Q (F0 m pc ls (st.map (xCv ad))) := by
  have hn : n = 3 := hn
  subst hn
  exact lv_goto F.1.1 F.1.2.1 hd hk kk
theorem x_icmp {cn : ClassFile.Cond} {off : Int} {x y : Int32} {rest : List Value} {cells slots : Nat} (F : xFr xs p l R s m args meth c dC dI cy aS A z0 i b0 lim f C) (hd : decode (xMc i) pc = .ok (.if_icmp cn off, 3)) (hk : (pc : Int) + off = (a : Int))
    (k1 : xC cn x y → W p l e R s m args below meth c H locs cells slots Q (F0 m a ls rest)) (k2 : ¬ xC cn x y → W p l e R s m args below meth c H locs cells slots Q (F0 m (pc + 3) ls rest)) : W p l e R s m args below meth c H locs cells slots Q (F0 m pc ls (.int y :: .int x :: rest)) := by
  have hx := F.1.1
  have hb := F.1.2.1
  cases cn with
  | eq => exact lv_icmp_eq hx hb hd hk k1 k2
  | ne => exact lv_icmp_ne hx hb hd hk k1 (fun e => k2 (fun z => z e))
  | lt => exact lv_icmp_lt hx hb hd hk k1 k2
  | ge => exact lv_icmp_ge hx hb hd hk k1 k2
  | gt => exact lv_icmp_gt hx hb hd hk k1 k2
  | le => exact lv_icmp_le hx hb hd hk k1 k2
theorem x_if {cn : ClassFile.Cond} {off : Int} {x : Int32} {rest : List Value} {cells slots : Nat} (F : xFr xs p l R s m args meth c dC dI cy aS A z0 i b0 lim f C) (hd : decode (xMc i) pc = .ok (.ifCond cn off, 3)) (hk : (pc : Int) + off = (a : Int))
    (k1 : xC cn x 0 → W p l e R s m args below meth c H locs cells slots Q (F0 m a ls rest)) (k2 : ¬ xC cn x 0 → W p l e R s m args below meth c H locs cells slots Q (F0 m (pc + 3) ls rest)) : W p l e R s m args below meth c H locs cells slots Q (F0 m pc ls (.int x :: rest)) := by
  have hx := F.1.1
  have hb := F.1.2.1
  cases cn with
  | eq => exact lv_if_eq hx hb hd hk k1 k2
  | ne => exact lv_if_ne hx hb hd hk k1 (fun e => k2 (fun z => z e))
  | lt => exact lv_if_lt hx hb hd hk k1 k2
  | ge => exact lv_if_ge hx hb hd hk k1 k2
  | gt => exact lv_if_gt hx hb hd hk k1 k2
  | le => exact lv_if_le hx hb hd hk k1 k2
theorem x_table {d lo hi : Int} {offs : Array Int} {x : Int32} {rest : List Value} {cells slots : Nat} (F : xFr xs p l R s m args meth c dC dI cy aS A z0 i b0 lim f C) (hd : decode (xMc i) pc = .ok (.tableswitch d lo hi offs, n)) (hk : (pc : Int) + d = (a : Int)) (hg : xGts pc lo offs.toList ts = true) (hhi : hi = lo + offs.toList.length - 1) (hlo : -2147483648 ≤ lo) (hhi2 : hi < 2147483648)
    {K : Nat → Prop} (hs : xSw K a x ts) (kk : ∀ t, K t → W p l e R s m args below meth c H locs cells slots Q (F0 m t ls rest)) : W p l e R s m args below meth c H locs cells slots Q (F0 m pc ls (.int x :: rest)) := by
  have hx := F.1.1
  have hb := F.1.2.1
  rcases xSw_cases hs with ⟨t, h1, h2⟩ | ⟨h1, h2⟩
  · obtain ⟨j, o, a1, a2, a3⟩ := xGts_in hg h1
    have hj := (List.getElem?_eq_some_iff.mp a1).1
    have hx2 : x.toInt = lo + j := by rw [a2, xb_ofI (by omega) (by omega)]
    exact lv_tableIn hx hb hd (by omega) (by omega) (by rw [show (x.toInt - lo).toNat = j by omega, ← Array.getElem?_toList]; exact a1) a3 (kk t h2)
  · refine lv_tableOut hx hb hd ?_ hk (kk a h2)
    rcases Int.lt_or_le x.toInt lo with z | z
    · exact Or.inl z
    · rcases Int.lt_or_le hi x.toInt with y | y
      · exact Or.inr y
      · exfalso
        obtain ⟨t, ht⟩ := xGts_all hg (j := (x.toInt - lo).toNat) (by omega)
        rw [show lo + ((x.toInt - lo).toNat : Int) = x.toInt by omega, xb_asI] at ht
        exact h1 _ ht rfl
theorem x_lookup {d : Int} {ps : Array (Int × Int)} {x : Int32} {rest : List Value} {cells slots : Nat} (F : xFr xs p l R s m args meth c dC dI cy aS A z0 i b0 lim f C) (hd : decode (xMc i) pc = .ok (.lookupswitch d ps, n)) (hk : (pc : Int) + d = (a : Int)) (hg : xGlu pc ps.toList ts = true) (hso : (ps.toList.zip (ps.toList.drop 1)).all (fun q => decide (q.1.1 < q.2.1)) = true)
    {K : Nat → Prop} (hs : xSw K a x ts) (kk : ∀ t, K t → W p l e R s m args below meth c H locs cells slots Q (F0 m t ls rest)) : W p l e R s m args below meth c H locs cells slots Q (F0 m pc ls (.int x :: rest)) := by
  obtain ⟨t, h1, h2⟩ := xGlu_ok hk hg hs
  exact lv_lookup F.1.1 F.1.2.1 hd hso rfl h1 (kk t h2)
/-- the method's end -/
theorem x_end {Qp : Value → xHp → Prop} {adI : Nat → Nat} {hI : xHp} (F : xFr xs p l R s m args meth c dC dI cy aS A z0 i b0 lim f C) (hI1 : hI.1 = b0) (hlim : lim = b0 + xAl i) (hadI : adI = ad0) (J : xJ s dC dI cy aS ad0 A b0 lim (xMl i) al st h ad H locs ls) {r : Value} (hq : Qp r h) (hr : xNr r) (hl : h.1 = lim)
    {pc2 : Nat} {stk : List Value} (hend : ∀ {Qc : Array Value → State → Outcome → State → Prop} {fr : Addr → Prop}, (∀ t : State, t.heap = H → s.WarmedH t.vm → Qc args s (.returned (xRv r)) t) → (∀ q ∈ locs, fr q.base) → W p l e R s m args below meth c H locs (h.1 - b0) (xSl h.1 - xSl b0) (MQ below Qc args s (h.1 - b0) (xSl h.1 - xSl b0) fr) (F0 m pc2 ls stk)) :
    W p l e R s m args below meth c H locs (h.1 - b0) (xSl h.1 - xSl b0) (MQ below (xPst dC dI cy aS adI hI i Qp A) args s (xAl i) (xSl (b0 + xAl i) - xSl b0) A) (F0 m pc2 ls stk) := by
  obtain ⟨j1, j2, j3, j4, j5, j6, j7, j8, j9, j10, j11⟩ := J
  have e1 : xAl i = h.1 - b0 := by omega
  have e2 : b0 + xAl i = h.1 := by omega
  rw [e2, e1]
  subst hadI
  exact hend (fun t ht hW => ⟨⟨r, h, ad, rfl, hq, hr, by omega, j4, fun p hp => j10 p (by omega), j11, by rw [ht]; exact j5, j6⟩, j7.F ht⟩) j7.2.2
end XC
