/-! calls; a whole block; a whole method -/
theorem xMlk_use {own ix a : Nat} (h : (own, ix, a) ∈ xMlk) : Cond.methodLink (xCn own) ix (xMy a) ∈ xBW ∧ a < xNM := by
  unfold xMlk at h
  obtain ⟨q, hq, e⟩ := List.mem_map.mp h
  have h1 := List.all_eq_true.mp xMlk4_ok q hq
  simp only [Bool.and_eq_true, decide_eq_true_eq] at h1
  cases e
  exact ⟨xInK_ok h1.1, h1.2⟩
theorem xNlk_use {own ix a : Nat} (h : (own, ix, a) ∈ xNlk) : a < xNM := by
  have h1 := List.all_eq_true.mp xNlk_ok _ h
  simp only [Bool.and_eq_true, decide_eq_true_eq] at h1
  exact h1.2
theorem xInv_call {al rk : Nat → Nat} {C : xT} {lim a b : Nat} {st : List Value} {h : xHp} {k : List Value → xHp → Prop} (ha : a < xNM) (hi : xInv al rk C lim a b st h k) : b ≤ st.length ∧ ((st.drop b).map fun v => v.category).sum ≤ 8 ∧ h.1 + al a ≤ lim ∧ (rk a = 99 ∨ ∃ p, (st.take b).reverse.head? = some (.ref p) ∧ xRcv (rk a) h.1 p) ∧
    C a (st.take b).reverse h (fun r h1 => k (xPush r (st.drop b)) h1) := by
  have ha : a < 199 := ha
  unfold xInv at hi
  rw [if_neg (by omega), if_neg (by omega), if_neg (by omega), if_neg (by omega), if_neg (by omega)] at hi
  exact hi
theorem x_catmap (ad : Nat → Nat) (l : List Value) : (((l.map (xCv ad)).map fun v => v.category)).sum = (l.map fun v => v.category).sum := by
  rw [List.map_map]
  congr 1
  exact List.map_congr_left fun v _ => xCv_cat ad v
theorem x_stack (ad : Nat → Nat) (st : List Value) (b : Nat) : st.map (xCv ad) = ((st.take b).reverse.map (xCv ad)).reverse ++ (st.drop b).map (xCv ad) := by
  rw [← List.map_reverse, List.reverse_reverse, ← List.map_append, List.take_append_drop]
theorem x_nlen {j : Nat} {sig : MethodDescriptor} {k : Nat} (h : (parseMethodDescriptor (xMy j).desc).map (fun d => d.parameters.length) = some k) (hs : parseMethodDescriptor (xMy j).desc = some sig) : k = sig.parameters.length := by
  rw [hs] at h
  exact (Option.some.inj h).symm
section XI
variable {xs : xSc} {p : Program} {l : Launch} {e : Env} {R : Room} {s : State} {m : MethodId} {args : Array Value} {below : List Frame} {meth : Method} {c : Code} {Q : State → Prop}
variable {dC : Nat → ClassId} {dI : Nat → Nat → Nat} {cy : Nat → ClassId} {aS ad0 : Nat → Nat} {A : Nat → Prop} {z0 i b0 lim pc a b n f : Nat} {al st : List Value} {h : xHp} {ad : Nat → Nat} {H : Heap} {locs : List Loc} {ls : Array Slot} {v : Int32} {w : Int64} {ts : List (Int32 × Nat)} {C : xT} {k : List Value → xHp → Prop}
set_option maxHeartbeats 1000000 in
theorem x_virtual {ix : Nat} (F : xFr xs p l R s m args meth c dC dI cy aS A z0 i b0 lim f C) (hd : decode (xMc i) pc = .ok (.invokevirtual ix, 3)) (hk : (xMo i, ix, a) ∈ xMlk) (hk0 : xMk a = 0) (hkb : xMa a = b) (hI : xInv xAl xRk C lim a b st h k) (J : xJ s dC dI cy aS ad0 A b0 lim (xMl i) al st h ad H locs ls)
    (kk : ∀ (ad' : Nat → Nat) (H' : Heap) (locs' : List Loc) (st' : List Value) (h' : xHp), k st' h' → xJ s dC dI cy aS ad0 A b0 lim (xMl i) al st' h' ad' H' locs' ls → W p l e R s m args below meth c H' locs' (h'.1 - b0) (xSl h'.1 - xSl b0) Q (F0 m (pc + 3) ls (st'.map (xCv ad')))) :
    W p l e R s m args below meth c H locs (h.1 - b0) (xSl h.1 - xSl b0) Q (F0 m pc ls (st.map (xCv ad))) := by
  obtain ⟨X, hAz, hAs, hz0, hMk, hC, hRf, hRl, hRc, hRs⟩ := F
  obtain ⟨hl, ha⟩ := xMlk_use hk
  obtain ⟨hb, hcat, hlim, hrcv, hCj⟩ := xInv_call ha hI
  have hM := hMk a ha
  obtain ⟨u1, u2, u3, u4, u5, u6, u7, u8, u9, -⟩ := xMok_use hM
  obtain ⟨v1, v2, v3, v4⟩ := u9 hk0
  rw [if_neg (by omega)] at u6
  have hno : ¬ xRk a = 99 := by omega
  obtain ⟨p0, hp0, hrc⟩ := hrcv.resolve_left hno
  obtain ⟨p0, rfl⟩ : ∃ q2 : Nat, q2 = p0 := ⟨_, rfl⟩
  obtain ⟨As, hAs0⟩ : ∃ As, (st.take b).reverse = .ref p0 :: As := by
    cases hz : (st.take b).reverse with
    | nil => rw [hz] at hp0; cases hp0
    | cons x As => rw [hz] at hp0; cases hp0; exact ⟨As, rfl⟩
  have hlen : As.length = xMa a - 1 := by
    have := congrArg List.length hAs0
    simp only [List.length_reverse, List.length_take, List.length_cons] at this
    omega
  obtain ⟨hx, hcb, hml, hown, hts, hK, hret, hlocks, hini, hAm⟩ := id X
  have hrecv : ∃ cell : Cell, H[ad p0]? = some cell ∧ cell.vm.isStatics = false ∧ s.vm.findClass (xMy a).cls = some cell.cls := by
    rcases v4 with ⟨z1, z2⟩ | ⟨z1, z2⟩
    · have hp1 : xKd p0 = xRk a ∧ p0 < h.1 := by
        rcases hrc with z | ⟨z, -⟩ | ⟨-, z⟩
        · omega
        · omega
        · exact z
      have hcell : (xW cy ad h)[p0]? = some (ad p0, .inr (xRk a, (List.range (xLn p0)).map (fun k => xCv ad (xVal h p0 k (xFt (xKd p0) k))))) := by
        rw [xW_get hp1.2]
        unfold xCe
        rw [if_pos (by omega), hp1.1]
      rw [z2]
      exact va_recv hK J.2.2.2.2.1 (xCl_at _ z1) hcell
    · have hp1 : 1000 ≤ p0 ∧ p0 < 1013 := by
        rcases hrc with z | ⟨-, z⟩ | ⟨z, -⟩
        · omega
        · exact z
        · omega
      rw [z2, x_ad1 J.2.2.2.2.2.2.2.2.2.2 hp1.1]
      have h13 : p0 - 1000 < 13 := by omega
      obtain ⟨cell, e1, e2, e3⟩ := vk_recv (hAm.1.narrow hAz) h13 J.2.2.2.2.2.2.1
      exact ⟨cell, e1, e2, e3⟩
  refine x_goes X hAz hAs hz0 hM hC hRf hRl hRc hRs ha hb hlim hCj J (fun Pc Qc free hMet hbl hpre hfr hlo hws hcw hf => ?_) (fun r h' ad' H1 locs1 q1 J2 => kk ad' H1 locs1 _ h' q1 J2)
  rw [x_stack ad st b, hAs0] at *
  rw [hAs0] at hpre ⊢
  exact va_runV (C := (xMy a).cls) (b := ad p0) (As := As.map (xCv ad)) (n := xMa a - 1) ⟨hx, hcb, hml, hown, hts⟩ hMet ⟨⟨rfl, rfl, hfr, hlo, hws, hcw, hts _ u1, hts _ u2, ⟨u4, u5⟩, fun sig hs => x_nlen u6 hs, hts _ hl⟩, hts _ v2, hts _ v3⟩ ⟨hbl, hrecv, hpre⟩ rfl (by rw [List.length_map]; exact hlen) J.1.1 (by simp [xCv]) (lv_room (by rw [x_catmap]; exact hcat)) hd hf
set_option maxHeartbeats 1000000 in
theorem x_static {ix : Nat} (F : xFr xs p l R s m args meth c dC dI cy aS A z0 i b0 lim f C) (hd : decode (xMc i) pc = .ok (.invokestatic ix, 3)) (hk : (xMo i, ix, a) ∈ xMlk ∨ (xMo i, ix, a) ∈ xNlk) (hk0 : xMk a = 1) (hkb : xMa a = b) (hI : xInv xAl xRk C lim a b st h k) (J : xJ s dC dI cy aS ad0 A b0 lim (xMl i) al st h ad H locs ls)
    (kk : ∀ (ad' : Nat → Nat) (H' : Heap) (locs' : List Loc) (st' : List Value) (h' : xHp), k st' h' → xJ s dC dI cy aS ad0 A b0 lim (xMl i) al st' h' ad' H' locs' ls → W p l e R s m args below meth c H' locs' (h'.1 - b0) (xSl h'.1 - xSl b0) Q (F0 m (pc + 3) ls (st'.map (xCv ad')))) :
    W p l e R s m args below meth c H locs (h.1 - b0) (xSl h.1 - xSl b0) Q (F0 m pc ls (st.map (xCv ad))) := by
  obtain ⟨X, hAz, hAs, hz0, hMk, hC, hRf, hRl, hRc, hRs⟩ := F
  have ha : a < xNM := hk.elim (fun z => (xMlk_use z).2) xNlk_use
  obtain ⟨hb, hcat, hlim, hrcv, hCj⟩ := xInv_call ha hI
  have hM := hMk a ha
  obtain ⟨u1, u2, u3, u4, u5, u6, u7, u8, -, u9, -⟩ := xMok_use hM
  have v1 := u9 hk0
  rw [if_pos hk0] at u6
  have hlen : ((st.take b).reverse.map (xCv ad)).length = xMa a := by
    rw [List.length_map, List.length_reverse, List.length_take]
    omega
  obtain ⟨hx, hcb, hml, hown, hts, hK, hret, hlocks, hini, hAm⟩ := id X
  refine x_goes X hAz hAs hz0 hM hC hRf hRl hRc hRs ha hb hlim hCj J (fun Pc Qc free hMet hbl hpre hfr hlo hws hcw hf => ?_) (fun r h' ad' H1 locs1 q1 J2 => kk ad' H1 locs1 _ h' q1 J2)
  rcases hk with hk | hk
  rotate_left
  have hnl1 : va_Nw (.methodLinkNest (xCn (xMo i)) ix (xMy a) "TepidByTreaty") s := hAm.2.2.2.2.2.1 (xMo i, ix, a) hk
  have hnl : (Cond.methodLinkNest (xCn (xMo i)) ix (xMy a) "TepidByTreaty").before args s = true := va_Nw.use rfl hnl1
  rotate_left
  · exact va_runS (As := (st.take b).reverse.map (xCv ad)) (n := xMa a) ⟨hx, hcb, hml, hown, hts⟩ hMet ⟨⟨rfl, rfl, hfr, hlo, hws, hcw, hts _ u1, hts _ u2, ⟨u4, u5⟩, fun sig hs => x_nlen u6 hs, hts _ (xMlk_use hk).1⟩, hts _ v1⟩ ⟨hbl, hpre⟩ rfl hlen J.1.1 (x_stack ad st b) (lv_room (by rw [x_catmap]; exact hcat)) hd hf
  · exact va_runSN (host := "TepidByTreaty") (As := (st.take b).reverse.map (xCv ad)) (n := xMa a) ⟨hx, hcb, hml, hown, hts⟩ hMet ⟨⟨⟨rfl, rfl, hfr, hlo, hws, hcw⟩, hts _ u1, hts _ u2, ⟨u4, u5⟩, fun sig hs => x_nlen u6 hs, hnl⟩, hts _ v1, trivial⟩ ⟨hbl, hpre⟩ rfl hlen J.1.1 (x_stack ad st b) (lv_room (by rw [x_catmap]; exact hcat)) hd hf
set_option maxHeartbeats 1000000 in
theorem x_init {ix : Nat} (F : xFr xs p l R s m args meth c dC dI cy aS A z0 i b0 lim f C) (hd : decode (xMc i) pc = .ok (.invokespecial ix, 3)) (hk : (xMo i, ix, a) ∈ xMlk ∨ (xMo i, ix, a) ∈ xNlk) (hk0 : xMk a = 2) (hkb : xMa a = b) (hI : xInv xAl xRk C lim a b st h k) (J : xJ s dC dI cy aS ad0 A b0 lim (xMl i) al st h ad H locs ls)
    (kk : ∀ (ad' : Nat → Nat) (H' : Heap) (locs' : List Loc) (st' : List Value) (h' : xHp), k st' h' → xJ s dC dI cy aS ad0 A b0 lim (xMl i) al st' h' ad' H' locs' ls → W p l e R s m args below meth c H' locs' (h'.1 - b0) (xSl h'.1 - xSl b0) Q (F0 m (pc + 3) ls (st'.map (xCv ad')))) :
    W p l e R s m args below meth c H locs (h.1 - b0) (xSl h.1 - xSl b0) Q (F0 m pc ls (st.map (xCv ad))) := by
  obtain ⟨X, hAz, hAs, hz0, hMk, hC, hRf, hRl, hRc, hRs⟩ := F
  have ha : a < xNM := hk.elim (fun z => (xMlk_use z).2) xNlk_use
  obtain ⟨hb, hcat, hlim, hrcv, hCj⟩ := xInv_call ha hI
  have hM := hMk a ha
  obtain ⟨u1, u2, u3, u4, u5, u6, u7, u8, -, -, u9⟩ := xMok_use hM
  obtain ⟨v1, v2, v3, v4, v5⟩ := u9 hk0
  rw [if_neg (by omega)] at u6
  have hno : ¬ xRk a = 99 := by omega
  obtain ⟨p0, hp0, hrc⟩ := hrcv.resolve_left hno
  obtain ⟨p0, rfl⟩ : ∃ q2 : Nat, q2 = p0 := ⟨_, rfl⟩
  obtain ⟨As, hAs0⟩ : ∃ As, (st.take b).reverse = .ref p0 :: As := by
    cases hz : (st.take b).reverse with
    | nil => rw [hz] at hp0; cases hp0
    | cons x As => rw [hz] at hp0; cases hp0; exact ⟨As, rfl⟩
  have hlen : As.length = xMa a - 1 := by
    have := congrArg List.length hAs0
    simp only [List.length_reverse, List.length_take, List.length_cons] at this
    omega
  obtain ⟨hx, hcb, hml, hown, hts, hK, hret, hlocks, hini, hAm⟩ := id X
  refine x_goes X hAz hAs hz0 hM hC hRf hRl hRc hRs ha hb hlim hCj J (fun Pc Qc free hMet hbl hpre hfr hlo hws hcw hf => ?_) (fun r h' ad' H1 locs1 q1 J2 => kk ad' H1 locs1 _ h' q1 J2)
  rw [x_stack ad st b, hAs0] at *
  rw [hAs0] at hpre ⊢
  rw [v4] at hcw u1
  rcases hk with hk | hk
  rotate_left
  have hnl1 : va_Nw (.methodLinkNest (xCn (xMo i)) ix (xMy a) "TepidByTreaty") s := hAm.2.2.2.2.2.1 (xMo i, ix, a) hk
  have hnl : (Cond.methodLinkNest (xCn (xMo i)) ix (xMy a) "TepidByTreaty").before args s = true := va_Nw.use rfl hnl1
  rotate_left
  · exact va_runI (b := ad p0) (As := As.map (xCv ad)) (n := xMa a - 1) ⟨hx, hcb, hml, hown, hts⟩ hMet ⟨⟨rfl, rfl, hfr, hlo, hws, hcw, hts _ u1, hts _ u2, ⟨u4, u5⟩, fun sig hs => x_nlen u6 hs, hts _ (xMlk_use hk).1⟩, v2, hts _ v3⟩ ⟨hbl, hpre⟩ rfl (by rw [List.length_map]; exact hlen) J.1.1 (by simp [xCv]) (lv_room (by rw [x_catmap]; exact hcat)) hd hf
  · exact va_runIN (host := "TepidByTreaty") (b := ad p0) (As := As.map (xCv ad)) (n := xMa a - 1) ⟨hx, hcb, hml, hown, hts⟩ hMet ⟨⟨⟨rfl, rfl, hfr, hlo, hws, hcw⟩, hts _ u1, hts _ u2, ⟨u4, u5⟩, fun sig hs => x_nlen u6 hs, hnl⟩, v2, hts _ v3⟩ ⟨hbl, hpre⟩ rfl (by rw [List.length_map]; exact hlen) J.1.1 (by simp [xCv]) (lv_room (by rw [x_catmap]; exact hcat)) hd hf
/-- Object.<init> -/
theorem x_objInit {ix : Nat} (F : xFr xs p l R s m args meth c dC dI cy aS A z0 i b0 lim f C) (hd : decode (xMc i) pc = .ok (.invokespecial ix, 3)) (hk : (xMo i, ix) ∈ xObl) (ha : a = 999) (hI : xInv xAl xRk C lim a b st h k) (J : xJ s dC dI cy aS ad0 A b0 lim (xMl i) al st h ad H locs ls)
    (kk : ∀ (ad' : Nat → Nat) (H' : Heap) (locs' : List Loc) (st' : List Value) (h' : xHp), k st' h' → xJ s dC dI cy aS ad0 A b0 lim (xMl i) al st' h' ad' H' locs' ls → W p l e R s m args below meth c H' locs' (h'.1 - b0) (xSl h'.1 - xSl b0) Q (F0 m (pc + 3) ls (st'.map (xCv ad')))) :
    W p l e R s m args below meth c H locs (h.1 - b0) (xSl h.1 - xSl b0) Q (F0 m pc ls (st.map (xCv ad))) := by
  obtain ⟨X, hAz, hAs, hz0, hMk, hC, hRf, hRl, hRc, hRs⟩ := F
  obtain ⟨hx, hcb, hml, hown, hts, hK, hret, hlocks, hini, hAm⟩ := id X
  unfold xInv at hI
  rw [if_pos ha] at hI
  have hl := List.all_eq_true.mp xObl_ok _ hk
  have ho := xOb_ok
  simp only [Bool.and_eq_true] at ho
  split at hI
  · rename_i p0 rest
    have hg := kk ad H locs rest h hI.2 (J.stk J.2.2.1.tail)
    have hs8 : ((rest.map (xCv ad)).map fun v => v.category).sum ≤ 8 := by rw [x_catmap]; exact hI.1
    have hmr : (F0 m pc ls (List.map (xCv ad) (Value.ref p0 :: rest))).monitorRoom = 0 := rfl
    refine W.objInit hx hcb hown (hts _ (xIn_ok hl)) (hts _ (xIn_ok ho.1)) (hts _ (xIn_ok ho.2)) rfl (by rw [hml]; exact J.1.1) rfl hd (by omega) (by omega) ?_
    exact hg
  · exact hI.elim
/-- System.arraycopy, Math.max, Math.min -/
theorem x_lib {ix : Nat} (F : xFr xs p l R s m args meth c dC dI cy aS A z0 i b0 lim f C) (hd : decode (xMc i) pc = .ok (.invokestatic ix, 3)) (hk : a = 998 ∧ (xMo i, ix) ∈ xCpl ∨ (a = 996 ∨ a = 995) ∧ (xMo i, ix, a) ∈ xMml) (hI : xInv xAl xRk C lim a b st h k) (J : xJ s dC dI cy aS ad0 A b0 lim (xMl i) al st h ad H locs ls)
    (kk : ∀ (ad' : Nat → Nat) (H' : Heap) (locs' : List Loc) (st' : List Value) (h' : xHp), k st' h' → xJ s dC dI cy aS ad0 A b0 lim (xMl i) al st' h' ad' H' locs' ls → W p l e R s m args below meth c H' locs' (h'.1 - b0) (xSl h'.1 - xSl b0) Q (F0 m (pc + 3) ls (st'.map (xCv ad')))) :
    W p l e R s m args below meth c H locs (h.1 - b0) (xSl h.1 - xSl b0) Q (F0 m pc ls (st.map (xCv ad))) := by
  obtain ⟨X, hAz, hAs, hz0, hMk, hC, hRf, hRl, hRc, hRs⟩ := F
  obtain ⟨hx, hcb, hml, hown, hts, hK, hret, hlocks, hini, hAm⟩ := id X
  have hsl1 := xSl_mono J.2.2.2.2.2.2.2.1
  have hsl2 := xSl_mono J.2.2.2.2.2.2.2.2.1
  have hle1 := J.2.2.2.2.2.2.2.1
  have hle2 := J.2.2.2.2.2.2.2.2.1
  have hlsz : c.maxLocals = ls.size := by rw [hml]; exact J.1.1.symm
  unfold xInv at hI
  rcases hk with ⟨ha, hk⟩ | ⟨ha, hk⟩
  · rw [if_neg (by omega), if_pos ha] at hI
    have hl := List.all_eq_true.mp xCpl_ok _ hk
    have ho := xCp_ok
    simp only [Bool.and_eq_true] at ho
    cases hz : xCpy st h with
    | none => rw [hz] at hI; exact hI.elim
    | some q =>
      obtain ⟨cd, st', h'⟩ := q
      rw [hz] at hI
      obtain ⟨hc, hI⟩ := hI
      unfold xCpy at hz
      split at hz
      · rename_i st0 n0 dp q0 sp p0 rest
        obtain ⟨q0, rfl⟩ : ∃ q2 : Nat, q2 = q0 := ⟨_, rfl⟩
        obtain ⟨p0, rfl⟩ : ∃ q2 : Nat, q2 = p0 := ⟨_, rfl⟩
        unfold xCp2 at hz
        cases hz
        obtain ⟨⟨c1, c2, c3, c4⟩, ⟨c5, c6, c7⟩, c8, c9, c10⟩ := hc
        have hcell0 : (xW cy ad h)[p0]? = some (ad p0, .inl (cy 7, xLn p0, .inl (h.2.1 p0))) := by
          rw [xW_get c3]; unfold xCe; rw [if_neg (by omega), if_pos (by omega), c1]
        have hcell1 : (xW cy ad h)[q0]? = some (ad q0, .inl (cy 7, xLn q0, .inl (h.2.1 q0))) := by
          rw [xW_get c4]; unfold xCe; rw [if_neg (by omega), if_pos (by omega), c2]
        refine va_copyi hx hcb hlsz hown (hts _ (xIn_ok hl)) (hts _ (xIn_ok ho.1.1)) (hts _ (xIn_ok ho.1.2)) (hts _ (xIn_ok ho.2)) hK J.2.2.2.2.1 J.2.2.2.2.2.1 J.2.2.2.2.2.2.1 p0 q0 0 0 hcell0 hcell1 rfl rfl rfl c5 c6 c7 c8 c9 (fun _ _ => rfl) (by omega) ?_ hd (fun H1 locs1 hP hD hS1 => ?_)
        · have : nativeFrameWords "java/lang/System" "arraycopy" 5 ≤ 100 := by decide +kernel
          rw [x_catmap]
          omega
        · have hset : (xW cy ad h).set q0 (ad q0, .inl (cy 7, xLn q0, .inl (va_cpy (h.2.1 p0) (h.2.1 q0) sp.toNatClampNeg dp.toNatClampNeg n0.toNatClampNeg))) = xW cy ad (h.1, va_up h.2.1 q0 (va_cpy (h.2.1 p0) (h.2.1 q0) sp.toNatClampNeg dp.toNatClampNeg n0.toNatClampNeg), h.2.2.1, h.2.2.2) := by
            refine xW_set c4 rfl ?_ (fun r hr => ?_)
            · unfold xCe
              rw [if_neg (by omega), if_pos (by omega), c2]
              simp [va_up]
            · unfold xCe
              by_cases z7 : xKd r < 7
              · rw [if_pos z7, if_pos z7]
                refine congrArg (fun f => Sum.inr (xKd r, f)) (List.map_congr_left fun k _ => ?_)
                cases xFt (xKd r) k <;> simp [xVal, va_up, hr]
              · simp [z7, va_up, hr]
          rw [hset] at hP hD
          obtain ⟨j1, j2, j3, j4, j5, j6, j7, j8, j9, j10, j11⟩ := J
          have hg := kk ad H1 locs1 _ _ hI
          exact hg ⟨j1, j2, j3.tail.tail.tail.tail.tail, fun a b q hq => j4 a b q hq, hP, hD, hS1, j8, j9, j10, j11⟩
      · cases hz
  · have hl := List.all_eq_true.mp xMml_ok _ hk
    simp only [Bool.and_eq_true] at hl
    have hl := xIn_ok hl.1
    have ho := xMm_ok
    simp only [Bool.and_eq_true] at ho
    obtain ⟨⟨⟨⟨o1, o2⟩, o3⟩, o4⟩, o5⟩ := ho
    rcases ha with ha | ha
    · subst ha
      rw [if_neg (by decide), if_neg (by decide), if_neg (by decide), if_pos rfl] at hI
      cases hz : xMm true st with
      | none => rw [hz] at hI; exact hI.elim
      | some q =>
        obtain ⟨cd, st'⟩ := q
        rw [hz] at hI
        obtain ⟨hc, hI⟩ := hI
        unfold xMm at hz
        split at hz
        · cases hz
          have hg := kk ad H locs _ h hI (J.stk (J.2.2.1.tail.tail.cons (xOk_int _)))
          exact va_mmax hx hcb hlsz hown (hts _ hl) (hts _ (xIn_ok o1)) (hts _ (xIn_ok o3)) (hts _ (xIn_ok o4)) (by omega) (by rw [x_catmap]; omega) (by omega) (by omega) hd hg
        · cases hz
    · subst ha
      rw [if_neg (by decide), if_neg (by decide), if_neg (by decide), if_neg (by decide), if_pos rfl] at hI
      cases hz : xMm false st with
      | none => rw [hz] at hI; exact hI.elim
      | some q =>
        obtain ⟨cd, st'⟩ := q
        rw [hz] at hI
        obtain ⟨hc, hI⟩ := hI
        unfold xMm at hz
        split at hz
        · cases hz
          have hg := kk ad H locs _ h hI (J.stk (J.2.2.1.tail.tail.cons (xOk_int _)))
          exact va_mmin hx hcb hlsz hown (hts _ hl) (hts _ (xIn_ok o2)) (hts _ (xIn_ok o3)) (hts _ (xIn_ok o5)) (by omega) (by rw [x_catmap]; omega) (by omega) (by omega) hd hg
        · cases hz
end XI
