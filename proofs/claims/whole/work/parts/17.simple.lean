section XS
variable {xs : xSc} {p : Program} {l : Launch} {e : Env} {R : Room} {s : State} {m : MethodId} {args : Array Value} {below : List Frame} {meth : Method} {c : Code} {Q : State → Prop}
variable {dC : Nat → ClassId} {dI : Nat → Nat → Nat} {cy : Nat → ClassId} {aS ad0 : Nat → Nat} {A : Nat → Prop} {z0 i b0 lim pc a b n : Nat} {al al' st st' : List Value} {h h' : xHp} {ad : Nat → Nat} {H : Heap} {locs : List Loc} {ls : Array Slot} {v : Int32} {w : Int64} {cnd : Prop}
set_option maxHeartbeats 2000000 in
theorem xS_iload (X : xCx xs p s m args meth c dC dI cy aS z0 i) (hAz : ∀ q, A q → z0 ≤ q) (hAs : ∀ q, s.heap.size ≤ q → A q) (hz0 : z0 ≤ s.heap.size) (hRc : lim - b0 ≤ R.cells) (hRs : xSl lim - xSl b0 ≤ R.slots) {k : Nat}
    (hd : decode (xMc i) pc = .ok (.iload k, n)) (hn : xSwI (.iload k) = true ∨ n = xLen (.iload k)) {ts : List (Int32 × Nat)} (hk : xGk (xMo i) (xMr i) (decide (xMk i = 2)) pc a b v w ts (.iload k) = true)
    (hS : xS xs lim al st h a b v w (.iload k) = some (cnd, al', st', h')) (hc : cnd) (J : xJ s dC dI cy aS ad0 A b0 lim (xMl i) al st h ad H locs ls)
    (kk : ∀ (ad' : Nat → Nat) (H' : Heap) (locs' : List Loc) (ls' : Array Slot), xJ s dC dI cy aS ad0 A b0 lim (xMl i) al' st' h' ad' H' locs' ls' → W p l e R s m args below meth c H' locs' (h'.1 - b0) (xSl h'.1 - xSl b0) Q (F0 m (pc + n) ls' (st'.map (xCv ad')))) :
    W p l e R s m args below meth c H locs (h.1 - b0) (xSl h.1 - xSl b0) Q (F0 m pc ls (st.map (xCv ad))) := by
  obtain ⟨hx, hb, hml, hown, hts, hK, hret, hlocks, hini, hAm⟩ := X
  have hnL : al.length = xMl i := J.1.2.2.1
  have hn : n = 2 := hn.resolve_left (fun z => Bool.noConfusion z)
  subst hn
  replace hS : xLdI al st h k = some (cnd, al', st', h') := hS
  unfold xLdI at hS
  split at hS
  · rename_i x hq
    cases hS
    exact lv_iload hx hb hd (J.1.2.2.2 _ _ hq (by simp)) (kk ad H locs ls (J.stk (J.2.2.1.cons (xOk_int _))))
  · cases hS
set_option maxHeartbeats 2000000 in
theorem xS_iload_n (X : xCx xs p s m args meth c dC dI cy aS z0 i) (hAz : ∀ q, A q → z0 ≤ q) (hAs : ∀ q, s.heap.size ≤ q → A q) (hz0 : z0 ≤ s.heap.size) (hRc : lim - b0 ≤ R.cells) (hRs : xSl lim - xSl b0 ≤ R.slots) {k : Fin 4}
    (hd : decode (xMc i) pc = .ok (.iload_n k, n)) (hn : xSwI (.iload_n k) = true ∨ n = xLen (.iload_n k)) {ts : List (Int32 × Nat)} (hk : xGk (xMo i) (xMr i) (decide (xMk i = 2)) pc a b v w ts (.iload_n k) = true)
    (hS : xS xs lim al st h a b v w (.iload_n k) = some (cnd, al', st', h')) (hc : cnd) (J : xJ s dC dI cy aS ad0 A b0 lim (xMl i) al st h ad H locs ls)
    (kk : ∀ (ad' : Nat → Nat) (H' : Heap) (locs' : List Loc) (ls' : Array Slot), xJ s dC dI cy aS ad0 A b0 lim (xMl i) al' st' h' ad' H' locs' ls' → W p l e R s m args below meth c H' locs' (h'.1 - b0) (xSl h'.1 - xSl b0) Q (F0 m (pc + n) ls' (st'.map (xCv ad')))) :
    W p l e R s m args below meth c H locs (h.1 - b0) (xSl h.1 - xSl b0) Q (F0 m pc ls (st.map (xCv ad))) := by
  obtain ⟨hx, hb, hml, hown, hts, hK, hret, hlocks, hini, hAm⟩ := X
  have hnL : al.length = xMl i := J.1.2.2.1
  have hn : n = 1 := hn.resolve_left (fun z => Bool.noConfusion z)
  subst hn
  replace hS : xLdI al st h k = some (cnd, al', st', h') := hS
  unfold xLdI at hS
  split at hS
  · rename_i x hq
    cases hS
    exact lv_iload_n hx hb hd rfl (J.1.2.2.2 _ _ hq (by simp)) (kk ad H locs ls (J.stk (J.2.2.1.cons (xOk_int _))))
  · cases hS
set_option maxHeartbeats 2000000 in
theorem xS_lload (X : xCx xs p s m args meth c dC dI cy aS z0 i) (hAz : ∀ q, A q → z0 ≤ q) (hAs : ∀ q, s.heap.size ≤ q → A q) (hz0 : z0 ≤ s.heap.size) (hRc : lim - b0 ≤ R.cells) (hRs : xSl lim - xSl b0 ≤ R.slots) {k : Nat}
    (hd : decode (xMc i) pc = .ok (.lload k, n)) (hn : xSwI (.lload k) = true ∨ n = xLen (.lload k)) {ts : List (Int32 × Nat)} (hk : xGk (xMo i) (xMr i) (decide (xMk i = 2)) pc a b v w ts (.lload k) = true)
    (hS : xS xs lim al st h a b v w (.lload k) = some (cnd, al', st', h')) (hc : cnd) (J : xJ s dC dI cy aS ad0 A b0 lim (xMl i) al st h ad H locs ls)
    (kk : ∀ (ad' : Nat → Nat) (H' : Heap) (locs' : List Loc) (ls' : Array Slot), xJ s dC dI cy aS ad0 A b0 lim (xMl i) al' st' h' ad' H' locs' ls' → W p l e R s m args below meth c H' locs' (h'.1 - b0) (xSl h'.1 - xSl b0) Q (F0 m (pc + n) ls' (st'.map (xCv ad')))) :
    W p l e R s m args below meth c H locs (h.1 - b0) (xSl h.1 - xSl b0) Q (F0 m pc ls (st.map (xCv ad))) := by
  obtain ⟨hx, hb, hml, hown, hts, hK, hret, hlocks, hini, hAm⟩ := X
  have hnL : al.length = xMl i := J.1.2.2.1
  have hn : n = 2 := hn.resolve_left (fun z => Bool.noConfusion z)
  subst hn
  replace hS : xLdL al st h k = some (cnd, al', st', h') := hS
  unfold xLdL at hS
  split at hS
  · rename_i x hq
    cases hS
    exact lv_lload hx hb hd (J.1.2.2.2 _ _ hq (by simp)) (kk ad H locs ls (J.stk (J.2.2.1.cons (xOk_long _))))
  · cases hS
set_option maxHeartbeats 2000000 in
theorem xS_lload_n (X : xCx xs p s m args meth c dC dI cy aS z0 i) (hAz : ∀ q, A q → z0 ≤ q) (hAs : ∀ q, s.heap.size ≤ q → A q) (hz0 : z0 ≤ s.heap.size) (hRc : lim - b0 ≤ R.cells) (hRs : xSl lim - xSl b0 ≤ R.slots) {k : Fin 4}
    (hd : decode (xMc i) pc = .ok (.lload_n k, n)) (hn : xSwI (.lload_n k) = true ∨ n = xLen (.lload_n k)) {ts : List (Int32 × Nat)} (hk : xGk (xMo i) (xMr i) (decide (xMk i = 2)) pc a b v w ts (.lload_n k) = true)
    (hS : xS xs lim al st h a b v w (.lload_n k) = some (cnd, al', st', h')) (hc : cnd) (J : xJ s dC dI cy aS ad0 A b0 lim (xMl i) al st h ad H locs ls)
    (kk : ∀ (ad' : Nat → Nat) (H' : Heap) (locs' : List Loc) (ls' : Array Slot), xJ s dC dI cy aS ad0 A b0 lim (xMl i) al' st' h' ad' H' locs' ls' → W p l e R s m args below meth c H' locs' (h'.1 - b0) (xSl h'.1 - xSl b0) Q (F0 m (pc + n) ls' (st'.map (xCv ad')))) :
    W p l e R s m args below meth c H locs (h.1 - b0) (xSl h.1 - xSl b0) Q (F0 m pc ls (st.map (xCv ad))) := by
  obtain ⟨hx, hb, hml, hown, hts, hK, hret, hlocks, hini, hAm⟩ := X
  have hnL : al.length = xMl i := J.1.2.2.1
  have hn : n = 1 := hn.resolve_left (fun z => Bool.noConfusion z)
  subst hn
  replace hS : xLdL al st h k = some (cnd, al', st', h') := hS
  unfold xLdL at hS
  split at hS
  · rename_i x hq
    cases hS
    exact lv_lload_n hx hb hd rfl (J.1.2.2.2 _ _ hq (by simp)) (kk ad H locs ls (J.stk (J.2.2.1.cons (xOk_long _))))
  · cases hS
set_option maxHeartbeats 2000000 in
theorem xS_aload (X : xCx xs p s m args meth c dC dI cy aS z0 i) (hAz : ∀ q, A q → z0 ≤ q) (hAs : ∀ q, s.heap.size ≤ q → A q) (hz0 : z0 ≤ s.heap.size) (hRc : lim - b0 ≤ R.cells) (hRs : xSl lim - xSl b0 ≤ R.slots) {k : Nat}
    (hd : decode (xMc i) pc = .ok (.aload k, n)) (hn : xSwI (.aload k) = true ∨ n = xLen (.aload k)) {ts : List (Int32 × Nat)} (hk : xGk (xMo i) (xMr i) (decide (xMk i = 2)) pc a b v w ts (.aload k) = true)
    (hS : xS xs lim al st h a b v w (.aload k) = some (cnd, al', st', h')) (hc : cnd) (J : xJ s dC dI cy aS ad0 A b0 lim (xMl i) al st h ad H locs ls)
    (kk : ∀ (ad' : Nat → Nat) (H' : Heap) (locs' : List Loc) (ls' : Array Slot), xJ s dC dI cy aS ad0 A b0 lim (xMl i) al' st' h' ad' H' locs' ls' → W p l e R s m args below meth c H' locs' (h'.1 - b0) (xSl h'.1 - xSl b0) Q (F0 m (pc + n) ls' (st'.map (xCv ad')))) :
    W p l e R s m args below meth c H locs (h.1 - b0) (xSl h.1 - xSl b0) Q (F0 m pc ls (st.map (xCv ad))) := by
  obtain ⟨hx, hb, hml, hown, hts, hK, hret, hlocks, hini, hAm⟩ := X
  have hnL : al.length = xMl i := J.1.2.2.1
  have hn : n = 2 := hn.resolve_left (fun z => Bool.noConfusion z)
  subst hn
  replace hS : xLdA al st h k = some (cnd, al', st', h') := hS
  unfold xLdA at hS
  split at hS
  · rename_i x hq
    cases hS
    exact lv_aload hx hb hd (J.1.2.2.2 _ _ hq (by simp)) (kk ad H locs ls (J.stk (J.2.2.1.cons (J.2.1 _ (List.mem_of_getElem? hq)))))
  · cases hS
set_option maxHeartbeats 2000000 in
theorem xS_aload_n (X : xCx xs p s m args meth c dC dI cy aS z0 i) (hAz : ∀ q, A q → z0 ≤ q) (hAs : ∀ q, s.heap.size ≤ q → A q) (hz0 : z0 ≤ s.heap.size) (hRc : lim - b0 ≤ R.cells) (hRs : xSl lim - xSl b0 ≤ R.slots) {k : Fin 4}
    (hd : decode (xMc i) pc = .ok (.aload_n k, n)) (hn : xSwI (.aload_n k) = true ∨ n = xLen (.aload_n k)) {ts : List (Int32 × Nat)} (hk : xGk (xMo i) (xMr i) (decide (xMk i = 2)) pc a b v w ts (.aload_n k) = true)
    (hS : xS xs lim al st h a b v w (.aload_n k) = some (cnd, al', st', h')) (hc : cnd) (J : xJ s dC dI cy aS ad0 A b0 lim (xMl i) al st h ad H locs ls)
    (kk : ∀ (ad' : Nat → Nat) (H' : Heap) (locs' : List Loc) (ls' : Array Slot), xJ s dC dI cy aS ad0 A b0 lim (xMl i) al' st' h' ad' H' locs' ls' → W p l e R s m args below meth c H' locs' (h'.1 - b0) (xSl h'.1 - xSl b0) Q (F0 m (pc + n) ls' (st'.map (xCv ad')))) :
    W p l e R s m args below meth c H locs (h.1 - b0) (xSl h.1 - xSl b0) Q (F0 m pc ls (st.map (xCv ad))) := by
  obtain ⟨hx, hb, hml, hown, hts, hK, hret, hlocks, hini, hAm⟩ := X
  have hnL : al.length = xMl i := J.1.2.2.1
  have hn : n = 1 := hn.resolve_left (fun z => Bool.noConfusion z)
  subst hn
  replace hS : xLdA al st h k = some (cnd, al', st', h') := hS
  unfold xLdA at hS
  split at hS
  · rename_i x hq
    cases hS
    exact lv_aload_n hx hb hd rfl (J.1.2.2.2 _ _ hq (by simp)) (kk ad H locs ls (J.stk (J.2.2.1.cons (J.2.1 _ (List.mem_of_getElem? hq)))))
  · cases hS
set_option maxHeartbeats 2000000 in
theorem xS_istore (X : xCx xs p s m args meth c dC dI cy aS z0 i) (hAz : ∀ q, A q → z0 ≤ q) (hAs : ∀ q, s.heap.size ≤ q → A q) (hz0 : z0 ≤ s.heap.size) (hRc : lim - b0 ≤ R.cells) (hRs : xSl lim - xSl b0 ≤ R.slots) {k : Nat}
    (hd : decode (xMc i) pc = .ok (.istore k, n)) (hn : xSwI (.istore k) = true ∨ n = xLen (.istore k)) {ts : List (Int32 × Nat)} (hk : xGk (xMo i) (xMr i) (decide (xMk i = 2)) pc a b v w ts (.istore k) = true)
    (hS : xS xs lim al st h a b v w (.istore k) = some (cnd, al', st', h')) (hc : cnd) (J : xJ s dC dI cy aS ad0 A b0 lim (xMl i) al st h ad H locs ls)
    (kk : ∀ (ad' : Nat → Nat) (H' : Heap) (locs' : List Loc) (ls' : Array Slot), xJ s dC dI cy aS ad0 A b0 lim (xMl i) al' st' h' ad' H' locs' ls' → W p l e R s m args below meth c H' locs' (h'.1 - b0) (xSl h'.1 - xSl b0) Q (F0 m (pc + n) ls' (st'.map (xCv ad')))) :
    W p l e R s m args below meth c H locs (h.1 - b0) (xSl h.1 - xSl b0) Q (F0 m pc ls (st.map (xCv ad))) := by
  obtain ⟨hx, hb, hml, hown, hts, hK, hret, hlocks, hini, hAm⟩ := X
  have hnL : al.length = xMl i := J.1.2.2.1
  have hn : n = 2 := hn.resolve_left (fun z => Bool.noConfusion z)
  subst hn
  replace hS : xStI al st h k = some (cnd, al', st', h') := hS
  unfold xStI at hS
  split at hS
  · cases hS
    exact lv_istore hx hb hd J.1.all (by rw [← hnL]; exact hc) rfl fun ls' hl' => kk ad H locs ls' ((J.stk J.2.2.1.tail).lcl (J.1.st1 hl') (J.2.1.st1 J.2.2.1.head))
  · cases hS
set_option maxHeartbeats 2000000 in
theorem xS_istore_n (X : xCx xs p s m args meth c dC dI cy aS z0 i) (hAz : ∀ q, A q → z0 ≤ q) (hAs : ∀ q, s.heap.size ≤ q → A q) (hz0 : z0 ≤ s.heap.size) (hRc : lim - b0 ≤ R.cells) (hRs : xSl lim - xSl b0 ≤ R.slots) {k : Fin 4}
    (hd : decode (xMc i) pc = .ok (.istore_n k, n)) (hn : xSwI (.istore_n k) = true ∨ n = xLen (.istore_n k)) {ts : List (Int32 × Nat)} (hk : xGk (xMo i) (xMr i) (decide (xMk i = 2)) pc a b v w ts (.istore_n k) = true)
    (hS : xS xs lim al st h a b v w (.istore_n k) = some (cnd, al', st', h')) (hc : cnd) (J : xJ s dC dI cy aS ad0 A b0 lim (xMl i) al st h ad H locs ls)
    (kk : ∀ (ad' : Nat → Nat) (H' : Heap) (locs' : List Loc) (ls' : Array Slot), xJ s dC dI cy aS ad0 A b0 lim (xMl i) al' st' h' ad' H' locs' ls' → W p l e R s m args below meth c H' locs' (h'.1 - b0) (xSl h'.1 - xSl b0) Q (F0 m (pc + n) ls' (st'.map (xCv ad')))) :
    W p l e R s m args below meth c H locs (h.1 - b0) (xSl h.1 - xSl b0) Q (F0 m pc ls (st.map (xCv ad))) := by
  obtain ⟨hx, hb, hml, hown, hts, hK, hret, hlocks, hini, hAm⟩ := X
  have hnL : al.length = xMl i := J.1.2.2.1
  have hn : n = 1 := hn.resolve_left (fun z => Bool.noConfusion z)
  subst hn
  replace hS : xStI al st h k = some (cnd, al', st', h') := hS
  unfold xStI at hS
  split at hS
  · cases hS
    exact lv_istore_n hx hb hd rfl J.1.all (by rw [← hnL]; exact hc) rfl fun ls' hl' => kk ad H locs ls' ((J.stk J.2.2.1.tail).lcl (J.1.st1 hl') (J.2.1.st1 J.2.2.1.head))
  · cases hS
set_option maxHeartbeats 2000000 in
theorem xS_astore (X : xCx xs p s m args meth c dC dI cy aS z0 i) (hAz : ∀ q, A q → z0 ≤ q) (hAs : ∀ q, s.heap.size ≤ q → A q) (hz0 : z0 ≤ s.heap.size) (hRc : lim - b0 ≤ R.cells) (hRs : xSl lim - xSl b0 ≤ R.slots) {k : Nat}
    (hd : decode (xMc i) pc = .ok (.astore k, n)) (hn : xSwI (.astore k) = true ∨ n = xLen (.astore k)) {ts : List (Int32 × Nat)} (hk : xGk (xMo i) (xMr i) (decide (xMk i = 2)) pc a b v w ts (.astore k) = true)
    (hS : xS xs lim al st h a b v w (.astore k) = some (cnd, al', st', h')) (hc : cnd) (J : xJ s dC dI cy aS ad0 A b0 lim (xMl i) al st h ad H locs ls)
    (kk : ∀ (ad' : Nat → Nat) (H' : Heap) (locs' : List Loc) (ls' : Array Slot), xJ s dC dI cy aS ad0 A b0 lim (xMl i) al' st' h' ad' H' locs' ls' → W p l e R s m args below meth c H' locs' (h'.1 - b0) (xSl h'.1 - xSl b0) Q (F0 m (pc + n) ls' (st'.map (xCv ad')))) :
    W p l e R s m args below meth c H locs (h.1 - b0) (xSl h.1 - xSl b0) Q (F0 m pc ls (st.map (xCv ad))) := by
  obtain ⟨hx, hb, hml, hown, hts, hK, hret, hlocks, hini, hAm⟩ := X
  have hnL : al.length = xMl i := J.1.2.2.1
  have hn : n = 2 := hn.resolve_left (fun z => Bool.noConfusion z)
  subst hn
  replace hS : xStA al st h k = some (cnd, al', st', h') := hS
  unfold xStA at hS
  split at hS
  · cases hS
    exact lv_astore hx hb hd J.1.all (by rw [← hnL]; exact hc) rfl fun ls' hl' => kk ad H locs ls' ((J.stk J.2.2.1.tail).lcl (J.1.st1 hl') (J.2.1.st1 J.2.2.1.head))
  · cases hS
set_option maxHeartbeats 2000000 in
theorem xS_astore_n (X : xCx xs p s m args meth c dC dI cy aS z0 i) (hAz : ∀ q, A q → z0 ≤ q) (hAs : ∀ q, s.heap.size ≤ q → A q) (hz0 : z0 ≤ s.heap.size) (hRc : lim - b0 ≤ R.cells) (hRs : xSl lim - xSl b0 ≤ R.slots) {k : Fin 4}
    (hd : decode (xMc i) pc = .ok (.astore_n k, n)) (hn : xSwI (.astore_n k) = true ∨ n = xLen (.astore_n k)) {ts : List (Int32 × Nat)} (hk : xGk (xMo i) (xMr i) (decide (xMk i = 2)) pc a b v w ts (.astore_n k) = true)
    (hS : xS xs lim al st h a b v w (.astore_n k) = some (cnd, al', st', h')) (hc : cnd) (J : xJ s dC dI cy aS ad0 A b0 lim (xMl i) al st h ad H locs ls)
    (kk : ∀ (ad' : Nat → Nat) (H' : Heap) (locs' : List Loc) (ls' : Array Slot), xJ s dC dI cy aS ad0 A b0 lim (xMl i) al' st' h' ad' H' locs' ls' → W p l e R s m args below meth c H' locs' (h'.1 - b0) (xSl h'.1 - xSl b0) Q (F0 m (pc + n) ls' (st'.map (xCv ad')))) :
    W p l e R s m args below meth c H locs (h.1 - b0) (xSl h.1 - xSl b0) Q (F0 m pc ls (st.map (xCv ad))) := by
  obtain ⟨hx, hb, hml, hown, hts, hK, hret, hlocks, hini, hAm⟩ := X
  have hnL : al.length = xMl i := J.1.2.2.1
  have hn : n = 1 := hn.resolve_left (fun z => Bool.noConfusion z)
  subst hn
  replace hS : xStA al st h k = some (cnd, al', st', h') := hS
  unfold xStA at hS
  split at hS
  · cases hS
    exact lv_astore_n hx hb hd rfl J.1.all (by rw [← hnL]; exact hc) rfl fun ls' hl' => kk ad H locs ls' ((J.stk J.2.2.1.tail).lcl (J.1.st1 hl') (J.2.1.st1 J.2.2.1.head))
  · cases hS
set_option maxHeartbeats 2000000 in
theorem xS_lstore (X : xCx xs p s m args meth c dC dI cy aS z0 i) (hAz : ∀ q, A q → z0 ≤ q) (hAs : ∀ q, s.heap.size ≤ q → A q) (hz0 : z0 ≤ s.heap.size) (hRc : lim - b0 ≤ R.cells) (hRs : xSl lim - xSl b0 ≤ R.slots) {k : Nat}
    (hd : decode (xMc i) pc = .ok (.lstore k, n)) (hn : xSwI (.lstore k) = true ∨ n = xLen (.lstore k)) {ts : List (Int32 × Nat)} (hk : xGk (xMo i) (xMr i) (decide (xMk i = 2)) pc a b v w ts (.lstore k) = true)
    (hS : xS xs lim al st h a b v w (.lstore k) = some (cnd, al', st', h')) (hc : cnd) (J : xJ s dC dI cy aS ad0 A b0 lim (xMl i) al st h ad H locs ls)
    (kk : ∀ (ad' : Nat → Nat) (H' : Heap) (locs' : List Loc) (ls' : Array Slot), xJ s dC dI cy aS ad0 A b0 lim (xMl i) al' st' h' ad' H' locs' ls' → W p l e R s m args below meth c H' locs' (h'.1 - b0) (xSl h'.1 - xSl b0) Q (F0 m (pc + n) ls' (st'.map (xCv ad')))) :
    W p l e R s m args below meth c H locs (h.1 - b0) (xSl h.1 - xSl b0) Q (F0 m pc ls (st.map (xCv ad))) := by
  obtain ⟨hx, hb, hml, hown, hts, hK, hret, hlocks, hini, hAm⟩ := X
  have hnL : al.length = xMl i := J.1.2.2.1
  have hn : n = 2 := hn.resolve_left (fun z => Bool.noConfusion z)
  subst hn
  replace hS : xStL al st h k = some (cnd, al', st', h') := hS
  unfold xStL at hS
  split at hS
  · cases hS
    exact lv_lstore hx hb hd J.1.all (by rw [← hnL]; exact hc) rfl fun ls' hl' => kk ad H locs ls' ((J.stk J.2.2.1.tail).lcl (J.1.st2 hl') (J.2.1.st2 J.2.2.1.head))
  · cases hS
set_option maxHeartbeats 2000000 in
theorem xS_iinc (X : xCx xs p s m args meth c dC dI cy aS z0 i) (hAz : ∀ q, A q → z0 ≤ q) (hAs : ∀ q, s.heap.size ≤ q → A q) (hz0 : z0 ≤ s.heap.size) (hRc : lim - b0 ≤ R.cells) (hRs : xSl lim - xSl b0 ≤ R.slots) {k : Nat} {z : Int}
    (hd : decode (xMc i) pc = .ok (.iinc k z, n)) (hn : xSwI (.iinc k z) = true ∨ n = xLen (.iinc k z)) {ts : List (Int32 × Nat)} (hk : xGk (xMo i) (xMr i) (decide (xMk i = 2)) pc a b v w ts (.iinc k z) = true)
    (hS : xS xs lim al st h a b v w (.iinc k z) = some (cnd, al', st', h')) (hc : cnd) (J : xJ s dC dI cy aS ad0 A b0 lim (xMl i) al st h ad H locs ls)
    (kk : ∀ (ad' : Nat → Nat) (H' : Heap) (locs' : List Loc) (ls' : Array Slot), xJ s dC dI cy aS ad0 A b0 lim (xMl i) al' st' h' ad' H' locs' ls' → W p l e R s m args below meth c H' locs' (h'.1 - b0) (xSl h'.1 - xSl b0) Q (F0 m (pc + n) ls' (st'.map (xCv ad')))) :
    W p l e R s m args below meth c H locs (h.1 - b0) (xSl h.1 - xSl b0) Q (F0 m pc ls (st.map (xCv ad))) := by
  obtain ⟨hx, hb, hml, hown, hts, hK, hret, hlocks, hini, hAm⟩ := X
  have hnL : al.length = xMl i := J.1.2.2.1
  have hn : n = 3 := hn.resolve_left (fun z => Bool.noConfusion z)
  subst hn
  delta xS at hS
  dsimp only at hS
  split at hS
  · rename_i x hq
    cases hS
    have hv : Int32.ofInt z = v := of_decide_eq_true hk
    obtain ⟨r, hr⟩ := List.getElem?_of_mem (xLv_mem (ad := ad) (q := (k, .int x)) |>.mpr ⟨.int x, hq, by simp, rfl⟩)
    exact lv_iinc hx hb hd J.1.all hr (by rw [hv]) (by rw [← hnL]; exact hc) rfl fun ls' hl' => kk ad H locs ls' (J.lcl (J.1.st1 hl') (J.2.1.st1 (xOk_int _)))
  · cases hS
set_option maxHeartbeats 2000000 in
theorem xS_iconst (X : xCx xs p s m args meth c dC dI cy aS z0 i) (hAz : ∀ q, A q → z0 ≤ q) (hAs : ∀ q, s.heap.size ≤ q → A q) (hz0 : z0 ≤ s.heap.size) (hRc : lim - b0 ≤ R.cells) (hRs : xSl lim - xSl b0 ≤ R.slots) {k : Int}
    (hd : decode (xMc i) pc = .ok (.iconst k, n)) (hn : xSwI (.iconst k) = true ∨ n = xLen (.iconst k)) {ts : List (Int32 × Nat)} (hk : xGk (xMo i) (xMr i) (decide (xMk i = 2)) pc a b v w ts (.iconst k) = true)
    (hS : xS xs lim al st h a b v w (.iconst k) = some (cnd, al', st', h')) (hc : cnd) (J : xJ s dC dI cy aS ad0 A b0 lim (xMl i) al st h ad H locs ls)
    (kk : ∀ (ad' : Nat → Nat) (H' : Heap) (locs' : List Loc) (ls' : Array Slot), xJ s dC dI cy aS ad0 A b0 lim (xMl i) al' st' h' ad' H' locs' ls' → W p l e R s m args below meth c H' locs' (h'.1 - b0) (xSl h'.1 - xSl b0) Q (F0 m (pc + n) ls' (st'.map (xCv ad')))) :
    W p l e R s m args below meth c H locs (h.1 - b0) (xSl h.1 - xSl b0) Q (F0 m pc ls (st.map (xCv ad))) := by
  obtain ⟨hx, hb, hml, hown, hts, hK, hret, hlocks, hini, hAm⟩ := X
  have hnL : al.length = xMl i := J.1.2.2.1
  have hn : n = 1 := hn.resolve_left (fun z => Bool.noConfusion z)
  subst hn
  delta xS at hS
  dsimp only at hS
  cases hS
  exact lv_iconst hx hb hd (of_decide_eq_true hk) (kk ad H locs ls (J.stk (J.2.2.1.cons (xOk_int _))))
set_option maxHeartbeats 2000000 in
theorem xS_bipush (X : xCx xs p s m args meth c dC dI cy aS z0 i) (hAz : ∀ q, A q → z0 ≤ q) (hAs : ∀ q, s.heap.size ≤ q → A q) (hz0 : z0 ≤ s.heap.size) (hRc : lim - b0 ≤ R.cells) (hRs : xSl lim - xSl b0 ≤ R.slots) {k : Int}
    (hd : decode (xMc i) pc = .ok (.bipush k, n)) (hn : xSwI (.bipush k) = true ∨ n = xLen (.bipush k)) {ts : List (Int32 × Nat)} (hk : xGk (xMo i) (xMr i) (decide (xMk i = 2)) pc a b v w ts (.bipush k) = true)
    (hS : xS xs lim al st h a b v w (.bipush k) = some (cnd, al', st', h')) (hc : cnd) (J : xJ s dC dI cy aS ad0 A b0 lim (xMl i) al st h ad H locs ls)
    (kk : ∀ (ad' : Nat → Nat) (H' : Heap) (locs' : List Loc) (ls' : Array Slot), xJ s dC dI cy aS ad0 A b0 lim (xMl i) al' st' h' ad' H' locs' ls' → W p l e R s m args below meth c H' locs' (h'.1 - b0) (xSl h'.1 - xSl b0) Q (F0 m (pc + n) ls' (st'.map (xCv ad')))) :
    W p l e R s m args below meth c H locs (h.1 - b0) (xSl h.1 - xSl b0) Q (F0 m pc ls (st.map (xCv ad))) := by
  obtain ⟨hx, hb, hml, hown, hts, hK, hret, hlocks, hini, hAm⟩ := X
  have hnL : al.length = xMl i := J.1.2.2.1
  have hn : n = 2 := hn.resolve_left (fun z => Bool.noConfusion z)
  subst hn
  delta xS at hS
  dsimp only at hS
  cases hS
  exact lv_bipush hx hb hd (of_decide_eq_true hk) (kk ad H locs ls (J.stk (J.2.2.1.cons (xOk_int _))))
set_option maxHeartbeats 2000000 in
theorem xS_sipush (X : xCx xs p s m args meth c dC dI cy aS z0 i) (hAz : ∀ q, A q → z0 ≤ q) (hAs : ∀ q, s.heap.size ≤ q → A q) (hz0 : z0 ≤ s.heap.size) (hRc : lim - b0 ≤ R.cells) (hRs : xSl lim - xSl b0 ≤ R.slots) {k : Int}
    (hd : decode (xMc i) pc = .ok (.sipush k, n)) (hn : xSwI (.sipush k) = true ∨ n = xLen (.sipush k)) {ts : List (Int32 × Nat)} (hk : xGk (xMo i) (xMr i) (decide (xMk i = 2)) pc a b v w ts (.sipush k) = true)
    (hS : xS xs lim al st h a b v w (.sipush k) = some (cnd, al', st', h')) (hc : cnd) (J : xJ s dC dI cy aS ad0 A b0 lim (xMl i) al st h ad H locs ls)
    (kk : ∀ (ad' : Nat → Nat) (H' : Heap) (locs' : List Loc) (ls' : Array Slot), xJ s dC dI cy aS ad0 A b0 lim (xMl i) al' st' h' ad' H' locs' ls' → W p l e R s m args below meth c H' locs' (h'.1 - b0) (xSl h'.1 - xSl b0) Q (F0 m (pc + n) ls' (st'.map (xCv ad')))) :
    W p l e R s m args below meth c H locs (h.1 - b0) (xSl h.1 - xSl b0) Q (F0 m pc ls (st.map (xCv ad))) := by
  obtain ⟨hx, hb, hml, hown, hts, hK, hret, hlocks, hini, hAm⟩ := X
  have hnL : al.length = xMl i := J.1.2.2.1
  have hn : n = 3 := hn.resolve_left (fun z => Bool.noConfusion z)
  subst hn
  delta xS at hS
  dsimp only at hS
  cases hS
  exact lv_sipush hx hb hd (of_decide_eq_true hk) (kk ad H locs ls (J.stk (J.2.2.1.cons (xOk_int _))))
set_option maxHeartbeats 2000000 in
theorem xS_lconst (X : xCx xs p s m args meth c dC dI cy aS z0 i) (hAz : ∀ q, A q → z0 ≤ q) (hAs : ∀ q, s.heap.size ≤ q → A q) (hz0 : z0 ≤ s.heap.size) (hRc : lim - b0 ≤ R.cells) (hRs : xSl lim - xSl b0 ≤ R.slots) {k : Fin 2}
    (hd : decode (xMc i) pc = .ok (.lconst k, n)) (hn : xSwI (.lconst k) = true ∨ n = xLen (.lconst k)) {ts : List (Int32 × Nat)} (hk : xGk (xMo i) (xMr i) (decide (xMk i = 2)) pc a b v w ts (.lconst k) = true)
    (hS : xS xs lim al st h a b v w (.lconst k) = some (cnd, al', st', h')) (hc : cnd) (J : xJ s dC dI cy aS ad0 A b0 lim (xMl i) al st h ad H locs ls)
    (kk : ∀ (ad' : Nat → Nat) (H' : Heap) (locs' : List Loc) (ls' : Array Slot), xJ s dC dI cy aS ad0 A b0 lim (xMl i) al' st' h' ad' H' locs' ls' → W p l e R s m args below meth c H' locs' (h'.1 - b0) (xSl h'.1 - xSl b0) Q (F0 m (pc + n) ls' (st'.map (xCv ad')))) :
    W p l e R s m args below meth c H locs (h.1 - b0) (xSl h.1 - xSl b0) Q (F0 m pc ls (st.map (xCv ad))) := by
  obtain ⟨hx, hb, hml, hown, hts, hK, hret, hlocks, hini, hAm⟩ := X
  have hnL : al.length = xMl i := J.1.2.2.1
  have hn : n = 1 := hn.resolve_left (fun z => Bool.noConfusion z)
  subst hn
  delta xS at hS
  dsimp only at hS
  cases hS
  exact lv_lconst hx hb hd (of_decide_eq_true hk) (kk ad H locs ls (J.stk (J.2.2.1.cons (xOk_long _))))
set_option maxHeartbeats 2000000 in
theorem xS_ldc2_w (X : xCx xs p s m args meth c dC dI cy aS z0 i) (hAz : ∀ q, A q → z0 ≤ q) (hAs : ∀ q, s.heap.size ≤ q → A q) (hz0 : z0 ≤ s.heap.size) (hRc : lim - b0 ≤ R.cells) (hRs : xSl lim - xSl b0 ≤ R.slots) {k : Nat}
    (hd : decode (xMc i) pc = .ok (.ldc2_w k, n)) (hn : xSwI (.ldc2_w k) = true ∨ n = xLen (.ldc2_w k)) {ts : List (Int32 × Nat)} (hk : xGk (xMo i) (xMr i) (decide (xMk i = 2)) pc a b v w ts (.ldc2_w k) = true)
    (hS : xS xs lim al st h a b v w (.ldc2_w k) = some (cnd, al', st', h')) (hc : cnd) (J : xJ s dC dI cy aS ad0 A b0 lim (xMl i) al st h ad H locs ls)
    (kk : ∀ (ad' : Nat → Nat) (H' : Heap) (locs' : List Loc) (ls' : Array Slot), xJ s dC dI cy aS ad0 A b0 lim (xMl i) al' st' h' ad' H' locs' ls' → W p l e R s m args below meth c H' locs' (h'.1 - b0) (xSl h'.1 - xSl b0) Q (F0 m (pc + n) ls' (st'.map (xCv ad')))) :
    W p l e R s m args below meth c H locs (h.1 - b0) (xSl h.1 - xSl b0) Q (F0 m pc ls (st.map (xCv ad))) := by
  obtain ⟨hx, hb, hml, hown, hts, hK, hret, hlocks, hini, hAm⟩ := X
  have hnL : al.length = xMl i := J.1.2.2.1
  have hn : n = 3 := hn.resolve_left (fun z => Bool.noConfusion z)
  subst hn
  delta xS at hS
  dsimp only at hS
  cases hS
  delta xGk at hk
  dsimp only at hk
  simp only [decide_eq_true_eq] at hk
  have hmem := hk
  exact lv_ldc2 hx hb hown (hts _ (xCoL_use hmem)) hd (kk ad H locs ls (J.stk (J.2.2.1.cons (xOk_long _))))
set_option maxHeartbeats 2000000 in
theorem xS_ldc_w (X : xCx xs p s m args meth c dC dI cy aS z0 i) (hAz : ∀ q, A q → z0 ≤ q) (hAs : ∀ q, s.heap.size ≤ q → A q) (hz0 : z0 ≤ s.heap.size) (hRc : lim - b0 ≤ R.cells) (hRs : xSl lim - xSl b0 ≤ R.slots) {k : Nat}
    (hd : decode (xMc i) pc = .ok (.ldc_w k, n)) (hn : xSwI (.ldc_w k) = true ∨ n = xLen (.ldc_w k)) {ts : List (Int32 × Nat)} (hk : xGk (xMo i) (xMr i) (decide (xMk i = 2)) pc a b v w ts (.ldc_w k) = true)
    (hS : xS xs lim al st h a b v w (.ldc_w k) = some (cnd, al', st', h')) (hc : cnd) (J : xJ s dC dI cy aS ad0 A b0 lim (xMl i) al st h ad H locs ls)
    (kk : ∀ (ad' : Nat → Nat) (H' : Heap) (locs' : List Loc) (ls' : Array Slot), xJ s dC dI cy aS ad0 A b0 lim (xMl i) al' st' h' ad' H' locs' ls' → W p l e R s m args below meth c H' locs' (h'.1 - b0) (xSl h'.1 - xSl b0) Q (F0 m (pc + n) ls' (st'.map (xCv ad')))) :
    W p l e R s m args below meth c H locs (h.1 - b0) (xSl h.1 - xSl b0) Q (F0 m pc ls (st.map (xCv ad))) := by
  obtain ⟨hx, hb, hml, hown, hts, hK, hret, hlocks, hini, hAm⟩ := X
  have hnL : al.length = xMl i := J.1.2.2.1
  have hn : n = 3 := hn.resolve_left (fun z => Bool.noConfusion z)
  subst hn
  delta xS at hS
  dsimp only at hS
  cases hS
  delta xGk at hk
  dsimp only at hk
  simp only [decide_eq_true_eq] at hk
  have hmem := hk
  exact lv_ldcw hx hb hown (hts _ (xCo_use hmem)) hd (kk ad H locs ls (J.stk (J.2.2.1.cons (xOk_int _))))
set_option maxHeartbeats 2000000 in
theorem xS_ldc (X : xCx xs p s m args meth c dC dI cy aS z0 i) (hAz : ∀ q, A q → z0 ≤ q) (hAs : ∀ q, s.heap.size ≤ q → A q) (hz0 : z0 ≤ s.heap.size) (hRc : lim - b0 ≤ R.cells) (hRs : xSl lim - xSl b0 ≤ R.slots) {k : Nat}
    (hd : decode (xMc i) pc = .ok (.ldc k, n)) (hn : xSwI (.ldc k) = true ∨ n = xLen (.ldc k)) {ts : List (Int32 × Nat)} (hk : xGk (xMo i) (xMr i) (decide (xMk i = 2)) pc a b v w ts (.ldc k) = true)
    (hS : xS xs lim al st h a b v w (.ldc k) = some (cnd, al', st', h')) (hc : cnd) (J : xJ s dC dI cy aS ad0 A b0 lim (xMl i) al st h ad H locs ls)
    (kk : ∀ (ad' : Nat → Nat) (H' : Heap) (locs' : List Loc) (ls' : Array Slot), xJ s dC dI cy aS ad0 A b0 lim (xMl i) al' st' h' ad' H' locs' ls' → W p l e R s m args below meth c H' locs' (h'.1 - b0) (xSl h'.1 - xSl b0) Q (F0 m (pc + n) ls' (st'.map (xCv ad')))) :
    W p l e R s m args below meth c H locs (h.1 - b0) (xSl h.1 - xSl b0) Q (F0 m pc ls (st.map (xCv ad))) := by
  obtain ⟨hx, hb, hml, hown, hts, hK, hret, hlocks, hini, hAm⟩ := X
  have hnL : al.length = xMl i := J.1.2.2.1
  have hn : n = 2 := hn.resolve_left (fun z => Bool.noConfusion z)
  subst hn
  delta xS at hS
  dsimp only at hS
  delta xGk at hk
  dsimp only at hk
  by_cases ha : a = 0
  · rw [if_pos ha] at hS hk
    cases hS
    simp only [decide_eq_true_eq] at hk
    have hmem := hk
    exact lv_ldc hx hb hown (hts _ (xCo_use hmem)) hd (kk ad H locs ls (J.stk (J.2.2.1.cons (xOk_int _))))
  · rw [if_neg ha] at hS hk
    cases hS
    simp only [decide_eq_true_eq] at hk
    have hmem := hk
    have hl := List.all_eq_true.mp xStr_ok _ hmem
    simp only [Bool.and_eq_true, decide_eq_true_eq] at hl
    have hg := kk ad H locs ls (J.stk (J.2.2.1.cons (xOk_big hl.1)))
    have hz : xCv ad (.ref a) = .ref (aS a) := congrArg Value.ref (J.2.2.2.2.2.2.2.2.2.2 a hl.1)
    rw [List.map_cons, hz] at hg
    have hr : vk_R (xCn (xMo i)) k (xTx a) (aS a) s := hAm.2.2.2.2.2.2.2.2.1 (xMo i, k, a) hmem
    exact va_ldcS hx hb hown hr hd hg
set_option maxHeartbeats 2000000 in
theorem xS_iadd (X : xCx xs p s m args meth c dC dI cy aS z0 i) (hAz : ∀ q, A q → z0 ≤ q) (hAs : ∀ q, s.heap.size ≤ q → A q) (hz0 : z0 ≤ s.heap.size) (hRc : lim - b0 ≤ R.cells) (hRs : xSl lim - xSl b0 ≤ R.slots) 
    (hd : decode (xMc i) pc = .ok (Instr.iadd, n)) (hn : xSwI (Instr.iadd) = true ∨ n = xLen (Instr.iadd)) {ts : List (Int32 × Nat)} (hk : xGk (xMo i) (xMr i) (decide (xMk i = 2)) pc a b v w ts (Instr.iadd) = true)
    (hS : xS xs lim al st h a b v w (Instr.iadd) = some (cnd, al', st', h')) (hc : cnd) (J : xJ s dC dI cy aS ad0 A b0 lim (xMl i) al st h ad H locs ls)
    (kk : ∀ (ad' : Nat → Nat) (H' : Heap) (locs' : List Loc) (ls' : Array Slot), xJ s dC dI cy aS ad0 A b0 lim (xMl i) al' st' h' ad' H' locs' ls' → W p l e R s m args below meth c H' locs' (h'.1 - b0) (xSl h'.1 - xSl b0) Q (F0 m (pc + n) ls' (st'.map (xCv ad')))) :
    W p l e R s m args below meth c H locs (h.1 - b0) (xSl h.1 - xSl b0) Q (F0 m pc ls (st.map (xCv ad))) := by
  obtain ⟨hx, hb, hml, hown, hts, hK, hret, hlocks, hini, hAm⟩ := X
  have hnL : al.length = xMl i := J.1.2.2.1
  have hn : n = 1 := hn.resolve_left (fun z => Bool.noConfusion z)
  subst hn
  delta xS at hS
  dsimp only at hS
  split at hS
  · cases hS
    exact lv_iadd hx hb hd (kk ad H locs ls (J.stk (J.2.2.1.tail.tail.cons (xOk_int _))))
  · cases hS
set_option maxHeartbeats 2000000 in
theorem xS_isub (X : xCx xs p s m args meth c dC dI cy aS z0 i) (hAz : ∀ q, A q → z0 ≤ q) (hAs : ∀ q, s.heap.size ≤ q → A q) (hz0 : z0 ≤ s.heap.size) (hRc : lim - b0 ≤ R.cells) (hRs : xSl lim - xSl b0 ≤ R.slots) 
    (hd : decode (xMc i) pc = .ok (Instr.isub, n)) (hn : xSwI (Instr.isub) = true ∨ n = xLen (Instr.isub)) {ts : List (Int32 × Nat)} (hk : xGk (xMo i) (xMr i) (decide (xMk i = 2)) pc a b v w ts (Instr.isub) = true)
    (hS : xS xs lim al st h a b v w (Instr.isub) = some (cnd, al', st', h')) (hc : cnd) (J : xJ s dC dI cy aS ad0 A b0 lim (xMl i) al st h ad H locs ls)
    (kk : ∀ (ad' : Nat → Nat) (H' : Heap) (locs' : List Loc) (ls' : Array Slot), xJ s dC dI cy aS ad0 A b0 lim (xMl i) al' st' h' ad' H' locs' ls' → W p l e R s m args below meth c H' locs' (h'.1 - b0) (xSl h'.1 - xSl b0) Q (F0 m (pc + n) ls' (st'.map (xCv ad')))) :
    W p l e R s m args below meth c H locs (h.1 - b0) (xSl h.1 - xSl b0) Q (F0 m pc ls (st.map (xCv ad))) := by
  obtain ⟨hx, hb, hml, hown, hts, hK, hret, hlocks, hini, hAm⟩ := X
  have hnL : al.length = xMl i := J.1.2.2.1
  have hn : n = 1 := hn.resolve_left (fun z => Bool.noConfusion z)
  subst hn
  delta xS at hS
  dsimp only at hS
  split at hS
  · cases hS
    exact lv_isub hx hb hd (kk ad H locs ls (J.stk (J.2.2.1.tail.tail.cons (xOk_int _))))
  · cases hS
set_option maxHeartbeats 2000000 in
theorem xS_imul (X : xCx xs p s m args meth c dC dI cy aS z0 i) (hAz : ∀ q, A q → z0 ≤ q) (hAs : ∀ q, s.heap.size ≤ q → A q) (hz0 : z0 ≤ s.heap.size) (hRc : lim - b0 ≤ R.cells) (hRs : xSl lim - xSl b0 ≤ R.slots) 
    (hd : decode (xMc i) pc = .ok (Instr.imul, n)) (hn : xSwI (Instr.imul) = true ∨ n = xLen (Instr.imul)) {ts : List (Int32 × Nat)} (hk : xGk (xMo i) (xMr i) (decide (xMk i = 2)) pc a b v w ts (Instr.imul) = true)
    (hS : xS xs lim al st h a b v w (Instr.imul) = some (cnd, al', st', h')) (hc : cnd) (J : xJ s dC dI cy aS ad0 A b0 lim (xMl i) al st h ad H locs ls)
    (kk : ∀ (ad' : Nat → Nat) (H' : Heap) (locs' : List Loc) (ls' : Array Slot), xJ s dC dI cy aS ad0 A b0 lim (xMl i) al' st' h' ad' H' locs' ls' → W p l e R s m args below meth c H' locs' (h'.1 - b0) (xSl h'.1 - xSl b0) Q (F0 m (pc + n) ls' (st'.map (xCv ad')))) :
    W p l e R s m args below meth c H locs (h.1 - b0) (xSl h.1 - xSl b0) Q (F0 m pc ls (st.map (xCv ad))) := by
  obtain ⟨hx, hb, hml, hown, hts, hK, hret, hlocks, hini, hAm⟩ := X
  have hnL : al.length = xMl i := J.1.2.2.1
  have hn : n = 1 := hn.resolve_left (fun z => Bool.noConfusion z)
  subst hn
  delta xS at hS
  dsimp only at hS
  split at hS
  · cases hS
    exact lv_imul hx hb hd (kk ad H locs ls (J.stk (J.2.2.1.tail.tail.cons (xOk_int _))))
  · cases hS
set_option maxHeartbeats 2000000 in
theorem xS_iand (X : xCx xs p s m args meth c dC dI cy aS z0 i) (hAz : ∀ q, A q → z0 ≤ q) (hAs : ∀ q, s.heap.size ≤ q → A q) (hz0 : z0 ≤ s.heap.size) (hRc : lim - b0 ≤ R.cells) (hRs : xSl lim - xSl b0 ≤ R.slots) 
    (hd : decode (xMc i) pc = .ok (Instr.iand, n)) (hn : xSwI (Instr.iand) = true ∨ n = xLen (Instr.iand)) {ts : List (Int32 × Nat)} (hk : xGk (xMo i) (xMr i) (decide (xMk i = 2)) pc a b v w ts (Instr.iand) = true)
    (hS : xS xs lim al st h a b v w (Instr.iand) = some (cnd, al', st', h')) (hc : cnd) (J : xJ s dC dI cy aS ad0 A b0 lim (xMl i) al st h ad H locs ls)
    (kk : ∀ (ad' : Nat → Nat) (H' : Heap) (locs' : List Loc) (ls' : Array Slot), xJ s dC dI cy aS ad0 A b0 lim (xMl i) al' st' h' ad' H' locs' ls' → W p l e R s m args below meth c H' locs' (h'.1 - b0) (xSl h'.1 - xSl b0) Q (F0 m (pc + n) ls' (st'.map (xCv ad')))) :
    W p l e R s m args below meth c H locs (h.1 - b0) (xSl h.1 - xSl b0) Q (F0 m pc ls (st.map (xCv ad))) := by
  obtain ⟨hx, hb, hml, hown, hts, hK, hret, hlocks, hini, hAm⟩ := X
  have hnL : al.length = xMl i := J.1.2.2.1
  have hn : n = 1 := hn.resolve_left (fun z => Bool.noConfusion z)
  subst hn
  delta xS at hS
  dsimp only at hS
  split at hS
  · cases hS
    exact lv_iand hx hb hd (kk ad H locs ls (J.stk (J.2.2.1.tail.tail.cons (xOk_int _))))
  · cases hS
set_option maxHeartbeats 2000000 in
theorem xS_ior (X : xCx xs p s m args meth c dC dI cy aS z0 i) (hAz : ∀ q, A q → z0 ≤ q) (hAs : ∀ q, s.heap.size ≤ q → A q) (hz0 : z0 ≤ s.heap.size) (hRc : lim - b0 ≤ R.cells) (hRs : xSl lim - xSl b0 ≤ R.slots) 
    (hd : decode (xMc i) pc = .ok (Instr.ior, n)) (hn : xSwI (Instr.ior) = true ∨ n = xLen (Instr.ior)) {ts : List (Int32 × Nat)} (hk : xGk (xMo i) (xMr i) (decide (xMk i = 2)) pc a b v w ts (Instr.ior) = true)
    (hS : xS xs lim al st h a b v w (Instr.ior) = some (cnd, al', st', h')) (hc : cnd) (J : xJ s dC dI cy aS ad0 A b0 lim (xMl i) al st h ad H locs ls)
    (kk : ∀ (ad' : Nat → Nat) (H' : Heap) (locs' : List Loc) (ls' : Array Slot), xJ s dC dI cy aS ad0 A b0 lim (xMl i) al' st' h' ad' H' locs' ls' → W p l e R s m args below meth c H' locs' (h'.1 - b0) (xSl h'.1 - xSl b0) Q (F0 m (pc + n) ls' (st'.map (xCv ad')))) :
    W p l e R s m args below meth c H locs (h.1 - b0) (xSl h.1 - xSl b0) Q (F0 m pc ls (st.map (xCv ad))) := by
  obtain ⟨hx, hb, hml, hown, hts, hK, hret, hlocks, hini, hAm⟩ := X
  have hnL : al.length = xMl i := J.1.2.2.1
  have hn : n = 1 := hn.resolve_left (fun z => Bool.noConfusion z)
  subst hn
  delta xS at hS
  dsimp only at hS
  split at hS
  · cases hS
    exact lv_ior hx hb hd (kk ad H locs ls (J.stk (J.2.2.1.tail.tail.cons (xOk_int _))))
  · cases hS
set_option maxHeartbeats 2000000 in
theorem xS_ixor (X : xCx xs p s m args meth c dC dI cy aS z0 i) (hAz : ∀ q, A q → z0 ≤ q) (hAs : ∀ q, s.heap.size ≤ q → A q) (hz0 : z0 ≤ s.heap.size) (hRc : lim - b0 ≤ R.cells) (hRs : xSl lim - xSl b0 ≤ R.slots) 
    (hd : decode (xMc i) pc = .ok (Instr.ixor, n)) (hn : xSwI (Instr.ixor) = true ∨ n = xLen (Instr.ixor)) {ts : List (Int32 × Nat)} (hk : xGk (xMo i) (xMr i) (decide (xMk i = 2)) pc a b v w ts (Instr.ixor) = true)
    (hS : xS xs lim al st h a b v w (Instr.ixor) = some (cnd, al', st', h')) (hc : cnd) (J : xJ s dC dI cy aS ad0 A b0 lim (xMl i) al st h ad H locs ls)
    (kk : ∀ (ad' : Nat → Nat) (H' : Heap) (locs' : List Loc) (ls' : Array Slot), xJ s dC dI cy aS ad0 A b0 lim (xMl i) al' st' h' ad' H' locs' ls' → W p l e R s m args below meth c H' locs' (h'.1 - b0) (xSl h'.1 - xSl b0) Q (F0 m (pc + n) ls' (st'.map (xCv ad')))) :
    W p l e R s m args below meth c H locs (h.1 - b0) (xSl h.1 - xSl b0) Q (F0 m pc ls (st.map (xCv ad))) := by
  obtain ⟨hx, hb, hml, hown, hts, hK, hret, hlocks, hini, hAm⟩ := X
  have hnL : al.length = xMl i := J.1.2.2.1
  have hn : n = 1 := hn.resolve_left (fun z => Bool.noConfusion z)
  subst hn
  delta xS at hS
  dsimp only at hS
  split at hS
  · cases hS
    exact lv_ixor hx hb hd (kk ad H locs ls (J.stk (J.2.2.1.tail.tail.cons (xOk_int _))))
  · cases hS
set_option maxHeartbeats 2000000 in
theorem xS_ishl (X : xCx xs p s m args meth c dC dI cy aS z0 i) (hAz : ∀ q, A q → z0 ≤ q) (hAs : ∀ q, s.heap.size ≤ q → A q) (hz0 : z0 ≤ s.heap.size) (hRc : lim - b0 ≤ R.cells) (hRs : xSl lim - xSl b0 ≤ R.slots) 
    (hd : decode (xMc i) pc = .ok (Instr.ishl, n)) (hn : xSwI (Instr.ishl) = true ∨ n = xLen (Instr.ishl)) {ts : List (Int32 × Nat)} (hk : xGk (xMo i) (xMr i) (decide (xMk i = 2)) pc a b v w ts (Instr.ishl) = true)
    (hS : xS xs lim al st h a b v w (Instr.ishl) = some (cnd, al', st', h')) (hc : cnd) (J : xJ s dC dI cy aS ad0 A b0 lim (xMl i) al st h ad H locs ls)
    (kk : ∀ (ad' : Nat → Nat) (H' : Heap) (locs' : List Loc) (ls' : Array Slot), xJ s dC dI cy aS ad0 A b0 lim (xMl i) al' st' h' ad' H' locs' ls' → W p l e R s m args below meth c H' locs' (h'.1 - b0) (xSl h'.1 - xSl b0) Q (F0 m (pc + n) ls' (st'.map (xCv ad')))) :
    W p l e R s m args below meth c H locs (h.1 - b0) (xSl h.1 - xSl b0) Q (F0 m pc ls (st.map (xCv ad))) := by
  obtain ⟨hx, hb, hml, hown, hts, hK, hret, hlocks, hini, hAm⟩ := X
  have hnL : al.length = xMl i := J.1.2.2.1
  have hn : n = 1 := hn.resolve_left (fun z => Bool.noConfusion z)
  subst hn
  delta xS at hS
  dsimp only at hS
  split at hS
  · cases hS
    exact lv_ishl hx hb hd (kk ad H locs ls (J.stk (J.2.2.1.tail.tail.cons (xOk_int _))))
  · cases hS
set_option maxHeartbeats 2000000 in
theorem xS_ishr (X : xCx xs p s m args meth c dC dI cy aS z0 i) (hAz : ∀ q, A q → z0 ≤ q) (hAs : ∀ q, s.heap.size ≤ q → A q) (hz0 : z0 ≤ s.heap.size) (hRc : lim - b0 ≤ R.cells) (hRs : xSl lim - xSl b0 ≤ R.slots) 
    (hd : decode (xMc i) pc = .ok (Instr.ishr, n)) (hn : xSwI (Instr.ishr) = true ∨ n = xLen (Instr.ishr)) {ts : List (Int32 × Nat)} (hk : xGk (xMo i) (xMr i) (decide (xMk i = 2)) pc a b v w ts (Instr.ishr) = true)
    (hS : xS xs lim al st h a b v w (Instr.ishr) = some (cnd, al', st', h')) (hc : cnd) (J : xJ s dC dI cy aS ad0 A b0 lim (xMl i) al st h ad H locs ls)
    (kk : ∀ (ad' : Nat → Nat) (H' : Heap) (locs' : List Loc) (ls' : Array Slot), xJ s dC dI cy aS ad0 A b0 lim (xMl i) al' st' h' ad' H' locs' ls' → W p l e R s m args below meth c H' locs' (h'.1 - b0) (xSl h'.1 - xSl b0) Q (F0 m (pc + n) ls' (st'.map (xCv ad')))) :
    W p l e R s m args below meth c H locs (h.1 - b0) (xSl h.1 - xSl b0) Q (F0 m pc ls (st.map (xCv ad))) := by
  obtain ⟨hx, hb, hml, hown, hts, hK, hret, hlocks, hini, hAm⟩ := X
  have hnL : al.length = xMl i := J.1.2.2.1
  have hn : n = 1 := hn.resolve_left (fun z => Bool.noConfusion z)
  subst hn
  delta xS at hS
  dsimp only at hS
  split at hS
  · cases hS
    exact lv_ishr hx hb hd (kk ad H locs ls (J.stk (J.2.2.1.tail.tail.cons (xOk_int _))))
  · cases hS
set_option maxHeartbeats 2000000 in
theorem xS_iushr (X : xCx xs p s m args meth c dC dI cy aS z0 i) (hAz : ∀ q, A q → z0 ≤ q) (hAs : ∀ q, s.heap.size ≤ q → A q) (hz0 : z0 ≤ s.heap.size) (hRc : lim - b0 ≤ R.cells) (hRs : xSl lim - xSl b0 ≤ R.slots) 
    (hd : decode (xMc i) pc = .ok (Instr.iushr, n)) (hn : xSwI (Instr.iushr) = true ∨ n = xLen (Instr.iushr)) {ts : List (Int32 × Nat)} (hk : xGk (xMo i) (xMr i) (decide (xMk i = 2)) pc a b v w ts (Instr.iushr) = true)
    (hS : xS xs lim al st h a b v w (Instr.iushr) = some (cnd, al', st', h')) (hc : cnd) (J : xJ s dC dI cy aS ad0 A b0 lim (xMl i) al st h ad H locs ls)
    (kk : ∀ (ad' : Nat → Nat) (H' : Heap) (locs' : List Loc) (ls' : Array Slot), xJ s dC dI cy aS ad0 A b0 lim (xMl i) al' st' h' ad' H' locs' ls' → W p l e R s m args below meth c H' locs' (h'.1 - b0) (xSl h'.1 - xSl b0) Q (F0 m (pc + n) ls' (st'.map (xCv ad')))) :
    W p l e R s m args below meth c H locs (h.1 - b0) (xSl h.1 - xSl b0) Q (F0 m pc ls (st.map (xCv ad))) := by
  obtain ⟨hx, hb, hml, hown, hts, hK, hret, hlocks, hini, hAm⟩ := X
  have hnL : al.length = xMl i := J.1.2.2.1
  have hn : n = 1 := hn.resolve_left (fun z => Bool.noConfusion z)
  subst hn
  delta xS at hS
  dsimp only at hS
  split at hS
  · cases hS
    exact lv_iushr hx hb hd rfl (kk ad H locs ls (J.stk (J.2.2.1.tail.tail.cons (xOk_int _))))
  · cases hS
set_option maxHeartbeats 2000000 in
theorem xS_idiv (X : xCx xs p s m args meth c dC dI cy aS z0 i) (hAz : ∀ q, A q → z0 ≤ q) (hAs : ∀ q, s.heap.size ≤ q → A q) (hz0 : z0 ≤ s.heap.size) (hRc : lim - b0 ≤ R.cells) (hRs : xSl lim - xSl b0 ≤ R.slots) 
    (hd : decode (xMc i) pc = .ok (Instr.idiv, n)) (hn : xSwI (Instr.idiv) = true ∨ n = xLen (Instr.idiv)) {ts : List (Int32 × Nat)} (hk : xGk (xMo i) (xMr i) (decide (xMk i = 2)) pc a b v w ts (Instr.idiv) = true)
    (hS : xS xs lim al st h a b v w (Instr.idiv) = some (cnd, al', st', h')) (hc : cnd) (J : xJ s dC dI cy aS ad0 A b0 lim (xMl i) al st h ad H locs ls)
    (kk : ∀ (ad' : Nat → Nat) (H' : Heap) (locs' : List Loc) (ls' : Array Slot), xJ s dC dI cy aS ad0 A b0 lim (xMl i) al' st' h' ad' H' locs' ls' → W p l e R s m args below meth c H' locs' (h'.1 - b0) (xSl h'.1 - xSl b0) Q (F0 m (pc + n) ls' (st'.map (xCv ad')))) :
    W p l e R s m args below meth c H locs (h.1 - b0) (xSl h.1 - xSl b0) Q (F0 m pc ls (st.map (xCv ad))) := by
  obtain ⟨hx, hb, hml, hown, hts, hK, hret, hlocks, hini, hAm⟩ := X
  have hnL : al.length = xMl i := J.1.2.2.1
  have hn : n = 1 := hn.resolve_left (fun z => Bool.noConfusion z)
  subst hn
  delta xS at hS
  dsimp only at hS
  split at hS
  · cases hS
    exact lv_idiv hx hb hd hc (kk ad H locs ls (J.stk (J.2.2.1.tail.tail.cons (xOk_int _))))
  · cases hS
set_option maxHeartbeats 2000000 in
theorem xS_irem (X : xCx xs p s m args meth c dC dI cy aS z0 i) (hAz : ∀ q, A q → z0 ≤ q) (hAs : ∀ q, s.heap.size ≤ q → A q) (hz0 : z0 ≤ s.heap.size) (hRc : lim - b0 ≤ R.cells) (hRs : xSl lim - xSl b0 ≤ R.slots) 
    (hd : decode (xMc i) pc = .ok (Instr.irem, n)) (hn : xSwI (Instr.irem) = true ∨ n = xLen (Instr.irem)) {ts : List (Int32 × Nat)} (hk : xGk (xMo i) (xMr i) (decide (xMk i = 2)) pc a b v w ts (Instr.irem) = true)
    (hS : xS xs lim al st h a b v w (Instr.irem) = some (cnd, al', st', h')) (hc : cnd) (J : xJ s dC dI cy aS ad0 A b0 lim (xMl i) al st h ad H locs ls)
    (kk : ∀ (ad' : Nat → Nat) (H' : Heap) (locs' : List Loc) (ls' : Array Slot), xJ s dC dI cy aS ad0 A b0 lim (xMl i) al' st' h' ad' H' locs' ls' → W p l e R s m args below meth c H' locs' (h'.1 - b0) (xSl h'.1 - xSl b0) Q (F0 m (pc + n) ls' (st'.map (xCv ad')))) :
    W p l e R s m args below meth c H locs (h.1 - b0) (xSl h.1 - xSl b0) Q (F0 m pc ls (st.map (xCv ad))) := by
  obtain ⟨hx, hb, hml, hown, hts, hK, hret, hlocks, hini, hAm⟩ := X
  have hnL : al.length = xMl i := J.1.2.2.1
  have hn : n = 1 := hn.resolve_left (fun z => Bool.noConfusion z)
  subst hn
  delta xS at hS
  dsimp only at hS
  split at hS
  · cases hS
    exact lv_irem hx hb hd hc (kk ad H locs ls (J.stk (J.2.2.1.tail.tail.cons (xOk_int _))))
  · cases hS
set_option maxHeartbeats 2000000 in
theorem xS_ineg (X : xCx xs p s m args meth c dC dI cy aS z0 i) (hAz : ∀ q, A q → z0 ≤ q) (hAs : ∀ q, s.heap.size ≤ q → A q) (hz0 : z0 ≤ s.heap.size) (hRc : lim - b0 ≤ R.cells) (hRs : xSl lim - xSl b0 ≤ R.slots) 
    (hd : decode (xMc i) pc = .ok (Instr.ineg, n)) (hn : xSwI (Instr.ineg) = true ∨ n = xLen (Instr.ineg)) {ts : List (Int32 × Nat)} (hk : xGk (xMo i) (xMr i) (decide (xMk i = 2)) pc a b v w ts (Instr.ineg) = true)
    (hS : xS xs lim al st h a b v w (Instr.ineg) = some (cnd, al', st', h')) (hc : cnd) (J : xJ s dC dI cy aS ad0 A b0 lim (xMl i) al st h ad H locs ls)
    (kk : ∀ (ad' : Nat → Nat) (H' : Heap) (locs' : List Loc) (ls' : Array Slot), xJ s dC dI cy aS ad0 A b0 lim (xMl i) al' st' h' ad' H' locs' ls' → W p l e R s m args below meth c H' locs' (h'.1 - b0) (xSl h'.1 - xSl b0) Q (F0 m (pc + n) ls' (st'.map (xCv ad')))) :
    W p l e R s m args below meth c H locs (h.1 - b0) (xSl h.1 - xSl b0) Q (F0 m pc ls (st.map (xCv ad))) := by
  obtain ⟨hx, hb, hml, hown, hts, hK, hret, hlocks, hini, hAm⟩ := X
  have hnL : al.length = xMl i := J.1.2.2.1
  have hn : n = 1 := hn.resolve_left (fun z => Bool.noConfusion z)
  subst hn
  delta xS at hS
  dsimp only at hS
  split at hS
  · cases hS
    exact lv_ineg hx hb hd (kk ad H locs ls (J.stk (J.2.2.1.tail.cons (xOk_int _))))
  · cases hS
set_option maxHeartbeats 2000000 in
theorem xS_ladd (X : xCx xs p s m args meth c dC dI cy aS z0 i) (hAz : ∀ q, A q → z0 ≤ q) (hAs : ∀ q, s.heap.size ≤ q → A q) (hz0 : z0 ≤ s.heap.size) (hRc : lim - b0 ≤ R.cells) (hRs : xSl lim - xSl b0 ≤ R.slots) 
    (hd : decode (xMc i) pc = .ok (Instr.ladd, n)) (hn : xSwI (Instr.ladd) = true ∨ n = xLen (Instr.ladd)) {ts : List (Int32 × Nat)} (hk : xGk (xMo i) (xMr i) (decide (xMk i = 2)) pc a b v w ts (Instr.ladd) = true)
    (hS : xS xs lim al st h a b v w (Instr.ladd) = some (cnd, al', st', h')) (hc : cnd) (J : xJ s dC dI cy aS ad0 A b0 lim (xMl i) al st h ad H locs ls)
    (kk : ∀ (ad' : Nat → Nat) (H' : Heap) (locs' : List Loc) (ls' : Array Slot), xJ s dC dI cy aS ad0 A b0 lim (xMl i) al' st' h' ad' H' locs' ls' → W p l e R s m args below meth c H' locs' (h'.1 - b0) (xSl h'.1 - xSl b0) Q (F0 m (pc + n) ls' (st'.map (xCv ad')))) :
    W p l e R s m args below meth c H locs (h.1 - b0) (xSl h.1 - xSl b0) Q (F0 m pc ls (st.map (xCv ad))) := by
  obtain ⟨hx, hb, hml, hown, hts, hK, hret, hlocks, hini, hAm⟩ := X
  have hnL : al.length = xMl i := J.1.2.2.1
  have hn : n = 1 := hn.resolve_left (fun z => Bool.noConfusion z)
  subst hn
  delta xS at hS
  dsimp only at hS
  split at hS
  · cases hS
    exact lv_ladd hx hb hd (kk ad H locs ls (J.stk (J.2.2.1.tail.tail.cons (xOk_long _))))
  · cases hS
set_option maxHeartbeats 2000000 in
theorem xS_lsub (X : xCx xs p s m args meth c dC dI cy aS z0 i) (hAz : ∀ q, A q → z0 ≤ q) (hAs : ∀ q, s.heap.size ≤ q → A q) (hz0 : z0 ≤ s.heap.size) (hRc : lim - b0 ≤ R.cells) (hRs : xSl lim - xSl b0 ≤ R.slots) 
    (hd : decode (xMc i) pc = .ok (Instr.lsub, n)) (hn : xSwI (Instr.lsub) = true ∨ n = xLen (Instr.lsub)) {ts : List (Int32 × Nat)} (hk : xGk (xMo i) (xMr i) (decide (xMk i = 2)) pc a b v w ts (Instr.lsub) = true)
    (hS : xS xs lim al st h a b v w (Instr.lsub) = some (cnd, al', st', h')) (hc : cnd) (J : xJ s dC dI cy aS ad0 A b0 lim (xMl i) al st h ad H locs ls)
    (kk : ∀ (ad' : Nat → Nat) (H' : Heap) (locs' : List Loc) (ls' : Array Slot), xJ s dC dI cy aS ad0 A b0 lim (xMl i) al' st' h' ad' H' locs' ls' → W p l e R s m args below meth c H' locs' (h'.1 - b0) (xSl h'.1 - xSl b0) Q (F0 m (pc + n) ls' (st'.map (xCv ad')))) :
    W p l e R s m args below meth c H locs (h.1 - b0) (xSl h.1 - xSl b0) Q (F0 m pc ls (st.map (xCv ad))) := by
  obtain ⟨hx, hb, hml, hown, hts, hK, hret, hlocks, hini, hAm⟩ := X
  have hnL : al.length = xMl i := J.1.2.2.1
  have hn : n = 1 := hn.resolve_left (fun z => Bool.noConfusion z)
  subst hn
  delta xS at hS
  dsimp only at hS
  split at hS
  · cases hS
    exact lv_lsub hx hb hd (kk ad H locs ls (J.stk (J.2.2.1.tail.tail.cons (xOk_long _))))
  · cases hS
set_option maxHeartbeats 2000000 in
theorem xS_lmul (X : xCx xs p s m args meth c dC dI cy aS z0 i) (hAz : ∀ q, A q → z0 ≤ q) (hAs : ∀ q, s.heap.size ≤ q → A q) (hz0 : z0 ≤ s.heap.size) (hRc : lim - b0 ≤ R.cells) (hRs : xSl lim - xSl b0 ≤ R.slots) 
    (hd : decode (xMc i) pc = .ok (Instr.lmul, n)) (hn : xSwI (Instr.lmul) = true ∨ n = xLen (Instr.lmul)) {ts : List (Int32 × Nat)} (hk : xGk (xMo i) (xMr i) (decide (xMk i = 2)) pc a b v w ts (Instr.lmul) = true)
    (hS : xS xs lim al st h a b v w (Instr.lmul) = some (cnd, al', st', h')) (hc : cnd) (J : xJ s dC dI cy aS ad0 A b0 lim (xMl i) al st h ad H locs ls)
    (kk : ∀ (ad' : Nat → Nat) (H' : Heap) (locs' : List Loc) (ls' : Array Slot), xJ s dC dI cy aS ad0 A b0 lim (xMl i) al' st' h' ad' H' locs' ls' → W p l e R s m args below meth c H' locs' (h'.1 - b0) (xSl h'.1 - xSl b0) Q (F0 m (pc + n) ls' (st'.map (xCv ad')))) :
    W p l e R s m args below meth c H locs (h.1 - b0) (xSl h.1 - xSl b0) Q (F0 m pc ls (st.map (xCv ad))) := by
  obtain ⟨hx, hb, hml, hown, hts, hK, hret, hlocks, hini, hAm⟩ := X
  have hnL : al.length = xMl i := J.1.2.2.1
  have hn : n = 1 := hn.resolve_left (fun z => Bool.noConfusion z)
  subst hn
  delta xS at hS
  dsimp only at hS
  split at hS
  · cases hS
    exact lv_lmul hx hb hd (kk ad H locs ls (J.stk (J.2.2.1.tail.tail.cons (xOk_long _))))
  · cases hS
set_option maxHeartbeats 2000000 in
theorem xS_ldiv (X : xCx xs p s m args meth c dC dI cy aS z0 i) (hAz : ∀ q, A q → z0 ≤ q) (hAs : ∀ q, s.heap.size ≤ q → A q) (hz0 : z0 ≤ s.heap.size) (hRc : lim - b0 ≤ R.cells) (hRs : xSl lim - xSl b0 ≤ R.slots) 
    (hd : decode (xMc i) pc = .ok (Instr.ldiv, n)) (hn : xSwI (Instr.ldiv) = true ∨ n = xLen (Instr.ldiv)) {ts : List (Int32 × Nat)} (hk : xGk (xMo i) (xMr i) (decide (xMk i = 2)) pc a b v w ts (Instr.ldiv) = true)
    (hS : xS xs lim al st h a b v w (Instr.ldiv) = some (cnd, al', st', h')) (hc : cnd) (J : xJ s dC dI cy aS ad0 A b0 lim (xMl i) al st h ad H locs ls)
    (kk : ∀ (ad' : Nat → Nat) (H' : Heap) (locs' : List Loc) (ls' : Array Slot), xJ s dC dI cy aS ad0 A b0 lim (xMl i) al' st' h' ad' H' locs' ls' → W p l e R s m args below meth c H' locs' (h'.1 - b0) (xSl h'.1 - xSl b0) Q (F0 m (pc + n) ls' (st'.map (xCv ad')))) :
    W p l e R s m args below meth c H locs (h.1 - b0) (xSl h.1 - xSl b0) Q (F0 m pc ls (st.map (xCv ad))) := by
  obtain ⟨hx, hb, hml, hown, hts, hK, hret, hlocks, hini, hAm⟩ := X
  have hnL : al.length = xMl i := J.1.2.2.1
  have hn : n = 1 := hn.resolve_left (fun z => Bool.noConfusion z)
  subst hn
  delta xS at hS
  dsimp only at hS
  split at hS
  · cases hS
    exact lv_ldiv hx hb hd hc (kk ad H locs ls (J.stk (J.2.2.1.tail.tail.cons (xOk_long _))))
  · cases hS
set_option maxHeartbeats 2000000 in
theorem xS_lrem (X : xCx xs p s m args meth c dC dI cy aS z0 i) (hAz : ∀ q, A q → z0 ≤ q) (hAs : ∀ q, s.heap.size ≤ q → A q) (hz0 : z0 ≤ s.heap.size) (hRc : lim - b0 ≤ R.cells) (hRs : xSl lim - xSl b0 ≤ R.slots) 
    (hd : decode (xMc i) pc = .ok (Instr.lrem, n)) (hn : xSwI (Instr.lrem) = true ∨ n = xLen (Instr.lrem)) {ts : List (Int32 × Nat)} (hk : xGk (xMo i) (xMr i) (decide (xMk i = 2)) pc a b v w ts (Instr.lrem) = true)
    (hS : xS xs lim al st h a b v w (Instr.lrem) = some (cnd, al', st', h')) (hc : cnd) (J : xJ s dC dI cy aS ad0 A b0 lim (xMl i) al st h ad H locs ls)
    (kk : ∀ (ad' : Nat → Nat) (H' : Heap) (locs' : List Loc) (ls' : Array Slot), xJ s dC dI cy aS ad0 A b0 lim (xMl i) al' st' h' ad' H' locs' ls' → W p l e R s m args below meth c H' locs' (h'.1 - b0) (xSl h'.1 - xSl b0) Q (F0 m (pc + n) ls' (st'.map (xCv ad')))) :
    W p l e R s m args below meth c H locs (h.1 - b0) (xSl h.1 - xSl b0) Q (F0 m pc ls (st.map (xCv ad))) := by
  obtain ⟨hx, hb, hml, hown, hts, hK, hret, hlocks, hini, hAm⟩ := X
  have hnL : al.length = xMl i := J.1.2.2.1
  have hn : n = 1 := hn.resolve_left (fun z => Bool.noConfusion z)
  subst hn
  delta xS at hS
  dsimp only at hS
  split at hS
  · cases hS
    exact lv_lrem hx hb hd hc (kk ad H locs ls (J.stk (J.2.2.1.tail.tail.cons (xOk_long _))))
  · cases hS
set_option maxHeartbeats 2000000 in
theorem xS_lcmp (X : xCx xs p s m args meth c dC dI cy aS z0 i) (hAz : ∀ q, A q → z0 ≤ q) (hAs : ∀ q, s.heap.size ≤ q → A q) (hz0 : z0 ≤ s.heap.size) (hRc : lim - b0 ≤ R.cells) (hRs : xSl lim - xSl b0 ≤ R.slots) 
    (hd : decode (xMc i) pc = .ok (Instr.lcmp, n)) (hn : xSwI (Instr.lcmp) = true ∨ n = xLen (Instr.lcmp)) {ts : List (Int32 × Nat)} (hk : xGk (xMo i) (xMr i) (decide (xMk i = 2)) pc a b v w ts (Instr.lcmp) = true)
    (hS : xS xs lim al st h a b v w (Instr.lcmp) = some (cnd, al', st', h')) (hc : cnd) (J : xJ s dC dI cy aS ad0 A b0 lim (xMl i) al st h ad H locs ls)
    (kk : ∀ (ad' : Nat → Nat) (H' : Heap) (locs' : List Loc) (ls' : Array Slot), xJ s dC dI cy aS ad0 A b0 lim (xMl i) al' st' h' ad' H' locs' ls' → W p l e R s m args below meth c H' locs' (h'.1 - b0) (xSl h'.1 - xSl b0) Q (F0 m (pc + n) ls' (st'.map (xCv ad')))) :
    W p l e R s m args below meth c H locs (h.1 - b0) (xSl h.1 - xSl b0) Q (F0 m pc ls (st.map (xCv ad))) := by
  obtain ⟨hx, hb, hml, hown, hts, hK, hret, hlocks, hini, hAm⟩ := X
  have hnL : al.length = xMl i := J.1.2.2.1
  have hn : n = 1 := hn.resolve_left (fun z => Bool.noConfusion z)
  subst hn
  delta xS at hS
  dsimp only at hS
  split at hS
  · cases hS
    exact W.lcmp hx hb hd (kk ad H locs ls (J.stk (J.2.2.1.tail.tail.cons (xOk_int _))))
  · cases hS
set_option maxHeartbeats 2000000 in
theorem xS_i2l (X : xCx xs p s m args meth c dC dI cy aS z0 i) (hAz : ∀ q, A q → z0 ≤ q) (hAs : ∀ q, s.heap.size ≤ q → A q) (hz0 : z0 ≤ s.heap.size) (hRc : lim - b0 ≤ R.cells) (hRs : xSl lim - xSl b0 ≤ R.slots) 
    (hd : decode (xMc i) pc = .ok (Instr.i2l, n)) (hn : xSwI (Instr.i2l) = true ∨ n = xLen (Instr.i2l)) {ts : List (Int32 × Nat)} (hk : xGk (xMo i) (xMr i) (decide (xMk i = 2)) pc a b v w ts (Instr.i2l) = true)
    (hS : xS xs lim al st h a b v w (Instr.i2l) = some (cnd, al', st', h')) (hc : cnd) (J : xJ s dC dI cy aS ad0 A b0 lim (xMl i) al st h ad H locs ls)
    (kk : ∀ (ad' : Nat → Nat) (H' : Heap) (locs' : List Loc) (ls' : Array Slot), xJ s dC dI cy aS ad0 A b0 lim (xMl i) al' st' h' ad' H' locs' ls' → W p l e R s m args below meth c H' locs' (h'.1 - b0) (xSl h'.1 - xSl b0) Q (F0 m (pc + n) ls' (st'.map (xCv ad')))) :
    W p l e R s m args below meth c H locs (h.1 - b0) (xSl h.1 - xSl b0) Q (F0 m pc ls (st.map (xCv ad))) := by
  obtain ⟨hx, hb, hml, hown, hts, hK, hret, hlocks, hini, hAm⟩ := X
  have hnL : al.length = xMl i := J.1.2.2.1
  have hn : n = 1 := hn.resolve_left (fun z => Bool.noConfusion z)
  subst hn
  delta xS at hS
  dsimp only at hS
  split at hS
  · cases hS
    exact lv_i2l hx hb hd rfl (kk ad H locs ls (J.stk (J.2.2.1.tail.cons (xOk_long _))))
  · cases hS
set_option maxHeartbeats 2000000 in
theorem xS_l2i (X : xCx xs p s m args meth c dC dI cy aS z0 i) (hAz : ∀ q, A q → z0 ≤ q) (hAs : ∀ q, s.heap.size ≤ q → A q) (hz0 : z0 ≤ s.heap.size) (hRc : lim - b0 ≤ R.cells) (hRs : xSl lim - xSl b0 ≤ R.slots) 
    (hd : decode (xMc i) pc = .ok (Instr.l2i, n)) (hn : xSwI (Instr.l2i) = true ∨ n = xLen (Instr.l2i)) {ts : List (Int32 × Nat)} (hk : xGk (xMo i) (xMr i) (decide (xMk i = 2)) pc a b v w ts (Instr.l2i) = true)
    (hS : xS xs lim al st h a b v w (Instr.l2i) = some (cnd, al', st', h')) (hc : cnd) (J : xJ s dC dI cy aS ad0 A b0 lim (xMl i) al st h ad H locs ls)
    (kk : ∀ (ad' : Nat → Nat) (H' : Heap) (locs' : List Loc) (ls' : Array Slot), xJ s dC dI cy aS ad0 A b0 lim (xMl i) al' st' h' ad' H' locs' ls' → W p l e R s m args below meth c H' locs' (h'.1 - b0) (xSl h'.1 - xSl b0) Q (F0 m (pc + n) ls' (st'.map (xCv ad')))) :
    W p l e R s m args below meth c H locs (h.1 - b0) (xSl h.1 - xSl b0) Q (F0 m pc ls (st.map (xCv ad))) := by
  obtain ⟨hx, hb, hml, hown, hts, hK, hret, hlocks, hini, hAm⟩ := X
  have hnL : al.length = xMl i := J.1.2.2.1
  have hn : n = 1 := hn.resolve_left (fun z => Bool.noConfusion z)
  subst hn
  delta xS at hS
  dsimp only at hS
  split at hS
  · cases hS
    exact lv_l2i hx hb hd rfl (kk ad H locs ls (J.stk (J.2.2.1.tail.cons (xOk_int _))))
  · cases hS
set_option maxHeartbeats 2000000 in
theorem xS_i2b (X : xCx xs p s m args meth c dC dI cy aS z0 i) (hAz : ∀ q, A q → z0 ≤ q) (hAs : ∀ q, s.heap.size ≤ q → A q) (hz0 : z0 ≤ s.heap.size) (hRc : lim - b0 ≤ R.cells) (hRs : xSl lim - xSl b0 ≤ R.slots) 
    (hd : decode (xMc i) pc = .ok (Instr.i2b, n)) (hn : xSwI (Instr.i2b) = true ∨ n = xLen (Instr.i2b)) {ts : List (Int32 × Nat)} (hk : xGk (xMo i) (xMr i) (decide (xMk i = 2)) pc a b v w ts (Instr.i2b) = true)
    (hS : xS xs lim al st h a b v w (Instr.i2b) = some (cnd, al', st', h')) (hc : cnd) (J : xJ s dC dI cy aS ad0 A b0 lim (xMl i) al st h ad H locs ls)
    (kk : ∀ (ad' : Nat → Nat) (H' : Heap) (locs' : List Loc) (ls' : Array Slot), xJ s dC dI cy aS ad0 A b0 lim (xMl i) al' st' h' ad' H' locs' ls' → W p l e R s m args below meth c H' locs' (h'.1 - b0) (xSl h'.1 - xSl b0) Q (F0 m (pc + n) ls' (st'.map (xCv ad')))) :
    W p l e R s m args below meth c H locs (h.1 - b0) (xSl h.1 - xSl b0) Q (F0 m pc ls (st.map (xCv ad))) := by
  obtain ⟨hx, hb, hml, hown, hts, hK, hret, hlocks, hini, hAm⟩ := X
  have hnL : al.length = xMl i := J.1.2.2.1
  have hn : n = 1 := hn.resolve_left (fun z => Bool.noConfusion z)
  subst hn
  delta xS at hS
  dsimp only at hS
  split at hS
  · cases hS
    exact lv_i2b hx hb hd rfl (kk ad H locs ls (J.stk (J.2.2.1.tail.cons (xOk_int _))))
  · cases hS
set_option maxHeartbeats 2000000 in
theorem xS_i2s (X : xCx xs p s m args meth c dC dI cy aS z0 i) (hAz : ∀ q, A q → z0 ≤ q) (hAs : ∀ q, s.heap.size ≤ q → A q) (hz0 : z0 ≤ s.heap.size) (hRc : lim - b0 ≤ R.cells) (hRs : xSl lim - xSl b0 ≤ R.slots) 
    (hd : decode (xMc i) pc = .ok (Instr.i2s, n)) (hn : xSwI (Instr.i2s) = true ∨ n = xLen (Instr.i2s)) {ts : List (Int32 × Nat)} (hk : xGk (xMo i) (xMr i) (decide (xMk i = 2)) pc a b v w ts (Instr.i2s) = true)
    (hS : xS xs lim al st h a b v w (Instr.i2s) = some (cnd, al', st', h')) (hc : cnd) (J : xJ s dC dI cy aS ad0 A b0 lim (xMl i) al st h ad H locs ls)
    (kk : ∀ (ad' : Nat → Nat) (H' : Heap) (locs' : List Loc) (ls' : Array Slot), xJ s dC dI cy aS ad0 A b0 lim (xMl i) al' st' h' ad' H' locs' ls' → W p l e R s m args below meth c H' locs' (h'.1 - b0) (xSl h'.1 - xSl b0) Q (F0 m (pc + n) ls' (st'.map (xCv ad')))) :
    W p l e R s m args below meth c H locs (h.1 - b0) (xSl h.1 - xSl b0) Q (F0 m pc ls (st.map (xCv ad))) := by
  obtain ⟨hx, hb, hml, hown, hts, hK, hret, hlocks, hini, hAm⟩ := X
  have hnL : al.length = xMl i := J.1.2.2.1
  have hn : n = 1 := hn.resolve_left (fun z => Bool.noConfusion z)
  subst hn
  delta xS at hS
  dsimp only at hS
  split at hS
  · cases hS
    exact lv_i2s hx hb hd rfl (kk ad H locs ls (J.stk (J.2.2.1.tail.cons (xOk_int _))))
  · cases hS
set_option maxHeartbeats 2000000 in
theorem xS_i2c (X : xCx xs p s m args meth c dC dI cy aS z0 i) (hAz : ∀ q, A q → z0 ≤ q) (hAs : ∀ q, s.heap.size ≤ q → A q) (hz0 : z0 ≤ s.heap.size) (hRc : lim - b0 ≤ R.cells) (hRs : xSl lim - xSl b0 ≤ R.slots) 
    (hd : decode (xMc i) pc = .ok (Instr.i2c, n)) (hn : xSwI (Instr.i2c) = true ∨ n = xLen (Instr.i2c)) {ts : List (Int32 × Nat)} (hk : xGk (xMo i) (xMr i) (decide (xMk i = 2)) pc a b v w ts (Instr.i2c) = true)
    (hS : xS xs lim al st h a b v w (Instr.i2c) = some (cnd, al', st', h')) (hc : cnd) (J : xJ s dC dI cy aS ad0 A b0 lim (xMl i) al st h ad H locs ls)
    (kk : ∀ (ad' : Nat → Nat) (H' : Heap) (locs' : List Loc) (ls' : Array Slot), xJ s dC dI cy aS ad0 A b0 lim (xMl i) al' st' h' ad' H' locs' ls' → W p l e R s m args below meth c H' locs' (h'.1 - b0) (xSl h'.1 - xSl b0) Q (F0 m (pc + n) ls' (st'.map (xCv ad')))) :
    W p l e R s m args below meth c H locs (h.1 - b0) (xSl h.1 - xSl b0) Q (F0 m pc ls (st.map (xCv ad))) := by
  obtain ⟨hx, hb, hml, hown, hts, hK, hret, hlocks, hini, hAm⟩ := X
  have hnL : al.length = xMl i := J.1.2.2.1
  have hn : n = 1 := hn.resolve_left (fun z => Bool.noConfusion z)
  subst hn
  delta xS at hS
  dsimp only at hS
  split at hS
  · cases hS
    exact lv_i2c hx hb hd rfl (kk ad H locs ls (J.stk (J.2.2.1.tail.cons (xOk_int _))))
  · cases hS
set_option maxHeartbeats 2000000 in
theorem xS_dup (X : xCx xs p s m args meth c dC dI cy aS z0 i) (hAz : ∀ q, A q → z0 ≤ q) (hAs : ∀ q, s.heap.size ≤ q → A q) (hz0 : z0 ≤ s.heap.size) (hRc : lim - b0 ≤ R.cells) (hRs : xSl lim - xSl b0 ≤ R.slots) 
    (hd : decode (xMc i) pc = .ok (Instr.dup, n)) (hn : xSwI (Instr.dup) = true ∨ n = xLen (Instr.dup)) {ts : List (Int32 × Nat)} (hk : xGk (xMo i) (xMr i) (decide (xMk i = 2)) pc a b v w ts (Instr.dup) = true)
    (hS : xS xs lim al st h a b v w (Instr.dup) = some (cnd, al', st', h')) (hc : cnd) (J : xJ s dC dI cy aS ad0 A b0 lim (xMl i) al st h ad H locs ls)
    (kk : ∀ (ad' : Nat → Nat) (H' : Heap) (locs' : List Loc) (ls' : Array Slot), xJ s dC dI cy aS ad0 A b0 lim (xMl i) al' st' h' ad' H' locs' ls' → W p l e R s m args below meth c H' locs' (h'.1 - b0) (xSl h'.1 - xSl b0) Q (F0 m (pc + n) ls' (st'.map (xCv ad')))) :
    W p l e R s m args below meth c H locs (h.1 - b0) (xSl h.1 - xSl b0) Q (F0 m pc ls (st.map (xCv ad))) := by
  obtain ⟨hx, hb, hml, hown, hts, hK, hret, hlocks, hini, hAm⟩ := X
  have hnL : al.length = xMl i := J.1.2.2.1
  have hn : n = 1 := hn.resolve_left (fun z => Bool.noConfusion z)
  subst hn
  delta xS at hS
  dsimp only at hS
  split at hS
  · cases hS
    exact lv_dup hx hb hd ((xCv_cat _ _).trans hc) (kk ad H locs ls (J.stk (J.2.2.1.cons J.2.2.1.head)))
  · cases hS
set_option maxHeartbeats 2000000 in
theorem xS_pop (X : xCx xs p s m args meth c dC dI cy aS z0 i) (hAz : ∀ q, A q → z0 ≤ q) (hAs : ∀ q, s.heap.size ≤ q → A q) (hz0 : z0 ≤ s.heap.size) (hRc : lim - b0 ≤ R.cells) (hRs : xSl lim - xSl b0 ≤ R.slots) 
    (hd : decode (xMc i) pc = .ok (Instr.pop, n)) (hn : xSwI (Instr.pop) = true ∨ n = xLen (Instr.pop)) {ts : List (Int32 × Nat)} (hk : xGk (xMo i) (xMr i) (decide (xMk i = 2)) pc a b v w ts (Instr.pop) = true)
    (hS : xS xs lim al st h a b v w (Instr.pop) = some (cnd, al', st', h')) (hc : cnd) (J : xJ s dC dI cy aS ad0 A b0 lim (xMl i) al st h ad H locs ls)
    (kk : ∀ (ad' : Nat → Nat) (H' : Heap) (locs' : List Loc) (ls' : Array Slot), xJ s dC dI cy aS ad0 A b0 lim (xMl i) al' st' h' ad' H' locs' ls' → W p l e R s m args below meth c H' locs' (h'.1 - b0) (xSl h'.1 - xSl b0) Q (F0 m (pc + n) ls' (st'.map (xCv ad')))) :
    W p l e R s m args below meth c H locs (h.1 - b0) (xSl h.1 - xSl b0) Q (F0 m pc ls (st.map (xCv ad))) := by
  obtain ⟨hx, hb, hml, hown, hts, hK, hret, hlocks, hini, hAm⟩ := X
  have hnL : al.length = xMl i := J.1.2.2.1
  have hn : n = 1 := hn.resolve_left (fun z => Bool.noConfusion z)
  subst hn
  delta xS at hS
  dsimp only at hS
  split at hS
  · cases hS
    exact lv_pop hx hb hd ((xCv_cat _ _).trans hc) (kk ad H locs ls (J.stk J.2.2.1.tail))
  · cases hS
set_option maxHeartbeats 2000000 in
theorem xS_dup_x1 (X : xCx xs p s m args meth c dC dI cy aS z0 i) (hAz : ∀ q, A q → z0 ≤ q) (hAs : ∀ q, s.heap.size ≤ q → A q) (hz0 : z0 ≤ s.heap.size) (hRc : lim - b0 ≤ R.cells) (hRs : xSl lim - xSl b0 ≤ R.slots) 
    (hd : decode (xMc i) pc = .ok (Instr.dup_x1, n)) (hn : xSwI (Instr.dup_x1) = true ∨ n = xLen (Instr.dup_x1)) {ts : List (Int32 × Nat)} (hk : xGk (xMo i) (xMr i) (decide (xMk i = 2)) pc a b v w ts (Instr.dup_x1) = true)
    (hS : xS xs lim al st h a b v w (Instr.dup_x1) = some (cnd, al', st', h')) (hc : cnd) (J : xJ s dC dI cy aS ad0 A b0 lim (xMl i) al st h ad H locs ls)
    (kk : ∀ (ad' : Nat → Nat) (H' : Heap) (locs' : List Loc) (ls' : Array Slot), xJ s dC dI cy aS ad0 A b0 lim (xMl i) al' st' h' ad' H' locs' ls' → W p l e R s m args below meth c H' locs' (h'.1 - b0) (xSl h'.1 - xSl b0) Q (F0 m (pc + n) ls' (st'.map (xCv ad')))) :
    W p l e R s m args below meth c H locs (h.1 - b0) (xSl h.1 - xSl b0) Q (F0 m pc ls (st.map (xCv ad))) := by
  obtain ⟨hx, hb, hml, hown, hts, hK, hret, hlocks, hini, hAm⟩ := X
  have hnL : al.length = xMl i := J.1.2.2.1
  have hn : n = 1 := hn.resolve_left (fun z => Bool.noConfusion z)
  subst hn
  delta xS at hS
  dsimp only at hS
  split at hS
  · cases hS
    exact lv_dup_x1 hx hb hd ((xCv_cat _ _).trans hc.1) ((xCv_cat _ _).trans hc.2) (kk ad H locs ls (J.stk (((J.2.2.1.tail.tail.cons J.2.2.1.head).cons J.2.2.1.tail.head).cons J.2.2.1.head)))
  · cases hS
set_option maxHeartbeats 2000000 in
theorem xS_dup2 (X : xCx xs p s m args meth c dC dI cy aS z0 i) (hAz : ∀ q, A q → z0 ≤ q) (hAs : ∀ q, s.heap.size ≤ q → A q) (hz0 : z0 ≤ s.heap.size) (hRc : lim - b0 ≤ R.cells) (hRs : xSl lim - xSl b0 ≤ R.slots) 
    (hd : decode (xMc i) pc = .ok (Instr.dup2, n)) (hn : xSwI (Instr.dup2) = true ∨ n = xLen (Instr.dup2)) {ts : List (Int32 × Nat)} (hk : xGk (xMo i) (xMr i) (decide (xMk i = 2)) pc a b v w ts (Instr.dup2) = true)
    (hS : xS xs lim al st h a b v w (Instr.dup2) = some (cnd, al', st', h')) (hc : cnd) (J : xJ s dC dI cy aS ad0 A b0 lim (xMl i) al st h ad H locs ls)
    (kk : ∀ (ad' : Nat → Nat) (H' : Heap) (locs' : List Loc) (ls' : Array Slot), xJ s dC dI cy aS ad0 A b0 lim (xMl i) al' st' h' ad' H' locs' ls' → W p l e R s m args below meth c H' locs' (h'.1 - b0) (xSl h'.1 - xSl b0) Q (F0 m (pc + n) ls' (st'.map (xCv ad')))) :
    W p l e R s m args below meth c H locs (h.1 - b0) (xSl h.1 - xSl b0) Q (F0 m pc ls (st.map (xCv ad))) := by
  obtain ⟨hx, hb, hml, hown, hts, hK, hret, hlocks, hini, hAm⟩ := X
  have hnL : al.length = xMl i := J.1.2.2.1
  have hn : n = 1 := hn.resolve_left (fun z => Bool.noConfusion z)
  subst hn
  delta xS at hS
  dsimp only at hS
  split at hS
  · cases hS
    exact lv_dup2_11 hx hb hd ((xCv_cat _ _).trans hc.1) ((xCv_cat _ _).trans hc.2) (kk ad H locs ls (J.stk ((J.2.2.1.cons J.2.2.1.tail.head).cons J.2.2.1.head)))
  · cases hS
set_option maxHeartbeats 2000000 in
theorem xS_getstatic (X : xCx xs p s m args meth c dC dI cy aS z0 i) (hAz : ∀ q, A q → z0 ≤ q) (hAs : ∀ q, s.heap.size ≤ q → A q) (hz0 : z0 ≤ s.heap.size) (hRc : lim - b0 ≤ R.cells) (hRs : xSl lim - xSl b0 ≤ R.slots) {k : Nat}
    (hd : decode (xMc i) pc = .ok (.getstatic k, n)) (hn : xSwI (.getstatic k) = true ∨ n = xLen (.getstatic k)) {ts : List (Int32 × Nat)} (hk : xGk (xMo i) (xMr i) (decide (xMk i = 2)) pc a b v w ts (.getstatic k) = true)
    (hS : xS xs lim al st h a b v w (.getstatic k) = some (cnd, al', st', h')) (hc : cnd) (J : xJ s dC dI cy aS ad0 A b0 lim (xMl i) al st h ad H locs ls)
    (kk : ∀ (ad' : Nat → Nat) (H' : Heap) (locs' : List Loc) (ls' : Array Slot), xJ s dC dI cy aS ad0 A b0 lim (xMl i) al' st' h' ad' H' locs' ls' → W p l e R s m args below meth c H' locs' (h'.1 - b0) (xSl h'.1 - xSl b0) Q (F0 m (pc + n) ls' (st'.map (xCv ad')))) :
    W p l e R s m args below meth c H locs (h.1 - b0) (xSl h.1 - xSl b0) Q (F0 m pc ls (st.map (xCv ad))) := by
  obtain ⟨hx, hb, hml, hown, hts, hK, hret, hlocks, hini, hAm⟩ := X
  have hnL : al.length = xMl i := J.1.2.2.1
  have hn : n = 3 := hn.resolve_left (fun z => Bool.noConfusion z)
  subst hn
  delta xS at hS
  dsimp only at hS
  delta xGk at hk
  dsimp only at hk
  simp only [decide_eq_true_eq] at hk
  have hmem := hk
  have hl := List.all_eq_true.mp xStl_ok _ hmem
  simp only [Bool.and_eq_true, Bool.or_eq_true, decide_eq_true_eq] at hl
  obtain ⟨hl, hz⟩ := hl
  have hl := hts _ (xIn_ok hl)
  obtain ⟨-, m2, -, m4, m5, -⟩ := hAm
  rcases hz with (hz | hz) | hz
  · subst hz
    rw [if_pos rfl] at hS
    cases hS
    subst hc
    exact va_gets hx hb (m4.narrow hAz) J.2.2.2.2.2.2.1 hown hl (fun _ h9 => h9) hd (kk ad H locs ls (J.stk (J.2.2.1.cons (xOk_int _))))
  · subst hz
    rw [if_neg (by decide), if_pos rfl] at hS
    cases hS
    have hg := kk ad H locs ls (J.stk (J.2.2.1.cons (xOk_big (by decide))))
    have hz : xCv ad (.ref 3000) = .ref (aS 3000) := congrArg Value.ref (J.2.2.2.2.2.2.2.2.2.2 3000 (by decide))
    rw [List.map_cons, hz] at hg
    exact va_gets hx hb (m2.narrow hAz) J.2.2.2.2.2.2.1 hown hl (fun _ h9 => h9) hd hg
  · subst hz
    rw [if_neg (by decide), if_neg (by decide), if_pos rfl] at hS
    cases hS
    have hg := kk ad H locs ls (J.stk (J.2.2.1.cons (fun p e => by cases e)))
    have hz : xCv ad (.retAddr 0) = xCv aS (.retAddr 0) := by simp only [xCv, J.2.2.2.2.2.2.2.2.2.2 4000 (by decide)]
    rw [List.map_cons, hz] at hg
    exact va_gets hx hb (m5.narrow hAz) J.2.2.2.2.2.2.1 hown hl (fun _ h9 => h9) hd hg
set_option maxHeartbeats 2000000 in
theorem xS_getfield (X : xCx xs p s m args meth c dC dI cy aS z0 i) (hAz : ∀ q, A q → z0 ≤ q) (hAs : ∀ q, s.heap.size ≤ q → A q) (hz0 : z0 ≤ s.heap.size) (hRc : lim - b0 ≤ R.cells) (hRs : xSl lim - xSl b0 ≤ R.slots) {k : Nat}
    (hd : decode (xMc i) pc = .ok (.getfield k, n)) (hn : xSwI (.getfield k) = true ∨ n = xLen (.getfield k)) {ts : List (Int32 × Nat)} (hk : xGk (xMo i) (xMr i) (decide (xMk i = 2)) pc a b v w ts (.getfield k) = true)
    (hS : xS xs lim al st h a b v w (.getfield k) = some (cnd, al', st', h')) (hc : cnd) (J : xJ s dC dI cy aS ad0 A b0 lim (xMl i) al st h ad H locs ls)
    (kk : ∀ (ad' : Nat → Nat) (H' : Heap) (locs' : List Loc) (ls' : Array Slot), xJ s dC dI cy aS ad0 A b0 lim (xMl i) al' st' h' ad' H' locs' ls' → W p l e R s m args below meth c H' locs' (h'.1 - b0) (xSl h'.1 - xSl b0) Q (F0 m (pc + n) ls' (st'.map (xCv ad')))) :
    W p l e R s m args below meth c H locs (h.1 - b0) (xSl h.1 - xSl b0) Q (F0 m pc ls (st.map (xCv ad))) := by
  obtain ⟨hx, hb, hml, hown, hts, hK, hret, hlocks, hini, hAm⟩ := X
  have hnL : al.length = xMl i := J.1.2.2.1
  have hn : n = 3 := hn.resolve_left (fun z => Bool.noConfusion z)
  subst hn
  delta xS at hS
  dsimp only at hS
  delta xGk at hk
  dsimp only at hk
  split at hS
  · rename_i st0 q rest
    obtain ⟨q, rfl⟩ : ∃ q2 : Nat, q2 = q := ⟨_, rfl⟩
    unfold xGf at hS
    by_cases ha : a = 100
    · rw [if_pos ha] at hS hk
      simp only [Bool.and_eq_true, decide_eq_true_eq] at hk
      obtain ⟨⟨ho, hk⟩, hb2⟩ := hk
      have hl := xIn_ok (List.all_eq_true.mp xSfl_ok _ hk)
      have hown2 : s.vm.findClass "java/lang/String" = some m.cls := by rw [← hown, ho]; rfl
      obtain ⟨m1, -⟩ := hAm
      have m1 := m1.narrow hAz
      by_cases hb0 : b = 0
      · subst hb0
        rw [if_pos rfl] at hS
        cases hS
        have hg := kk ad H locs ls (J.stk (J.2.2.1.tail.cons (xOk_big (by omega))))
        have hz1 := x_ad1 J.2.2.2.2.2.2.2.2.2.2 hc.1
        have hz : xCv ad (.ref (q + 1000)) = .ref (aS (2000 + (q - 1000))) := congrArg Value.ref (x_ad2 J.2.2.2.2.2.2.2.2.2.2 hc.1)
        rw [List.map_cons, hz] at hg
        show W p l e R s m args below meth c H locs _ _ Q (F0 m pc ls (.ref (ad q) :: rest.map (xCv ad)))
        rw [hz1]
        exact vk_getf hx hb (m1.1 (q - 1000) (by omega)).2.2.1 J.2.2.2.2.2.2.1 hown2 (hts _ hl) (fun _ h9 => h9) hd hg
      · rw [if_neg hb0] at hS
        have hb1 : b = 1 := by omega
        subst hb1
        cases hS
        have hg := kk ad H locs ls (J.stk (J.2.2.1.tail.cons (xOk_int _)))
        have hz1 := x_ad1 J.2.2.2.2.2.2.2.2.2.2 hc.1
        show W p l e R s m args below meth c H locs _ _ Q (F0 m pc ls (.ref (ad q) :: rest.map (xCv ad)))
        rw [hz1]
        exact vk_getf hx hb (m1.1 (q - 1000) (by omega)).2.1 J.2.2.2.2.2.2.1 hown2 (hts _ hl) (fun _ h9 => h9) hd hg
    · rw [if_neg ha] at hS hk
      cases hS
      simp only [decide_eq_true_eq] at hk
      have hmem := hk
      obtain ⟨hl, hbn, ha7⟩ := xFl_use hmem
      obtain ⟨hkd, hq⟩ := hc
      have hov : xOk h.1 (xVal h q b (xFt a b)) := by
        cases hty : xFt a b <;> simp only [xVal] <;> first | exact xOk_rf J.2.2.2.1 q b | exact xOk_int _ | exact xOk_long _
      have hg := kk ad H locs ls (J.stk (J.2.2.1.tail.cons hov))
      have h7 : xKd q < 7 := by omega
      have hcell : (xW cy ad h)[q]? = some (ad q, .inr (a, (List.range (xLn q)).map (fun k => xCv ad (xVal h q k (xFt (xKd q) k))))) := by
        rw [xW_get hq]
        unfold xCe
        rw [if_pos h7, hkd]
      refine va_get hx hb hts (xKi_use ha7).2.2 hown hK J.2.2.2.2.1 q hcell (xCl_at a ha7) b hbn (hts _ hl) (fun _ h9 => h9) ?_ hd hg
      rw [List.getElem?_map, List.getElem?_range (by rw [xLn_of h7, hkd]; exact hbn), hkd]
      rfl
  · cases hS
set_option maxHeartbeats 2000000 in
theorem xS_putfield (X : xCx xs p s m args meth c dC dI cy aS z0 i) (hAz : ∀ q, A q → z0 ≤ q) (hAs : ∀ q, s.heap.size ≤ q → A q) (hz0 : z0 ≤ s.heap.size) (hRc : lim - b0 ≤ R.cells) (hRs : xSl lim - xSl b0 ≤ R.slots) {k : Nat}
    (hd : decode (xMc i) pc = .ok (.putfield k, n)) (hn : xSwI (.putfield k) = true ∨ n = xLen (.putfield k)) {ts : List (Int32 × Nat)} (hk : xGk (xMo i) (xMr i) (decide (xMk i = 2)) pc a b v w ts (.putfield k) = true)
    (hS : xS xs lim al st h a b v w (.putfield k) = some (cnd, al', st', h')) (hc : cnd) (J : xJ s dC dI cy aS ad0 A b0 lim (xMl i) al st h ad H locs ls)
    (kk : ∀ (ad' : Nat → Nat) (H' : Heap) (locs' : List Loc) (ls' : Array Slot), xJ s dC dI cy aS ad0 A b0 lim (xMl i) al' st' h' ad' H' locs' ls' → W p l e R s m args below meth c H' locs' (h'.1 - b0) (xSl h'.1 - xSl b0) Q (F0 m (pc + n) ls' (st'.map (xCv ad')))) :
    W p l e R s m args below meth c H locs (h.1 - b0) (xSl h.1 - xSl b0) Q (F0 m pc ls (st.map (xCv ad))) := by
  obtain ⟨hx, hb, hml, hown, hts, hK, hret, hlocks, hini, hAm⟩ := X
  have hnL : al.length = xMl i := J.1.2.2.1
  have hn : n = 3 := hn.resolve_left (fun z => Bool.noConfusion z)
  subst hn
  delta xS at hS
  dsimp only at hS
  delta xGk at hk
  dsimp only at hk
  simp only [Bool.and_eq_true, Bool.or_eq_true, decide_eq_true_eq] at hk
  split at hS
  · rename_i st0 x q rest
    obtain ⟨q, rfl⟩ : ∃ q2 : Nat, q2 = q := ⟨_, rfl⟩
    unfold xPf at hS
    cases hS
    obtain ⟨hk, hfin⟩ := hk
    obtain ⟨hl, hbn, ha7⟩ := xFl_use hk
    obtain ⟨hkd, hq, hf, hrl⟩ := hc
    have h7 : xKd q < 7 := by omega
    have hcell : (xW cy ad h)[q]? = some (ad q, .inr (a, (List.range (xLn q)).map (fun k => xCv ad (xVal h q k (xFt (xKd q) k))))) := by
      rw [xW_get hq]
      unfold xCe
      rw [if_pos h7, hkd]
    have hset : (xW cy ad h).set q (ad q, .inr (a, ((List.range (xLn q)).map (fun k => xCv ad (xVal h q k (xFt (xKd q) k)))).set b (xCv ad x))) = xW cy ad (xPut h q b x) := by
      refine xW_set hq (xPut_n h q b x) ?_ (fun r hr => xCe_other hr)
      rw [xCe_put h7 (by rw [hkd]; exact hf), hkd]
    have hvr : ∀ r, x = .ref r → r < h.1 := by
      intro r e
      subst e
      exact hrl
    have hkk : ∀ (H1 : Heap) (locs1 : List Loc), va_P (dC, dI) vwCl (xW cy ad (xPut h q b x)) H1 → va_D A (xW cy ad (xPut h q b x)) → va_S A s.heap H1 locs1 → W p l e R s m args below meth c H1 locs1 (h.1 - b0) (xSl h.1 - xSl b0) Q (F0 m (pc + 3) ls (st'.map (xCv ad))) := by
      intro H1 locs1 hP hD hS1
      have := kk ad H1 locs1 ls ((J.stk J.2.2.1.tail.tail).put hvr hP hD hS1)
      rw [xPut_n] at this
      exact this
    rw [← hset] at hkk
    have hff := xFits_ok (ad := ad) hf
    have hlen : b < ((List.range (xLn q)).map (fun k => xCv ad (xVal h q k (xFt (xKd q) k)))).length := by
      rw [List.length_map, List.length_range, xLn_of h7, hkd]; exact hbn
    rcases hfin with hfin | ⟨h2, h3⟩
    · exact va_put hx hb hts (xKi_use ha7).2.2 (xFt a) (xTyp a ha7) (xNm a ha7) hown hK J.2.2.2.2.1 J.2.2.2.2.2.1 J.2.2.2.2.2.2.1 q hcell (xCl_at a ha7) b hbn (hts _ hl) (fun _ h9 => h9) (by simpa using hfin) (xTyp a ha7 b hbn) hff.1 hff.2 hlen hd hkk
    · by_cases hfin2 : ((xTt a) b).2.2.2 = true
      · exact va_putF hx hb hts (xKi_use ha7).2.2 (xFt a) (xTyp a ha7) (xNm a ha7) hown hK J.2.2.2.2.1 J.2.2.2.2.2.1 J.2.2.2.2.2.2.1 q hcell (xCl_at a ha7) b hbn (hts _ hl) (fun _ h9 => h9) hfin2 (hini h2) h3 (xTyp a ha7 b hbn) hff.1 hff.2 hlen hd hkk
      · exact va_put hx hb hts (xKi_use ha7).2.2 (xFt a) (xTyp a ha7) (xNm a ha7) hown hK J.2.2.2.2.1 J.2.2.2.2.2.1 J.2.2.2.2.2.2.1 q hcell (xCl_at a ha7) b hbn (hts _ hl) (fun _ h9 => h9) (by simpa using hfin2) (xTyp a ha7 b hbn) hff.1 hff.2 hlen hd hkk
  · cases hS
set_option maxHeartbeats 2000000 in
theorem xS_arraylength (X : xCx xs p s m args meth c dC dI cy aS z0 i) (hAz : ∀ q, A q → z0 ≤ q) (hAs : ∀ q, s.heap.size ≤ q → A q) (hz0 : z0 ≤ s.heap.size) (hRc : lim - b0 ≤ R.cells) (hRs : xSl lim - xSl b0 ≤ R.slots) 
    (hd : decode (xMc i) pc = .ok (Instr.arraylength, n)) (hn : xSwI (Instr.arraylength) = true ∨ n = xLen (Instr.arraylength)) {ts : List (Int32 × Nat)} (hk : xGk (xMo i) (xMr i) (decide (xMk i = 2)) pc a b v w ts (Instr.arraylength) = true)
    (hS : xS xs lim al st h a b v w (Instr.arraylength) = some (cnd, al', st', h')) (hc : cnd) (J : xJ s dC dI cy aS ad0 A b0 lim (xMl i) al st h ad H locs ls)
    (kk : ∀ (ad' : Nat → Nat) (H' : Heap) (locs' : List Loc) (ls' : Array Slot), xJ s dC dI cy aS ad0 A b0 lim (xMl i) al' st' h' ad' H' locs' ls' → W p l e R s m args below meth c H' locs' (h'.1 - b0) (xSl h'.1 - xSl b0) Q (F0 m (pc + n) ls' (st'.map (xCv ad')))) :
    W p l e R s m args below meth c H locs (h.1 - b0) (xSl h.1 - xSl b0) Q (F0 m pc ls (st.map (xCv ad))) := by
  obtain ⟨hx, hb, hml, hown, hts, hK, hret, hlocks, hini, hAm⟩ := X
  have hnL : al.length = xMl i := J.1.2.2.1
  have hn : n = 1 := hn.resolve_left (fun z => Bool.noConfusion z)
  subst hn
  delta xS at hS
  dsimp only at hS
  split at hS
  · rename_i st0 q rest
    obtain ⟨q, rfl⟩ : ∃ q2 : Nat, q2 = q := ⟨_, rfl⟩
    unfold xLe at hS
    by_cases ha : a = 2000
    · rw [if_pos ha] at hS
      cases hS
      have m1 := hAm.1.narrow hAz
      have hg := kk ad H locs ls (J.stk (J.2.2.1.tail.cons (xOk_int _)))
      have hz1 : ad q = aS (2000 + (q - 2000)) := x_ad3 J.2.2.2.2.2.2.2.2.2.2 (by omega)
      show W p l e R s m args below meth c H locs _ _ Q (F0 m pc ls (.ref (ad q) :: rest.map (xCv ad)))
      rw [hz1]
      exact va_tlen hx hb (m1.1 (q - 2000) (by omega)).2.2.2 J.2.2.2.2.2.2.1 rfl hd hg
    · rw [if_neg ha] at hS
      by_cases ha5 : a = 5000
      · rw [if_pos ha5] at hS
        cases hS
        have hc : q = 5000 := hc
        subst hc
        obtain ⟨hX, hX0⟩ := hAm.2.2.2.2.2.2.2.2.2
        have hg := kk ad H locs ls (J.stk (J.2.2.1.tail.cons (xOk_int _)))
        show W p l e R s m args below meth c H locs _ _ Q (F0 m pc ls (.ref (ad 5000) :: rest.map (xCv ad)))
        rw [J.2.2.2.2.2.2.2.2.2.2 5000 (by decide)]
        exact va_slen hx hb hX (by omega) (fun z => absurd (hAz _ z) (by omega)) J.2.2.2.2.2.2.1 hd hg
      rw [if_neg ha5] at hS
      cases hS
      obtain ⟨h6, h11, hq⟩ := hc
      have hg := kk ad H locs ls (J.stk (J.2.2.1.tail.cons (xOk_int _)))
      by_cases h9 : xKd q < 9
      · have hcell : (xW cy ad h)[q]? = some (ad q, .inl (cy (xKd q), xLn q, .inl (h.2.1 q))) := by
          rw [xW_get hq]; unfold xCe; rw [if_neg (by omega), if_pos h9]
        rcases (show xKd q = 7 ∨ xKd q = 8 by omega) with z | z
        · rw [z] at hcell; exact va_alen hx hb hK J.2.2.2.2.1 q 0 hcell rfl rfl hd hg
        · rw [z] at hcell; exact va_alen hx hb hK J.2.2.2.2.1 q 1 hcell rfl rfl hd hg
      · have hcell : (xW cy ad h)[q]? = some (ad q, .inl (cy (xKd q), xLn q, .inr (.inr (.inr (.inr (fun k => (h.2.2.2 q k).map ad)))))) := by
          rw [xW_get hq]; unfold xCe; rw [if_neg (by omega), if_neg h9]
        rcases (show xKd q = 9 ∨ xKd q = 10 by omega) with z | z
        · rw [z] at hcell; exact va_alen hx hb hK J.2.2.2.2.1 q 2 hcell rfl rfl hd hg
        · rw [z] at hcell; exact va_alen hx hb hK J.2.2.2.2.1 q 3 hcell rfl rfl hd hg
  · cases hS
set_option maxHeartbeats 2000000 in
theorem xS_iaload (X : xCx xs p s m args meth c dC dI cy aS z0 i) (hAz : ∀ q, A q → z0 ≤ q) (hAs : ∀ q, s.heap.size ≤ q → A q) (hz0 : z0 ≤ s.heap.size) (hRc : lim - b0 ≤ R.cells) (hRs : xSl lim - xSl b0 ≤ R.slots) 
    (hd : decode (xMc i) pc = .ok (Instr.iaload, n)) (hn : xSwI (Instr.iaload) = true ∨ n = xLen (Instr.iaload)) {ts : List (Int32 × Nat)} (hk : xGk (xMo i) (xMr i) (decide (xMk i = 2)) pc a b v w ts (Instr.iaload) = true)
    (hS : xS xs lim al st h a b v w (Instr.iaload) = some (cnd, al', st', h')) (hc : cnd) (J : xJ s dC dI cy aS ad0 A b0 lim (xMl i) al st h ad H locs ls)
    (kk : ∀ (ad' : Nat → Nat) (H' : Heap) (locs' : List Loc) (ls' : Array Slot), xJ s dC dI cy aS ad0 A b0 lim (xMl i) al' st' h' ad' H' locs' ls' → W p l e R s m args below meth c H' locs' (h'.1 - b0) (xSl h'.1 - xSl b0) Q (F0 m (pc + n) ls' (st'.map (xCv ad')))) :
    W p l e R s m args below meth c H locs (h.1 - b0) (xSl h.1 - xSl b0) Q (F0 m pc ls (st.map (xCv ad))) := by
  obtain ⟨hx, hb, hml, hown, hts, hK, hret, hlocks, hini, hAm⟩ := X
  have hnL : al.length = xMl i := J.1.2.2.1
  have hn : n = 1 := hn.resolve_left (fun z => Bool.noConfusion z)
  subst hn
  delta xS at hS
  dsimp only at hS
  split at hS
  · rename_i st0 i0 q rest
    obtain ⟨q, rfl⟩ : ∃ q2 : Nat, q2 = q := ⟨_, rfl⟩
    unfold xIl at hS
    by_cases ha : a = 3000
    · rw [if_pos ha] at hS
      cases hS
      obtain ⟨rfl, hin⟩ := hc
      have hg := kk ad H locs ls (J.stk (J.2.2.1.tail.tail.cons (xOk_int _)))
      show W p l e R s m args below meth c H locs _ _ Q (F0 m pc ls (.int i0 :: .ref (ad 3000) :: rest.map (xCv ad)))
      rw [J.2.2.2.2.2.2.2.2.2.2 3000 (by decide)]
      exact va_ti hx hb (hAm.2.2.1.narrow hAz) J.2.2.2.2.2.2.1 hin rfl hd hg
    · rw [if_neg ha] at hS
      by_cases ha5 : a = 5000
      · rw [if_pos ha5] at hS
        cases hS
        obtain ⟨rfl, hin⟩ := hc
        obtain ⟨hX, hX0⟩ := hAm.2.2.2.2.2.2.2.2.2
        have hg := kk ad H locs ls (J.stk (J.2.2.1.tail.tail.cons (xOk_int _)))
        show W p l e R s m args below meth c H locs _ _ Q (F0 m pc ls (.int i0 :: .ref (ad 5000) :: rest.map (xCv ad)))
        rw [J.2.2.2.2.2.2.2.2.2.2 5000 (by decide)]
        exact va_sld hx hb hX (by omega) (fun z => absurd (hAz _ z) (by omega)) J.2.2.2.2.2.2.1 hin hd hg
      rw [if_neg ha5] at hS
      cases hS
      obtain ⟨h7, hq, hin⟩ := hc
      have hcell : (xW cy ad h)[q]? = some (ad q, .inl (cy 7, xLn q, .inl (h.2.1 q))) := by
        rw [xW_get hq]; unfold xCe; rw [if_neg (by omega), if_pos (by omega), h7]
      exact va_iald hx hb hK J.2.2.2.2.1 q 0 hcell rfl hin hd (kk ad H locs ls (J.stk (J.2.2.1.tail.tail.cons (xOk_int _))))
  · cases hS
set_option maxHeartbeats 2000000 in
theorem xS_baload (X : xCx xs p s m args meth c dC dI cy aS z0 i) (hAz : ∀ q, A q → z0 ≤ q) (hAs : ∀ q, s.heap.size ≤ q → A q) (hz0 : z0 ≤ s.heap.size) (hRc : lim - b0 ≤ R.cells) (hRs : xSl lim - xSl b0 ≤ R.slots) 
    (hd : decode (xMc i) pc = .ok (Instr.baload, n)) (hn : xSwI (Instr.baload) = true ∨ n = xLen (Instr.baload)) {ts : List (Int32 × Nat)} (hk : xGk (xMo i) (xMr i) (decide (xMk i = 2)) pc a b v w ts (Instr.baload) = true)
    (hS : xS xs lim al st h a b v w (Instr.baload) = some (cnd, al', st', h')) (hc : cnd) (J : xJ s dC dI cy aS ad0 A b0 lim (xMl i) al st h ad H locs ls)
    (kk : ∀ (ad' : Nat → Nat) (H' : Heap) (locs' : List Loc) (ls' : Array Slot), xJ s dC dI cy aS ad0 A b0 lim (xMl i) al' st' h' ad' H' locs' ls' → W p l e R s m args below meth c H' locs' (h'.1 - b0) (xSl h'.1 - xSl b0) Q (F0 m (pc + n) ls' (st'.map (xCv ad')))) :
    W p l e R s m args below meth c H locs (h.1 - b0) (xSl h.1 - xSl b0) Q (F0 m pc ls (st.map (xCv ad))) := by
  obtain ⟨hx, hb, hml, hown, hts, hK, hret, hlocks, hini, hAm⟩ := X
  have hnL : al.length = xMl i := J.1.2.2.1
  have hn : n = 1 := hn.resolve_left (fun z => Bool.noConfusion z)
  subst hn
  delta xS at hS
  dsimp only at hS
  split at hS
  · rename_i st0 i0 q rest
    obtain ⟨q, rfl⟩ : ∃ q2 : Nat, q2 = q := ⟨_, rfl⟩
    unfold xBl2 at hS
    by_cases ha : a = 2000
    · rw [if_pos ha] at hS
      cases hS
      obtain ⟨h1, h2, hin⟩ := hc
      have hg := kk ad H locs ls (J.stk (J.2.2.1.tail.tail.cons (xOk_int _)))
      have hz1 : ad q = aS (2000 + (q - 2000)) := x_ad3 J.2.2.2.2.2.2.2.2.2.2 (by omega)
      show W p l e R s m args below meth c H locs _ _ Q (F0 m pc ls (.int i0 :: .ref (ad q) :: rest.map (xCv ad)))
      rw [hz1]
      exact va_tb hx hb ((hAm.1.narrow hAz).1 (q - 2000) (by omega)).2.2.2 J.2.2.2.2.2.2.1 hin rfl hd hg
    · rw [if_neg ha] at hS
      cases hS
      obtain ⟨h8, hq, hin⟩ := hc
      have hcell : (xW cy ad h)[q]? = some (ad q, .inl (cy 8, xLn q, .inl (h.2.1 q))) := by
        rw [xW_get hq]; unfold xCe; rw [if_neg (by omega), if_pos (by omega), h8]
      exact va_zald hx hb hK J.2.2.2.2.1 q 1 hcell rfl hin hd (kk ad H locs ls (J.stk (J.2.2.1.tail.tail.cons (xOk_int _))))
  · cases hS
set_option maxHeartbeats 2000000 in
theorem xS_aaload (X : xCx xs p s m args meth c dC dI cy aS z0 i) (hAz : ∀ q, A q → z0 ≤ q) (hAs : ∀ q, s.heap.size ≤ q → A q) (hz0 : z0 ≤ s.heap.size) (hRc : lim - b0 ≤ R.cells) (hRs : xSl lim - xSl b0 ≤ R.slots) 
    (hd : decode (xMc i) pc = .ok (Instr.aaload, n)) (hn : xSwI (Instr.aaload) = true ∨ n = xLen (Instr.aaload)) {ts : List (Int32 × Nat)} (hk : xGk (xMo i) (xMr i) (decide (xMk i = 2)) pc a b v w ts (Instr.aaload) = true)
    (hS : xS xs lim al st h a b v w (Instr.aaload) = some (cnd, al', st', h')) (hc : cnd) (J : xJ s dC dI cy aS ad0 A b0 lim (xMl i) al st h ad H locs ls)
    (kk : ∀ (ad' : Nat → Nat) (H' : Heap) (locs' : List Loc) (ls' : Array Slot), xJ s dC dI cy aS ad0 A b0 lim (xMl i) al' st' h' ad' H' locs' ls' → W p l e R s m args below meth c H' locs' (h'.1 - b0) (xSl h'.1 - xSl b0) Q (F0 m (pc + n) ls' (st'.map (xCv ad')))) :
    W p l e R s m args below meth c H locs (h.1 - b0) (xSl h.1 - xSl b0) Q (F0 m pc ls (st.map (xCv ad))) := by
  obtain ⟨hx, hb, hml, hown, hts, hK, hret, hlocks, hini, hAm⟩ := X
  have hnL : al.length = xMl i := J.1.2.2.1
  have hn : n = 1 := hn.resolve_left (fun z => Bool.noConfusion z)
  subst hn
  delta xS at hS
  dsimp only at hS
  split at hS
  · rename_i st0 i0 q rest
    obtain ⟨q, rfl⟩ : ∃ q2 : Nat, q2 = q := ⟨_, rfl⟩
    unfold xAl2 at hS
    cases hS
    obtain ⟨h9, hq, hin⟩ := hc
    have hg := kk ad H locs ls (J.stk (J.2.2.1.tail.tail.cons (xOk_rf J.2.2.2.1 _ _)))
    rw [List.map_cons, xCv_rf] at hg
    have hcell : (xW cy ad h)[q]? = some (ad q, .inl (cy (xKd q), xLn q, .inr (.inr (.inr (.inr (fun k => (h.2.2.2 q k).map ad)))))) := by
      rw [xW_get hq]; unfold xCe; rw [if_neg (by omega), if_neg (by omega)]
    rcases h9 with z | z
    · rw [z] at hcell; exact va_aldq hx hb hK J.2.2.2.2.1 q 2 hcell rfl hin hd hg
    · rw [z] at hcell; exact va_aldq hx hb hK J.2.2.2.2.1 q 3 hcell rfl hin hd hg
  · cases hS
set_option maxHeartbeats 2000000 in
theorem xS_iastore (X : xCx xs p s m args meth c dC dI cy aS z0 i) (hAz : ∀ q, A q → z0 ≤ q) (hAs : ∀ q, s.heap.size ≤ q → A q) (hz0 : z0 ≤ s.heap.size) (hRc : lim - b0 ≤ R.cells) (hRs : xSl lim - xSl b0 ≤ R.slots) 
    (hd : decode (xMc i) pc = .ok (Instr.iastore, n)) (hn : xSwI (Instr.iastore) = true ∨ n = xLen (Instr.iastore)) {ts : List (Int32 × Nat)} (hk : xGk (xMo i) (xMr i) (decide (xMk i = 2)) pc a b v w ts (Instr.iastore) = true)
    (hS : xS xs lim al st h a b v w (Instr.iastore) = some (cnd, al', st', h')) (hc : cnd) (J : xJ s dC dI cy aS ad0 A b0 lim (xMl i) al st h ad H locs ls)
    (kk : ∀ (ad' : Nat → Nat) (H' : Heap) (locs' : List Loc) (ls' : Array Slot), xJ s dC dI cy aS ad0 A b0 lim (xMl i) al' st' h' ad' H' locs' ls' → W p l e R s m args below meth c H' locs' (h'.1 - b0) (xSl h'.1 - xSl b0) Q (F0 m (pc + n) ls' (st'.map (xCv ad')))) :
    W p l e R s m args below meth c H locs (h.1 - b0) (xSl h.1 - xSl b0) Q (F0 m pc ls (st.map (xCv ad))) := by
  obtain ⟨hx, hb, hml, hown, hts, hK, hret, hlocks, hini, hAm⟩ := X
  have hnL : al.length = xMl i := J.1.2.2.1
  have hn : n = 1 := hn.resolve_left (fun z => Bool.noConfusion z)
  subst hn
  delta xS at hS
  dsimp only at hS
  split at hS
  · rename_i st0 x i0 q rest
    obtain ⟨q, rfl⟩ : ∃ q2 : Nat, q2 = q := ⟨_, rfl⟩
    unfold xIs at hS
    cases hS
    obtain ⟨h7, hq, hin⟩ := hc
    have hcell : (xW cy ad h)[q]? = some (ad q, .inl (cy 7, xLn q, .inl (h.2.1 q))) := by
      rw [xW_get hq]; unfold xCe; rw [if_neg (by omega), if_pos (by omega), h7]
    have hset : (xW cy ad h).set q (ad q, .inl (cy 7, xLn q, .inl (upd (h.2.1 q) i0.toNatClampNeg x))) = xW cy ad (xPut h q i0.toNatClampNeg (.int x)) := by
      refine xW_set hq (xPut_n _ _ _ _) ?_ (fun r hr => xCe_other hr)
      rw [xCe_iput (by omega) (by omega), h7]
    refine va_iast hx hb hK J.2.2.2.2.1 J.2.2.2.2.2.1 J.2.2.2.2.2.2.1 q 0 hcell rfl hin hd fun H1 locs1 hP hD hS1 => ?_
    rw [hset] at hP hD
    exact kk ad H1 locs1 ls ((J.stk J.2.2.1.tail.tail.tail).put (fun r e => by cases e) hP hD hS1)
  · cases hS
set_option maxHeartbeats 2000000 in
theorem xS_bastore (X : xCx xs p s m args meth c dC dI cy aS z0 i) (hAz : ∀ q, A q → z0 ≤ q) (hAs : ∀ q, s.heap.size ≤ q → A q) (hz0 : z0 ≤ s.heap.size) (hRc : lim - b0 ≤ R.cells) (hRs : xSl lim - xSl b0 ≤ R.slots) 
    (hd : decode (xMc i) pc = .ok (Instr.bastore, n)) (hn : xSwI (Instr.bastore) = true ∨ n = xLen (Instr.bastore)) {ts : List (Int32 × Nat)} (hk : xGk (xMo i) (xMr i) (decide (xMk i = 2)) pc a b v w ts (Instr.bastore) = true)
    (hS : xS xs lim al st h a b v w (Instr.bastore) = some (cnd, al', st', h')) (hc : cnd) (J : xJ s dC dI cy aS ad0 A b0 lim (xMl i) al st h ad H locs ls)
    (kk : ∀ (ad' : Nat → Nat) (H' : Heap) (locs' : List Loc) (ls' : Array Slot), xJ s dC dI cy aS ad0 A b0 lim (xMl i) al' st' h' ad' H' locs' ls' → W p l e R s m args below meth c H' locs' (h'.1 - b0) (xSl h'.1 - xSl b0) Q (F0 m (pc + n) ls' (st'.map (xCv ad')))) :
    W p l e R s m args below meth c H locs (h.1 - b0) (xSl h.1 - xSl b0) Q (F0 m pc ls (st.map (xCv ad))) := by
  obtain ⟨hx, hb, hml, hown, hts, hK, hret, hlocks, hini, hAm⟩ := X
  have hnL : al.length = xMl i := J.1.2.2.1
  have hn : n = 1 := hn.resolve_left (fun z => Bool.noConfusion z)
  subst hn
  delta xS at hS
  dsimp only at hS
  split at hS
  · rename_i st0 x i0 q rest
    obtain ⟨q, rfl⟩ : ∃ q2 : Nat, q2 = q := ⟨_, rfl⟩
    unfold xBs at hS
    cases hS
    obtain ⟨h8, hq, hin, h01⟩ := hc
    have hcell : (xW cy ad h)[q]? = some (ad q, .inl (cy 8, xLn q, .inl (h.2.1 q))) := by
      rw [xW_get hq]; unfold xCe; rw [if_neg (by omega), if_pos (by omega), h8]
    have hnar : vp_nar .boolean x = x := by rcases h01 with e | e <;> subst e <;> rfl
    have hset : (xW cy ad h).set q (ad q, .inl (cy 8, xLn q, .inl (upd (h.2.1 q) i0.toNatClampNeg x))) = xW cy ad (xPut h q i0.toNatClampNeg (.int x)) := by
      refine xW_set hq (xPut_n _ _ _ _) ?_ (fun r hr => xCe_other hr)
      rw [xCe_iput (by omega) (by omega), h8]
    refine va_zast hx hb hK J.2.2.2.2.1 J.2.2.2.2.2.1 J.2.2.2.2.2.2.1 q 1 hcell rfl hin hd fun H1 locs1 hP hD hS1 => ?_
    rw [hnar, hset] at hP hD
    exact kk ad H1 locs1 ls ((J.stk J.2.2.1.tail.tail.tail).put (fun r e => by cases e) hP hD hS1)
  · cases hS
set_option maxHeartbeats 2000000 in
theorem xS_aastore (X : xCx xs p s m args meth c dC dI cy aS z0 i) (hAz : ∀ q, A q → z0 ≤ q) (hAs : ∀ q, s.heap.size ≤ q → A q) (hz0 : z0 ≤ s.heap.size) (hRc : lim - b0 ≤ R.cells) (hRs : xSl lim - xSl b0 ≤ R.slots) 
    (hd : decode (xMc i) pc = .ok (Instr.aastore, n)) (hn : xSwI (Instr.aastore) = true ∨ n = xLen (Instr.aastore)) {ts : List (Int32 × Nat)} (hk : xGk (xMo i) (xMr i) (decide (xMk i = 2)) pc a b v w ts (Instr.aastore) = true)
    (hS : xS xs lim al st h a b v w (Instr.aastore) = some (cnd, al', st', h')) (hc : cnd) (J : xJ s dC dI cy aS ad0 A b0 lim (xMl i) al st h ad H locs ls)
    (kk : ∀ (ad' : Nat → Nat) (H' : Heap) (locs' : List Loc) (ls' : Array Slot), xJ s dC dI cy aS ad0 A b0 lim (xMl i) al' st' h' ad' H' locs' ls' → W p l e R s m args below meth c H' locs' (h'.1 - b0) (xSl h'.1 - xSl b0) Q (F0 m (pc + n) ls' (st'.map (xCv ad')))) :
    W p l e R s m args below meth c H locs (h.1 - b0) (xSl h.1 - xSl b0) Q (F0 m pc ls (st.map (xCv ad))) := by
  obtain ⟨hx, hb, hml, hown, hts, hK, hret, hlocks, hini, hAm⟩ := X
  have hnL : al.length = xMl i := J.1.2.2.1
  have hn : n = 1 := hn.resolve_left (fun z => Bool.noConfusion z)
  subst hn
  delta xS at hS
  dsimp only at hS
  split at hS
  · rename_i st0 r i0 q rest
    obtain ⟨r, rfl⟩ : ∃ q2 : Nat, q2 = r := ⟨_, rfl⟩
    obtain ⟨q, rfl⟩ : ∃ q2 : Nat, q2 = q := ⟨_, rfl⟩
    unfold xAs at hS
    cases hS
    obtain ⟨h9, hq, hr, hin⟩ := hc
    have hcell : (xW cy ad h)[q]? = some (ad q, .inl (cy (xKd q), xLn q, .inr (.inr (.inr (.inr (fun k => (h.2.2.2 q k).map ad)))))) := by
      rw [xW_get hq]; unfold xCe; rw [if_neg (by omega), if_neg (by omega)]
    have hcell2 : (xW cy ad h)[r]? = some (ad r, .inr (xKd r, (List.range (xLn r)).map (fun k => xCv ad (xVal h r k (xFt (xKd r) k))))) := by
      rw [xW_get hr]; unfold xCe; rw [if_pos (by omega)]
    have hset : (xW cy ad h).set q (ad q, .inl (cy (xKd q), xLn q, .inr (.inr (.inr (.inr (va_up (fun k => (h.2.2.2 q k).map ad) i0.toNatClampNeg (some (ad r)))))))) = xW cy ad (xPut h q i0.toNatClampNeg (.ref r)) := by
      refine xW_set hq (xPut_n _ _ _ _) ?_ (fun t ht => xCe_other ht)
      rw [xCe_aput (by omega) (by omega)]
    have hkk : ∀ (H1 : Heap) (locs1 : List Loc), va_P (dC, dI) vwCl (xW cy ad (xPut h q i0.toNatClampNeg (.ref r))) H1 → va_D A (xW cy ad (xPut h q i0.toNatClampNeg (.ref r))) → va_S A s.heap H1 locs1 → W p l e R s m args below meth c H1 locs1 (h.1 - b0) (xSl h.1 - xSl b0) Q (F0 m (pc + 1) ls (st'.map (xCv ad))) := by
      intro H1 locs1 hP hD hS1
      exact kk ad H1 locs1 ls ((J.stk J.2.2.1.tail.tail.tail).put (fun t e => by cases e; exact hr) hP hD hS1)
    rw [← hset] at hkk
    rcases h9 with ⟨z, y⟩ | ⟨z, y⟩
    · rw [z] at hcell hkk; rw [y] at hcell2
      exact va_astq hx hb hK J.2.2.2.2.1 J.2.2.2.2.2.1 J.2.2.2.2.2.2.1 q 2 r 2 (r := (RX3, TX3, 3)) hcell rfl hcell2 rfl hin hd hkk
    · rw [z] at hcell hkk; rw [y] at hcell2
      exact va_astq hx hb hK J.2.2.2.2.1 J.2.2.2.2.2.1 J.2.2.2.2.2.2.1 q 3 r 4 (r := (RX5, TX5, 2)) hcell rfl hcell2 rfl hin hd hkk
  · cases hS
set_option maxHeartbeats 2000000 in
theorem xS_new (X : xCx xs p s m args meth c dC dI cy aS z0 i) (hAz : ∀ q, A q → z0 ≤ q) (hAs : ∀ q, s.heap.size ≤ q → A q) (hz0 : z0 ≤ s.heap.size) (hRc : lim - b0 ≤ R.cells) (hRs : xSl lim - xSl b0 ≤ R.slots) {k : Nat}
    (hd : decode (xMc i) pc = .ok (.new k, n)) (hn : xSwI (.new k) = true ∨ n = xLen (.new k)) {ts : List (Int32 × Nat)} (hk : xGk (xMo i) (xMr i) (decide (xMk i = 2)) pc a b v w ts (.new k) = true)
    (hS : xS xs lim al st h a b v w (.new k) = some (cnd, al', st', h')) (hc : cnd) (J : xJ s dC dI cy aS ad0 A b0 lim (xMl i) al st h ad H locs ls)
    (kk : ∀ (ad' : Nat → Nat) (H' : Heap) (locs' : List Loc) (ls' : Array Slot), xJ s dC dI cy aS ad0 A b0 lim (xMl i) al' st' h' ad' H' locs' ls' → W p l e R s m args below meth c H' locs' (h'.1 - b0) (xSl h'.1 - xSl b0) Q (F0 m (pc + n) ls' (st'.map (xCv ad')))) :
    W p l e R s m args below meth c H locs (h.1 - b0) (xSl h.1 - xSl b0) Q (F0 m pc ls (st.map (xCv ad))) := by
  obtain ⟨hx, hb, hml, hown, hts, hK, hret, hlocks, hini, hAm⟩ := X
  have hnL : al.length = xMl i := J.1.2.2.1
  have hn : n = 3 := hn.resolve_left (fun z => Bool.noConfusion z)
  subst hn
  delta xS at hS
  dsimp only at hS
  delta xGk at hk
  dsimp only at hk
  simp only [Bool.and_eq_true, decide_eq_true_eq] at hk
  cases hS
  obtain ⟨hk, ha7⟩ := hk
  have hl := List.all_eq_true.mp xKl_ok _ hk
  have hl := xIn_ok hl
  have hkc : xKc a = xRn a := by unfold xKc; rw [if_neg (by omega), if_neg (by omega)]
  simp only [hkc] at hl
  have hb0l : b0 ≤ h.1 := J.2.2.2.2.2.2.2.1
  have hcells : h.1 - b0 + 1 ≤ R.cells := by omega
  have hsl : xSl h.1 - xSl b0 + xLn h.1 ≤ R.slots := by
    have e1 : xSl h.1 + xLn h.1 = xSl (h.1 + 1) := rfl
    have e2 := xSl_mono hc.2
    have e3 := xSl_mono hb0l
    omega
  have hgc : (xNew h).1 - b0 = h.1 - b0 + 1 := by show h.1 + 1 - b0 = _; omega
  have hgs : xSl (xNew h).1 - xSl b0 = xSl h.1 - xSl b0 + xLn h.1 := by
    show xSl h.1 + xLn h.1 - xSl b0 = _
    have e3 := xSl_mono hb0l
    omega
  obtain ⟨w1, w2, w3⟩ := xKi_use ha7
  have h7 : xKd h.1 < 7 := by rw [hc.1]; exact ha7
  have hln : xLn h.1 = xNf a := by rw [xLn_of h7, hc.1]
  rw [hln] at hsl
  refine va_new (ci := a) (fs := (List.range (xLn h.1)).map (fun k => xCv ad (xVal (xNew h) h.1 k (xFt (xKd h.1) k)))) hx hb hts w3 (xFt a) (xTyp a ha7) hown (hts _ hl) (hts _ w1) (hts _ w2) hK J.2.2.2.2.1 J.2.2.2.2.2.1 J.2.2.2.2.2.2.1 hAs (xCl_at a ha7) (fun j hj => ?_) hcells hsl hd (fun q H1 hP hD hS1 => ?_)
  · unfold vp_V
    rw [List.getD_eq_getElem?_getD, List.getElem?_map, List.getElem?_range (by rw [hln]; exact hj), hc.1]
    exact xDef (xFk_ok (xFk_all _ ha7 j hj))
  · have he : xCe cy (va_up ad h.1 q) (xNew h) h.1 = .inr (a, (List.range (xLn h.1)).map (fun k => xCv ad (xVal (xNew h) h.1 k (xFt (xKd h.1) k)))) := by
      unfold xCe
      rw [if_pos h7, hc.1]
      refine congrArg (fun f => Sum.inr (a, f)) (List.map_congr_left fun k hk2 => ?_)
      have hk3 : k < xNf a := by rw [← hln]; exact List.mem_range.mp hk2
      rw [← xDef (xFk_ok (xFk_all _ ha7 k hk3)), ← xDef (xFk_ok (xFk_all _ ha7 k hk3))]
    obtain ⟨J2, hst⟩ := J.new (by have := xKd_lt (p := h.1) (by omega); omega) hc.2 he hP hD hS1
    have hg := kk _ H1 locs ls J2
    rw [List.map_cons, hst, hgc, hgs, hln] at hg
    rw [show xCv (va_up ad h.1 q) (.ref h.1) = .ref q by simp [xCv, va_up]] at hg
    exact hg
set_option maxHeartbeats 2000000 in
theorem xS_newarray (X : xCx xs p s m args meth c dC dI cy aS z0 i) (hAz : ∀ q, A q → z0 ≤ q) (hAs : ∀ q, s.heap.size ≤ q → A q) (hz0 : z0 ≤ s.heap.size) (hRc : lim - b0 ≤ R.cells) (hRs : xSl lim - xSl b0 ≤ R.slots) {k : ArrayType}
    (hd : decode (xMc i) pc = .ok (.newarray k, n)) (hn : xSwI (.newarray k) = true ∨ n = xLen (.newarray k)) {ts : List (Int32 × Nat)} (hk : xGk (xMo i) (xMr i) (decide (xMk i = 2)) pc a b v w ts (.newarray k) = true)
    (hS : xS xs lim al st h a b v w (.newarray k) = some (cnd, al', st', h')) (hc : cnd) (J : xJ s dC dI cy aS ad0 A b0 lim (xMl i) al st h ad H locs ls)
    (kk : ∀ (ad' : Nat → Nat) (H' : Heap) (locs' : List Loc) (ls' : Array Slot), xJ s dC dI cy aS ad0 A b0 lim (xMl i) al' st' h' ad' H' locs' ls' → W p l e R s m args below meth c H' locs' (h'.1 - b0) (xSl h'.1 - xSl b0) Q (F0 m (pc + n) ls' (st'.map (xCv ad')))) :
    W p l e R s m args below meth c H locs (h.1 - b0) (xSl h.1 - xSl b0) Q (F0 m pc ls (st.map (xCv ad))) := by
  obtain ⟨hx, hb, hml, hown, hts, hK, hret, hlocks, hini, hAm⟩ := X
  have hnL : al.length = xMl i := J.1.2.2.1
  have hn : n = 2 := hn.resolve_left (fun z => Bool.noConfusion z)
  subst hn
  delta xS at hS
  dsimp only at hS
  delta xGk at hk
  dsimp only at hk
  simp only [Bool.or_eq_true, Bool.and_eq_true, decide_eq_true_eq] at hk
  split at hS
  · rename_i st0 z rest
    cases hS
    have hb0l : b0 ≤ h.1 := J.2.2.2.2.2.2.2.1
    have hcells : h.1 - b0 + 1 ≤ R.cells := by omega
    have hsl : xSl h.1 - xSl b0 + xLn h.1 ≤ R.slots := by
      have e1 : xSl h.1 + xLn h.1 = xSl (h.1 + 1) := rfl
      have e2 := xSl_mono hc.2.1
      have e3 := xSl_mono hb0l
      omega
    have hgc : (xNew h).1 - b0 = h.1 - b0 + 1 := by show h.1 + 1 - b0 = _; omega
    have hgs : xSl (xNew h).1 - xSl b0 = xSl h.1 - xSl b0 + xLn h.1 := by
      show xSl h.1 + xLn h.1 - xSl b0 = _
      have e3 := xSl_mono hb0l
      omega
    have har := xAr_ok
    simp only [Bool.and_eq_true, decide_eq_true_eq] at har
    obtain ⟨⟨⟨har1, har2⟩, -⟩, -⟩ := har
    obtain ⟨hkd, hlim, hz0, hzn, hz1⟩ := hc
    have fin : ∀ (q : Nat) (H1 : Heap), va_P (dC, dI) vwCl (xW cy ad h ++ [(q, .inl (cy a, xLn h.1, .inl (fun _ => 0)))]) H1 → va_D A (xW cy ad h ++ [(q, .inl (cy a, xLn h.1, .inl (fun _ => 0)))]) → va_S A s.heap H1 locs → (a = 7 ∨ a = 8) → W p l e R s m args below meth c H1 locs (h.1 - b0 + 1) (xSl h.1 - xSl b0 + xLn h.1) Q (F0 m (pc + 2) ls (.ref q :: rest.map (xCv ad))) := by
      intro q H1 hP hD hS1 ha
      have he : xCe cy (va_up ad h.1 q) (xNew h) h.1 = .inl (cy a, xLn h.1, .inl (fun _ => 0)) := by
        unfold xCe
        rw [if_neg (by omega), if_pos (by omega), hkd]
        simp [xNew, va_up]
      obtain ⟨J2, hst⟩ := (J.stk J.2.2.1.tail).new (by have := xKd_lt (p := h.1) (by omega); omega) hlim he hP hD hS1
      have hg := kk _ H1 locs ls J2
      rw [List.map_cons, hst, hgc, hgs] at hg
      rw [show xCv (va_up ad h.1 q) (.ref h.1) = .ref q by simp [xCv, va_up]] at hg
      exact hg
    have same : ∀ {ty : FieldType} {cA : ClassId} (j : Nat), (xTy cy)[j]? = some (cy a, ty) → va_K (dC, dI) vwCl (xTy cy ++ [(cA, ty)]) s → (∀ C, ty ≠ .object C) → cA = cy a := by
      intro ty cA j hj hK2 hno
      have f1 := (hK.2 j _ hj).2
      have f2 := (hK2.2 4 (cA, ty) rfl).2
      cases ty <;> first | exact absurd rfl (hno _) | (have f1 : s.vm.findClass _ = some (cy a) := f1; have f2 : s.vm.findClass _ = some cA := f2; rw [f1] at f2; exact (Option.some.inj f2).symm)
    rcases hk with ⟨ht, ha⟩ | ⟨ht, ha⟩
    · subst ht
      refine va_newa (atype := .int) (ty := .int) (a0 := (xLn h.1, .inl (fun _ => 0))) (N' := xLn h.1) hx hb (hts _ (xIn_ok har1)) rfl hK J.2.2.2.2.1 J.2.2.2.2.2.1 J.2.2.2.2.2.2.1 hAs (fun cA => rfl) hz0 hzn (by show xLn h.1 * 4 ≤ _; omega) hcells hsl hd (fun q cA H1 hK2 hP hD hS1 => ?_)
      have := same 0 (by rw [ha]; rfl) hK2 (fun C => by simp)
      subst this
      exact fin q H1 hP hD hS1 (Or.inl ha)
    · subst ht
      refine va_newa (atype := .boolean) (ty := .boolean) (a0 := (xLn h.1, .inl (fun _ => 0))) (N' := xLn h.1) hx hb (hts _ (xIn_ok har2)) rfl hK J.2.2.2.2.1 J.2.2.2.2.2.1 J.2.2.2.2.2.2.1 hAs (fun cA => rfl) hz0 hzn (by show xLn h.1 * 1 ≤ _; omega) hcells hsl hd (fun q cA H1 hK2 hP hD hS1 => ?_)
      have := same 1 (by rw [ha]; rfl) hK2 (fun C => by simp)
      subst this
      exact fin q H1 hP hD hS1 (Or.inr ha)
  · cases hS
set_option maxHeartbeats 2000000 in
theorem xS_anewarray (X : xCx xs p s m args meth c dC dI cy aS z0 i) (hAz : ∀ q, A q → z0 ≤ q) (hAs : ∀ q, s.heap.size ≤ q → A q) (hz0 : z0 ≤ s.heap.size) (hRc : lim - b0 ≤ R.cells) (hRs : xSl lim - xSl b0 ≤ R.slots) {k : Nat}
    (hd : decode (xMc i) pc = .ok (.anewarray k, n)) (hn : xSwI (.anewarray k) = true ∨ n = xLen (.anewarray k)) {ts : List (Int32 × Nat)} (hk : xGk (xMo i) (xMr i) (decide (xMk i = 2)) pc a b v w ts (.anewarray k) = true)
    (hS : xS xs lim al st h a b v w (.anewarray k) = some (cnd, al', st', h')) (hc : cnd) (J : xJ s dC dI cy aS ad0 A b0 lim (xMl i) al st h ad H locs ls)
    (kk : ∀ (ad' : Nat → Nat) (H' : Heap) (locs' : List Loc) (ls' : Array Slot), xJ s dC dI cy aS ad0 A b0 lim (xMl i) al' st' h' ad' H' locs' ls' → W p l e R s m args below meth c H' locs' (h'.1 - b0) (xSl h'.1 - xSl b0) Q (F0 m (pc + n) ls' (st'.map (xCv ad')))) :
    W p l e R s m args below meth c H locs (h.1 - b0) (xSl h.1 - xSl b0) Q (F0 m pc ls (st.map (xCv ad))) := by
  obtain ⟨hx, hb, hml, hown, hts, hK, hret, hlocks, hini, hAm⟩ := X
  have hnL : al.length = xMl i := J.1.2.2.1
  have hn : n = 3 := hn.resolve_left (fun z => Bool.noConfusion z)
  subst hn
  delta xS at hS
  dsimp only at hS
  delta xGk at hk
  dsimp only at hk
  simp only [Bool.or_eq_true, Bool.and_eq_true, decide_eq_true_eq] at hk
  split at hS
  · rename_i st0 z rest
    cases hS
    obtain ⟨hk, ha⟩ := hk
    have hl := List.all_eq_true.mp xKl_ok _ hk
    have hl := xIn_ok hl
    have hb0l : b0 ≤ h.1 := J.2.2.2.2.2.2.2.1
    have hcells : h.1 - b0 + 1 ≤ R.cells := by omega
    have hsl : xSl h.1 - xSl b0 + xLn h.1 ≤ R.slots := by
      have e1 : xSl h.1 + xLn h.1 = xSl (h.1 + 1) := rfl
      have e2 := xSl_mono hc.2.1
      have e3 := xSl_mono hb0l
      omega
    have hgc : (xNew h).1 - b0 = h.1 - b0 + 1 := by show h.1 + 1 - b0 = _; omega
    have hgs : xSl (xNew h).1 - xSl b0 = xSl h.1 - xSl b0 + xLn h.1 := by
      show xSl h.1 + xLn h.1 - xSl b0 = _
      have e3 := xSl_mono hb0l
      omega
    obtain ⟨hkd, hlim, hz0, hzn, hz1⟩ := hc
    have fin : ∀ (q : Nat) (H1 : Heap), va_P (dC, dI) vwCl (xW cy ad h ++ [(q, .inl (cy a, xLn h.1, .inr (.inr (.inr (.inr (fun _ => none))))))]) H1 → va_D A (xW cy ad h ++ [(q, .inl (cy a, xLn h.1, .inr (.inr (.inr (.inr (fun _ => none))))))]) → va_S A s.heap H1 locs → W p l e R s m args below meth c H1 locs (h.1 - b0 + 1) (xSl h.1 - xSl b0 + xLn h.1) Q (F0 m (pc + 3) ls (.ref q :: rest.map (xCv ad))) := by
      intro q H1 hP hD hS1
      have he : xCe cy (va_up ad h.1 q) (xNew h) h.1 = .inl (cy a, xLn h.1, .inr (.inr (.inr (.inr (fun _ => none))))) := by
        unfold xCe
        rw [if_neg (by omega), if_neg (by omega), hkd]
        simp [xNew, va_up]
      obtain ⟨J2, hst⟩ := (J.stk J.2.2.1.tail).new (by have := xKd_lt (p := h.1) (by omega); omega) hlim he hP hD hS1
      have hg := kk _ H1 locs ls J2
      rw [List.map_cons, hst, hgc, hgs] at hg
      rw [show xCv (va_up ad h.1 q) (.ref h.1) = .ref q by simp [xCv, va_up]] at hg
      exact hg
    have same : ∀ {C : String} {cA : ClassId} (j : Nat), (xTy cy)[j]? = some (cy a, .object C) → va_K (dC, dI) vwCl (xTy cy ++ [(cA, .object C)]) s → cA = cy a := by
      intro C cA j hj hK2
      obtain ⟨_, _, _, _, _, f1⟩ := (hK.2 j _ hj).2
      obtain ⟨_, _, _, _, _, f2⟩ := (hK2.2 4 (cA, .object C) rfl).2
      rw [f1] at f2; exact (Option.some.inj f2).symm
    rcases ha with ha | ha
    · subst ha
      refine va_newq (C := RX3) (N' := xLn h.1) hx hb hown (hts _ hl) hAm.2.2.2.2.2.2.1 hK J.2.2.2.2.1 J.2.2.2.2.2.1 J.2.2.2.2.2.2.1 hAs hz0 hzn (by omega) hcells hsl hd (fun q cA H1 hK2 hP hD hS1 => ?_)
      have := same 2 rfl hK2
      subst this
      exact fin q H1 hP hD hS1
    · subst ha
      refine va_newq (C := RX5) (N' := xLn h.1) hx hb hown (hts _ hl) hAm.2.2.2.2.2.2.2.1 hK J.2.2.2.2.1 J.2.2.2.2.2.1 J.2.2.2.2.2.2.1 hAs hz0 hzn (by omega) hcells hsl hd (fun q cA H1 hK2 hP hD hS1 => ?_)
      have := same 3 rfl hK2
      subst this
      exact fin q H1 hP hD hS1
  · cases hS
set_option maxHeartbeats 2000000 in
theorem xS_snd (X : xCx xs p s m args meth c dC dI cy aS z0 i) (hAz : ∀ q, A q → z0 ≤ q) (hAs : ∀ q, s.heap.size ≤ q → A q) (hz0 : z0 ≤ s.heap.size) (hRc : lim - b0 ≤ R.cells) (hRs : xSl lim - xSl b0 ≤ R.slots) {ins : Instr}
    (hd : decode (xMc i) pc = .ok (ins, n)) (hn : xSwI (ins) = true ∨ n = xLen (ins)) {ts : List (Int32 × Nat)} (hk : xGk (xMo i) (xMr i) (decide (xMk i = 2)) pc a b v w ts (ins) = true)
    (hS : xS xs lim al st h a b v w (ins) = some (cnd, al', st', h')) (hc : cnd) (J : xJ s dC dI cy aS ad0 A b0 lim (xMl i) al st h ad H locs ls)
    (kk : ∀ (ad' : Nat → Nat) (H' : Heap) (locs' : List Loc) (ls' : Array Slot), xJ s dC dI cy aS ad0 A b0 lim (xMl i) al' st' h' ad' H' locs' ls' → W p l e R s m args below meth c H' locs' (h'.1 - b0) (xSl h'.1 - xSl b0) Q (F0 m (pc + n) ls' (st'.map (xCv ad')))) :
    W p l e R s m args below meth c H locs (h.1 - b0) (xSl h.1 - xSl b0) Q (F0 m pc ls (st.map (xCv ad))) := by
  cases ins with
  | iload k => exact xS_iload X hAz hAs hz0 hRc hRs hd hn hk hS hc J kk
  | iload_n k => exact xS_iload_n X hAz hAs hz0 hRc hRs hd hn hk hS hc J kk
  | lload k => exact xS_lload X hAz hAs hz0 hRc hRs hd hn hk hS hc J kk
  | lload_n k => exact xS_lload_n X hAz hAs hz0 hRc hRs hd hn hk hS hc J kk
  | aload k => exact xS_aload X hAz hAs hz0 hRc hRs hd hn hk hS hc J kk
  | aload_n k => exact xS_aload_n X hAz hAs hz0 hRc hRs hd hn hk hS hc J kk
  | istore k => exact xS_istore X hAz hAs hz0 hRc hRs hd hn hk hS hc J kk
  | istore_n k => exact xS_istore_n X hAz hAs hz0 hRc hRs hd hn hk hS hc J kk
  | astore k => exact xS_astore X hAz hAs hz0 hRc hRs hd hn hk hS hc J kk
  | astore_n k => exact xS_astore_n X hAz hAs hz0 hRc hRs hd hn hk hS hc J kk
  | lstore k => exact xS_lstore X hAz hAs hz0 hRc hRs hd hn hk hS hc J kk
  | iinc k z => exact xS_iinc X hAz hAs hz0 hRc hRs hd hn hk hS hc J kk
  | iconst k => exact xS_iconst X hAz hAs hz0 hRc hRs hd hn hk hS hc J kk
  | bipush k => exact xS_bipush X hAz hAs hz0 hRc hRs hd hn hk hS hc J kk
  | sipush k => exact xS_sipush X hAz hAs hz0 hRc hRs hd hn hk hS hc J kk
  | lconst k => exact xS_lconst X hAz hAs hz0 hRc hRs hd hn hk hS hc J kk
  | ldc2_w k => exact xS_ldc2_w X hAz hAs hz0 hRc hRs hd hn hk hS hc J kk
  | ldc_w k => exact xS_ldc_w X hAz hAs hz0 hRc hRs hd hn hk hS hc J kk
  | ldc k => exact xS_ldc X hAz hAs hz0 hRc hRs hd hn hk hS hc J kk
  | iadd => exact xS_iadd X hAz hAs hz0 hRc hRs hd hn hk hS hc J kk
  | isub => exact xS_isub X hAz hAs hz0 hRc hRs hd hn hk hS hc J kk
  | imul => exact xS_imul X hAz hAs hz0 hRc hRs hd hn hk hS hc J kk
  | iand => exact xS_iand X hAz hAs hz0 hRc hRs hd hn hk hS hc J kk
  | ior => exact xS_ior X hAz hAs hz0 hRc hRs hd hn hk hS hc J kk
  | ixor => exact xS_ixor X hAz hAs hz0 hRc hRs hd hn hk hS hc J kk
  | ishl => exact xS_ishl X hAz hAs hz0 hRc hRs hd hn hk hS hc J kk
  | ishr => exact xS_ishr X hAz hAs hz0 hRc hRs hd hn hk hS hc J kk
  | iushr => exact xS_iushr X hAz hAs hz0 hRc hRs hd hn hk hS hc J kk
  | idiv => exact xS_idiv X hAz hAs hz0 hRc hRs hd hn hk hS hc J kk
  | irem => exact xS_irem X hAz hAs hz0 hRc hRs hd hn hk hS hc J kk
  | ineg => exact xS_ineg X hAz hAs hz0 hRc hRs hd hn hk hS hc J kk
  | ladd => exact xS_ladd X hAz hAs hz0 hRc hRs hd hn hk hS hc J kk
  | lsub => exact xS_lsub X hAz hAs hz0 hRc hRs hd hn hk hS hc J kk
  | lmul => exact xS_lmul X hAz hAs hz0 hRc hRs hd hn hk hS hc J kk
  | ldiv => exact xS_ldiv X hAz hAs hz0 hRc hRs hd hn hk hS hc J kk
  | lrem => exact xS_lrem X hAz hAs hz0 hRc hRs hd hn hk hS hc J kk
  | lcmp => exact xS_lcmp X hAz hAs hz0 hRc hRs hd hn hk hS hc J kk
  | i2l => exact xS_i2l X hAz hAs hz0 hRc hRs hd hn hk hS hc J kk
  | l2i => exact xS_l2i X hAz hAs hz0 hRc hRs hd hn hk hS hc J kk
  | i2b => exact xS_i2b X hAz hAs hz0 hRc hRs hd hn hk hS hc J kk
  | i2s => exact xS_i2s X hAz hAs hz0 hRc hRs hd hn hk hS hc J kk
  | i2c => exact xS_i2c X hAz hAs hz0 hRc hRs hd hn hk hS hc J kk
  | dup => exact xS_dup X hAz hAs hz0 hRc hRs hd hn hk hS hc J kk
  | pop => exact xS_pop X hAz hAs hz0 hRc hRs hd hn hk hS hc J kk
  | dup_x1 => exact xS_dup_x1 X hAz hAs hz0 hRc hRs hd hn hk hS hc J kk
  | dup2 => exact xS_dup2 X hAz hAs hz0 hRc hRs hd hn hk hS hc J kk
  | getstatic k => exact xS_getstatic X hAz hAs hz0 hRc hRs hd hn hk hS hc J kk
  | getfield k => exact xS_getfield X hAz hAs hz0 hRc hRs hd hn hk hS hc J kk
  | putfield k => exact xS_putfield X hAz hAs hz0 hRc hRs hd hn hk hS hc J kk
  | arraylength => exact xS_arraylength X hAz hAs hz0 hRc hRs hd hn hk hS hc J kk
  | iaload => exact xS_iaload X hAz hAs hz0 hRc hRs hd hn hk hS hc J kk
  | baload => exact xS_baload X hAz hAs hz0 hRc hRs hd hn hk hS hc J kk
  | aaload => exact xS_aaload X hAz hAs hz0 hRc hRs hd hn hk hS hc J kk
  | iastore => exact xS_iastore X hAz hAs hz0 hRc hRs hd hn hk hS hc J kk
  | bastore => exact xS_bastore X hAz hAs hz0 hRc hRs hd hn hk hS hc J kk
  | aastore => exact xS_aastore X hAz hAs hz0 hRc hRs hd hn hk hS hc J kk
  | new k => exact xS_new X hAz hAs hz0 hRc hRs hd hn hk hS hc J kk
  | newarray k => exact xS_newarray X hAz hAs hz0 hRc hRs hd hn hk hS hc J kk
  | anewarray k => exact xS_anewarray X hAz hAs hz0 hRc hRs hd hn hk hS hc J kk
  | _ =>
    replace hS : (none : xO) = some (cnd, al', st', h') := hS
    cases hS
end XS
