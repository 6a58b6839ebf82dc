/-! the small machine by itself: it is monotone; a block is gone through once more -/
def xMono (C : xT) : Prop := ∀ j vs h Q Q', (∀ r h, Q r h → Q' r h) → C j vs h Q → C j vs h Q'
theorem xInv_mono {al rk : Nat → Nat} {C : xT} (hC : xMono C) {lim a b : Nat} {st : List Value} {h : xHp} {k k' : List Value → xHp → Prop} (hk : ∀ st h, k st h → k' st h) (hi : xInv al rk C lim a b st h k) : xInv al rk C lim a b st h k' := by
  unfold xInv at hi ⊢
  split at hi
  · rename_i c; rw [if_pos c]
    split at hi
    · exact ⟨hi.1, hk _ _ hi.2⟩
    · exact hi
  · rename_i c; rw [if_neg c]
    split at hi
    · rename_i c; rw [if_pos c]
      split at hi
      · exact ⟨hi.1, hk _ _ hi.2⟩
      · exact hi
    · rename_i c; rw [if_neg c]
      split at hi
      · exact hi.elim
      · rename_i c; rw [if_neg c]
        split at hi
        · rename_i c; rw [if_pos c]
          split at hi
          · exact ⟨hi.1, hk _ _ hi.2⟩
          · exact hi
        · rename_i c; rw [if_neg c]
          split at hi
          · rename_i c; rw [if_pos c]
            split at hi
            · exact ⟨hi.1, hk _ _ hi.2⟩
            · exact hi
          · rename_i c; rw [if_neg c]
            exact ⟨hi.1, hi.2.1, hi.2.2.1, hi.2.2.2.1, hC _ _ _ _ _ (fun r h1 z => hk _ _ z) hi.2.2.2.2⟩
theorem xSw_mono {K K' : Nat → Prop} (h : ∀ t, K t → K' t) {d : Nat} {x : Int32} : ∀ {ts : List (Int32 × Nat)}, xSw K d x ts → xSw K' d x ts
  | [], z => h d z
  | (_, t) :: _, z => ⟨fun e => h t (z.1 e), fun e => xSw_mono h (z.2 e)⟩
theorem xStep_mono {xs : xSc} {al rk : Nat → Nat} {C : xT} (hC : xMono C) {lim : Nat} {K K' : Nat → List Value → List Value → xHp → Prop} {Q Q' : Value → xHp → Prop} {a b : Nat} {v : Int32} {w : Int64} {ts : List (Int32 × Nat)} {ls st : List Value} {h : xHp} {k k' : List Value → List Value → xHp → Prop} {ins : Instr}
    (hK : ∀ pc ls st h, K pc ls st h → K' pc ls st h) (hQ : ∀ r h, Q r h → Q' r h) (hk : ∀ ls st h, k ls st h → k' ls st h) (hs : xStep xs al rk C lim K Q a b v w ts ls st h k ins) : xStep xs al rk C lim K' Q' a b v w ts ls st h k' ins := by
  cases hct : xCt ins with
  | false =>
    obtain ⟨c, ls', st', h', e1, e2, e3⟩ := xStep_simple hct hs
    have : (match xS xs lim ls st h a b v w ins with
      | some (c, ls, st, h) => c ∧ k' ls st h
      | none => False) := by rw [e1]; exact ⟨e2, hk _ _ _ e3⟩
    cases ins <;> first | exact this | exact Bool.noConfusion hct
  | true =>
    cases ins <;> first | exact Bool.noConfusion hct | skip
    case goto o => exact hK _ _ _ _ hs
    case ifCond c o =>
      delta xStep at hs ⊢
      dsimp only at hs ⊢
      split at hs
      · exact ⟨fun z => hK _ _ _ _ (hs.1 z), fun z => hk _ _ _ (hs.2 z)⟩
      · exact hs.elim
    case if_icmp c o =>
      delta xStep at hs ⊢
      dsimp only at hs ⊢
      split at hs
      · exact ⟨fun z => hK _ _ _ _ (hs.1 z), fun z => hk _ _ _ (hs.2 z)⟩
      · exact hs.elim
    case tableswitch d lo hi o =>
      delta xStep at hs ⊢
      dsimp only at hs ⊢
      split at hs
      · exact xSw_mono (fun t z => hK _ _ _ _ z) hs
      · exact hs.elim
    case lookupswitch d o =>
      delta xStep at hs ⊢
      dsimp only at hs ⊢
      split at hs
      · exact xSw_mono (fun t z => hK _ _ _ _ z) hs
      · exact hs.elim
    case ireturn =>
      delta xStep at hs ⊢
      dsimp only at hs ⊢
      split at hs
      · exact ⟨hs.1, hs.2.1, hQ _ _ hs.2.2⟩
      · exact hs.elim
    case lreturn =>
      delta xStep at hs ⊢
      dsimp only at hs ⊢
      split at hs
      · exact ⟨hs.1, hQ _ _ hs.2⟩
      · exact hs.elim
    case return_ =>
      delta xStep at hs ⊢
      dsimp only at hs ⊢
      split at hs
      · exact ⟨hs.1, hQ _ _ hs.2⟩
      · exact hs.elim
    case invokevirtual ix => exact xInv_mono hC (fun st h z => hk ls st h z) hs
    case invokestatic ix => exact xInv_mono hC (fun st h z => hk ls st h z) hs
    case invokespecial ix => exact xInv_mono hC (fun st h z => hk ls st h z) hs
theorem xR_mono {xs : xSc} {al rk : Nat → Nat} {C : xT} (hC : xMono C) {lim : Nat} {K K' : Nat → List Value → List Value → xHp → Prop} {ep : Nat} {Q Q' : Value → xHp → Prop} (hK : ∀ pc ls st h, K pc ls st h → K' pc ls st h) (hQ : ∀ r h, Q r h → Q' r h) :
    ∀ (l : List xEl) (ls st : List Value) (h : xHp), xR xs al rk C lim K ep Q l ls st h → xR xs al rk C lim K' ep Q' l ls st h
  | [], ls, st, h, z => hK _ _ _ _ z
  | (ins, (_, _, a, b), v, w, ts) :: l, ls, st, h, z => xStep_mono hC hK hQ (fun ls st h y => xR_mono hC hK hQ l ls st h y) z
theorem xE_mono {xs : xSc} {al rk : Nat → Nat} {C : xT} (hC : xMono C) {lim : Nat} {Q Q' : Value → xHp → Prop} {bl : xBk} (hQ : ∀ r h, Q r h → Q' r h) {pc : Nat} {ls st : List Value} {h : xHp} (z : xE xs al rk C lim Q bl pc ls st h) : xE xs al rk C lim Q' bl pc ls st h :=
  fun P hP => z P (fun pc ep l ls st h hm hr => hP pc ep l ls st h hm (xR_mono hC (fun _ _ _ _ y => y) hQ l ls st h hr))
theorem xM_mono {xs : xSc} {al rk ml : Nat → Nat} {bl : Nat → xBk} : ∀ m, xMono (xM xs al rk ml bl m)
  | 0 => fun _ _ _ _ _ _ z => z
  | m + 1 => fun _ _ _ _ _ hQ z => ⟨z.1, xE_mono (xM_mono m) hQ z.2⟩
theorem xE_unf {xs : xSc} {al rk : Nat → Nat} {C : xT} (hC : xMono C) {lim : Nat} {Q : Value → xHp → Prop} {bl : xBk} {pc ep : Nat} {l : List xEl} {ls st : List Value} {h : xHp} (hm : (pc, ep, l) ∈ bl) (hr : xR xs al rk C lim (xE xs al rk C lim Q bl) ep Q l ls st h) : xE xs al rk C lim Q bl pc ls st h :=
  fun P hP => hP pc ep l ls st h hm (xR_mono hC (fun _ _ _ _ z => z P hP) (fun _ _ z => z) l ls st h hr)
abbrev M (xs : xSc) (m : Nat) : xT := xM xs xAl xRk xMl xBl m
abbrev E (xs : xSc) (m i lim : Nat) (Q : Value → xHp → Prop) : Nat → List Value → List Value → xHp → Prop := xE xs xAl xRk (M xs m) lim Q (xBl i)
abbrev XR (xs : xSc) (m i lim : Nat) (ep : Nat) (Q : Value → xHp → Prop) : List xEl → List Value → List Value → xHp → Prop := xR xs xAl xRk (M xs m) lim (E xs m i lim Q) ep Q
/-- on from a block's head: by the block's place -/
theorem E_go {xs : xSc} {m i lim : Nat} {Q : Value → xHp → Prop} {pc ep : Nat} {l : List xEl} {ls st : List Value} {h : xHp} (k : Nat) (hm : (xBl i)[k]? = some (pc, ep, l)) (hr : XR xs m i lim ep Q l ls st h)  : E xs m i lim Q pc ls st h := xE_unf (xM_mono m) (List.mem_of_getElem? hm) hr
theorem M_go {xs : xSc} {m i ml lim ep : Nat} {vs ls : List Value} {h : xHp} {Q : Value → xHp → Prop} {l : List xEl} (hm : (xBl i)[0]? = some (0, ep, l)) (hml : xMl i = ml) (hl : h.1 + xAl i = lim) (hn : (xSl2 vs).length ≤ ml) (hls : xEnt ml vs = ls) (hr : XR xs m i lim ep Q l ls [] h) : M xs (m + 1) i vs h Q := by
  subst hml; subst hl; subst hls
  exact ⟨hn, E_go 0 hm hr⟩
