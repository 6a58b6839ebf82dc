/-! a text's value: the class's words, on a stack -/

def jn (t a b : Int32) : Int32 := if t = 7 then (if a = 0 then 0 else if b = 0 then 0 else 1) else if t = 42 then a * b else if t = 43 then a + b else if t = 45 then a - b else if t = 60 then (if a < b then 1 else 0) else if t = 61 then (if a = b then 1 else 0) else if a = 0 then (if b = 0 then 0 else 1) else 1
def nmv (w : Int32) : Int32 := -w - 10
def opw (w : Int32) : List Int32 → List Int32
  | [] => []
  | [b] => if -w = 9 then [-b] else if -w = 8 then [if b = 0 then 1 else 0] else [b]
  | b :: a :: st => if -w = 9 then -b :: a :: st else if -w = 8 then (if b = 0 then 1 else 0) :: a :: st else jn (-w) a b :: st
def stp (v : Vw) (w : Int32) (st : List Int32) : List Int32 := if nmv w < 0 then (if 0 ≤ w then w :: st else opw w st) else if 6 ≤ nmv w then (if 0 ≤ w then w :: st else opw w st) else v (nmv w).toNatClampNeg :: st
def rn (v : Vw) (c : Nat → Int32) (i : Nat) : Nat → List Int32
  | 0 => []
  | k + 1 => stp v (c (i + k)) (rn v c i k)
def sk (f : Nat → Int32) : List Int32 → Prop
  | [] => True
  | x :: st => f st.length = x ∧ sk f st
theorem sk_u1 {f : Nat → Int32} {n : Nat} {x : Int32} : ∀ {st : List Int32}, st.length ≤ n → sk f st → sk (u1 f n x) st
  | [], _, _ => trivial
  | y :: st, h, hs => ⟨by rw [u1_ne (by simp at h; omega)]; exact hs.1, sk_u1 (by simp at h; omega) hs.2⟩
theorem sk_push {J : Nat → Nat → Int32} {n : Nat} {x : Int32} {st : List Int32} (h : n = st.length) (hs : sk (J 28) st) : sk (up2 J 28 n x 28) (x :: st) := by
  subst h
  rw [up2_p]
  exact ⟨u1_eq, sk_u1 (Nat.le_refl _) hs⟩
theorem stp_v {v : Vw} {w : Int32} {st : List Int32} (h1 : ¬ nmv w < 0) (h2 : ¬ 6 ≤ nmv w) : stp v w st = v (nmv w).toNatClampNeg :: st := by
  rw [stp, if_neg h1, if_neg h2]
theorem stp_w {v : Vw} {w : Int32} {st : List Int32} (h : nmv w < 0 ∨ 6 ≤ nmv w) (h2 : 0 ≤ w) : stp v w st = w :: st := by
  unfold stp
  rw [if_pos h2]
  rcases h with h | h
  · rw [if_pos h]
  · rw [if_pos h]
    split <;> rfl
theorem stp_o {v : Vw} {w : Int32} {st : List Int32} (h : nmv w < 0 ∨ 6 ≤ nmv w) (h2 : ¬ 0 ≤ w) : stp v w st = opw w st := by
  unfold stp
  rw [if_neg h2]
  rcases h with h | h
  · rw [if_pos h]
  · rw [if_pos h]
    split <;> rfl
/-- a place of a text -/
def TxP (q : Nat) : Prop := (xKd q = 4 ∧ q < 82 ∧ 35 ≤ q) ∧ (xF0 q 0 = some (q + 1) ∧ xKd (q + 1) = 7 ∧ xLn (q + 1) = 160 ∧ q + 1 < 82) ∧ (xF0 q 1 = some (q + 2) ∧ xKd (q + 2) = 7 ∧ xLn (q + 2) = 3 ∧ q + 2 < 82)
theorem txP : ∀ t, t < 6 → TxP (35 + 3 * t) := by
  unfold TxP
  decide +kernel
theorem tx33 : ∀ t, t < 6 → xF0 33 t = some (35 + 3 * t) := by decide +kernel
theorem txf0 {q : Nat} {I : Nat → Nat → Int32} {L : Nat → Nat → Int64} (h : TxP q) : xVal (82, I, L, xF0) q 0 (xFt 4 0) = .ref (q + 1) := by
  show va_rf (xF0 q 0) = _
  rw [h.2.1.1]
  rfl
theorem txf1 {q : Nat} {I : Nat → Nat → Int32} {L : Nat → Nat → Int64} (h : TxP q) : xVal (82, I, L, xF0) q 1 (xFt 4 1) = .ref (q + 2) := by
  show va_rf (xF0 q 1) = _
  rw [h.2.2.1]
  rfl

set_option maxRecDepth 10000 in
theorem s_X5_joined {xs : xSc} {m : Nat} {h : xHp} {Q : Value → xHp → Prop} (hm : 1 ≤ m) {t a b : Int32} (hQ : Q (.int (jn t a b)) h) : M xs m xi_X5_joined [.int t, .int a, .int b] h Q := by
  obtain ⟨m, rfl⟩ : ∃ k, m = k + 1 := ⟨m - 1, by omega⟩
  refine M_go (ls := [_, _, _]) (ml := 3) rfl rfl rfl (zl rfl) rfl ?_
  refine r_iload_n rfl ?_
  refine r_lookup ?_
  refine r_sw1 (fun c_1 => ?_) (fun d_1_7 => ?_)
  · refine E_go 10 rfl ?_
    refine r_iload_n rfl ?_
    refine r_if_eq (fun c_95 => ?_) (fun c_95 => ?_)
    · refine E_go 11 rfl ?_
      refine r_iconst ?_
      refine r_nil ?_
      refine E_go 12 rfl ?_
      refine r_iret rfl trivial ?_
      refine qi hQ ?_
      simp_all [jn]
    · refine r_iload_n rfl ?_
      refine r_if_eq (fun c_99 => ?_) (fun c_99 => ?_)
      · refine E_go 11 rfl ?_
        refine r_iconst ?_
        refine r_nil ?_
        refine E_go 12 rfl ?_
        refine r_iret rfl trivial ?_
        refine qi hQ ?_
        simp_all [jn]
      · refine r_iconst ?_
        refine r_goto ?_
        refine E_go 12 rfl ?_
        refine r_iret rfl trivial ?_
        refine qi hQ ?_
        simp_all [jn]
  refine r_sw1 (fun c_1 => ?_) (fun d_1_42 => ?_)
  · refine E_go 3 rfl ?_
    refine r_iload_n rfl ?_
    refine r_iload_n rfl ?_
    refine r_imul ?_
    refine r_iret rfl trivial ?_
    refine qi hQ ?_
    simp_all [jn]
  refine r_sw1 (fun c_1 => ?_) (fun d_1_43 => ?_)
  · refine E_go 1 rfl ?_
    refine r_iload_n rfl ?_
    refine r_iload_n rfl ?_
    refine r_iadd ?_
    refine r_iret rfl trivial ?_
    refine qi hQ ?_
    simp_all [jn]
  refine r_sw1 (fun c_1 => ?_) (fun d_1_45 => ?_)
  · refine E_go 2 rfl ?_
    refine r_iload_n rfl ?_
    refine r_iload_n rfl ?_
    refine r_isub ?_
    refine r_iret rfl trivial ?_
    refine qi hQ ?_
    simp_all [jn]
  refine r_sw1 (fun c_1 => ?_) (fun d_1_60 => ?_)
  · refine E_go 4 rfl ?_
    refine r_iload_n rfl ?_
    refine r_iload_n rfl ?_
    refine r_icmp_ge (fun c_74 => ?_) (fun c_74 => ?_)
    · refine E_go 5 rfl ?_
      refine r_iconst ?_
      refine r_nil ?_
      refine E_go 6 rfl ?_
      refine r_iret rfl trivial ?_
      refine qi hQ ?_
      simp_all [jn]
    · refine r_iconst ?_
      refine r_goto ?_
      refine E_go 6 rfl ?_
      refine r_iret rfl trivial ?_
      refine qi hQ ?_
      simp_all [jn]
  refine r_sw1 (fun c_1 => ?_) (fun d_1_61 => ?_)
  · refine E_go 7 rfl ?_
    refine r_iload_n rfl ?_
    refine r_iload_n rfl ?_
    refine r_icmp_ne (fun c_85 => ?_) (fun c_85 => ?_)
    · refine E_go 8 rfl ?_
      refine r_iconst ?_
      refine r_nil ?_
      refine E_go 9 rfl ?_
      refine r_iret rfl trivial ?_
      refine qi hQ ?_
      simp_all [jn]
    · refine r_iconst ?_
      refine r_goto ?_
      refine E_go 9 rfl ?_
      refine r_iret rfl trivial ?_
      refine qi hQ ?_
      simp_all [jn]
  refine r_sw0 ?_
  refine E_go 13 rfl ?_
  refine r_iload_n rfl ?_
  refine r_if_ne (fun c_109 => ?_) (fun c_109 => ?_)
  · refine E_go 14 rfl ?_
    refine r_iconst ?_
    refine r_goto ?_
    refine E_go 16 rfl ?_
    refine r_iret rfl trivial ?_
    refine qi hQ ?_
    simp_all [jn]
  · refine r_iload_n rfl ?_
    refine r_if_eq (fun c_113 => ?_) (fun c_113 => ?_)
    · refine E_go 15 rfl ?_
      refine r_iconst ?_
      refine r_nil ?_
      refine E_go 16 rfl ?_
      refine r_iret rfl trivial ?_
      refine qi hQ ?_
      simp_all [jn]
    · refine r_nil ?_
      refine E_go 14 rfl ?_
      refine r_iconst ?_
      refine r_goto ?_
      refine E_go 16 rfl ?_
      refine r_iret rfl trivial ?_
      refine qi hQ ?_
      simp_all [jn]

set_option maxRecDepth 10000 in
theorem s_value0 {xs : xSc} {m : Nat} {I : Nat → Nat → Int32} {L : Nat → Nat → Int64} {Q : Value → xHp → Prop} (hm : 2 ≤ m) {q s e : Nat} (hq : TxP q) (hs0 : s = 0) (he : I (q + 2) 0 = io e) (hse : s ≤ e) (h160 : e ≤ 160) (hQ : ∀ J, oF 28 28 I J → Q (.int ((rn (I 27) (I (q + 1)) s (e - s)).headD 0)) (Hp J L)) : M xs m xi_X5_value [.ref q, .int 0, .ref 27, .ref 28] (Hp I L) Q := by
  obtain ⟨m, rfl⟩ : ∃ k, m = k + 1 := ⟨m - 1, by omega⟩
  have hq1 := hq.1.2.2
  have he2 : ∀ J, oF 28 28 I J → J (q + 2) 0 = io e := fun J hJ => by rw [hJ (q + 2) (by omega)]; exact he
  have key : ∀ d k, k + d = e - s → ∀ (st : List Int32) (J : Nat → Nat → Int32) (x6 x7 x8 : Value), st = rn (I 27) (I (q + 1)) s k → st.length ≤ k → sk (J 28) st → oF 28 28 I J → E xs m xi_X5_value 82 Q 21 [.ref q, .int 0, .ref 27, .ref 28, .int (io st.length), .int (io (s + k)), x6, x7, x8] [] (82, J, L, xF0) := by
    intro d
    induction d using Nat.strongRecOn with
    | _ d ih =>
    intro k hk st J x6 x7 x8 hst hl hK hJ
    have hC : J (q + 1) = I (q + 1) := hJ (q + 1) (by omega)
    have hV : J 27 = I 27 := hJ 27 (by omega)
    rcases st with _ | ⟨b, _ | ⟨a, st⟩⟩
    · simp only [List.length_cons, List.length_nil] at hl
      refine E_go 3 rfl ?_
      refine r_iload rfl ?_
      refine r_aload_n rfl ?_
      refine r_getA (q := (q + 2)) (by decide) (txf1 hq) hq.1.1 hq.1.2.1 ?_
      refine r_iload_n rfl ?_
      refine r_iaload (by decide) hq.2.2.2.1 hq.2.2.2.2.2 (ixQ rfl (show 0 < 3 by omega) (by decide) hq.2.2.2.2.1) (he2 J hJ) ?_
      refine r_icmp_ge (fun c_29 => ?_) (fun c_29 => ?_)
      · have c_29 := (n_le (a := e) (b := (s + k)) rfl rfl (by omega) (by omega)).mp c_29
        refine E_go 15 rfl ?_
        refine r_iload rfl ?_
        refine r_if_le (fun c_215 => ?_) (fun c_215 => ?_)
        · have c_215 := (n_le (a := 0) (b := 0) rfl rfl (by omega) (by omega)).mp c_215
          refine E_go 16 rfl ?_
          refine r_iconst ?_
          refine r_nil ?_
          refine E_go 17 rfl ?_
          refine r_iret rfl trivial ?_
          refine qi (hQ J hJ) ?_
          rw [show e - s = k by omega, ← hst]
          rfl
        · have c_215 := (not_congr (n_le (a := 0) (b := 0) rfl rfl (by omega) (by omega))).mp c_215
          omega
      · have c_29 := (not_congr (n_le (a := e) (b := (s + k)) rfl rfl (by omega) (by omega))).mp c_29
        refine r_aload_n rfl ?_
        refine r_getA (q := (q + 1)) (by decide) (txf0 hq) hq.1.1 hq.1.2.1 ?_
        refine r_iload rfl ?_
        refine r_iaload (by decide) hq.2.1.2.1 hq.2.1.2.2.2 (ixQ rfl (show (s + k) < 160 by omega) (by decide) hq.2.1.2.2.1) (congrFun hC (s + k)) ?_
        refine r_istore (ls' := [_, _, _, _, _, _, _, _, _]) (zt rfl) rfl ?_
        refine r_iload rfl ?_
        refine r_ineg ?_
        refine r_bipush ?_
        refine r_isub ?_
        refine r_istore (ls' := [_, _, _, _, _, _, _, _, _]) (zt rfl) rfl ?_
        refine r_iload rfl ?_
        refine r_if_lt (fun c_51 => ?_) (fun c_51 => ?_)
        · refine E_go 4 rfl ?_
          refine r_iconst ?_
          refine r_nil ?_
          refine E_go 5 rfl ?_
          refine r_istore (ls' := [_, _, _, _, _, _, _, _, _]) (zt rfl) rfl ?_
          refine r_iload rfl ?_
          refine r_if_ge (fun c_70 => ?_) (fun c_70 => ?_)
          · refine E_go 6 rfl ?_
            refine r_iload rfl ?_
            refine r_aload_n rfl ?_
            refine r_alen (by decide) (by decide) (by decide) ?_
            refine r_icmp_ge (fun c_82 => ?_) (fun c_82 => ?_)
            · have c_82 := (n_le (a := 160) (b := 0) rfl rfl (by omega) (by omega)).mp c_82
              omega
            · have c_82 := (not_congr (n_le (a := 160) (b := 0) rfl rfl (by omega) (by omega))).mp c_82
              refine r_aload_n rfl ?_
              refine r_iload rfl ?_
              refine r_iload rfl ?_
              refine r_if_eq (fun c_90 => ?_) (fun c_90 => ?_)
              · have c_90 := (n_eq (a := 0) (b := 0) rfl rfl (by omega) (by omega)).mp c_90
                refine E_go 7 rfl ?_
                refine r_iload rfl ?_
                refine r_nil ?_
                refine E_go 8 rfl ?_
                refine r_iastore rfl (by decide) (ixE rfl (show 0 < 160 by omega) (by decide)) ?_
                refine r_iincN (y := io (0 + 1)) (ls' := [_, _, _, _, _, _, _, _, _]) rfl (zt rfl) (n_add (a := 0) (b := 1) rfl rfl) rfl ?_
                refine r_goto ?_
                refine E_go 14 rfl ?_
                refine r_iincN (y := io ((s + k) + 1)) (ls' := [_, _, _, _, _, _, _, _, _]) rfl (zt rfl) (n_add (a := (s + k)) (b := 1) rfl rfl) rfl ?_
                refine r_goto ?_
                refine ih (d - 1) (by omega) (k + 1) (by omega) ((I (q + 1) (s + k)) :: []) _ _ _ _ ?_ ?_ ?_ ?_
                · show _ = stp (I 27) (I (q + 1) (s + k)) (rn (I 27) (I (q + 1)) s k)
                  rw [← hst]
                  first | exact (stp_w (Or.inl c_51) c_70).symm | exact (stp_w (Or.inr c_58) c_70).symm
                · simp only [List.length_cons, List.length_nil] at hl ⊢ <;> omega
                · exact sk_push rfl hK
                · exact hJ.up (by omega) (by omega)
              · have c_90 := (not_congr (n_eq (a := 0) (b := 0) rfl rfl (by omega) (by omega))).mp c_90
                omega
          · refine r_iload rfl ?_
            refine r_if_eq (fun c_75 => ?_) (fun c_75 => ?_)
            · have c_75 := (n_eq (a := 0) (b := 0) rfl rfl (by omega) (by omega)).mp c_75
              refine E_go 9 rfl ?_
              refine r_iload rfl ?_
              refine r_ineg ?_
              refine r_bipush ?_
              refine r_icmp_ne (fun c_114 => ?_) (fun c_114 => ?_)
              · refine E_go 10 rfl ?_
                refine r_iload rfl ?_
                refine r_ineg ?_
                refine r_bipush ?_
                refine r_icmp_ne (fun c_144 => ?_) (fun c_144 => ?_)
                · refine E_go 13 rfl ?_
                  refine r_iload rfl ?_
                  refine r_iconst ?_
                  refine r_icmp_lt (fun c_179 => ?_) (fun c_179 => ?_)
                  · have c_179 := (n_lt (a := 0) (b := 2) rfl rfl (by omega) (by omega)).mp c_179
                    refine E_go 14 rfl ?_
                    refine r_iincN (y := io ((s + k) + 1)) (ls' := [_, _, _, _, _, _, _, _, _]) rfl (zt rfl) (n_add (a := (s + k)) (b := 1) rfl rfl) rfl ?_
                    refine r_goto ?_
                    refine ih (d - 1) (by omega) (k + 1) (by omega) ([]) _ _ _ _ ?_ ?_ ?_ ?_
                    · show _ = stp (I 27) (I (q + 1) (s + k)) (rn (I 27) (I (q + 1)) s k)
                      rw [← hst]
                      refine Eq.trans ?_ (show opw (I (q + 1) (s + k)) [] = _ from by first | exact (stp_o (Or.inl c_51) c_70).symm | exact (stp_o (Or.inr c_58) c_70).symm)
                      rfl
                    · simp only [List.length_cons, List.length_nil] at hl ⊢ <;> omega
                    · exact hK
                    · exact hJ
                  · have c_179 := (not_congr (n_lt (a := 0) (b := 2) rfl rfl (by omega) (by omega))).mp c_179
                    omega
                · refine r_iload rfl ?_
                  refine r_iconst ?_
                  refine r_icmp_lt (fun c_150 => ?_) (fun c_150 => ?_)
                  · have c_150 := (n_lt (a := 0) (b := 1) rfl rfl (by omega) (by omega)).mp c_150
                    refine E_go 13 rfl ?_
                    refine r_iload rfl ?_
                    refine r_iconst ?_
                    refine r_icmp_lt (fun c_179 => ?_) (fun c_179 => ?_)
                    · have c_179 := (n_lt (a := 0) (b := 2) rfl rfl (by omega) (by omega)).mp c_179
                      refine E_go 14 rfl ?_
                      refine r_iincN (y := io ((s + k) + 1)) (ls' := [_, _, _, _, _, _, _, _, _]) rfl (zt rfl) (n_add (a := (s + k)) (b := 1) rfl rfl) rfl ?_
                      refine r_goto ?_
                      refine ih (d - 1) (by omega) (k + 1) (by omega) ([]) _ _ _ _ ?_ ?_ ?_ ?_
                      · show _ = stp (I 27) (I (q + 1) (s + k)) (rn (I 27) (I (q + 1)) s k)
                        rw [← hst]
                        refine Eq.trans ?_ (show opw (I (q + 1) (s + k)) [] = _ from by first | exact (stp_o (Or.inl c_51) c_70).symm | exact (stp_o (Or.inr c_58) c_70).symm)
                        rfl
                      · simp only [List.length_cons, List.length_nil] at hl ⊢ <;> omega
                      · exact hK
                      · exact hJ
                    · have c_179 := (not_congr (n_lt (a := 0) (b := 2) rfl rfl (by omega) (by omega))).mp c_179
                      omega
                  · have c_150 := (not_congr (n_lt (a := 0) (b := 1) rfl rfl (by omega) (by omega))).mp c_150
                    omega
              · refine r_iload rfl ?_
                refine r_iconst ?_
                refine r_icmp_lt (fun c_120 => ?_) (fun c_120 => ?_)
                · have c_120 := (n_lt (a := 0) (b := 1) rfl rfl (by omega) (by omega)).mp c_120
                  refine E_go 10 rfl ?_
                  refine r_iload rfl ?_
                  refine r_ineg ?_
                  refine r_bipush ?_
                  refine r_icmp_ne (fun c_144 => ?_) (fun c_144 => ?_)
                  · refine E_go 13 rfl ?_
                    refine r_iload rfl ?_
                    refine r_iconst ?_
                    refine r_icmp_lt (fun c_179 => ?_) (fun c_179 => ?_)
                    · have c_179 := (n_lt (a := 0) (b := 2) rfl rfl (by omega) (by omega)).mp c_179
                      refine E_go 14 rfl ?_
                      refine r_iincN (y := io ((s + k) + 1)) (ls' := [_, _, _, _, _, _, _, _, _]) rfl (zt rfl) (n_add (a := (s + k)) (b := 1) rfl rfl) rfl ?_
                      refine r_goto ?_
                      refine ih (d - 1) (by omega) (k + 1) (by omega) ([]) _ _ _ _ ?_ ?_ ?_ ?_
                      · show _ = stp (I 27) (I (q + 1) (s + k)) (rn (I 27) (I (q + 1)) s k)
                        rw [← hst]
                        refine Eq.trans ?_ (show opw (I (q + 1) (s + k)) [] = _ from by first | exact (stp_o (Or.inl c_51) c_70).symm | exact (stp_o (Or.inr c_58) c_70).symm)
                        rfl
                      · simp only [List.length_cons, List.length_nil] at hl ⊢ <;> omega
                      · exact hK
                      · exact hJ
                    · have c_179 := (not_congr (n_lt (a := 0) (b := 2) rfl rfl (by omega) (by omega))).mp c_179
                      omega
                  · refine r_iload rfl ?_
                    refine r_iconst ?_
                    refine r_icmp_lt (fun c_150 => ?_) (fun c_150 => ?_)
                    · have c_150 := (n_lt (a := 0) (b := 1) rfl rfl (by omega) (by omega)).mp c_150
                      refine E_go 13 rfl ?_
                      refine r_iload rfl ?_
                      refine r_iconst ?_
                      refine r_icmp_lt (fun c_179 => ?_) (fun c_179 => ?_)
                      · have c_179 := (n_lt (a := 0) (b := 2) rfl rfl (by omega) (by omega)).mp c_179
                        refine E_go 14 rfl ?_
                        refine r_iincN (y := io ((s + k) + 1)) (ls' := [_, _, _, _, _, _, _, _, _]) rfl (zt rfl) (n_add (a := (s + k)) (b := 1) rfl rfl) rfl ?_
                        refine r_goto ?_
                        refine ih (d - 1) (by omega) (k + 1) (by omega) ([]) _ _ _ _ ?_ ?_ ?_ ?_
                        · show _ = stp (I 27) (I (q + 1) (s + k)) (rn (I 27) (I (q + 1)) s k)
                          rw [← hst]
                          refine Eq.trans ?_ (show opw (I (q + 1) (s + k)) [] = _ from by first | exact (stp_o (Or.inl c_51) c_70).symm | exact (stp_o (Or.inr c_58) c_70).symm)
                          rfl
                        · simp only [List.length_cons, List.length_nil] at hl ⊢ <;> omega
                        · exact hK
                        · exact hJ
                      · have c_179 := (not_congr (n_lt (a := 0) (b := 2) rfl rfl (by omega) (by omega))).mp c_179
                        omega
                    · have c_150 := (not_congr (n_lt (a := 0) (b := 1) rfl rfl (by omega) (by omega))).mp c_150
                      omega
                · have c_120 := (not_congr (n_lt (a := 0) (b := 1) rfl rfl (by omega) (by omega))).mp c_120
                  omega
            · have c_75 := (not_congr (n_eq (a := 0) (b := 0) rfl rfl (by omega) (by omega))).mp c_75
              omega
        · refine r_iload rfl ?_
          refine r_bipush ?_
          refine r_icmp_ge (fun c_58 => ?_) (fun c_58 => ?_)
          · refine E_go 4 rfl ?_
            refine r_iconst ?_
            refine r_nil ?_
            refine E_go 5 rfl ?_
            refine r_istore (ls' := [_, _, _, _, _, _, _, _, _]) (zt rfl) rfl ?_
            refine r_iload rfl ?_
            refine r_if_ge (fun c_70 => ?_) (fun c_70 => ?_)
            · refine E_go 6 rfl ?_
              refine r_iload rfl ?_
              refine r_aload_n rfl ?_
              refine r_alen (by decide) (by decide) (by decide) ?_
              refine r_icmp_ge (fun c_82 => ?_) (fun c_82 => ?_)
              · have c_82 := (n_le (a := 160) (b := 0) rfl rfl (by omega) (by omega)).mp c_82
                omega
              · have c_82 := (not_congr (n_le (a := 160) (b := 0) rfl rfl (by omega) (by omega))).mp c_82
                refine r_aload_n rfl ?_
                refine r_iload rfl ?_
                refine r_iload rfl ?_
                refine r_if_eq (fun c_90 => ?_) (fun c_90 => ?_)
                · have c_90 := (n_eq (a := 0) (b := 0) rfl rfl (by omega) (by omega)).mp c_90
                  refine E_go 7 rfl ?_
                  refine r_iload rfl ?_
                  refine r_nil ?_
                  refine E_go 8 rfl ?_
                  refine r_iastore rfl (by decide) (ixE rfl (show 0 < 160 by omega) (by decide)) ?_
                  refine r_iincN (y := io (0 + 1)) (ls' := [_, _, _, _, _, _, _, _, _]) rfl (zt rfl) (n_add (a := 0) (b := 1) rfl rfl) rfl ?_
                  refine r_goto ?_
                  refine E_go 14 rfl ?_
                  refine r_iincN (y := io ((s + k) + 1)) (ls' := [_, _, _, _, _, _, _, _, _]) rfl (zt rfl) (n_add (a := (s + k)) (b := 1) rfl rfl) rfl ?_
                  refine r_goto ?_
                  refine ih (d - 1) (by omega) (k + 1) (by omega) ((I (q + 1) (s + k)) :: []) _ _ _ _ ?_ ?_ ?_ ?_
                  · show _ = stp (I 27) (I (q + 1) (s + k)) (rn (I 27) (I (q + 1)) s k)
                    rw [← hst]
                    first | exact (stp_w (Or.inl c_51) c_70).symm | exact (stp_w (Or.inr c_58) c_70).symm
                  · simp only [List.length_cons, List.length_nil] at hl ⊢ <;> omega
                  · exact sk_push rfl hK
                  · exact hJ.up (by omega) (by omega)
                · have c_90 := (not_congr (n_eq (a := 0) (b := 0) rfl rfl (by omega) (by omega))).mp c_90
                  omega
            · refine r_iload rfl ?_
              refine r_if_eq (fun c_75 => ?_) (fun c_75 => ?_)
              · have c_75 := (n_eq (a := 0) (b := 0) rfl rfl (by omega) (by omega)).mp c_75
                refine E_go 9 rfl ?_
                refine r_iload rfl ?_
                refine r_ineg ?_
                refine r_bipush ?_
                refine r_icmp_ne (fun c_114 => ?_) (fun c_114 => ?_)
                · refine E_go 10 rfl ?_
                  refine r_iload rfl ?_
                  refine r_ineg ?_
                  refine r_bipush ?_
                  refine r_icmp_ne (fun c_144 => ?_) (fun c_144 => ?_)
                  · refine E_go 13 rfl ?_
                    refine r_iload rfl ?_
                    refine r_iconst ?_
                    refine r_icmp_lt (fun c_179 => ?_) (fun c_179 => ?_)
                    · have c_179 := (n_lt (a := 0) (b := 2) rfl rfl (by omega) (by omega)).mp c_179
                      refine E_go 14 rfl ?_
                      refine r_iincN (y := io ((s + k) + 1)) (ls' := [_, _, _, _, _, _, _, _, _]) rfl (zt rfl) (n_add (a := (s + k)) (b := 1) rfl rfl) rfl ?_
                      refine r_goto ?_
                      refine ih (d - 1) (by omega) (k + 1) (by omega) ([]) _ _ _ _ ?_ ?_ ?_ ?_
                      · show _ = stp (I 27) (I (q + 1) (s + k)) (rn (I 27) (I (q + 1)) s k)
                        rw [← hst]
                        refine Eq.trans ?_ (show opw (I (q + 1) (s + k)) [] = _ from by first | exact (stp_o (Or.inl c_51) c_70).symm | exact (stp_o (Or.inr c_58) c_70).symm)
                        rfl
                      · simp only [List.length_cons, List.length_nil] at hl ⊢ <;> omega
                      · exact hK
                      · exact hJ
                    · have c_179 := (not_congr (n_lt (a := 0) (b := 2) rfl rfl (by omega) (by omega))).mp c_179
                      omega
                  · refine r_iload rfl ?_
                    refine r_iconst ?_
                    refine r_icmp_lt (fun c_150 => ?_) (fun c_150 => ?_)
                    · have c_150 := (n_lt (a := 0) (b := 1) rfl rfl (by omega) (by omega)).mp c_150
                      refine E_go 13 rfl ?_
                      refine r_iload rfl ?_
                      refine r_iconst ?_
                      refine r_icmp_lt (fun c_179 => ?_) (fun c_179 => ?_)
                      · have c_179 := (n_lt (a := 0) (b := 2) rfl rfl (by omega) (by omega)).mp c_179
                        refine E_go 14 rfl ?_
                        refine r_iincN (y := io ((s + k) + 1)) (ls' := [_, _, _, _, _, _, _, _, _]) rfl (zt rfl) (n_add (a := (s + k)) (b := 1) rfl rfl) rfl ?_
                        refine r_goto ?_
                        refine ih (d - 1) (by omega) (k + 1) (by omega) ([]) _ _ _ _ ?_ ?_ ?_ ?_
                        · show _ = stp (I 27) (I (q + 1) (s + k)) (rn (I 27) (I (q + 1)) s k)
                          rw [← hst]
                          refine Eq.trans ?_ (show opw (I (q + 1) (s + k)) [] = _ from by first | exact (stp_o (Or.inl c_51) c_70).symm | exact (stp_o (Or.inr c_58) c_70).symm)
                          rfl
                        · simp only [List.length_cons, List.length_nil] at hl ⊢ <;> omega
                        · exact hK
                        · exact hJ
                      · have c_179 := (not_congr (n_lt (a := 0) (b := 2) rfl rfl (by omega) (by omega))).mp c_179
                        omega
                    · have c_150 := (not_congr (n_lt (a := 0) (b := 1) rfl rfl (by omega) (by omega))).mp c_150
                      omega
                · refine r_iload rfl ?_
                  refine r_iconst ?_
                  refine r_icmp_lt (fun c_120 => ?_) (fun c_120 => ?_)
                  · have c_120 := (n_lt (a := 0) (b := 1) rfl rfl (by omega) (by omega)).mp c_120
                    refine E_go 10 rfl ?_
                    refine r_iload rfl ?_
                    refine r_ineg ?_
                    refine r_bipush ?_
                    refine r_icmp_ne (fun c_144 => ?_) (fun c_144 => ?_)
                    · refine E_go 13 rfl ?_
                      refine r_iload rfl ?_
                      refine r_iconst ?_
                      refine r_icmp_lt (fun c_179 => ?_) (fun c_179 => ?_)
                      · have c_179 := (n_lt (a := 0) (b := 2) rfl rfl (by omega) (by omega)).mp c_179
                        refine E_go 14 rfl ?_
                        refine r_iincN (y := io ((s + k) + 1)) (ls' := [_, _, _, _, _, _, _, _, _]) rfl (zt rfl) (n_add (a := (s + k)) (b := 1) rfl rfl) rfl ?_
                        refine r_goto ?_
                        refine ih (d - 1) (by omega) (k + 1) (by omega) ([]) _ _ _ _ ?_ ?_ ?_ ?_
                        · show _ = stp (I 27) (I (q + 1) (s + k)) (rn (I 27) (I (q + 1)) s k)
                          rw [← hst]
                          refine Eq.trans ?_ (show opw (I (q + 1) (s + k)) [] = _ from by first | exact (stp_o (Or.inl c_51) c_70).symm | exact (stp_o (Or.inr c_58) c_70).symm)
                          rfl
                        · simp only [List.length_cons, List.length_nil] at hl ⊢ <;> omega
                        · exact hK
                        · exact hJ
                      · have c_179 := (not_congr (n_lt (a := 0) (b := 2) rfl rfl (by omega) (by omega))).mp c_179
                        omega
                    · refine r_iload rfl ?_
                      refine r_iconst ?_
                      refine r_icmp_lt (fun c_150 => ?_) (fun c_150 => ?_)
                      · have c_150 := (n_lt (a := 0) (b := 1) rfl rfl (by omega) (by omega)).mp c_150
                        refine E_go 13 rfl ?_
                        refine r_iload rfl ?_
                        refine r_iconst ?_
                        refine r_icmp_lt (fun c_179 => ?_) (fun c_179 => ?_)
                        · have c_179 := (n_lt (a := 0) (b := 2) rfl rfl (by omega) (by omega)).mp c_179
                          refine E_go 14 rfl ?_
                          refine r_iincN (y := io ((s + k) + 1)) (ls' := [_, _, _, _, _, _, _, _, _]) rfl (zt rfl) (n_add (a := (s + k)) (b := 1) rfl rfl) rfl ?_
                          refine r_goto ?_
                          refine ih (d - 1) (by omega) (k + 1) (by omega) ([]) _ _ _ _ ?_ ?_ ?_ ?_
                          · show _ = stp (I 27) (I (q + 1) (s + k)) (rn (I 27) (I (q + 1)) s k)
                            rw [← hst]
                            refine Eq.trans ?_ (show opw (I (q + 1) (s + k)) [] = _ from by first | exact (stp_o (Or.inl c_51) c_70).symm | exact (stp_o (Or.inr c_58) c_70).symm)
                            rfl
                          · simp only [List.length_cons, List.length_nil] at hl ⊢ <;> omega
                          · exact hK
                          · exact hJ
                        · have c_179 := (not_congr (n_lt (a := 0) (b := 2) rfl rfl (by omega) (by omega))).mp c_179
                          omega
                      · have c_150 := (not_congr (n_lt (a := 0) (b := 1) rfl rfl (by omega) (by omega))).mp c_150
                        omega
                  · have c_120 := (not_congr (n_lt (a := 0) (b := 1) rfl rfl (by omega) (by omega))).mp c_120
                    omega
              · have c_75 := (not_congr (n_eq (a := 0) (b := 0) rfl rfl (by omega) (by omega))).mp c_75
                omega
          · refine r_iconst ?_
            refine r_goto ?_
            refine E_go 5 rfl ?_
            refine r_istore (ls' := [_, _, _, _, _, _, _, _, _]) (zt rfl) rfl ?_
            refine r_iload rfl ?_
            refine r_if_ge (fun c_70 => ?_) (fun c_70 => ?_)
            · refine E_go 6 rfl ?_
              refine r_iload rfl ?_
              refine r_aload_n rfl ?_
              refine r_alen (by decide) (by decide) (by decide) ?_
              refine r_icmp_ge (fun c_82 => ?_) (fun c_82 => ?_)
              · have c_82 := (n_le (a := 160) (b := 0) rfl rfl (by omega) (by omega)).mp c_82
                omega
              · have c_82 := (not_congr (n_le (a := 160) (b := 0) rfl rfl (by omega) (by omega))).mp c_82
                refine r_aload_n rfl ?_
                refine r_iload rfl ?_
                refine r_iload rfl ?_
                refine r_if_eq (fun c_90 => ?_) (fun c_90 => ?_)
                · have c_90 := (n_eq (a := 1) (b := 0) rfl rfl (by omega) (by omega)).mp c_90
                  omega
                · have c_90 := (not_congr (n_eq (a := 1) (b := 0) rfl rfl (by omega) (by omega))).mp c_90
                  obtain ⟨nk, hnk, enk⟩ := io_ex (n := 6) (Int32.not_lt.mp c_51) (Int32.not_le.mp c_58) (by omega)
                  refine r_aload_n rfl ?_
                  refine r_iload rfl ?_
                  refine r_iaload (by decide) rfl (by decide) (ixE enk (show nk < 6 by omega) (by decide)) (congrFun hV nk) ?_
                  refine r_goto ?_
                  refine E_go 8 rfl ?_
                  refine r_iastore rfl (by decide) (ixE rfl (show 0 < 160 by omega) (by decide)) ?_
                  refine r_iincN (y := io (0 + 1)) (ls' := [_, _, _, _, _, _, _, _, _]) rfl (zt rfl) (n_add (a := 0) (b := 1) rfl rfl) rfl ?_
                  refine r_goto ?_
                  refine E_go 14 rfl ?_
                  refine r_iincN (y := io ((s + k) + 1)) (ls' := [_, _, _, _, _, _, _, _, _]) rfl (zt rfl) (n_add (a := (s + k)) (b := 1) rfl rfl) rfl ?_
                  refine r_goto ?_
                  refine ih (d - 1) (by omega) (k + 1) (by omega) (I 27 nk :: []) _ _ _ _ ?_ ?_ ?_ ?_
                  · show _ = stp (I 27) (I (q + 1) (s + k)) (rn (I 27) (I (q + 1)) s k)
                    rw [← hst]
                    rw [stp_v c_51 c_58, show nmv (I (q + 1) (s + k)) = io nk from enk, io_nat (by omega)]
                  · simp only [List.length_cons, List.length_nil] at hl ⊢ <;> omega
                  · exact sk_push rfl hK
                  · exact hJ.up (by omega) (by omega)
            · refine r_iload rfl ?_
              refine r_if_eq (fun c_75 => ?_) (fun c_75 => ?_)
              · have c_75 := (n_eq (a := 1) (b := 0) rfl rfl (by omega) (by omega)).mp c_75
                omega
              · have c_75 := (not_congr (n_eq (a := 1) (b := 0) rfl rfl (by omega) (by omega))).mp c_75
                refine r_nil ?_
                refine E_go 6 rfl ?_
                refine r_iload rfl ?_
                refine r_aload_n rfl ?_
                refine r_alen (by decide) (by decide) (by decide) ?_
                refine r_icmp_ge (fun c_82 => ?_) (fun c_82 => ?_)
                · have c_82 := (n_le (a := 160) (b := 0) rfl rfl (by omega) (by omega)).mp c_82
                  omega
                · have c_82 := (not_congr (n_le (a := 160) (b := 0) rfl rfl (by omega) (by omega))).mp c_82
                  refine r_aload_n rfl ?_
                  refine r_iload rfl ?_
                  refine r_iload rfl ?_
                  refine r_if_eq (fun c_90 => ?_) (fun c_90 => ?_)
                  · have c_90 := (n_eq (a := 1) (b := 0) rfl rfl (by omega) (by omega)).mp c_90
                    omega
                  · have c_90 := (not_congr (n_eq (a := 1) (b := 0) rfl rfl (by omega) (by omega))).mp c_90
                    obtain ⟨nk, hnk, enk⟩ := io_ex (n := 6) (Int32.not_lt.mp c_51) (Int32.not_le.mp c_58) (by omega)
                    refine r_aload_n rfl ?_
                    refine r_iload rfl ?_
                    refine r_iaload (by decide) rfl (by decide) (ixE enk (show nk < 6 by omega) (by decide)) (congrFun hV nk) ?_
                    refine r_goto ?_
                    refine E_go 8 rfl ?_
                    refine r_iastore rfl (by decide) (ixE rfl (show 0 < 160 by omega) (by decide)) ?_
                    refine r_iincN (y := io (0 + 1)) (ls' := [_, _, _, _, _, _, _, _, _]) rfl (zt rfl) (n_add (a := 0) (b := 1) rfl rfl) rfl ?_
                    refine r_goto ?_
                    refine E_go 14 rfl ?_
                    refine r_iincN (y := io ((s + k) + 1)) (ls' := [_, _, _, _, _, _, _, _, _]) rfl (zt rfl) (n_add (a := (s + k)) (b := 1) rfl rfl) rfl ?_
                    refine r_goto ?_
                    refine ih (d - 1) (by omega) (k + 1) (by omega) (I 27 nk :: []) _ _ _ _ ?_ ?_ ?_ ?_
                    · show _ = stp (I 27) (I (q + 1) (s + k)) (rn (I 27) (I (q + 1)) s k)
                      rw [← hst]
                      rw [stp_v c_51 c_58, show nmv (I (q + 1) (s + k)) = io nk from enk, io_nat (by omega)]
                    · simp only [List.length_cons, List.length_nil] at hl ⊢ <;> omega
                    · exact sk_push rfl hK
                    · exact hJ.up (by omega) (by omega)
    · simp only [List.length_cons, List.length_nil] at hl
      refine E_go 3 rfl ?_
      refine r_iload rfl ?_
      refine r_aload_n rfl ?_
      refine r_getA (q := (q + 2)) (by decide) (txf1 hq) hq.1.1 hq.1.2.1 ?_
      refine r_iload_n rfl ?_
      refine r_iaload (by decide) hq.2.2.2.1 hq.2.2.2.2.2 (ixQ rfl (show 0 < 3 by omega) (by decide) hq.2.2.2.2.1) (he2 J hJ) ?_
      refine r_icmp_ge (fun c_29 => ?_) (fun c_29 => ?_)
      · have c_29 := (n_le (a := e) (b := (s + k)) rfl rfl (by omega) (by omega)).mp c_29
        refine E_go 15 rfl ?_
        refine r_iload rfl ?_
        refine r_if_le (fun c_215 => ?_) (fun c_215 => ?_)
        · have c_215 := (n_le (a := 1) (b := 0) rfl rfl (by omega) (by omega)).mp c_215
          omega
        · have c_215 := (not_congr (n_le (a := 1) (b := 0) rfl rfl (by omega) (by omega))).mp c_215
          refine r_aload_n rfl ?_
          refine r_iload rfl ?_
          refine r_iconst ?_
          refine r_isub ?_
          refine r_iaload (by decide) rfl (by decide) (ixE (n_sub (a := 1) (b := 1) rfl rfl (by omega)) (show (1 - 1) < 160 by omega) (by decide)) rfl ?_
          refine r_goto ?_
          refine E_go 17 rfl ?_
          refine r_iret rfl trivial ?_
          refine qi (hQ J hJ) ?_
          rw [show e - s = k by omega, ← hst]
          exact hK.1.symm
      · have c_29 := (not_congr (n_le (a := e) (b := (s + k)) rfl rfl (by omega) (by omega))).mp c_29
        refine r_aload_n rfl ?_
        refine r_getA (q := (q + 1)) (by decide) (txf0 hq) hq.1.1 hq.1.2.1 ?_
        refine r_iload rfl ?_
        refine r_iaload (by decide) hq.2.1.2.1 hq.2.1.2.2.2 (ixQ rfl (show (s + k) < 160 by omega) (by decide) hq.2.1.2.2.1) (congrFun hC (s + k)) ?_
        refine r_istore (ls' := [_, _, _, _, _, _, _, _, _]) (zt rfl) rfl ?_
        refine r_iload rfl ?_
        refine r_ineg ?_
        refine r_bipush ?_
        refine r_isub ?_
        refine r_istore (ls' := [_, _, _, _, _, _, _, _, _]) (zt rfl) rfl ?_
        refine r_iload rfl ?_
        refine r_if_lt (fun c_51 => ?_) (fun c_51 => ?_)
        · refine E_go 4 rfl ?_
          refine r_iconst ?_
          refine r_nil ?_
          refine E_go 5 rfl ?_
          refine r_istore (ls' := [_, _, _, _, _, _, _, _, _]) (zt rfl) rfl ?_
          refine r_iload rfl ?_
          refine r_if_ge (fun c_70 => ?_) (fun c_70 => ?_)
          · refine E_go 6 rfl ?_
            refine r_iload rfl ?_
            refine r_aload_n rfl ?_
            refine r_alen (by decide) (by decide) (by decide) ?_
            refine r_icmp_ge (fun c_82 => ?_) (fun c_82 => ?_)
            · have c_82 := (n_le (a := 160) (b := 1) rfl rfl (by omega) (by omega)).mp c_82
              omega
            · have c_82 := (not_congr (n_le (a := 160) (b := 1) rfl rfl (by omega) (by omega))).mp c_82
              refine r_aload_n rfl ?_
              refine r_iload rfl ?_
              refine r_iload rfl ?_
              refine r_if_eq (fun c_90 => ?_) (fun c_90 => ?_)
              · have c_90 := (n_eq (a := 0) (b := 0) rfl rfl (by omega) (by omega)).mp c_90
                refine E_go 7 rfl ?_
                refine r_iload rfl ?_
                refine r_nil ?_
                refine E_go 8 rfl ?_
                refine r_iastore rfl (by decide) (ixE rfl (show 1 < 160 by omega) (by decide)) ?_
                refine r_iincN (y := io (1 + 1)) (ls' := [_, _, _, _, _, _, _, _, _]) rfl (zt rfl) (n_add (a := 1) (b := 1) rfl rfl) rfl ?_
                refine r_goto ?_
                refine E_go 14 rfl ?_
                refine r_iincN (y := io ((s + k) + 1)) (ls' := [_, _, _, _, _, _, _, _, _]) rfl (zt rfl) (n_add (a := (s + k)) (b := 1) rfl rfl) rfl ?_
                refine r_goto ?_
                refine ih (d - 1) (by omega) (k + 1) (by omega) ((I (q + 1) (s + k)) :: [b]) _ _ _ _ ?_ ?_ ?_ ?_
                · show _ = stp (I 27) (I (q + 1) (s + k)) (rn (I 27) (I (q + 1)) s k)
                  rw [← hst]
                  first | exact (stp_w (Or.inl c_51) c_70).symm | exact (stp_w (Or.inr c_58) c_70).symm
                · simp only [List.length_cons, List.length_nil] at hl ⊢ <;> omega
                · exact sk_push rfl hK
                · exact hJ.up (by omega) (by omega)
              · have c_90 := (not_congr (n_eq (a := 0) (b := 0) rfl rfl (by omega) (by omega))).mp c_90
                omega
          · refine r_iload rfl ?_
            refine r_if_eq (fun c_75 => ?_) (fun c_75 => ?_)
            · have c_75 := (n_eq (a := 0) (b := 0) rfl rfl (by omega) (by omega)).mp c_75
              refine E_go 9 rfl ?_
              refine r_iload rfl ?_
              refine r_ineg ?_
              refine r_bipush ?_
              refine r_icmp_ne (fun c_114 => ?_) (fun c_114 => ?_)
              · refine E_go 10 rfl ?_
                refine r_iload rfl ?_
                refine r_ineg ?_
                refine r_bipush ?_
                refine r_icmp_ne (fun c_144 => ?_) (fun c_144 => ?_)
                · refine E_go 13 rfl ?_
                  refine r_iload rfl ?_
                  refine r_iconst ?_
                  refine r_icmp_lt (fun c_179 => ?_) (fun c_179 => ?_)
                  · have c_179 := (n_lt (a := 1) (b := 2) rfl rfl (by omega) (by omega)).mp c_179
                    refine E_go 14 rfl ?_
                    refine r_iincN (y := io ((s + k) + 1)) (ls' := [_, _, _, _, _, _, _, _, _]) rfl (zt rfl) (n_add (a := (s + k)) (b := 1) rfl rfl) rfl ?_
                    refine r_goto ?_
                    refine ih (d - 1) (by omega) (k + 1) (by omega) ([b]) _ _ _ _ ?_ ?_ ?_ ?_
                    · show _ = stp (I 27) (I (q + 1) (s + k)) (rn (I 27) (I (q + 1)) s k)
                      rw [← hst]
                      refine Eq.trans ?_ (show opw (I (q + 1) (s + k)) [b] = _ from by first | exact (stp_o (Or.inl c_51) c_70).symm | exact (stp_o (Or.inr c_58) c_70).symm)
                      rw [opw, if_neg c_114, if_neg c_144]
                    · simp only [List.length_cons, List.length_nil] at hl ⊢ <;> omega
                    · exact hK
                    · exact hJ
                  · have c_179 := (not_congr (n_lt (a := 1) (b := 2) rfl rfl (by omega) (by omega))).mp c_179
                    omega
                · refine r_iload rfl ?_
                  refine r_iconst ?_
                  refine r_icmp_lt (fun c_150 => ?_) (fun c_150 => ?_)
                  · have c_150 := (n_lt (a := 1) (b := 1) rfl rfl (by omega) (by omega)).mp c_150
                    omega
                  · have c_150 := (not_congr (n_lt (a := 1) (b := 1) rfl rfl (by omega) (by omega))).mp c_150
                    refine r_aload_n rfl ?_
                    refine r_iload rfl ?_
                    refine r_iconst ?_
                    refine r_isub ?_
                    refine r_aload_n rfl ?_
                    refine r_iload rfl ?_
                    refine r_iconst ?_
                    refine r_isub ?_
                    refine r_iaload (by decide) rfl (by decide) (ixE (n_sub (a := 1) (b := 1) rfl rfl (by omega)) (show (1 - 1) < 160 by omega) (by decide)) hK.1 ?_
                    refine r_if_ne (fun c_164 => ?_) (fun c_164 => ?_)
                    · refine E_go 11 rfl ?_
                      refine r_iconst ?_
                      refine r_nil ?_
                      refine E_go 12 rfl ?_
                      refine r_iastore rfl (by decide) (ixE (n_sub (a := 1) (b := 1) rfl rfl (by omega)) (show (1 - 1) < 160 by omega) (by decide)) ?_
                      refine r_goto ?_
                      refine E_go 14 rfl ?_
                      refine r_iincN (y := io ((s + k) + 1)) (ls' := [_, _, _, _, _, _, _, _, _]) rfl (zt rfl) (n_add (a := (s + k)) (b := 1) rfl rfl) rfl ?_
                      refine r_goto ?_
                      refine ih (d - 1) (by omega) (k + 1) (by omega) (0 :: []) _ _ _ _ ?_ ?_ ?_ ?_
                      · show _ = stp (I 27) (I (q + 1) (s + k)) (rn (I 27) (I (q + 1)) s k)
                        rw [← hst]
                        refine Eq.trans ?_ (show opw (I (q + 1) (s + k)) [b] = _ from by first | exact (stp_o (Or.inl c_51) c_70).symm | exact (stp_o (Or.inr c_58) c_70).symm)
                        rw [opw, if_neg c_114, if_pos c_144, if_neg c_164]
                      · simp only [List.length_cons, List.length_nil] at hl ⊢ <;> omega
                      · exact sk_push rfl hK.2
                      · exact hJ.up (by omega) (by omega)
                    · refine r_iconst ?_
                      refine r_goto ?_
                      refine E_go 12 rfl ?_
                      refine r_iastore rfl (by decide) (ixE (n_sub (a := 1) (b := 1) rfl rfl (by omega)) (show (1 - 1) < 160 by omega) (by decide)) ?_
                      refine r_goto ?_
                      refine E_go 14 rfl ?_
                      refine r_iincN (y := io ((s + k) + 1)) (ls' := [_, _, _, _, _, _, _, _, _]) rfl (zt rfl) (n_add (a := (s + k)) (b := 1) rfl rfl) rfl ?_
                      refine r_goto ?_
                      refine ih (d - 1) (by omega) (k + 1) (by omega) (1 :: []) _ _ _ _ ?_ ?_ ?_ ?_
                      · show _ = stp (I 27) (I (q + 1) (s + k)) (rn (I 27) (I (q + 1)) s k)
                        rw [← hst]
                        refine Eq.trans ?_ (show opw (I (q + 1) (s + k)) [b] = _ from by first | exact (stp_o (Or.inl c_51) c_70).symm | exact (stp_o (Or.inr c_58) c_70).symm)
                        rw [opw, if_neg c_114, if_pos c_144, if_pos c_164]
                      · simp only [List.length_cons, List.length_nil] at hl ⊢ <;> omega
                      · exact sk_push rfl hK.2
                      · exact hJ.up (by omega) (by omega)
              · refine r_iload rfl ?_
                refine r_iconst ?_
                refine r_icmp_lt (fun c_120 => ?_) (fun c_120 => ?_)
                · have c_120 := (n_lt (a := 1) (b := 1) rfl rfl (by omega) (by omega)).mp c_120
                  omega
                · have c_120 := (not_congr (n_lt (a := 1) (b := 1) rfl rfl (by omega) (by omega))).mp c_120
                  refine r_aload_n rfl ?_
                  refine r_iload rfl ?_
                  refine r_iconst ?_
                  refine r_isub ?_
                  refine r_aload_n rfl ?_
                  refine r_iload rfl ?_
                  refine r_iconst ?_
                  refine r_isub ?_
                  refine r_iaload (by decide) rfl (by decide) (ixE (n_sub (a := 1) (b := 1) rfl rfl (by omega)) (show (1 - 1) < 160 by omega) (by decide)) hK.1 ?_
                  refine r_ineg ?_
                  refine r_iastore rfl (by decide) (ixE (n_sub (a := 1) (b := 1) rfl rfl (by omega)) (show (1 - 1) < 160 by omega) (by decide)) ?_
                  refine r_goto ?_
                  refine E_go 14 rfl ?_
                  refine r_iincN (y := io ((s + k) + 1)) (ls' := [_, _, _, _, _, _, _, _, _]) rfl (zt rfl) (n_add (a := (s + k)) (b := 1) rfl rfl) rfl ?_
                  refine r_goto ?_
                  refine ih (d - 1) (by omega) (k + 1) (by omega) ((-b) :: []) _ _ _ _ ?_ ?_ ?_ ?_
                  · show _ = stp (I 27) (I (q + 1) (s + k)) (rn (I 27) (I (q + 1)) s k)
                    rw [← hst]
                    refine Eq.trans ?_ (show opw (I (q + 1) (s + k)) [b] = _ from by first | exact (stp_o (Or.inl c_51) c_70).symm | exact (stp_o (Or.inr c_58) c_70).symm)
                    exact (if_pos c_114).symm
                  · simp only [List.length_cons, List.length_nil] at hl ⊢ <;> omega
                  · exact sk_push rfl hK.2
                  · exact hJ.up (by omega) (by omega)
            · have c_75 := (not_congr (n_eq (a := 0) (b := 0) rfl rfl (by omega) (by omega))).mp c_75
              omega
        · refine r_iload rfl ?_
          refine r_bipush ?_
          refine r_icmp_ge (fun c_58 => ?_) (fun c_58 => ?_)
          · refine E_go 4 rfl ?_
            refine r_iconst ?_
            refine r_nil ?_
            refine E_go 5 rfl ?_
            refine r_istore (ls' := [_, _, _, _, _, _, _, _, _]) (zt rfl) rfl ?_
            refine r_iload rfl ?_
            refine r_if_ge (fun c_70 => ?_) (fun c_70 => ?_)
            · refine E_go 6 rfl ?_
              refine r_iload rfl ?_
              refine r_aload_n rfl ?_
              refine r_alen (by decide) (by decide) (by decide) ?_
              refine r_icmp_ge (fun c_82 => ?_) (fun c_82 => ?_)
              · have c_82 := (n_le (a := 160) (b := 1) rfl rfl (by omega) (by omega)).mp c_82
                omega
              · have c_82 := (not_congr (n_le (a := 160) (b := 1) rfl rfl (by omega) (by omega))).mp c_82
                refine r_aload_n rfl ?_
                refine r_iload rfl ?_
                refine r_iload rfl ?_
                refine r_if_eq (fun c_90 => ?_) (fun c_90 => ?_)
                · have c_90 := (n_eq (a := 0) (b := 0) rfl rfl (by omega) (by omega)).mp c_90
                  refine E_go 7 rfl ?_
                  refine r_iload rfl ?_
                  refine r_nil ?_
                  refine E_go 8 rfl ?_
                  refine r_iastore rfl (by decide) (ixE rfl (show 1 < 160 by omega) (by decide)) ?_
                  refine r_iincN (y := io (1 + 1)) (ls' := [_, _, _, _, _, _, _, _, _]) rfl (zt rfl) (n_add (a := 1) (b := 1) rfl rfl) rfl ?_
                  refine r_goto ?_
                  refine E_go 14 rfl ?_
                  refine r_iincN (y := io ((s + k) + 1)) (ls' := [_, _, _, _, _, _, _, _, _]) rfl (zt rfl) (n_add (a := (s + k)) (b := 1) rfl rfl) rfl ?_
                  refine r_goto ?_
                  refine ih (d - 1) (by omega) (k + 1) (by omega) ((I (q + 1) (s + k)) :: [b]) _ _ _ _ ?_ ?_ ?_ ?_
                  · show _ = stp (I 27) (I (q + 1) (s + k)) (rn (I 27) (I (q + 1)) s k)
                    rw [← hst]
                    first | exact (stp_w (Or.inl c_51) c_70).symm | exact (stp_w (Or.inr c_58) c_70).symm
                  · simp only [List.length_cons, List.length_nil] at hl ⊢ <;> omega
                  · exact sk_push rfl hK
                  · exact hJ.up (by omega) (by omega)
                · have c_90 := (not_congr (n_eq (a := 0) (b := 0) rfl rfl (by omega) (by omega))).mp c_90
                  omega
            · refine r_iload rfl ?_
              refine r_if_eq (fun c_75 => ?_) (fun c_75 => ?_)
              · have c_75 := (n_eq (a := 0) (b := 0) rfl rfl (by omega) (by omega)).mp c_75
                refine E_go 9 rfl ?_
                refine r_iload rfl ?_
                refine r_ineg ?_
                refine r_bipush ?_
                refine r_icmp_ne (fun c_114 => ?_) (fun c_114 => ?_)
                · refine E_go 10 rfl ?_
                  refine r_iload rfl ?_
                  refine r_ineg ?_
                  refine r_bipush ?_
                  refine r_icmp_ne (fun c_144 => ?_) (fun c_144 => ?_)
                  · refine E_go 13 rfl ?_
                    refine r_iload rfl ?_
                    refine r_iconst ?_
                    refine r_icmp_lt (fun c_179 => ?_) (fun c_179 => ?_)
                    · have c_179 := (n_lt (a := 1) (b := 2) rfl rfl (by omega) (by omega)).mp c_179
                      refine E_go 14 rfl ?_
                      refine r_iincN (y := io ((s + k) + 1)) (ls' := [_, _, _, _, _, _, _, _, _]) rfl (zt rfl) (n_add (a := (s + k)) (b := 1) rfl rfl) rfl ?_
                      refine r_goto ?_
                      refine ih (d - 1) (by omega) (k + 1) (by omega) ([b]) _ _ _ _ ?_ ?_ ?_ ?_
                      · show _ = stp (I 27) (I (q + 1) (s + k)) (rn (I 27) (I (q + 1)) s k)
                        rw [← hst]
                        refine Eq.trans ?_ (show opw (I (q + 1) (s + k)) [b] = _ from by first | exact (stp_o (Or.inl c_51) c_70).symm | exact (stp_o (Or.inr c_58) c_70).symm)
                        rw [opw, if_neg c_114, if_neg c_144]
                      · simp only [List.length_cons, List.length_nil] at hl ⊢ <;> omega
                      · exact hK
                      · exact hJ
                    · have c_179 := (not_congr (n_lt (a := 1) (b := 2) rfl rfl (by omega) (by omega))).mp c_179
                      omega
                  · refine r_iload rfl ?_
                    refine r_iconst ?_
                    refine r_icmp_lt (fun c_150 => ?_) (fun c_150 => ?_)
                    · have c_150 := (n_lt (a := 1) (b := 1) rfl rfl (by omega) (by omega)).mp c_150
                      omega
                    · have c_150 := (not_congr (n_lt (a := 1) (b := 1) rfl rfl (by omega) (by omega))).mp c_150
                      refine r_aload_n rfl ?_
                      refine r_iload rfl ?_
                      refine r_iconst ?_
                      refine r_isub ?_
                      refine r_aload_n rfl ?_
                      refine r_iload rfl ?_
                      refine r_iconst ?_
                      refine r_isub ?_
                      refine r_iaload (by decide) rfl (by decide) (ixE (n_sub (a := 1) (b := 1) rfl rfl (by omega)) (show (1 - 1) < 160 by omega) (by decide)) hK.1 ?_
                      refine r_if_ne (fun c_164 => ?_) (fun c_164 => ?_)
                      · refine E_go 11 rfl ?_
                        refine r_iconst ?_
                        refine r_nil ?_
                        refine E_go 12 rfl ?_
                        refine r_iastore rfl (by decide) (ixE (n_sub (a := 1) (b := 1) rfl rfl (by omega)) (show (1 - 1) < 160 by omega) (by decide)) ?_
                        refine r_goto ?_
                        refine E_go 14 rfl ?_
                        refine r_iincN (y := io ((s + k) + 1)) (ls' := [_, _, _, _, _, _, _, _, _]) rfl (zt rfl) (n_add (a := (s + k)) (b := 1) rfl rfl) rfl ?_
                        refine r_goto ?_
                        refine ih (d - 1) (by omega) (k + 1) (by omega) (0 :: []) _ _ _ _ ?_ ?_ ?_ ?_
                        · show _ = stp (I 27) (I (q + 1) (s + k)) (rn (I 27) (I (q + 1)) s k)
                          rw [← hst]
                          refine Eq.trans ?_ (show opw (I (q + 1) (s + k)) [b] = _ from by first | exact (stp_o (Or.inl c_51) c_70).symm | exact (stp_o (Or.inr c_58) c_70).symm)
                          rw [opw, if_neg c_114, if_pos c_144, if_neg c_164]
                        · simp only [List.length_cons, List.length_nil] at hl ⊢ <;> omega
                        · exact sk_push rfl hK.2
                        · exact hJ.up (by omega) (by omega)
                      · refine r_iconst ?_
                        refine r_goto ?_
                        refine E_go 12 rfl ?_
                        refine r_iastore rfl (by decide) (ixE (n_sub (a := 1) (b := 1) rfl rfl (by omega)) (show (1 - 1) < 160 by omega) (by decide)) ?_
                        refine r_goto ?_
                        refine E_go 14 rfl ?_
                        refine r_iincN (y := io ((s + k) + 1)) (ls' := [_, _, _, _, _, _, _, _, _]) rfl (zt rfl) (n_add (a := (s + k)) (b := 1) rfl rfl) rfl ?_
                        refine r_goto ?_
                        refine ih (d - 1) (by omega) (k + 1) (by omega) (1 :: []) _ _ _ _ ?_ ?_ ?_ ?_
                        · show _ = stp (I 27) (I (q + 1) (s + k)) (rn (I 27) (I (q + 1)) s k)
                          rw [← hst]
                          refine Eq.trans ?_ (show opw (I (q + 1) (s + k)) [b] = _ from by first | exact (stp_o (Or.inl c_51) c_70).symm | exact (stp_o (Or.inr c_58) c_70).symm)
                          rw [opw, if_neg c_114, if_pos c_144, if_pos c_164]
                        · simp only [List.length_cons, List.length_nil] at hl ⊢ <;> omega
                        · exact sk_push rfl hK.2
                        · exact hJ.up (by omega) (by omega)
                · refine r_iload rfl ?_
                  refine r_iconst ?_
                  refine r_icmp_lt (fun c_120 => ?_) (fun c_120 => ?_)
                  · have c_120 := (n_lt (a := 1) (b := 1) rfl rfl (by omega) (by omega)).mp c_120
                    omega
                  · have c_120 := (not_congr (n_lt (a := 1) (b := 1) rfl rfl (by omega) (by omega))).mp c_120
                    refine r_aload_n rfl ?_
                    refine r_iload rfl ?_
                    refine r_iconst ?_
                    refine r_isub ?_
                    refine r_aload_n rfl ?_
                    refine r_iload rfl ?_
                    refine r_iconst ?_
                    refine r_isub ?_
                    refine r_iaload (by decide) rfl (by decide) (ixE (n_sub (a := 1) (b := 1) rfl rfl (by omega)) (show (1 - 1) < 160 by omega) (by decide)) hK.1 ?_
                    refine r_ineg ?_
                    refine r_iastore rfl (by decide) (ixE (n_sub (a := 1) (b := 1) rfl rfl (by omega)) (show (1 - 1) < 160 by omega) (by decide)) ?_
                    refine r_goto ?_
                    refine E_go 14 rfl ?_
                    refine r_iincN (y := io ((s + k) + 1)) (ls' := [_, _, _, _, _, _, _, _, _]) rfl (zt rfl) (n_add (a := (s + k)) (b := 1) rfl rfl) rfl ?_
                    refine r_goto ?_
                    refine ih (d - 1) (by omega) (k + 1) (by omega) ((-b) :: []) _ _ _ _ ?_ ?_ ?_ ?_
                    · show _ = stp (I 27) (I (q + 1) (s + k)) (rn (I 27) (I (q + 1)) s k)
                      rw [← hst]
                      refine Eq.trans ?_ (show opw (I (q + 1) (s + k)) [b] = _ from by first | exact (stp_o (Or.inl c_51) c_70).symm | exact (stp_o (Or.inr c_58) c_70).symm)
                      exact (if_pos c_114).symm
                    · simp only [List.length_cons, List.length_nil] at hl ⊢ <;> omega
                    · exact sk_push rfl hK.2
                    · exact hJ.up (by omega) (by omega)
              · have c_75 := (not_congr (n_eq (a := 0) (b := 0) rfl rfl (by omega) (by omega))).mp c_75
                omega
          · refine r_iconst ?_
            refine r_goto ?_
            refine E_go 5 rfl ?_
            refine r_istore (ls' := [_, _, _, _, _, _, _, _, _]) (zt rfl) rfl ?_
            refine r_iload rfl ?_
            refine r_if_ge (fun c_70 => ?_) (fun c_70 => ?_)
            · refine E_go 6 rfl ?_
              refine r_iload rfl ?_
              refine r_aload_n rfl ?_
              refine r_alen (by decide) (by decide) (by decide) ?_
              refine r_icmp_ge (fun c_82 => ?_) (fun c_82 => ?_)
              · have c_82 := (n_le (a := 160) (b := 1) rfl rfl (by omega) (by omega)).mp c_82
                omega
              · have c_82 := (not_congr (n_le (a := 160) (b := 1) rfl rfl (by omega) (by omega))).mp c_82
                refine r_aload_n rfl ?_
                refine r_iload rfl ?_
                refine r_iload rfl ?_
                refine r_if_eq (fun c_90 => ?_) (fun c_90 => ?_)
                · have c_90 := (n_eq (a := 1) (b := 0) rfl rfl (by omega) (by omega)).mp c_90
                  omega
                · have c_90 := (not_congr (n_eq (a := 1) (b := 0) rfl rfl (by omega) (by omega))).mp c_90
                  obtain ⟨nk, hnk, enk⟩ := io_ex (n := 6) (Int32.not_lt.mp c_51) (Int32.not_le.mp c_58) (by omega)
                  refine r_aload_n rfl ?_
                  refine r_iload rfl ?_
                  refine r_iaload (by decide) rfl (by decide) (ixE enk (show nk < 6 by omega) (by decide)) (congrFun hV nk) ?_
                  refine r_goto ?_
                  refine E_go 8 rfl ?_
                  refine r_iastore rfl (by decide) (ixE rfl (show 1 < 160 by omega) (by decide)) ?_
                  refine r_iincN (y := io (1 + 1)) (ls' := [_, _, _, _, _, _, _, _, _]) rfl (zt rfl) (n_add (a := 1) (b := 1) rfl rfl) rfl ?_
                  refine r_goto ?_
                  refine E_go 14 rfl ?_
                  refine r_iincN (y := io ((s + k) + 1)) (ls' := [_, _, _, _, _, _, _, _, _]) rfl (zt rfl) (n_add (a := (s + k)) (b := 1) rfl rfl) rfl ?_
                  refine r_goto ?_
                  refine ih (d - 1) (by omega) (k + 1) (by omega) (I 27 nk :: [b]) _ _ _ _ ?_ ?_ ?_ ?_
                  · show _ = stp (I 27) (I (q + 1) (s + k)) (rn (I 27) (I (q + 1)) s k)
                    rw [← hst]
                    rw [stp_v c_51 c_58, show nmv (I (q + 1) (s + k)) = io nk from enk, io_nat (by omega)]
                  · simp only [List.length_cons, List.length_nil] at hl ⊢ <;> omega
                  · exact sk_push rfl hK
                  · exact hJ.up (by omega) (by omega)
            · refine r_iload rfl ?_
              refine r_if_eq (fun c_75 => ?_) (fun c_75 => ?_)
              · have c_75 := (n_eq (a := 1) (b := 0) rfl rfl (by omega) (by omega)).mp c_75
                omega
              · have c_75 := (not_congr (n_eq (a := 1) (b := 0) rfl rfl (by omega) (by omega))).mp c_75
                refine r_nil ?_
                refine E_go 6 rfl ?_
                refine r_iload rfl ?_
                refine r_aload_n rfl ?_
                refine r_alen (by decide) (by decide) (by decide) ?_
                refine r_icmp_ge (fun c_82 => ?_) (fun c_82 => ?_)
                · have c_82 := (n_le (a := 160) (b := 1) rfl rfl (by omega) (by omega)).mp c_82
                  omega
                · have c_82 := (not_congr (n_le (a := 160) (b := 1) rfl rfl (by omega) (by omega))).mp c_82
                  refine r_aload_n rfl ?_
                  refine r_iload rfl ?_
                  refine r_iload rfl ?_
                  refine r_if_eq (fun c_90 => ?_) (fun c_90 => ?_)
                  · have c_90 := (n_eq (a := 1) (b := 0) rfl rfl (by omega) (by omega)).mp c_90
                    omega
                  · have c_90 := (not_congr (n_eq (a := 1) (b := 0) rfl rfl (by omega) (by omega))).mp c_90
                    obtain ⟨nk, hnk, enk⟩ := io_ex (n := 6) (Int32.not_lt.mp c_51) (Int32.not_le.mp c_58) (by omega)
                    refine r_aload_n rfl ?_
                    refine r_iload rfl ?_
                    refine r_iaload (by decide) rfl (by decide) (ixE enk (show nk < 6 by omega) (by decide)) (congrFun hV nk) ?_
                    refine r_goto ?_
                    refine E_go 8 rfl ?_
                    refine r_iastore rfl (by decide) (ixE rfl (show 1 < 160 by omega) (by decide)) ?_
                    refine r_iincN (y := io (1 + 1)) (ls' := [_, _, _, _, _, _, _, _, _]) rfl (zt rfl) (n_add (a := 1) (b := 1) rfl rfl) rfl ?_
                    refine r_goto ?_
                    refine E_go 14 rfl ?_
                    refine r_iincN (y := io ((s + k) + 1)) (ls' := [_, _, _, _, _, _, _, _, _]) rfl (zt rfl) (n_add (a := (s + k)) (b := 1) rfl rfl) rfl ?_
                    refine r_goto ?_
                    refine ih (d - 1) (by omega) (k + 1) (by omega) (I 27 nk :: [b]) _ _ _ _ ?_ ?_ ?_ ?_
                    · show _ = stp (I 27) (I (q + 1) (s + k)) (rn (I 27) (I (q + 1)) s k)
                      rw [← hst]
                      rw [stp_v c_51 c_58, show nmv (I (q + 1) (s + k)) = io nk from enk, io_nat (by omega)]
                    · simp only [List.length_cons, List.length_nil] at hl ⊢ <;> omega
                    · exact sk_push rfl hK
                    · exact hJ.up (by omega) (by omega)
    · simp only [List.length_cons, List.length_nil] at hl
      refine E_go 3 rfl ?_
      refine r_iload rfl ?_
      refine r_aload_n rfl ?_
      refine r_getA (q := (q + 2)) (by decide) (txf1 hq) hq.1.1 hq.1.2.1 ?_
      refine r_iload_n rfl ?_
      refine r_iaload (by decide) hq.2.2.2.1 hq.2.2.2.2.2 (ixQ rfl (show 0 < 3 by omega) (by decide) hq.2.2.2.2.1) (he2 J hJ) ?_
      refine r_icmp_ge (fun c_29 => ?_) (fun c_29 => ?_)
      · have c_29 := (n_le (a := e) (b := (s + k)) rfl rfl (by omega) (by omega)).mp c_29
        refine E_go 15 rfl ?_
        refine r_iload rfl ?_
        refine r_if_le (fun c_215 => ?_) (fun c_215 => ?_)
        · have c_215 := (n_le (a := (st.length + 2)) (b := 0) rfl rfl (by omega) (by omega)).mp c_215
          omega
        · have c_215 := (not_congr (n_le (a := (st.length + 2)) (b := 0) rfl rfl (by omega) (by omega))).mp c_215
          refine r_aload_n rfl ?_
          refine r_iload rfl ?_
          refine r_iconst ?_
          refine r_isub ?_
          refine r_iaload (by decide) rfl (by decide) (ixE (n_sub (a := (st.length + 2)) (b := 1) rfl rfl (by omega)) (show ((st.length + 2) - 1) < 160 by omega) (by decide)) rfl ?_
          refine r_goto ?_
          refine E_go 17 rfl ?_
          refine r_iret rfl trivial ?_
          refine qi (hQ J hJ) ?_
          rw [show e - s = k by omega, ← hst]
          exact hK.1.symm
      · have c_29 := (not_congr (n_le (a := e) (b := (s + k)) rfl rfl (by omega) (by omega))).mp c_29
        refine r_aload_n rfl ?_
        refine r_getA (q := (q + 1)) (by decide) (txf0 hq) hq.1.1 hq.1.2.1 ?_
        refine r_iload rfl ?_
        refine r_iaload (by decide) hq.2.1.2.1 hq.2.1.2.2.2 (ixQ rfl (show (s + k) < 160 by omega) (by decide) hq.2.1.2.2.1) (congrFun hC (s + k)) ?_
        refine r_istore (ls' := [_, _, _, _, _, _, _, _, _]) (zt rfl) rfl ?_
        refine r_iload rfl ?_
        refine r_ineg ?_
        refine r_bipush ?_
        refine r_isub ?_
        refine r_istore (ls' := [_, _, _, _, _, _, _, _, _]) (zt rfl) rfl ?_
        refine r_iload rfl ?_
        refine r_if_lt (fun c_51 => ?_) (fun c_51 => ?_)
        · refine E_go 4 rfl ?_
          refine r_iconst ?_
          refine r_nil ?_
          refine E_go 5 rfl ?_
          refine r_istore (ls' := [_, _, _, _, _, _, _, _, _]) (zt rfl) rfl ?_
          refine r_iload rfl ?_
          refine r_if_ge (fun c_70 => ?_) (fun c_70 => ?_)
          · refine E_go 6 rfl ?_
            refine r_iload rfl ?_
            refine r_aload_n rfl ?_
            refine r_alen (by decide) (by decide) (by decide) ?_
            refine r_icmp_ge (fun c_82 => ?_) (fun c_82 => ?_)
            · have c_82 := (n_le (a := 160) (b := (st.length + 2)) rfl rfl (by omega) (by omega)).mp c_82
              omega
            · have c_82 := (not_congr (n_le (a := 160) (b := (st.length + 2)) rfl rfl (by omega) (by omega))).mp c_82
              refine r_aload_n rfl ?_
              refine r_iload rfl ?_
              refine r_iload rfl ?_
              refine r_if_eq (fun c_90 => ?_) (fun c_90 => ?_)
              · have c_90 := (n_eq (a := 0) (b := 0) rfl rfl (by omega) (by omega)).mp c_90
                refine E_go 7 rfl ?_
                refine r_iload rfl ?_
                refine r_nil ?_
                refine E_go 8 rfl ?_
                refine r_iastore rfl (by decide) (ixE rfl (show (st.length + 2) < 160 by omega) (by decide)) ?_
                refine r_iincN (y := io ((st.length + 2) + 1)) (ls' := [_, _, _, _, _, _, _, _, _]) rfl (zt rfl) (n_add (a := (st.length + 2)) (b := 1) rfl rfl) rfl ?_
                refine r_goto ?_
                refine E_go 14 rfl ?_
                refine r_iincN (y := io ((s + k) + 1)) (ls' := [_, _, _, _, _, _, _, _, _]) rfl (zt rfl) (n_add (a := (s + k)) (b := 1) rfl rfl) rfl ?_
                refine r_goto ?_
                refine ih (d - 1) (by omega) (k + 1) (by omega) ((I (q + 1) (s + k)) :: (b :: a :: st)) _ _ _ _ ?_ ?_ ?_ ?_
                · show _ = stp (I 27) (I (q + 1) (s + k)) (rn (I 27) (I (q + 1)) s k)
                  rw [← hst]
                  first | exact (stp_w (Or.inl c_51) c_70).symm | exact (stp_w (Or.inr c_58) c_70).symm
                · simp only [List.length_cons, List.length_nil] at hl ⊢ <;> omega
                · exact sk_push rfl hK
                · exact hJ.up (by omega) (by omega)
              · have c_90 := (not_congr (n_eq (a := 0) (b := 0) rfl rfl (by omega) (by omega))).mp c_90
                omega
          · refine r_iload rfl ?_
            refine r_if_eq (fun c_75 => ?_) (fun c_75 => ?_)
            · have c_75 := (n_eq (a := 0) (b := 0) rfl rfl (by omega) (by omega)).mp c_75
              refine E_go 9 rfl ?_
              refine r_iload rfl ?_
              refine r_ineg ?_
              refine r_bipush ?_
              refine r_icmp_ne (fun c_114 => ?_) (fun c_114 => ?_)
              · refine E_go 10 rfl ?_
                refine r_iload rfl ?_
                refine r_ineg ?_
                refine r_bipush ?_
                refine r_icmp_ne (fun c_144 => ?_) (fun c_144 => ?_)
                · refine E_go 13 rfl ?_
                  refine r_iload rfl ?_
                  refine r_iconst ?_
                  refine r_icmp_lt (fun c_179 => ?_) (fun c_179 => ?_)
                  · have c_179 := (n_lt (a := (st.length + 2)) (b := 2) rfl rfl (by omega) (by omega)).mp c_179
                    omega
                  · have c_179 := (not_congr (n_lt (a := (st.length + 2)) (b := 2) rfl rfl (by omega) (by omega))).mp c_179
                    refine r_iincN (y := io ((st.length + 2) - 1)) (ls' := [_, _, _, _, _, _, _, _, _]) rfl (zt rfl) (n_dec (a := (st.length + 2)) (b := 1) rfl rfl (by omega)) rfl ?_
                    refine r_aload_n rfl ?_
                    refine r_iload rfl ?_
                    refine r_iconst ?_
                    refine r_isub ?_
                    refine r_iload rfl ?_
                    refine r_ineg ?_
                    refine r_aload_n rfl ?_
                    refine r_iload rfl ?_
                    refine r_iconst ?_
                    refine r_isub ?_
                    refine r_iaload (by decide) rfl (by decide) (ixE (n_sub (a := ((st.length + 2) - 1)) (b := 1) rfl rfl (by omega)) (show (((st.length + 2) - 1) - 1) < 160 by omega) (by decide)) hK.2.1 ?_
                    refine r_aload_n rfl ?_
                    refine r_iload rfl ?_
                    refine r_iaload (by decide) rfl (by decide) (ixE rfl (show ((st.length + 2) - 1) < 160 by omega) (by decide)) hK.1 ?_
                    refine r_static (vs := [_, _, _]) (by decide) (zl rfl) rfl rfl (zl rfl) (Nat.le_refl _) rfl ?_
                    refine s_X5_joined (by omega) ?_
                    refine r_iastore rfl (by decide) (ixE (n_sub (a := ((st.length + 2) - 1)) (b := 1) rfl rfl (by omega)) (show (((st.length + 2) - 1) - 1) < 160 by omega) (by decide)) ?_
                    refine r_nil ?_
                    refine E_go 14 rfl ?_
                    refine r_iincN (y := io ((s + k) + 1)) (ls' := [_, _, _, _, _, _, _, _, _]) rfl (zt rfl) (n_add (a := (s + k)) (b := 1) rfl rfl) rfl ?_
                    refine r_goto ?_
                    refine ih (d - 1) (by omega) (k + 1) (by omega) (jn (-(I (q + 1) (s + k))) a b :: st) _ _ _ _ ?_ ?_ ?_ ?_
                    · show _ = stp (I 27) (I (q + 1) (s + k)) (rn (I 27) (I (q + 1)) s k)
                      rw [← hst]
                      refine Eq.trans ?_ (show opw (I (q + 1) (s + k)) (b :: a :: st) = _ from by first | exact (stp_o (Or.inl c_51) c_70).symm | exact (stp_o (Or.inr c_58) c_70).symm)
                      rw [opw, if_neg c_114, if_neg c_144]
                    · simp only [List.length_cons, List.length_nil] at hl ⊢ <;> omega
                    · exact sk_push rfl hK.2.2
                    · exact hJ.up (by omega) (by omega)
                · refine r_iload rfl ?_
                  refine r_iconst ?_
                  refine r_icmp_lt (fun c_150 => ?_) (fun c_150 => ?_)
                  · have c_150 := (n_lt (a := (st.length + 2)) (b := 1) rfl rfl (by omega) (by omega)).mp c_150
                    omega
                  · have c_150 := (not_congr (n_lt (a := (st.length + 2)) (b := 1) rfl rfl (by omega) (by omega))).mp c_150
                    refine r_aload_n rfl ?_
                    refine r_iload rfl ?_
                    refine r_iconst ?_
                    refine r_isub ?_
                    refine r_aload_n rfl ?_
                    refine r_iload rfl ?_
                    refine r_iconst ?_
                    refine r_isub ?_
                    refine r_iaload (by decide) rfl (by decide) (ixE (n_sub (a := (st.length + 2)) (b := 1) rfl rfl (by omega)) (show ((st.length + 2) - 1) < 160 by omega) (by decide)) hK.1 ?_
                    refine r_if_ne (fun c_164 => ?_) (fun c_164 => ?_)
                    · refine E_go 11 rfl ?_
                      refine r_iconst ?_
                      refine r_nil ?_
                      refine E_go 12 rfl ?_
                      refine r_iastore rfl (by decide) (ixE (n_sub (a := (st.length + 2)) (b := 1) rfl rfl (by omega)) (show ((st.length + 2) - 1) < 160 by omega) (by decide)) ?_
                      refine r_goto ?_
                      refine E_go 14 rfl ?_
                      refine r_iincN (y := io ((s + k) + 1)) (ls' := [_, _, _, _, _, _, _, _, _]) rfl (zt rfl) (n_add (a := (s + k)) (b := 1) rfl rfl) rfl ?_
                      refine r_goto ?_
                      refine ih (d - 1) (by omega) (k + 1) (by omega) (0 :: (a :: st)) _ _ _ _ ?_ ?_ ?_ ?_
                      · show _ = stp (I 27) (I (q + 1) (s + k)) (rn (I 27) (I (q + 1)) s k)
                        rw [← hst]
                        refine Eq.trans ?_ (show opw (I (q + 1) (s + k)) (b :: a :: st) = _ from by first | exact (stp_o (Or.inl c_51) c_70).symm | exact (stp_o (Or.inr c_58) c_70).symm)
                        rw [opw, if_neg c_114, if_pos c_144, if_neg c_164]
                      · simp only [List.length_cons, List.length_nil] at hl ⊢ <;> omega
                      · exact sk_push rfl hK.2
                      · exact hJ.up (by omega) (by omega)
                    · refine r_iconst ?_
                      refine r_goto ?_
                      refine E_go 12 rfl ?_
                      refine r_iastore rfl (by decide) (ixE (n_sub (a := (st.length + 2)) (b := 1) rfl rfl (by omega)) (show ((st.length + 2) - 1) < 160 by omega) (by decide)) ?_
                      refine r_goto ?_
                      refine E_go 14 rfl ?_
                      refine r_iincN (y := io ((s + k) + 1)) (ls' := [_, _, _, _, _, _, _, _, _]) rfl (zt rfl) (n_add (a := (s + k)) (b := 1) rfl rfl) rfl ?_
                      refine r_goto ?_
                      refine ih (d - 1) (by omega) (k + 1) (by omega) (1 :: (a :: st)) _ _ _ _ ?_ ?_ ?_ ?_
                      · show _ = stp (I 27) (I (q + 1) (s + k)) (rn (I 27) (I (q + 1)) s k)
                        rw [← hst]
                        refine Eq.trans ?_ (show opw (I (q + 1) (s + k)) (b :: a :: st) = _ from by first | exact (stp_o (Or.inl c_51) c_70).symm | exact (stp_o (Or.inr c_58) c_70).symm)
                        rw [opw, if_neg c_114, if_pos c_144, if_pos c_164]
                      · simp only [List.length_cons, List.length_nil] at hl ⊢ <;> omega
                      · exact sk_push rfl hK.2
                      · exact hJ.up (by omega) (by omega)
              · refine r_iload rfl ?_
                refine r_iconst ?_
                refine r_icmp_lt (fun c_120 => ?_) (fun c_120 => ?_)
                · have c_120 := (n_lt (a := (st.length + 2)) (b := 1) rfl rfl (by omega) (by omega)).mp c_120
                  omega
                · have c_120 := (not_congr (n_lt (a := (st.length + 2)) (b := 1) rfl rfl (by omega) (by omega))).mp c_120
                  refine r_aload_n rfl ?_
                  refine r_iload rfl ?_
                  refine r_iconst ?_
                  refine r_isub ?_
                  refine r_aload_n rfl ?_
                  refine r_iload rfl ?_
                  refine r_iconst ?_
                  refine r_isub ?_
                  refine r_iaload (by decide) rfl (by decide) (ixE (n_sub (a := (st.length + 2)) (b := 1) rfl rfl (by omega)) (show ((st.length + 2) - 1) < 160 by omega) (by decide)) hK.1 ?_
                  refine r_ineg ?_
                  refine r_iastore rfl (by decide) (ixE (n_sub (a := (st.length + 2)) (b := 1) rfl rfl (by omega)) (show ((st.length + 2) - 1) < 160 by omega) (by decide)) ?_
                  refine r_goto ?_
                  refine E_go 14 rfl ?_
                  refine r_iincN (y := io ((s + k) + 1)) (ls' := [_, _, _, _, _, _, _, _, _]) rfl (zt rfl) (n_add (a := (s + k)) (b := 1) rfl rfl) rfl ?_
                  refine r_goto ?_
                  refine ih (d - 1) (by omega) (k + 1) (by omega) ((-b) :: (a :: st)) _ _ _ _ ?_ ?_ ?_ ?_
                  · show _ = stp (I 27) (I (q + 1) (s + k)) (rn (I 27) (I (q + 1)) s k)
                    rw [← hst]
                    refine Eq.trans ?_ (show opw (I (q + 1) (s + k)) (b :: a :: st) = _ from by first | exact (stp_o (Or.inl c_51) c_70).symm | exact (stp_o (Or.inr c_58) c_70).symm)
                    exact (if_pos c_114).symm
                  · simp only [List.length_cons, List.length_nil] at hl ⊢ <;> omega
                  · exact sk_push rfl hK.2
                  · exact hJ.up (by omega) (by omega)
            · have c_75 := (not_congr (n_eq (a := 0) (b := 0) rfl rfl (by omega) (by omega))).mp c_75
              omega
        · refine r_iload rfl ?_
          refine r_bipush ?_
          refine r_icmp_ge (fun c_58 => ?_) (fun c_58 => ?_)
          · refine E_go 4 rfl ?_
            refine r_iconst ?_
            refine r_nil ?_
            refine E_go 5 rfl ?_
            refine r_istore (ls' := [_, _, _, _, _, _, _, _, _]) (zt rfl) rfl ?_
            refine r_iload rfl ?_
            refine r_if_ge (fun c_70 => ?_) (fun c_70 => ?_)
            · refine E_go 6 rfl ?_
              refine r_iload rfl ?_
              refine r_aload_n rfl ?_
              refine r_alen (by decide) (by decide) (by decide) ?_
              refine r_icmp_ge (fun c_82 => ?_) (fun c_82 => ?_)
              · have c_82 := (n_le (a := 160) (b := (st.length + 2)) rfl rfl (by omega) (by omega)).mp c_82
                omega
              · have c_82 := (not_congr (n_le (a := 160) (b := (st.length + 2)) rfl rfl (by omega) (by omega))).mp c_82
                refine r_aload_n rfl ?_
                refine r_iload rfl ?_
                refine r_iload rfl ?_
                refine r_if_eq (fun c_90 => ?_) (fun c_90 => ?_)
                · have c_90 := (n_eq (a := 0) (b := 0) rfl rfl (by omega) (by omega)).mp c_90
                  refine E_go 7 rfl ?_
                  refine r_iload rfl ?_
                  refine r_nil ?_
                  refine E_go 8 rfl ?_
                  refine r_iastore rfl (by decide) (ixE rfl (show (st.length + 2) < 160 by omega) (by decide)) ?_
                  refine r_iincN (y := io ((st.length + 2) + 1)) (ls' := [_, _, _, _, _, _, _, _, _]) rfl (zt rfl) (n_add (a := (st.length + 2)) (b := 1) rfl rfl) rfl ?_
                  refine r_goto ?_
                  refine E_go 14 rfl ?_
                  refine r_iincN (y := io ((s + k) + 1)) (ls' := [_, _, _, _, _, _, _, _, _]) rfl (zt rfl) (n_add (a := (s + k)) (b := 1) rfl rfl) rfl ?_
                  refine r_goto ?_
                  refine ih (d - 1) (by omega) (k + 1) (by omega) ((I (q + 1) (s + k)) :: (b :: a :: st)) _ _ _ _ ?_ ?_ ?_ ?_
                  · show _ = stp (I 27) (I (q + 1) (s + k)) (rn (I 27) (I (q + 1)) s k)
                    rw [← hst]
                    first | exact (stp_w (Or.inl c_51) c_70).symm | exact (stp_w (Or.inr c_58) c_70).symm
                  · simp only [List.length_cons, List.length_nil] at hl ⊢ <;> omega
                  · exact sk_push rfl hK
                  · exact hJ.up (by omega) (by omega)
                · have c_90 := (not_congr (n_eq (a := 0) (b := 0) rfl rfl (by omega) (by omega))).mp c_90
                  omega
            · refine r_iload rfl ?_
              refine r_if_eq (fun c_75 => ?_) (fun c_75 => ?_)
              · have c_75 := (n_eq (a := 0) (b := 0) rfl rfl (by omega) (by omega)).mp c_75
                refine E_go 9 rfl ?_
                refine r_iload rfl ?_
                refine r_ineg ?_
                refine r_bipush ?_
                refine r_icmp_ne (fun c_114 => ?_) (fun c_114 => ?_)
                · refine E_go 10 rfl ?_
                  refine r_iload rfl ?_
                  refine r_ineg ?_
                  refine r_bipush ?_
                  refine r_icmp_ne (fun c_144 => ?_) (fun c_144 => ?_)
                  · refine E_go 13 rfl ?_
                    refine r_iload rfl ?_
                    refine r_iconst ?_
                    refine r_icmp_lt (fun c_179 => ?_) (fun c_179 => ?_)
                    · have c_179 := (n_lt (a := (st.length + 2)) (b := 2) rfl rfl (by omega) (by omega)).mp c_179
                      omega
                    · have c_179 := (not_congr (n_lt (a := (st.length + 2)) (b := 2) rfl rfl (by omega) (by omega))).mp c_179
                      refine r_iincN (y := io ((st.length + 2) - 1)) (ls' := [_, _, _, _, _, _, _, _, _]) rfl (zt rfl) (n_dec (a := (st.length + 2)) (b := 1) rfl rfl (by omega)) rfl ?_
                      refine r_aload_n rfl ?_
                      refine r_iload rfl ?_
                      refine r_iconst ?_
                      refine r_isub ?_
                      refine r_iload rfl ?_
                      refine r_ineg ?_
                      refine r_aload_n rfl ?_
                      refine r_iload rfl ?_
                      refine r_iconst ?_
                      refine r_isub ?_
                      refine r_iaload (by decide) rfl (by decide) (ixE (n_sub (a := ((st.length + 2) - 1)) (b := 1) rfl rfl (by omega)) (show (((st.length + 2) - 1) - 1) < 160 by omega) (by decide)) hK.2.1 ?_
                      refine r_aload_n rfl ?_
                      refine r_iload rfl ?_
                      refine r_iaload (by decide) rfl (by decide) (ixE rfl (show ((st.length + 2) - 1) < 160 by omega) (by decide)) hK.1 ?_
                      refine r_static (vs := [_, _, _]) (by decide) (zl rfl) rfl rfl (zl rfl) (Nat.le_refl _) rfl ?_
                      refine s_X5_joined (by omega) ?_
                      refine r_iastore rfl (by decide) (ixE (n_sub (a := ((st.length + 2) - 1)) (b := 1) rfl rfl (by omega)) (show (((st.length + 2) - 1) - 1) < 160 by omega) (by decide)) ?_
                      refine r_nil ?_
                      refine E_go 14 rfl ?_
                      refine r_iincN (y := io ((s + k) + 1)) (ls' := [_, _, _, _, _, _, _, _, _]) rfl (zt rfl) (n_add (a := (s + k)) (b := 1) rfl rfl) rfl ?_
                      refine r_goto ?_
                      refine ih (d - 1) (by omega) (k + 1) (by omega) (jn (-(I (q + 1) (s + k))) a b :: st) _ _ _ _ ?_ ?_ ?_ ?_
                      · show _ = stp (I 27) (I (q + 1) (s + k)) (rn (I 27) (I (q + 1)) s k)
                        rw [← hst]
                        refine Eq.trans ?_ (show opw (I (q + 1) (s + k)) (b :: a :: st) = _ from by first | exact (stp_o (Or.inl c_51) c_70).symm | exact (stp_o (Or.inr c_58) c_70).symm)
                        rw [opw, if_neg c_114, if_neg c_144]
                      · simp only [List.length_cons, List.length_nil] at hl ⊢ <;> omega
                      · exact sk_push rfl hK.2.2
                      · exact hJ.up (by omega) (by omega)
                  · refine r_iload rfl ?_
                    refine r_iconst ?_
                    refine r_icmp_lt (fun c_150 => ?_) (fun c_150 => ?_)
                    · have c_150 := (n_lt (a := (st.length + 2)) (b := 1) rfl rfl (by omega) (by omega)).mp c_150
                      omega
                    · have c_150 := (not_congr (n_lt (a := (st.length + 2)) (b := 1) rfl rfl (by omega) (by omega))).mp c_150
                      refine r_aload_n rfl ?_
                      refine r_iload rfl ?_
                      refine r_iconst ?_
                      refine r_isub ?_
                      refine r_aload_n rfl ?_
                      refine r_iload rfl ?_
                      refine r_iconst ?_
                      refine r_isub ?_
                      refine r_iaload (by decide) rfl (by decide) (ixE (n_sub (a := (st.length + 2)) (b := 1) rfl rfl (by omega)) (show ((st.length + 2) - 1) < 160 by omega) (by decide)) hK.1 ?_
                      refine r_if_ne (fun c_164 => ?_) (fun c_164 => ?_)
                      · refine E_go 11 rfl ?_
                        refine r_iconst ?_
                        refine r_nil ?_
                        refine E_go 12 rfl ?_
                        refine r_iastore rfl (by decide) (ixE (n_sub (a := (st.length + 2)) (b := 1) rfl rfl (by omega)) (show ((st.length + 2) - 1) < 160 by omega) (by decide)) ?_
                        refine r_goto ?_
                        refine E_go 14 rfl ?_
                        refine r_iincN (y := io ((s + k) + 1)) (ls' := [_, _, _, _, _, _, _, _, _]) rfl (zt rfl) (n_add (a := (s + k)) (b := 1) rfl rfl) rfl ?_
                        refine r_goto ?_
                        refine ih (d - 1) (by omega) (k + 1) (by omega) (0 :: (a :: st)) _ _ _ _ ?_ ?_ ?_ ?_
                        · show _ = stp (I 27) (I (q + 1) (s + k)) (rn (I 27) (I (q + 1)) s k)
                          rw [← hst]
                          refine Eq.trans ?_ (show opw (I (q + 1) (s + k)) (b :: a :: st) = _ from by first | exact (stp_o (Or.inl c_51) c_70).symm | exact (stp_o (Or.inr c_58) c_70).symm)
                          rw [opw, if_neg c_114, if_pos c_144, if_neg c_164]
                        · simp only [List.length_cons, List.length_nil] at hl ⊢ <;> omega
                        · exact sk_push rfl hK.2
                        · exact hJ.up (by omega) (by omega)
                      · refine r_iconst ?_
                        refine r_goto ?_
                        refine E_go 12 rfl ?_
                        refine r_iastore rfl (by decide) (ixE (n_sub (a := (st.length + 2)) (b := 1) rfl rfl (by omega)) (show ((st.length + 2) - 1) < 160 by omega) (by decide)) ?_
                        refine r_goto ?_
                        refine E_go 14 rfl ?_
                        refine r_iincN (y := io ((s + k) + 1)) (ls' := [_, _, _, _, _, _, _, _, _]) rfl (zt rfl) (n_add (a := (s + k)) (b := 1) rfl rfl) rfl ?_
                        refine r_goto ?_
                        refine ih (d - 1) (by omega) (k + 1) (by omega) (1 :: (a :: st)) _ _ _ _ ?_ ?_ ?_ ?_
                        · show _ = stp (I 27) (I (q + 1) (s + k)) (rn (I 27) (I (q + 1)) s k)
                          rw [← hst]
                          refine Eq.trans ?_ (show opw (I (q + 1) (s + k)) (b :: a :: st) = _ from by first | exact (stp_o (Or.inl c_51) c_70).symm | exact (stp_o (Or.inr c_58) c_70).symm)
                          rw [opw, if_neg c_114, if_pos c_144, if_pos c_164]
                        · simp only [List.length_cons, List.length_nil] at hl ⊢ <;> omega
                        · exact sk_push rfl hK.2
                        · exact hJ.up (by omega) (by omega)
                · refine r_iload rfl ?_
                  refine r_iconst ?_
                  refine r_icmp_lt (fun c_120 => ?_) (fun c_120 => ?_)
                  · have c_120 := (n_lt (a := (st.length + 2)) (b := 1) rfl rfl (by omega) (by omega)).mp c_120
                    omega
                  · have c_120 := (not_congr (n_lt (a := (st.length + 2)) (b := 1) rfl rfl (by omega) (by omega))).mp c_120
                    refine r_aload_n rfl ?_
                    refine r_iload rfl ?_
                    refine r_iconst ?_
                    refine r_isub ?_
                    refine r_aload_n rfl ?_
                    refine r_iload rfl ?_
                    refine r_iconst ?_
                    refine r_isub ?_
                    refine r_iaload (by decide) rfl (by decide) (ixE (n_sub (a := (st.length + 2)) (b := 1) rfl rfl (by omega)) (show ((st.length + 2) - 1) < 160 by omega) (by decide)) hK.1 ?_
                    refine r_ineg ?_
                    refine r_iastore rfl (by decide) (ixE (n_sub (a := (st.length + 2)) (b := 1) rfl rfl (by omega)) (show ((st.length + 2) - 1) < 160 by omega) (by decide)) ?_
                    refine r_goto ?_
                    refine E_go 14 rfl ?_
                    refine r_iincN (y := io ((s + k) + 1)) (ls' := [_, _, _, _, _, _, _, _, _]) rfl (zt rfl) (n_add (a := (s + k)) (b := 1) rfl rfl) rfl ?_
                    refine r_goto ?_
                    refine ih (d - 1) (by omega) (k + 1) (by omega) ((-b) :: (a :: st)) _ _ _ _ ?_ ?_ ?_ ?_
                    · show _ = stp (I 27) (I (q + 1) (s + k)) (rn (I 27) (I (q + 1)) s k)
                      rw [← hst]
                      refine Eq.trans ?_ (show opw (I (q + 1) (s + k)) (b :: a :: st) = _ from by first | exact (stp_o (Or.inl c_51) c_70).symm | exact (stp_o (Or.inr c_58) c_70).symm)
                      exact (if_pos c_114).symm
                    · simp only [List.length_cons, List.length_nil] at hl ⊢ <;> omega
                    · exact sk_push rfl hK.2
                    · exact hJ.up (by omega) (by omega)
              · have c_75 := (not_congr (n_eq (a := 0) (b := 0) rfl rfl (by omega) (by omega))).mp c_75
                omega
          · refine r_iconst ?_
            refine r_goto ?_
            refine E_go 5 rfl ?_
            refine r_istore (ls' := [_, _, _, _, _, _, _, _, _]) (zt rfl) rfl ?_
            refine r_iload rfl ?_
            refine r_if_ge (fun c_70 => ?_) (fun c_70 => ?_)
            · refine E_go 6 rfl ?_
              refine r_iload rfl ?_
              refine r_aload_n rfl ?_
              refine r_alen (by decide) (by decide) (by decide) ?_
              refine r_icmp_ge (fun c_82 => ?_) (fun c_82 => ?_)
              · have c_82 := (n_le (a := 160) (b := (st.length + 2)) rfl rfl (by omega) (by omega)).mp c_82
                omega
              · have c_82 := (not_congr (n_le (a := 160) (b := (st.length + 2)) rfl rfl (by omega) (by omega))).mp c_82
                refine r_aload_n rfl ?_
                refine r_iload rfl ?_
                refine r_iload rfl ?_
                refine r_if_eq (fun c_90 => ?_) (fun c_90 => ?_)
                · have c_90 := (n_eq (a := 1) (b := 0) rfl rfl (by omega) (by omega)).mp c_90
                  omega
                · have c_90 := (not_congr (n_eq (a := 1) (b := 0) rfl rfl (by omega) (by omega))).mp c_90
                  obtain ⟨nk, hnk, enk⟩ := io_ex (n := 6) (Int32.not_lt.mp c_51) (Int32.not_le.mp c_58) (by omega)
                  refine r_aload_n rfl ?_
                  refine r_iload rfl ?_
                  refine r_iaload (by decide) rfl (by decide) (ixE enk (show nk < 6 by omega) (by decide)) (congrFun hV nk) ?_
                  refine r_goto ?_
                  refine E_go 8 rfl ?_
                  refine r_iastore rfl (by decide) (ixE rfl (show (st.length + 2) < 160 by omega) (by decide)) ?_
                  refine r_iincN (y := io ((st.length + 2) + 1)) (ls' := [_, _, _, _, _, _, _, _, _]) rfl (zt rfl) (n_add (a := (st.length + 2)) (b := 1) rfl rfl) rfl ?_
                  refine r_goto ?_
                  refine E_go 14 rfl ?_
                  refine r_iincN (y := io ((s + k) + 1)) (ls' := [_, _, _, _, _, _, _, _, _]) rfl (zt rfl) (n_add (a := (s + k)) (b := 1) rfl rfl) rfl ?_
                  refine r_goto ?_
                  refine ih (d - 1) (by omega) (k + 1) (by omega) (I 27 nk :: (b :: a :: st)) _ _ _ _ ?_ ?_ ?_ ?_
                  · show _ = stp (I 27) (I (q + 1) (s + k)) (rn (I 27) (I (q + 1)) s k)
                    rw [← hst]
                    rw [stp_v c_51 c_58, show nmv (I (q + 1) (s + k)) = io nk from enk, io_nat (by omega)]
                  · simp only [List.length_cons, List.length_nil] at hl ⊢ <;> omega
                  · exact sk_push rfl hK
                  · exact hJ.up (by omega) (by omega)
            · refine r_iload rfl ?_
              refine r_if_eq (fun c_75 => ?_) (fun c_75 => ?_)
              · have c_75 := (n_eq (a := 1) (b := 0) rfl rfl (by omega) (by omega)).mp c_75
                omega
              · have c_75 := (not_congr (n_eq (a := 1) (b := 0) rfl rfl (by omega) (by omega))).mp c_75
                refine r_nil ?_
                refine E_go 6 rfl ?_
                refine r_iload rfl ?_
                refine r_aload_n rfl ?_
                refine r_alen (by decide) (by decide) (by decide) ?_
                refine r_icmp_ge (fun c_82 => ?_) (fun c_82 => ?_)
                · have c_82 := (n_le (a := 160) (b := (st.length + 2)) rfl rfl (by omega) (by omega)).mp c_82
                  omega
                · have c_82 := (not_congr (n_le (a := 160) (b := (st.length + 2)) rfl rfl (by omega) (by omega))).mp c_82
                  refine r_aload_n rfl ?_
                  refine r_iload rfl ?_
                  refine r_iload rfl ?_
                  refine r_if_eq (fun c_90 => ?_) (fun c_90 => ?_)
                  · have c_90 := (n_eq (a := 1) (b := 0) rfl rfl (by omega) (by omega)).mp c_90
                    omega
                  · have c_90 := (not_congr (n_eq (a := 1) (b := 0) rfl rfl (by omega) (by omega))).mp c_90
                    obtain ⟨nk, hnk, enk⟩ := io_ex (n := 6) (Int32.not_lt.mp c_51) (Int32.not_le.mp c_58) (by omega)
                    refine r_aload_n rfl ?_
                    refine r_iload rfl ?_
                    refine r_iaload (by decide) rfl (by decide) (ixE enk (show nk < 6 by omega) (by decide)) (congrFun hV nk) ?_
                    refine r_goto ?_
                    refine E_go 8 rfl ?_
                    refine r_iastore rfl (by decide) (ixE rfl (show (st.length + 2) < 160 by omega) (by decide)) ?_
                    refine r_iincN (y := io ((st.length + 2) + 1)) (ls' := [_, _, _, _, _, _, _, _, _]) rfl (zt rfl) (n_add (a := (st.length + 2)) (b := 1) rfl rfl) rfl ?_
                    refine r_goto ?_
                    refine E_go 14 rfl ?_
                    refine r_iincN (y := io ((s + k) + 1)) (ls' := [_, _, _, _, _, _, _, _, _]) rfl (zt rfl) (n_add (a := (s + k)) (b := 1) rfl rfl) rfl ?_
                    refine r_goto ?_
                    refine ih (d - 1) (by omega) (k + 1) (by omega) (I 27 nk :: (b :: a :: st)) _ _ _ _ ?_ ?_ ?_ ?_
                    · show _ = stp (I 27) (I (q + 1) (s + k)) (rn (I 27) (I (q + 1)) s k)
                      rw [← hst]
                      rw [stp_v c_51 c_58, show nmv (I (q + 1) (s + k)) = io nk from enk, io_nat (by omega)]
                    · simp only [List.length_cons, List.length_nil] at hl ⊢ <;> omega
                    · exact sk_push rfl hK
                    · exact hJ.up (by omega) (by omega)
  refine M_go (ls := [_, _, _, _, _, _, _, _, _]) (ml := 9) rfl rfl rfl (zl rfl) rfl ?_
  refine r_iconst ?_
  refine r_istore (ls' := [_, _, _, _, _, _, _, _, _]) (zt rfl) rfl ?_
  refine r_iload_n rfl ?_
  refine r_if_ne (fun c_4 => ?_) (fun c_4 => ?_)
  · have c_4 := (not_congr (n_eq (a := 0) (b := 0) rfl rfl (by omega) (by omega))).mp c_4
    omega
  · have c_4 := (n_eq (a := 0) (b := 0) rfl rfl (by omega) (by omega)).mp c_4
    refine r_iconst ?_
    refine r_goto ?_
    refine E_go 2 rfl ?_
    refine r_istore (ls' := [_, _, _, _, _, _, _, _, _]) (zt rfl) rfl ?_
    refine r_nil ?_
    subst hs0
    exact key (e - 0) 0 (by omega) [] I _ _ _ rfl (Nat.le_refl _) trivial oF.refl

set_option maxRecDepth 10000 in
theorem s_value1 {xs : xSc} {m : Nat} {I : Nat → Nat → Int32} {L : Nat → Nat → Int64} {Q : Value → xHp → Prop} (hm : 2 ≤ m) {q s e : Nat} (hq : TxP q) (he1 : I (q + 2) 0 = io s) (he : I (q + 2) 1 = io e) (hse : s ≤ e) (h160 : e ≤ 160) (hQ : ∀ J, oF 28 28 I J → Q (.int ((rn (I 27) (I (q + 1)) s (e - s)).headD 0)) (Hp J L)) : M xs m xi_X5_value [.ref q, .int 1, .ref 27, .ref 28] (Hp I L) Q := by
  obtain ⟨m, rfl⟩ : ∃ k, m = k + 1 := ⟨m - 1, by omega⟩
  have hq1 := hq.1.2.2
  have he2 : ∀ J, oF 28 28 I J → J (q + 2) 1 = io e := fun J hJ => by rw [hJ (q + 2) (by omega)]; exact he
  have key : ∀ d k, k + d = e - s → ∀ (st : List Int32) (J : Nat → Nat → Int32) (x6 x7 x8 : Value), st = rn (I 27) (I (q + 1)) s k → st.length ≤ k → sk (J 28) st → oF 28 28 I J → E xs m xi_X5_value 82 Q 21 [.ref q, .int 1, .ref 27, .ref 28, .int (io st.length), .int (io (s + k)), x6, x7, x8] [] (82, J, L, xF0) := by
    intro d
    induction d using Nat.strongRecOn with
    | _ d ih =>
    intro k hk st J x6 x7 x8 hst hl hK hJ
    have hC : J (q + 1) = I (q + 1) := hJ (q + 1) (by omega)
    have hV : J 27 = I 27 := hJ 27 (by omega)
    rcases st with _ | ⟨b, _ | ⟨a, st⟩⟩
    · simp only [List.length_cons, List.length_nil] at hl
      refine E_go 3 rfl ?_
      refine r_iload rfl ?_
      refine r_aload_n rfl ?_
      refine r_getA (q := (q + 2)) (by decide) (txf1 hq) hq.1.1 hq.1.2.1 ?_
      refine r_iload_n rfl ?_
      refine r_iaload (by decide) hq.2.2.2.1 hq.2.2.2.2.2 (ixQ rfl (show 1 < 3 by omega) (by decide) hq.2.2.2.2.1) (he2 J hJ) ?_
      refine r_icmp_ge (fun c_29 => ?_) (fun c_29 => ?_)
      · have c_29 := (n_le (a := e) (b := (s + k)) rfl rfl (by omega) (by omega)).mp c_29
        refine E_go 15 rfl ?_
        refine r_iload rfl ?_
        refine r_if_le (fun c_215 => ?_) (fun c_215 => ?_)
        · have c_215 := (n_le (a := 0) (b := 0) rfl rfl (by omega) (by omega)).mp c_215
          refine E_go 16 rfl ?_
          refine r_iconst ?_
          refine r_nil ?_
          refine E_go 17 rfl ?_
          refine r_iret rfl trivial ?_
          refine qi (hQ J hJ) ?_
          rw [show e - s = k by omega, ← hst]
          rfl
        · have c_215 := (not_congr (n_le (a := 0) (b := 0) rfl rfl (by omega) (by omega))).mp c_215
          omega
      · have c_29 := (not_congr (n_le (a := e) (b := (s + k)) rfl rfl (by omega) (by omega))).mp c_29
        refine r_aload_n rfl ?_
        refine r_getA (q := (q + 1)) (by decide) (txf0 hq) hq.1.1 hq.1.2.1 ?_
        refine r_iload rfl ?_
        refine r_iaload (by decide) hq.2.1.2.1 hq.2.1.2.2.2 (ixQ rfl (show (s + k) < 160 by omega) (by decide) hq.2.1.2.2.1) (congrFun hC (s + k)) ?_
        refine r_istore (ls' := [_, _, _, _, _, _, _, _, _]) (zt rfl) rfl ?_
        refine r_iload rfl ?_
        refine r_ineg ?_
        refine r_bipush ?_
        refine r_isub ?_
        refine r_istore (ls' := [_, _, _, _, _, _, _, _, _]) (zt rfl) rfl ?_
        refine r_iload rfl ?_
        refine r_if_lt (fun c_51 => ?_) (fun c_51 => ?_)
        · refine E_go 4 rfl ?_
          refine r_iconst ?_
          refine r_nil ?_
          refine E_go 5 rfl ?_
          refine r_istore (ls' := [_, _, _, _, _, _, _, _, _]) (zt rfl) rfl ?_
          refine r_iload rfl ?_
          refine r_if_ge (fun c_70 => ?_) (fun c_70 => ?_)
          · refine E_go 6 rfl ?_
            refine r_iload rfl ?_
            refine r_aload_n rfl ?_
            refine r_alen (by decide) (by decide) (by decide) ?_
            refine r_icmp_ge (fun c_82 => ?_) (fun c_82 => ?_)
            · have c_82 := (n_le (a := 160) (b := 0) rfl rfl (by omega) (by omega)).mp c_82
              omega
            · have c_82 := (not_congr (n_le (a := 160) (b := 0) rfl rfl (by omega) (by omega))).mp c_82
              refine r_aload_n rfl ?_
              refine r_iload rfl ?_
              refine r_iload rfl ?_
              refine r_if_eq (fun c_90 => ?_) (fun c_90 => ?_)
              · have c_90 := (n_eq (a := 0) (b := 0) rfl rfl (by omega) (by omega)).mp c_90
                refine E_go 7 rfl ?_
                refine r_iload rfl ?_
                refine r_nil ?_
                refine E_go 8 rfl ?_
                refine r_iastore rfl (by decide) (ixE rfl (show 0 < 160 by omega) (by decide)) ?_
                refine r_iincN (y := io (0 + 1)) (ls' := [_, _, _, _, _, _, _, _, _]) rfl (zt rfl) (n_add (a := 0) (b := 1) rfl rfl) rfl ?_
                refine r_goto ?_
                refine E_go 14 rfl ?_
                refine r_iincN (y := io ((s + k) + 1)) (ls' := [_, _, _, _, _, _, _, _, _]) rfl (zt rfl) (n_add (a := (s + k)) (b := 1) rfl rfl) rfl ?_
                refine r_goto ?_
                refine ih (d - 1) (by omega) (k + 1) (by omega) ((I (q + 1) (s + k)) :: []) _ _ _ _ ?_ ?_ ?_ ?_
                · show _ = stp (I 27) (I (q + 1) (s + k)) (rn (I 27) (I (q + 1)) s k)
                  rw [← hst]
                  first | exact (stp_w (Or.inl c_51) c_70).symm | exact (stp_w (Or.inr c_58) c_70).symm
                · simp only [List.length_cons, List.length_nil] at hl ⊢ <;> omega
                · exact sk_push rfl hK
                · exact hJ.up (by omega) (by omega)
              · have c_90 := (not_congr (n_eq (a := 0) (b := 0) rfl rfl (by omega) (by omega))).mp c_90
                omega
          · refine r_iload rfl ?_
            refine r_if_eq (fun c_75 => ?_) (fun c_75 => ?_)
            · have c_75 := (n_eq (a := 0) (b := 0) rfl rfl (by omega) (by omega)).mp c_75
              refine E_go 9 rfl ?_
              refine r_iload rfl ?_
              refine r_ineg ?_
              refine r_bipush ?_
              refine r_icmp_ne (fun c_114 => ?_) (fun c_114 => ?_)
              · refine E_go 10 rfl ?_
                refine r_iload rfl ?_
                refine r_ineg ?_
                refine r_bipush ?_
                refine r_icmp_ne (fun c_144 => ?_) (fun c_144 => ?_)
                · refine E_go 13 rfl ?_
                  refine r_iload rfl ?_
                  refine r_iconst ?_
                  refine r_icmp_lt (fun c_179 => ?_) (fun c_179 => ?_)
                  · have c_179 := (n_lt (a := 0) (b := 2) rfl rfl (by omega) (by omega)).mp c_179
                    refine E_go 14 rfl ?_
                    refine r_iincN (y := io ((s + k) + 1)) (ls' := [_, _, _, _, _, _, _, _, _]) rfl (zt rfl) (n_add (a := (s + k)) (b := 1) rfl rfl) rfl ?_
                    refine r_goto ?_
                    refine ih (d - 1) (by omega) (k + 1) (by omega) ([]) _ _ _ _ ?_ ?_ ?_ ?_
                    · show _ = stp (I 27) (I (q + 1) (s + k)) (rn (I 27) (I (q + 1)) s k)
                      rw [← hst]
                      refine Eq.trans ?_ (show opw (I (q + 1) (s + k)) [] = _ from by first | exact (stp_o (Or.inl c_51) c_70).symm | exact (stp_o (Or.inr c_58) c_70).symm)
                      rfl
                    · simp only [List.length_cons, List.length_nil] at hl ⊢ <;> omega
                    · exact hK
                    · exact hJ
                  · have c_179 := (not_congr (n_lt (a := 0) (b := 2) rfl rfl (by omega) (by omega))).mp c_179
                    omega
                · refine r_iload rfl ?_
                  refine r_iconst ?_
                  refine r_icmp_lt (fun c_150 => ?_) (fun c_150 => ?_)
                  · have c_150 := (n_lt (a := 0) (b := 1) rfl rfl (by omega) (by omega)).mp c_150
                    refine E_go 13 rfl ?_
                    refine r_iload rfl ?_
                    refine r_iconst ?_
                    refine r_icmp_lt (fun c_179 => ?_) (fun c_179 => ?_)
                    · have c_179 := (n_lt (a := 0) (b := 2) rfl rfl (by omega) (by omega)).mp c_179
                      refine E_go 14 rfl ?_
                      refine r_iincN (y := io ((s + k) + 1)) (ls' := [_, _, _, _, _, _, _, _, _]) rfl (zt rfl) (n_add (a := (s + k)) (b := 1) rfl rfl) rfl ?_
                      refine r_goto ?_
                      refine ih (d - 1) (by omega) (k + 1) (by omega) ([]) _ _ _ _ ?_ ?_ ?_ ?_
                      · show _ = stp (I 27) (I (q + 1) (s + k)) (rn (I 27) (I (q + 1)) s k)
                        rw [← hst]
                        refine Eq.trans ?_ (show opw (I (q + 1) (s + k)) [] = _ from by first | exact (stp_o (Or.inl c_51) c_70).symm | exact (stp_o (Or.inr c_58) c_70).symm)
                        rfl
                      · simp only [List.length_cons, List.length_nil] at hl ⊢ <;> omega
                      · exact hK
                      · exact hJ
                    · have c_179 := (not_congr (n_lt (a := 0) (b := 2) rfl rfl (by omega) (by omega))).mp c_179
                      omega
                  · have c_150 := (not_congr (n_lt (a := 0) (b := 1) rfl rfl (by omega) (by omega))).mp c_150
                    omega
              · refine r_iload rfl ?_
                refine r_iconst ?_
                refine r_icmp_lt (fun c_120 => ?_) (fun c_120 => ?_)
                · have c_120 := (n_lt (a := 0) (b := 1) rfl rfl (by omega) (by omega)).mp c_120
                  refine E_go 10 rfl ?_
                  refine r_iload rfl ?_
                  refine r_ineg ?_
                  refine r_bipush ?_
                  refine r_icmp_ne (fun c_144 => ?_) (fun c_144 => ?_)
                  · refine E_go 13 rfl ?_
                    refine r_iload rfl ?_
                    refine r_iconst ?_
                    refine r_icmp_lt (fun c_179 => ?_) (fun c_179 => ?_)
                    · have c_179 := (n_lt (a := 0) (b := 2) rfl rfl (by omega) (by omega)).mp c_179
                      refine E_go 14 rfl ?_
                      refine r_iincN (y := io ((s + k) + 1)) (ls' := [_, _, _, _, _, _, _, _, _]) rfl (zt rfl) (n_add (a := (s + k)) (b := 1) rfl rfl) rfl ?_
                      refine r_goto ?_
                      refine ih (d - 1) (by omega) (k + 1) (by omega) ([]) _ _ _ _ ?_ ?_ ?_ ?_
                      · show _ = stp (I 27) (I (q + 1) (s + k)) (rn (I 27) (I (q + 1)) s k)
                        rw [← hst]
                        refine Eq.trans ?_ (show opw (I (q + 1) (s + k)) [] = _ from by first | exact (stp_o (Or.inl c_51) c_70).symm | exact (stp_o (Or.inr c_58) c_70).symm)
                        rfl
                      · simp only [List.length_cons, List.length_nil] at hl ⊢ <;> omega
                      · exact hK
                      · exact hJ
                    · have c_179 := (not_congr (n_lt (a := 0) (b := 2) rfl rfl (by omega) (by omega))).mp c_179
                      omega
                  · refine r_iload rfl ?_
                    refine r_iconst ?_
                    refine r_icmp_lt (fun c_150 => ?_) (fun c_150 => ?_)
                    · have c_150 := (n_lt (a := 0) (b := 1) rfl rfl (by omega) (by omega)).mp c_150
                      refine E_go 13 rfl ?_
                      refine r_iload rfl ?_
                      refine r_iconst ?_
                      refine r_icmp_lt (fun c_179 => ?_) (fun c_179 => ?_)
                      · have c_179 := (n_lt (a := 0) (b := 2) rfl rfl (by omega) (by omega)).mp c_179
                        refine E_go 14 rfl ?_
                        refine r_iincN (y := io ((s + k) + 1)) (ls' := [_, _, _, _, _, _, _, _, _]) rfl (zt rfl) (n_add (a := (s + k)) (b := 1) rfl rfl) rfl ?_
                        refine r_goto ?_
                        refine ih (d - 1) (by omega) (k + 1) (by omega) ([]) _ _ _ _ ?_ ?_ ?_ ?_
                        · show _ = stp (I 27) (I (q + 1) (s + k)) (rn (I 27) (I (q + 1)) s k)
                          rw [← hst]
                          refine Eq.trans ?_ (show opw (I (q + 1) (s + k)) [] = _ from by first | exact (stp_o (Or.inl c_51) c_70).symm | exact (stp_o (Or.inr c_58) c_70).symm)
                          rfl
                        · simp only [List.length_cons, List.length_nil] at hl ⊢ <;> omega
                        · exact hK
                        · exact hJ
                      · have c_179 := (not_congr (n_lt (a := 0) (b := 2) rfl rfl (by omega) (by omega))).mp c_179
                        omega
                    · have c_150 := (not_congr (n_lt (a := 0) (b := 1) rfl rfl (by omega) (by omega))).mp c_150
                      omega
                · have c_120 := (not_congr (n_lt (a := 0) (b := 1) rfl rfl (by omega) (by omega))).mp c_120
                  omega
            · have c_75 := (not_congr (n_eq (a := 0) (b := 0) rfl rfl (by omega) (by omega))).mp c_75
              omega
        · refine r_iload rfl ?_
          refine r_bipush ?_
          refine r_icmp_ge (fun c_58 => ?_) (fun c_58 => ?_)
          · refine E_go 4 rfl ?_
            refine r_iconst ?_
            refine r_nil ?_
            refine E_go 5 rfl ?_
            refine r_istore (ls' := [_, _, _, _, _, _, _, _, _]) (zt rfl) rfl ?_
            refine r_iload rfl ?_
            refine r_if_ge (fun c_70 => ?_) (fun c_70 => ?_)
            · refine E_go 6 rfl ?_
              refine r_iload rfl ?_
              refine r_aload_n rfl ?_
              refine r_alen (by decide) (by decide) (by decide) ?_
              refine r_icmp_ge (fun c_82 => ?_) (fun c_82 => ?_)
              · have c_82 := (n_le (a := 160) (b := 0) rfl rfl (by omega) (by omega)).mp c_82
                omega
              · have c_82 := (not_congr (n_le (a := 160) (b := 0) rfl rfl (by omega) (by omega))).mp c_82
                refine r_aload_n rfl ?_
                refine r_iload rfl ?_
                refine r_iload rfl ?_
                refine r_if_eq (fun c_90 => ?_) (fun c_90 => ?_)
                · have c_90 := (n_eq (a := 0) (b := 0) rfl rfl (by omega) (by omega)).mp c_90
                  refine E_go 7 rfl ?_
                  refine r_iload rfl ?_
                  refine r_nil ?_
                  refine E_go 8 rfl ?_
                  refine r_iastore rfl (by decide) (ixE rfl (show 0 < 160 by omega) (by decide)) ?_
                  refine r_iincN (y := io (0 + 1)) (ls' := [_, _, _, _, _, _, _, _, _]) rfl (zt rfl) (n_add (a := 0) (b := 1) rfl rfl) rfl ?_
                  refine r_goto ?_
                  refine E_go 14 rfl ?_
                  refine r_iincN (y := io ((s + k) + 1)) (ls' := [_, _, _, _, _, _, _, _, _]) rfl (zt rfl) (n_add (a := (s + k)) (b := 1) rfl rfl) rfl ?_
                  refine r_goto ?_
                  refine ih (d - 1) (by omega) (k + 1) (by omega) ((I (q + 1) (s + k)) :: []) _ _ _ _ ?_ ?_ ?_ ?_
                  · show _ = stp (I 27) (I (q + 1) (s + k)) (rn (I 27) (I (q + 1)) s k)
                    rw [← hst]
                    first | exact (stp_w (Or.inl c_51) c_70).symm | exact (stp_w (Or.inr c_58) c_70).symm
                  · simp only [List.length_cons, List.length_nil] at hl ⊢ <;> omega
                  · exact sk_push rfl hK
                  · exact hJ.up (by omega) (by omega)
                · have c_90 := (not_congr (n_eq (a := 0) (b := 0) rfl rfl (by omega) (by omega))).mp c_90
                  omega
            · refine r_iload rfl ?_
              refine r_if_eq (fun c_75 => ?_) (fun c_75 => ?_)
              · have c_75 := (n_eq (a := 0) (b := 0) rfl rfl (by omega) (by omega)).mp c_75
                refine E_go 9 rfl ?_
                refine r_iload rfl ?_
                refine r_ineg ?_
                refine r_bipush ?_
                refine r_icmp_ne (fun c_114 => ?_) (fun c_114 => ?_)
                · refine E_go 10 rfl ?_
                  refine r_iload rfl ?_
                  refine r_ineg ?_
                  refine r_bipush ?_
                  refine r_icmp_ne (fun c_144 => ?_) (fun c_144 => ?_)
                  · refine E_go 13 rfl ?_
                    refine r_iload rfl ?_
                    refine r_iconst ?_
                    refine r_icmp_lt (fun c_179 => ?_) (fun c_179 => ?_)
                    · have c_179 := (n_lt (a := 0) (b := 2) rfl rfl (by omega) (by omega)).mp c_179
                      refine E_go 14 rfl ?_
                      refine r_iincN (y := io ((s + k) + 1)) (ls' := [_, _, _, _, _, _, _, _, _]) rfl (zt rfl) (n_add (a := (s + k)) (b := 1) rfl rfl) rfl ?_
                      refine r_goto ?_
                      refine ih (d - 1) (by omega) (k + 1) (by omega) ([]) _ _ _ _ ?_ ?_ ?_ ?_
                      · show _ = stp (I 27) (I (q + 1) (s + k)) (rn (I 27) (I (q + 1)) s k)
                        rw [← hst]
                        refine Eq.trans ?_ (show opw (I (q + 1) (s + k)) [] = _ from by first | exact (stp_o (Or.inl c_51) c_70).symm | exact (stp_o (Or.inr c_58) c_70).symm)
                        rfl
                      · simp only [List.length_cons, List.length_nil] at hl ⊢ <;> omega
                      · exact hK
                      · exact hJ
                    · have c_179 := (not_congr (n_lt (a := 0) (b := 2) rfl rfl (by omega) (by omega))).mp c_179
                      omega
                  · refine r_iload rfl ?_
                    refine r_iconst ?_
                    refine r_icmp_lt (fun c_150 => ?_) (fun c_150 => ?_)
                    · have c_150 := (n_lt (a := 0) (b := 1) rfl rfl (by omega) (by omega)).mp c_150
                      refine E_go 13 rfl ?_
                      refine r_iload rfl ?_
                      refine r_iconst ?_
                      refine r_icmp_lt (fun c_179 => ?_) (fun c_179 => ?_)
                      · have c_179 := (n_lt (a := 0) (b := 2) rfl rfl (by omega) (by omega)).mp c_179
                        refine E_go 14 rfl ?_
                        refine r_iincN (y := io ((s + k) + 1)) (ls' := [_, _, _, _, _, _, _, _, _]) rfl (zt rfl) (n_add (a := (s + k)) (b := 1) rfl rfl) rfl ?_
                        refine r_goto ?_
                        refine ih (d - 1) (by omega) (k + 1) (by omega) ([]) _ _ _ _ ?_ ?_ ?_ ?_
                        · show _ = stp (I 27) (I (q + 1) (s + k)) (rn (I 27) (I (q + 1)) s k)
                          rw [← hst]
                          refine Eq.trans ?_ (show opw (I (q + 1) (s + k)) [] = _ from by first | exact (stp_o (Or.inl c_51) c_70).symm | exact (stp_o (Or.inr c_58) c_70).symm)
                          rfl
                        · simp only [List.length_cons, List.length_nil] at hl ⊢ <;> omega
                        · exact hK
                        · exact hJ
                      · have c_179 := (not_congr (n_lt (a := 0) (b := 2) rfl rfl (by omega) (by omega))).mp c_179
                        omega
                    · have c_150 := (not_congr (n_lt (a := 0) (b := 1) rfl rfl (by omega) (by omega))).mp c_150
                      omega
                · refine r_iload rfl ?_
                  refine r_iconst ?_
                  refine r_icmp_lt (fun c_120 => ?_) (fun c_120 => ?_)
                  · have c_120 := (n_lt (a := 0) (b := 1) rfl rfl (by omega) (by omega)).mp c_120
                    refine E_go 10 rfl ?_
                    refine r_iload rfl ?_
                    refine r_ineg ?_
                    refine r_bipush ?_
                    refine r_icmp_ne (fun c_144 => ?_) (fun c_144 => ?_)
                    · refine E_go 13 rfl ?_
                      refine r_iload rfl ?_
                      refine r_iconst ?_
                      refine r_icmp_lt (fun c_179 => ?_) (fun c_179 => ?_)
                      · have c_179 := (n_lt (a := 0) (b := 2) rfl rfl (by omega) (by omega)).mp c_179
                        refine E_go 14 rfl ?_
                        refine r_iincN (y := io ((s + k) + 1)) (ls' := [_, _, _, _, _, _, _, _, _]) rfl (zt rfl) (n_add (a := (s + k)) (b := 1) rfl rfl) rfl ?_
                        refine r_goto ?_
                        refine ih (d - 1) (by omega) (k + 1) (by omega) ([]) _ _ _ _ ?_ ?_ ?_ ?_
                        · show _ = stp (I 27) (I (q + 1) (s + k)) (rn (I 27) (I (q + 1)) s k)
                          rw [← hst]
                          refine Eq.trans ?_ (show opw (I (q + 1) (s + k)) [] = _ from by first | exact (stp_o (Or.inl c_51) c_70).symm | exact (stp_o (Or.inr c_58) c_70).symm)
                          rfl
                        · simp only [List.length_cons, List.length_nil] at hl ⊢ <;> omega
                        · exact hK
                        · exact hJ
                      · have c_179 := (not_congr (n_lt (a := 0) (b := 2) rfl rfl (by omega) (by omega))).mp c_179
                        omega
                    · refine r_iload rfl ?_
                      refine r_iconst ?_
                      refine r_icmp_lt (fun c_150 => ?_) (fun c_150 => ?_)
                      · have c_150 := (n_lt (a := 0) (b := 1) rfl rfl (by omega) (by omega)).mp c_150
                        refine E_go 13 rfl ?_
                        refine r_iload rfl ?_
                        refine r_iconst ?_
                        refine r_icmp_lt (fun c_179 => ?_) (fun c_179 => ?_)
                        · have c_179 := (n_lt (a := 0) (b := 2) rfl rfl (by omega) (by omega)).mp c_179
                          refine E_go 14 rfl ?_
                          refine r_iincN (y := io ((s + k) + 1)) (ls' := [_, _, _, _, _, _, _, _, _]) rfl (zt rfl) (n_add (a := (s + k)) (b := 1) rfl rfl) rfl ?_
                          refine r_goto ?_
                          refine ih (d - 1) (by omega) (k + 1) (by omega) ([]) _ _ _ _ ?_ ?_ ?_ ?_
                          · show _ = stp (I 27) (I (q + 1) (s + k)) (rn (I 27) (I (q + 1)) s k)
                            rw [← hst]
                            refine Eq.trans ?_ (show opw (I (q + 1) (s + k)) [] = _ from by first | exact (stp_o (Or.inl c_51) c_70).symm | exact (stp_o (Or.inr c_58) c_70).symm)
                            rfl
                          · simp only [List.length_cons, List.length_nil] at hl ⊢ <;> omega
                          · exact hK
                          · exact hJ
                        · have c_179 := (not_congr (n_lt (a := 0) (b := 2) rfl rfl (by omega) (by omega))).mp c_179
                          omega
                      · have c_150 := (not_congr (n_lt (a := 0) (b := 1) rfl rfl (by omega) (by omega))).mp c_150
                        omega
                  · have c_120 := (not_congr (n_lt (a := 0) (b := 1) rfl rfl (by omega) (by omega))).mp c_120
                    omega
              · have c_75 := (not_congr (n_eq (a := 0) (b := 0) rfl rfl (by omega) (by omega))).mp c_75
                omega
          · refine r_iconst ?_
            refine r_goto ?_
            refine E_go 5 rfl ?_
            refine r_istore (ls' := [_, _, _, _, _, _, _, _, _]) (zt rfl) rfl ?_
            refine r_iload rfl ?_
            refine r_if_ge (fun c_70 => ?_) (fun c_70 => ?_)
            · refine E_go 6 rfl ?_
              refine r_iload rfl ?_
              refine r_aload_n rfl ?_
              refine r_alen (by decide) (by decide) (by decide) ?_
              refine r_icmp_ge (fun c_82 => ?_) (fun c_82 => ?_)
              · have c_82 := (n_le (a := 160) (b := 0) rfl rfl (by omega) (by omega)).mp c_82
                omega
              · have c_82 := (not_congr (n_le (a := 160) (b := 0) rfl rfl (by omega) (by omega))).mp c_82
                refine r_aload_n rfl ?_
                refine r_iload rfl ?_
                refine r_iload rfl ?_
                refine r_if_eq (fun c_90 => ?_) (fun c_90 => ?_)
                · have c_90 := (n_eq (a := 1) (b := 0) rfl rfl (by omega) (by omega)).mp c_90
                  omega
                · have c_90 := (not_congr (n_eq (a := 1) (b := 0) rfl rfl (by omega) (by omega))).mp c_90
                  obtain ⟨nk, hnk, enk⟩ := io_ex (n := 6) (Int32.not_lt.mp c_51) (Int32.not_le.mp c_58) (by omega)
                  refine r_aload_n rfl ?_
                  refine r_iload rfl ?_
                  refine r_iaload (by decide) rfl (by decide) (ixE enk (show nk < 6 by omega) (by decide)) (congrFun hV nk) ?_
                  refine r_goto ?_
                  refine E_go 8 rfl ?_
                  refine r_iastore rfl (by decide) (ixE rfl (show 0 < 160 by omega) (by decide)) ?_
                  refine r_iincN (y := io (0 + 1)) (ls' := [_, _, _, _, _, _, _, _, _]) rfl (zt rfl) (n_add (a := 0) (b := 1) rfl rfl) rfl ?_
                  refine r_goto ?_
                  refine E_go 14 rfl ?_
                  refine r_iincN (y := io ((s + k) + 1)) (ls' := [_, _, _, _, _, _, _, _, _]) rfl (zt rfl) (n_add (a := (s + k)) (b := 1) rfl rfl) rfl ?_
                  refine r_goto ?_
                  refine ih (d - 1) (by omega) (k + 1) (by omega) (I 27 nk :: []) _ _ _ _ ?_ ?_ ?_ ?_
                  · show _ = stp (I 27) (I (q + 1) (s + k)) (rn (I 27) (I (q + 1)) s k)
                    rw [← hst]
                    rw [stp_v c_51 c_58, show nmv (I (q + 1) (s + k)) = io nk from enk, io_nat (by omega)]
                  · simp only [List.length_cons, List.length_nil] at hl ⊢ <;> omega
                  · exact sk_push rfl hK
                  · exact hJ.up (by omega) (by omega)
            · refine r_iload rfl ?_
              refine r_if_eq (fun c_75 => ?_) (fun c_75 => ?_)
              · have c_75 := (n_eq (a := 1) (b := 0) rfl rfl (by omega) (by omega)).mp c_75
                omega
              · have c_75 := (not_congr (n_eq (a := 1) (b := 0) rfl rfl (by omega) (by omega))).mp c_75
                refine r_nil ?_
                refine E_go 6 rfl ?_
                refine r_iload rfl ?_
                refine r_aload_n rfl ?_
                refine r_alen (by decide) (by decide) (by decide) ?_
                refine r_icmp_ge (fun c_82 => ?_) (fun c_82 => ?_)
                · have c_82 := (n_le (a := 160) (b := 0) rfl rfl (by omega) (by omega)).mp c_82
                  omega
                · have c_82 := (not_congr (n_le (a := 160) (b := 0) rfl rfl (by omega) (by omega))).mp c_82
                  refine r_aload_n rfl ?_
                  refine r_iload rfl ?_
                  refine r_iload rfl ?_
                  refine r_if_eq (fun c_90 => ?_) (fun c_90 => ?_)
                  · have c_90 := (n_eq (a := 1) (b := 0) rfl rfl (by omega) (by omega)).mp c_90
                    omega
                  · have c_90 := (not_congr (n_eq (a := 1) (b := 0) rfl rfl (by omega) (by omega))).mp c_90
                    obtain ⟨nk, hnk, enk⟩ := io_ex (n := 6) (Int32.not_lt.mp c_51) (Int32.not_le.mp c_58) (by omega)
                    refine r_aload_n rfl ?_
                    refine r_iload rfl ?_
                    refine r_iaload (by decide) rfl (by decide) (ixE enk (show nk < 6 by omega) (by decide)) (congrFun hV nk) ?_
                    refine r_goto ?_
                    refine E_go 8 rfl ?_
                    refine r_iastore rfl (by decide) (ixE rfl (show 0 < 160 by omega) (by decide)) ?_
                    refine r_iincN (y := io (0 + 1)) (ls' := [_, _, _, _, _, _, _, _, _]) rfl (zt rfl) (n_add (a := 0) (b := 1) rfl rfl) rfl ?_
                    refine r_goto ?_
                    refine E_go 14 rfl ?_
                    refine r_iincN (y := io ((s + k) + 1)) (ls' := [_, _, _, _, _, _, _, _, _]) rfl (zt rfl) (n_add (a := (s + k)) (b := 1) rfl rfl) rfl ?_
                    refine r_goto ?_
                    refine ih (d - 1) (by omega) (k + 1) (by omega) (I 27 nk :: []) _ _ _ _ ?_ ?_ ?_ ?_
                    · show _ = stp (I 27) (I (q + 1) (s + k)) (rn (I 27) (I (q + 1)) s k)
                      rw [← hst]
                      rw [stp_v c_51 c_58, show nmv (I (q + 1) (s + k)) = io nk from enk, io_nat (by omega)]
                    · simp only [List.length_cons, List.length_nil] at hl ⊢ <;> omega
                    · exact sk_push rfl hK
                    · exact hJ.up (by omega) (by omega)
    · simp only [List.length_cons, List.length_nil] at hl
      refine E_go 3 rfl ?_
      refine r_iload rfl ?_
      refine r_aload_n rfl ?_
      refine r_getA (q := (q + 2)) (by decide) (txf1 hq) hq.1.1 hq.1.2.1 ?_
      refine r_iload_n rfl ?_
      refine r_iaload (by decide) hq.2.2.2.1 hq.2.2.2.2.2 (ixQ rfl (show 1 < 3 by omega) (by decide) hq.2.2.2.2.1) (he2 J hJ) ?_
      refine r_icmp_ge (fun c_29 => ?_) (fun c_29 => ?_)
      · have c_29 := (n_le (a := e) (b := (s + k)) rfl rfl (by omega) (by omega)).mp c_29
        refine E_go 15 rfl ?_
        refine r_iload rfl ?_
        refine r_if_le (fun c_215 => ?_) (fun c_215 => ?_)
        · have c_215 := (n_le (a := 1) (b := 0) rfl rfl (by omega) (by omega)).mp c_215
          omega
        · have c_215 := (not_congr (n_le (a := 1) (b := 0) rfl rfl (by omega) (by omega))).mp c_215
          refine r_aload_n rfl ?_
          refine r_iload rfl ?_
          refine r_iconst ?_
          refine r_isub ?_
          refine r_iaload (by decide) rfl (by decide) (ixE (n_sub (a := 1) (b := 1) rfl rfl (by omega)) (show (1 - 1) < 160 by omega) (by decide)) rfl ?_
          refine r_goto ?_
          refine E_go 17 rfl ?_
          refine r_iret rfl trivial ?_
          refine qi (hQ J hJ) ?_
          rw [show e - s = k by omega, ← hst]
          exact hK.1.symm
      · have c_29 := (not_congr (n_le (a := e) (b := (s + k)) rfl rfl (by omega) (by omega))).mp c_29
        refine r_aload_n rfl ?_
        refine r_getA (q := (q + 1)) (by decide) (txf0 hq) hq.1.1 hq.1.2.1 ?_
        refine r_iload rfl ?_
        refine r_iaload (by decide) hq.2.1.2.1 hq.2.1.2.2.2 (ixQ rfl (show (s + k) < 160 by omega) (by decide) hq.2.1.2.2.1) (congrFun hC (s + k)) ?_
        refine r_istore (ls' := [_, _, _, _, _, _, _, _, _]) (zt rfl) rfl ?_
        refine r_iload rfl ?_
        refine r_ineg ?_
        refine r_bipush ?_
        refine r_isub ?_
        refine r_istore (ls' := [_, _, _, _, _, _, _, _, _]) (zt rfl) rfl ?_
        refine r_iload rfl ?_
        refine r_if_lt (fun c_51 => ?_) (fun c_51 => ?_)
        · refine E_go 4 rfl ?_
          refine r_iconst ?_
          refine r_nil ?_
          refine E_go 5 rfl ?_
          refine r_istore (ls' := [_, _, _, _, _, _, _, _, _]) (zt rfl) rfl ?_
          refine r_iload rfl ?_
          refine r_if_ge (fun c_70 => ?_) (fun c_70 => ?_)
          · refine E_go 6 rfl ?_
            refine r_iload rfl ?_
            refine r_aload_n rfl ?_
            refine r_alen (by decide) (by decide) (by decide) ?_
            refine r_icmp_ge (fun c_82 => ?_) (fun c_82 => ?_)
            · have c_82 := (n_le (a := 160) (b := 1) rfl rfl (by omega) (by omega)).mp c_82
              omega
            · have c_82 := (not_congr (n_le (a := 160) (b := 1) rfl rfl (by omega) (by omega))).mp c_82
              refine r_aload_n rfl ?_
              refine r_iload rfl ?_
              refine r_iload rfl ?_
              refine r_if_eq (fun c_90 => ?_) (fun c_90 => ?_)
              · have c_90 := (n_eq (a := 0) (b := 0) rfl rfl (by omega) (by omega)).mp c_90
                refine E_go 7 rfl ?_
                refine r_iload rfl ?_
                refine r_nil ?_
                refine E_go 8 rfl ?_
                refine r_iastore rfl (by decide) (ixE rfl (show 1 < 160 by omega) (by decide)) ?_
                refine r_iincN (y := io (1 + 1)) (ls' := [_, _, _, _, _, _, _, _, _]) rfl (zt rfl) (n_add (a := 1) (b := 1) rfl rfl) rfl ?_
                refine r_goto ?_
                refine E_go 14 rfl ?_
                refine r_iincN (y := io ((s + k) + 1)) (ls' := [_, _, _, _, _, _, _, _, _]) rfl (zt rfl) (n_add (a := (s + k)) (b := 1) rfl rfl) rfl ?_
                refine r_goto ?_
                refine ih (d - 1) (by omega) (k + 1) (by omega) ((I (q + 1) (s + k)) :: [b]) _ _ _ _ ?_ ?_ ?_ ?_
                · show _ = stp (I 27) (I (q + 1) (s + k)) (rn (I 27) (I (q + 1)) s k)
                  rw [← hst]
                  first | exact (stp_w (Or.inl c_51) c_70).symm | exact (stp_w (Or.inr c_58) c_70).symm
                · simp only [List.length_cons, List.length_nil] at hl ⊢ <;> omega
                · exact sk_push rfl hK
                · exact hJ.up (by omega) (by omega)
              · have c_90 := (not_congr (n_eq (a := 0) (b := 0) rfl rfl (by omega) (by omega))).mp c_90
                omega
          · refine r_iload rfl ?_
            refine r_if_eq (fun c_75 => ?_) (fun c_75 => ?_)
            · have c_75 := (n_eq (a := 0) (b := 0) rfl rfl (by omega) (by omega)).mp c_75
              refine E_go 9 rfl ?_
              refine r_iload rfl ?_
              refine r_ineg ?_
              refine r_bipush ?_
              refine r_icmp_ne (fun c_114 => ?_) (fun c_114 => ?_)
              · refine E_go 10 rfl ?_
                refine r_iload rfl ?_
                refine r_ineg ?_
                refine r_bipush ?_
                refine r_icmp_ne (fun c_144 => ?_) (fun c_144 => ?_)
                · refine E_go 13 rfl ?_
                  refine r_iload rfl ?_
                  refine r_iconst ?_
                  refine r_icmp_lt (fun c_179 => ?_) (fun c_179 => ?_)
                  · have c_179 := (n_lt (a := 1) (b := 2) rfl rfl (by omega) (by omega)).mp c_179
                    refine E_go 14 rfl ?_
                    refine r_iincN (y := io ((s + k) + 1)) (ls' := [_, _, _, _, _, _, _, _, _]) rfl (zt rfl) (n_add (a := (s + k)) (b := 1) rfl rfl) rfl ?_
                    refine r_goto ?_
                    refine ih (d - 1) (by omega) (k + 1) (by omega) ([b]) _ _ _ _ ?_ ?_ ?_ ?_
                    · show _ = stp (I 27) (I (q + 1) (s + k)) (rn (I 27) (I (q + 1)) s k)
                      rw [← hst]
                      refine Eq.trans ?_ (show opw (I (q + 1) (s + k)) [b] = _ from by first | exact (stp_o (Or.inl c_51) c_70).symm | exact (stp_o (Or.inr c_58) c_70).symm)
                      rw [opw, if_neg c_114, if_neg c_144]
                    · simp only [List.length_cons, List.length_nil] at hl ⊢ <;> omega
                    · exact hK
                    · exact hJ
                  · have c_179 := (not_congr (n_lt (a := 1) (b := 2) rfl rfl (by omega) (by omega))).mp c_179
                    omega
                · refine r_iload rfl ?_
                  refine r_iconst ?_
                  refine r_icmp_lt (fun c_150 => ?_) (fun c_150 => ?_)
                  · have c_150 := (n_lt (a := 1) (b := 1) rfl rfl (by omega) (by omega)).mp c_150
                    omega
                  · have c_150 := (not_congr (n_lt (a := 1) (b := 1) rfl rfl (by omega) (by omega))).mp c_150
                    refine r_aload_n rfl ?_
                    refine r_iload rfl ?_
                    refine r_iconst ?_
                    refine r_isub ?_
                    refine r_aload_n rfl ?_
                    refine r_iload rfl ?_
                    refine r_iconst ?_
                    refine r_isub ?_
                    refine r_iaload (by decide) rfl (by decide) (ixE (n_sub (a := 1) (b := 1) rfl rfl (by omega)) (show (1 - 1) < 160 by omega) (by decide)) hK.1 ?_
                    refine r_if_ne (fun c_164 => ?_) (fun c_164 => ?_)
                    · refine E_go 11 rfl ?_
                      refine r_iconst ?_
                      refine r_nil ?_
                      refine E_go 12 rfl ?_
                      refine r_iastore rfl (by decide) (ixE (n_sub (a := 1) (b := 1) rfl rfl (by omega)) (show (1 - 1) < 160 by omega) (by decide)) ?_
                      refine r_goto ?_
                      refine E_go 14 rfl ?_
                      refine r_iincN (y := io ((s + k) + 1)) (ls' := [_, _, _, _, _, _, _, _, _]) rfl (zt rfl) (n_add (a := (s + k)) (b := 1) rfl rfl) rfl ?_
                      refine r_goto ?_
                      refine ih (d - 1) (by omega) (k + 1) (by omega) (0 :: []) _ _ _ _ ?_ ?_ ?_ ?_
                      · show _ = stp (I 27) (I (q + 1) (s + k)) (rn (I 27) (I (q + 1)) s k)
                        rw [← hst]
                        refine Eq.trans ?_ (show opw (I (q + 1) (s + k)) [b] = _ from by first | exact (stp_o (Or.inl c_51) c_70).symm | exact (stp_o (Or.inr c_58) c_70).symm)
                        rw [opw, if_neg c_114, if_pos c_144, if_neg c_164]
                      · simp only [List.length_cons, List.length_nil] at hl ⊢ <;> omega
                      · exact sk_push rfl hK.2
                      · exact hJ.up (by omega) (by omega)
                    · refine r_iconst ?_
                      refine r_goto ?_
                      refine E_go 12 rfl ?_
                      refine r_iastore rfl (by decide) (ixE (n_sub (a := 1) (b := 1) rfl rfl (by omega)) (show (1 - 1) < 160 by omega) (by decide)) ?_
                      refine r_goto ?_
                      refine E_go 14 rfl ?_
                      refine r_iincN (y := io ((s + k) + 1)) (ls' := [_, _, _, _, _, _, _, _, _]) rfl (zt rfl) (n_add (a := (s + k)) (b := 1) rfl rfl) rfl ?_
                      refine r_goto ?_
                      refine ih (d - 1) (by omega) (k + 1) (by omega) (1 :: []) _ _ _ _ ?_ ?_ ?_ ?_
                      · show _ = stp (I 27) (I (q + 1) (s + k)) (rn (I 27) (I (q + 1)) s k)
                        rw [← hst]
                        refine Eq.trans ?_ (show opw (I (q + 1) (s + k)) [b] = _ from by first | exact (stp_o (Or.inl c_51) c_70).symm | exact (stp_o (Or.inr c_58) c_70).symm)
                        rw [opw, if_neg c_114, if_pos c_144, if_pos c_164]
                      · simp only [List.length_cons, List.length_nil] at hl ⊢ <;> omega
                      · exact sk_push rfl hK.2
                      · exact hJ.up (by omega) (by omega)
              · refine r_iload rfl ?_
                refine r_iconst ?_
                refine r_icmp_lt (fun c_120 => ?_) (fun c_120 => ?_)
                · have c_120 := (n_lt (a := 1) (b := 1) rfl rfl (by omega) (by omega)).mp c_120
                  omega
                · have c_120 := (not_congr (n_lt (a := 1) (b := 1) rfl rfl (by omega) (by omega))).mp c_120
                  refine r_aload_n rfl ?_
                  refine r_iload rfl ?_
                  refine r_iconst ?_
                  refine r_isub ?_
                  refine r_aload_n rfl ?_
                  refine r_iload rfl ?_
                  refine r_iconst ?_
                  refine r_isub ?_
                  refine r_iaload (by decide) rfl (by decide) (ixE (n_sub (a := 1) (b := 1) rfl rfl (by omega)) (show (1 - 1) < 160 by omega) (by decide)) hK.1 ?_
                  refine r_ineg ?_
                  refine r_iastore rfl (by decide) (ixE (n_sub (a := 1) (b := 1) rfl rfl (by omega)) (show (1 - 1) < 160 by omega) (by decide)) ?_
                  refine r_goto ?_
                  refine E_go 14 rfl ?_
                  refine r_iincN (y := io ((s + k) + 1)) (ls' := [_, _, _, _, _, _, _, _, _]) rfl (zt rfl) (n_add (a := (s + k)) (b := 1) rfl rfl) rfl ?_
                  refine r_goto ?_
                  refine ih (d - 1) (by omega) (k + 1) (by omega) ((-b) :: []) _ _ _ _ ?_ ?_ ?_ ?_
                  · show _ = stp (I 27) (I (q + 1) (s + k)) (rn (I 27) (I (q + 1)) s k)
                    rw [← hst]
                    refine Eq.trans ?_ (show opw (I (q + 1) (s + k)) [b] = _ from by first | exact (stp_o (Or.inl c_51) c_70).symm | exact (stp_o (Or.inr c_58) c_70).symm)
                    exact (if_pos c_114).symm
                  · simp only [List.length_cons, List.length_nil] at hl ⊢ <;> omega
                  · exact sk_push rfl hK.2
                  · exact hJ.up (by omega) (by omega)
            · have c_75 := (not_congr (n_eq (a := 0) (b := 0) rfl rfl (by omega) (by omega))).mp c_75
              omega
        · refine r_iload rfl ?_
          refine r_bipush ?_
          refine r_icmp_ge (fun c_58 => ?_) (fun c_58 => ?_)
          · refine E_go 4 rfl ?_
            refine r_iconst ?_
            refine r_nil ?_
            refine E_go 5 rfl ?_
            refine r_istore (ls' := [_, _, _, _, _, _, _, _, _]) (zt rfl) rfl ?_
            refine r_iload rfl ?_
            refine r_if_ge (fun c_70 => ?_) (fun c_70 => ?_)
            · refine E_go 6 rfl ?_
              refine r_iload rfl ?_
              refine r_aload_n rfl ?_
              refine r_alen (by decide) (by decide) (by decide) ?_
              refine r_icmp_ge (fun c_82 => ?_) (fun c_82 => ?_)
              · have c_82 := (n_le (a := 160) (b := 1) rfl rfl (by omega) (by omega)).mp c_82
                omega
              · have c_82 := (not_congr (n_le (a := 160) (b := 1) rfl rfl (by omega) (by omega))).mp c_82
                refine r_aload_n rfl ?_
                refine r_iload rfl ?_
                refine r_iload rfl ?_
                refine r_if_eq (fun c_90 => ?_) (fun c_90 => ?_)
                · have c_90 := (n_eq (a := 0) (b := 0) rfl rfl (by omega) (by omega)).mp c_90
                  refine E_go 7 rfl ?_
                  refine r_iload rfl ?_
                  refine r_nil ?_
                  refine E_go 8 rfl ?_
                  refine r_iastore rfl (by decide) (ixE rfl (show 1 < 160 by omega) (by decide)) ?_
                  refine r_iincN (y := io (1 + 1)) (ls' := [_, _, _, _, _, _, _, _, _]) rfl (zt rfl) (n_add (a := 1) (b := 1) rfl rfl) rfl ?_
                  refine r_goto ?_
                  refine E_go 14 rfl ?_
                  refine r_iincN (y := io ((s + k) + 1)) (ls' := [_, _, _, _, _, _, _, _, _]) rfl (zt rfl) (n_add (a := (s + k)) (b := 1) rfl rfl) rfl ?_
                  refine r_goto ?_
                  refine ih (d - 1) (by omega) (k + 1) (by omega) ((I (q + 1) (s + k)) :: [b]) _ _ _ _ ?_ ?_ ?_ ?_
                  · show _ = stp (I 27) (I (q + 1) (s + k)) (rn (I 27) (I (q + 1)) s k)
                    rw [← hst]
                    first | exact (stp_w (Or.inl c_51) c_70).symm | exact (stp_w (Or.inr c_58) c_70).symm
                  · simp only [List.length_cons, List.length_nil] at hl ⊢ <;> omega
                  · exact sk_push rfl hK
                  · exact hJ.up (by omega) (by omega)
                · have c_90 := (not_congr (n_eq (a := 0) (b := 0) rfl rfl (by omega) (by omega))).mp c_90
                  omega
            · refine r_iload rfl ?_
              refine r_if_eq (fun c_75 => ?_) (fun c_75 => ?_)
              · have c_75 := (n_eq (a := 0) (b := 0) rfl rfl (by omega) (by omega)).mp c_75
                refine E_go 9 rfl ?_
                refine r_iload rfl ?_
                refine r_ineg ?_
                refine r_bipush ?_
                refine r_icmp_ne (fun c_114 => ?_) (fun c_114 => ?_)
                · refine E_go 10 rfl ?_
                  refine r_iload rfl ?_
                  refine r_ineg ?_
                  refine r_bipush ?_
                  refine r_icmp_ne (fun c_144 => ?_) (fun c_144 => ?_)
                  · refine E_go 13 rfl ?_
                    refine r_iload rfl ?_
                    refine r_iconst ?_
                    refine r_icmp_lt (fun c_179 => ?_) (fun c_179 => ?_)
                    · have c_179 := (n_lt (a := 1) (b := 2) rfl rfl (by omega) (by omega)).mp c_179
                      refine E_go 14 rfl ?_
                      refine r_iincN (y := io ((s + k) + 1)) (ls' := [_, _, _, _, _, _, _, _, _]) rfl (zt rfl) (n_add (a := (s + k)) (b := 1) rfl rfl) rfl ?_
                      refine r_goto ?_
                      refine ih (d - 1) (by omega) (k + 1) (by omega) ([b]) _ _ _ _ ?_ ?_ ?_ ?_
                      · show _ = stp (I 27) (I (q + 1) (s + k)) (rn (I 27) (I (q + 1)) s k)
                        rw [← hst]
                        refine Eq.trans ?_ (show opw (I (q + 1) (s + k)) [b] = _ from by first | exact (stp_o (Or.inl c_51) c_70).symm | exact (stp_o (Or.inr c_58) c_70).symm)
                        rw [opw, if_neg c_114, if_neg c_144]
                      · simp only [List.length_cons, List.length_nil] at hl ⊢ <;> omega
                      · exact hK
                      · exact hJ
                    · have c_179 := (not_congr (n_lt (a := 1) (b := 2) rfl rfl (by omega) (by omega))).mp c_179
                      omega
                  · refine r_iload rfl ?_
                    refine r_iconst ?_
                    refine r_icmp_lt (fun c_150 => ?_) (fun c_150 => ?_)
                    · have c_150 := (n_lt (a := 1) (b := 1) rfl rfl (by omega) (by omega)).mp c_150
                      omega
                    · have c_150 := (not_congr (n_lt (a := 1) (b := 1) rfl rfl (by omega) (by omega))).mp c_150
                      refine r_aload_n rfl ?_
                      refine r_iload rfl ?_
                      refine r_iconst ?_
                      refine r_isub ?_
                      refine r_aload_n rfl ?_
                      refine r_iload rfl ?_
                      refine r_iconst ?_
                      refine r_isub ?_
                      refine r_iaload (by decide) rfl (by decide) (ixE (n_sub (a := 1) (b := 1) rfl rfl (by omega)) (show (1 - 1) < 160 by omega) (by decide)) hK.1 ?_
                      refine r_if_ne (fun c_164 => ?_) (fun c_164 => ?_)
                      · refine E_go 11 rfl ?_
                        refine r_iconst ?_
                        refine r_nil ?_
                        refine E_go 12 rfl ?_
                        refine r_iastore rfl (by decide) (ixE (n_sub (a := 1) (b := 1) rfl rfl (by omega)) (show (1 - 1) < 160 by omega) (by decide)) ?_
                        refine r_goto ?_
                        refine E_go 14 rfl ?_
                        refine r_iincN (y := io ((s + k) + 1)) (ls' := [_, _, _, _, _, _, _, _, _]) rfl (zt rfl) (n_add (a := (s + k)) (b := 1) rfl rfl) rfl ?_
                        refine r_goto ?_
                        refine ih (d - 1) (by omega) (k + 1) (by omega) (0 :: []) _ _ _ _ ?_ ?_ ?_ ?_
                        · show _ = stp (I 27) (I (q + 1) (s + k)) (rn (I 27) (I (q + 1)) s k)
                          rw [← hst]
                          refine Eq.trans ?_ (show opw (I (q + 1) (s + k)) [b] = _ from by first | exact (stp_o (Or.inl c_51) c_70).symm | exact (stp_o (Or.inr c_58) c_70).symm)
                          rw [opw, if_neg c_114, if_pos c_144, if_neg c_164]
                        · simp only [List.length_cons, List.length_nil] at hl ⊢ <;> omega
                        · exact sk_push rfl hK.2
                        · exact hJ.up (by omega) (by omega)
                      · refine r_iconst ?_
                        refine r_goto ?_
                        refine E_go 12 rfl ?_
                        refine r_iastore rfl (by decide) (ixE (n_sub (a := 1) (b := 1) rfl rfl (by omega)) (show (1 - 1) < 160 by omega) (by decide)) ?_
                        refine r_goto ?_
                        refine E_go 14 rfl ?_
                        refine r_iincN (y := io ((s + k) + 1)) (ls' := [_, _, _, _, _, _, _, _, _]) rfl (zt rfl) (n_add (a := (s + k)) (b := 1) rfl rfl) rfl ?_
                        refine r_goto ?_
                        refine ih (d - 1) (by omega) (k + 1) (by omega) (1 :: []) _ _ _ _ ?_ ?_ ?_ ?_
                        · show _ = stp (I 27) (I (q + 1) (s + k)) (rn (I 27) (I (q + 1)) s k)
                          rw [← hst]
                          refine Eq.trans ?_ (show opw (I (q + 1) (s + k)) [b] = _ from by first | exact (stp_o (Or.inl c_51) c_70).symm | exact (stp_o (Or.inr c_58) c_70).symm)
                          rw [opw, if_neg c_114, if_pos c_144, if_pos c_164]
                        · simp only [List.length_cons, List.length_nil] at hl ⊢ <;> omega
                        · exact sk_push rfl hK.2
                        · exact hJ.up (by omega) (by omega)
                · refine r_iload rfl ?_
                  refine r_iconst ?_
                  refine r_icmp_lt (fun c_120 => ?_) (fun c_120 => ?_)
                  · have c_120 := (n_lt (a := 1) (b := 1) rfl rfl (by omega) (by omega)).mp c_120
                    omega
                  · have c_120 := (not_congr (n_lt (a := 1) (b := 1) rfl rfl (by omega) (by omega))).mp c_120
                    refine r_aload_n rfl ?_
                    refine r_iload rfl ?_
                    refine r_iconst ?_
                    refine r_isub ?_
                    refine r_aload_n rfl ?_
                    refine r_iload rfl ?_
                    refine r_iconst ?_
                    refine r_isub ?_
                    refine r_iaload (by decide) rfl (by decide) (ixE (n_sub (a := 1) (b := 1) rfl rfl (by omega)) (show (1 - 1) < 160 by omega) (by decide)) hK.1 ?_
                    refine r_ineg ?_
                    refine r_iastore rfl (by decide) (ixE (n_sub (a := 1) (b := 1) rfl rfl (by omega)) (show (1 - 1) < 160 by omega) (by decide)) ?_
                    refine r_goto ?_
                    refine E_go 14 rfl ?_
                    refine r_iincN (y := io ((s + k) + 1)) (ls' := [_, _, _, _, _, _, _, _, _]) rfl (zt rfl) (n_add (a := (s + k)) (b := 1) rfl rfl) rfl ?_
                    refine r_goto ?_
                    refine ih (d - 1) (by omega) (k + 1) (by omega) ((-b) :: []) _ _ _ _ ?_ ?_ ?_ ?_
                    · show _ = stp (I 27) (I (q + 1) (s + k)) (rn (I 27) (I (q + 1)) s k)
                      rw [← hst]
                      refine Eq.trans ?_ (show opw (I (q + 1) (s + k)) [b] = _ from by first | exact (stp_o (Or.inl c_51) c_70).symm | exact (stp_o (Or.inr c_58) c_70).symm)
                      exact (if_pos c_114).symm
                    · simp only [List.length_cons, List.length_nil] at hl ⊢ <;> omega
                    · exact sk_push rfl hK.2
                    · exact hJ.up (by omega) (by omega)
              · have c_75 := (not_congr (n_eq (a := 0) (b := 0) rfl rfl (by omega) (by omega))).mp c_75
                omega
          · refine r_iconst ?_
            refine r_goto ?_
            refine E_go 5 rfl ?_
            refine r_istore (ls' := [_, _, _, _, _, _, _, _, _]) (zt rfl) rfl ?_
            refine r_iload rfl ?_
            refine r_if_ge (fun c_70 => ?_) (fun c_70 => ?_)
            · refine E_go 6 rfl ?_
              refine r_iload rfl ?_
              refine r_aload_n rfl ?_
              refine r_alen (by decide) (by decide) (by decide) ?_
              refine r_icmp_ge (fun c_82 => ?_) (fun c_82 => ?_)
              · have c_82 := (n_le (a := 160) (b := 1) rfl rfl (by omega) (by omega)).mp c_82
                omega
              · have c_82 := (not_congr (n_le (a := 160) (b := 1) rfl rfl (by omega) (by omega))).mp c_82
                refine r_aload_n rfl ?_
                refine r_iload rfl ?_
                refine r_iload rfl ?_
                refine r_if_eq (fun c_90 => ?_) (fun c_90 => ?_)
                · have c_90 := (n_eq (a := 1) (b := 0) rfl rfl (by omega) (by omega)).mp c_90
                  omega
                · have c_90 := (not_congr (n_eq (a := 1) (b := 0) rfl rfl (by omega) (by omega))).mp c_90
                  obtain ⟨nk, hnk, enk⟩ := io_ex (n := 6) (Int32.not_lt.mp c_51) (Int32.not_le.mp c_58) (by omega)
                  refine r_aload_n rfl ?_
                  refine r_iload rfl ?_
                  refine r_iaload (by decide) rfl (by decide) (ixE enk (show nk < 6 by omega) (by decide)) (congrFun hV nk) ?_
                  refine r_goto ?_
                  refine E_go 8 rfl ?_
                  refine r_iastore rfl (by decide) (ixE rfl (show 1 < 160 by omega) (by decide)) ?_
                  refine r_iincN (y := io (1 + 1)) (ls' := [_, _, _, _, _, _, _, _, _]) rfl (zt rfl) (n_add (a := 1) (b := 1) rfl rfl) rfl ?_
                  refine r_goto ?_
                  refine E_go 14 rfl ?_
                  refine r_iincN (y := io ((s + k) + 1)) (ls' := [_, _, _, _, _, _, _, _, _]) rfl (zt rfl) (n_add (a := (s + k)) (b := 1) rfl rfl) rfl ?_
                  refine r_goto ?_
                  refine ih (d - 1) (by omega) (k + 1) (by omega) (I 27 nk :: [b]) _ _ _ _ ?_ ?_ ?_ ?_
                  · show _ = stp (I 27) (I (q + 1) (s + k)) (rn (I 27) (I (q + 1)) s k)
                    rw [← hst]
                    rw [stp_v c_51 c_58, show nmv (I (q + 1) (s + k)) = io nk from enk, io_nat (by omega)]
                  · simp only [List.length_cons, List.length_nil] at hl ⊢ <;> omega
                  · exact sk_push rfl hK
                  · exact hJ.up (by omega) (by omega)
            · refine r_iload rfl ?_
              refine r_if_eq (fun c_75 => ?_) (fun c_75 => ?_)
              · have c_75 := (n_eq (a := 1) (b := 0) rfl rfl (by omega) (by omega)).mp c_75
                omega
              · have c_75 := (not_congr (n_eq (a := 1) (b := 0) rfl rfl (by omega) (by omega))).mp c_75
                refine r_nil ?_
                refine E_go 6 rfl ?_
                refine r_iload rfl ?_
                refine r_aload_n rfl ?_
                refine r_alen (by decide) (by decide) (by decide) ?_
                refine r_icmp_ge (fun c_82 => ?_) (fun c_82 => ?_)
                · have c_82 := (n_le (a := 160) (b := 1) rfl rfl (by omega) (by omega)).mp c_82
                  omega
                · have c_82 := (not_congr (n_le (a := 160) (b := 1) rfl rfl (by omega) (by omega))).mp c_82
                  refine r_aload_n rfl ?_
                  refine r_iload rfl ?_
                  refine r_iload rfl ?_
                  refine r_if_eq (fun c_90 => ?_) (fun c_90 => ?_)
                  · have c_90 := (n_eq (a := 1) (b := 0) rfl rfl (by omega) (by omega)).mp c_90
                    omega
                  · have c_90 := (not_congr (n_eq (a := 1) (b := 0) rfl rfl (by omega) (by omega))).mp c_90
                    obtain ⟨nk, hnk, enk⟩ := io_ex (n := 6) (Int32.not_lt.mp c_51) (Int32.not_le.mp c_58) (by omega)
                    refine r_aload_n rfl ?_
                    refine r_iload rfl ?_
                    refine r_iaload (by decide) rfl (by decide) (ixE enk (show nk < 6 by omega) (by decide)) (congrFun hV nk) ?_
                    refine r_goto ?_
                    refine E_go 8 rfl ?_
                    refine r_iastore rfl (by decide) (ixE rfl (show 1 < 160 by omega) (by decide)) ?_
                    refine r_iincN (y := io (1 + 1)) (ls' := [_, _, _, _, _, _, _, _, _]) rfl (zt rfl) (n_add (a := 1) (b := 1) rfl rfl) rfl ?_
                    refine r_goto ?_
                    refine E_go 14 rfl ?_
                    refine r_iincN (y := io ((s + k) + 1)) (ls' := [_, _, _, _, _, _, _, _, _]) rfl (zt rfl) (n_add (a := (s + k)) (b := 1) rfl rfl) rfl ?_
                    refine r_goto ?_
                    refine ih (d - 1) (by omega) (k + 1) (by omega) (I 27 nk :: [b]) _ _ _ _ ?_ ?_ ?_ ?_
                    · show _ = stp (I 27) (I (q + 1) (s + k)) (rn (I 27) (I (q + 1)) s k)
                      rw [← hst]
                      rw [stp_v c_51 c_58, show nmv (I (q + 1) (s + k)) = io nk from enk, io_nat (by omega)]
                    · simp only [List.length_cons, List.length_nil] at hl ⊢ <;> omega
                    · exact sk_push rfl hK
                    · exact hJ.up (by omega) (by omega)
    · simp only [List.length_cons, List.length_nil] at hl
      refine E_go 3 rfl ?_
      refine r_iload rfl ?_
      refine r_aload_n rfl ?_
      refine r_getA (q := (q + 2)) (by decide) (txf1 hq) hq.1.1 hq.1.2.1 ?_
      refine r_iload_n rfl ?_
      refine r_iaload (by decide) hq.2.2.2.1 hq.2.2.2.2.2 (ixQ rfl (show 1 < 3 by omega) (by decide) hq.2.2.2.2.1) (he2 J hJ) ?_
      refine r_icmp_ge (fun c_29 => ?_) (fun c_29 => ?_)
      · have c_29 := (n_le (a := e) (b := (s + k)) rfl rfl (by omega) (by omega)).mp c_29
        refine E_go 15 rfl ?_
        refine r_iload rfl ?_
        refine r_if_le (fun c_215 => ?_) (fun c_215 => ?_)
        · have c_215 := (n_le (a := (st.length + 2)) (b := 0) rfl rfl (by omega) (by omega)).mp c_215
          omega
        · have c_215 := (not_congr (n_le (a := (st.length + 2)) (b := 0) rfl rfl (by omega) (by omega))).mp c_215
          refine r_aload_n rfl ?_
          refine r_iload rfl ?_
          refine r_iconst ?_
          refine r_isub ?_
          refine r_iaload (by decide) rfl (by decide) (ixE (n_sub (a := (st.length + 2)) (b := 1) rfl rfl (by omega)) (show ((st.length + 2) - 1) < 160 by omega) (by decide)) rfl ?_
          refine r_goto ?_
          refine E_go 17 rfl ?_
          refine r_iret rfl trivial ?_
          refine qi (hQ J hJ) ?_
          rw [show e - s = k by omega, ← hst]
          exact hK.1.symm
      · have c_29 := (not_congr (n_le (a := e) (b := (s + k)) rfl rfl (by omega) (by omega))).mp c_29
        refine r_aload_n rfl ?_
        refine r_getA (q := (q + 1)) (by decide) (txf0 hq) hq.1.1 hq.1.2.1 ?_
        refine r_iload rfl ?_
        refine r_iaload (by decide) hq.2.1.2.1 hq.2.1.2.2.2 (ixQ rfl (show (s + k) < 160 by omega) (by decide) hq.2.1.2.2.1) (congrFun hC (s + k)) ?_
        refine r_istore (ls' := [_, _, _, _, _, _, _, _, _]) (zt rfl) rfl ?_
        refine r_iload rfl ?_
        refine r_ineg ?_
        refine r_bipush ?_
        refine r_isub ?_
        refine r_istore (ls' := [_, _, _, _, _, _, _, _, _]) (zt rfl) rfl ?_
        refine r_iload rfl ?_
        refine r_if_lt (fun c_51 => ?_) (fun c_51 => ?_)
        · refine E_go 4 rfl ?_
          refine r_iconst ?_
          refine r_nil ?_
          refine E_go 5 rfl ?_
          refine r_istore (ls' := [_, _, _, _, _, _, _, _, _]) (zt rfl) rfl ?_
          refine r_iload rfl ?_
          refine r_if_ge (fun c_70 => ?_) (fun c_70 => ?_)
          · refine E_go 6 rfl ?_
            refine r_iload rfl ?_
            refine r_aload_n rfl ?_
            refine r_alen (by decide) (by decide) (by decide) ?_
            refine r_icmp_ge (fun c_82 => ?_) (fun c_82 => ?_)
            · have c_82 := (n_le (a := 160) (b := (st.length + 2)) rfl rfl (by omega) (by omega)).mp c_82
              omega
            · have c_82 := (not_congr (n_le (a := 160) (b := (st.length + 2)) rfl rfl (by omega) (by omega))).mp c_82
              refine r_aload_n rfl ?_
              refine r_iload rfl ?_
              refine r_iload rfl ?_
              refine r_if_eq (fun c_90 => ?_) (fun c_90 => ?_)
              · have c_90 := (n_eq (a := 0) (b := 0) rfl rfl (by omega) (by omega)).mp c_90
                refine E_go 7 rfl ?_
                refine r_iload rfl ?_
                refine r_nil ?_
                refine E_go 8 rfl ?_
                refine r_iastore rfl (by decide) (ixE rfl (show (st.length + 2) < 160 by omega) (by decide)) ?_
                refine r_iincN (y := io ((st.length + 2) + 1)) (ls' := [_, _, _, _, _, _, _, _, _]) rfl (zt rfl) (n_add (a := (st.length + 2)) (b := 1) rfl rfl) rfl ?_
                refine r_goto ?_
                refine E_go 14 rfl ?_
                refine r_iincN (y := io ((s + k) + 1)) (ls' := [_, _, _, _, _, _, _, _, _]) rfl (zt rfl) (n_add (a := (s + k)) (b := 1) rfl rfl) rfl ?_
                refine r_goto ?_
                refine ih (d - 1) (by omega) (k + 1) (by omega) ((I (q + 1) (s + k)) :: (b :: a :: st)) _ _ _ _ ?_ ?_ ?_ ?_
                · show _ = stp (I 27) (I (q + 1) (s + k)) (rn (I 27) (I (q + 1)) s k)
                  rw [← hst]
                  first | exact (stp_w (Or.inl c_51) c_70).symm | exact (stp_w (Or.inr c_58) c_70).symm
                · simp only [List.length_cons, List.length_nil] at hl ⊢ <;> omega
                · exact sk_push rfl hK
                · exact hJ.up (by omega) (by omega)
              · have c_90 := (not_congr (n_eq (a := 0) (b := 0) rfl rfl (by omega) (by omega))).mp c_90
                omega
          · refine r_iload rfl ?_
            refine r_if_eq (fun c_75 => ?_) (fun c_75 => ?_)
            · have c_75 := (n_eq (a := 0) (b := 0) rfl rfl (by omega) (by omega)).mp c_75
              refine E_go 9 rfl ?_
              refine r_iload rfl ?_
              refine r_ineg ?_
              refine r_bipush ?_
              refine r_icmp_ne (fun c_114 => ?_) (fun c_114 => ?_)
              · refine E_go 10 rfl ?_
                refine r_iload rfl ?_
                refine r_ineg ?_
                refine r_bipush ?_
                refine r_icmp_ne (fun c_144 => ?_) (fun c_144 => ?_)
                · refine E_go 13 rfl ?_
                  refine r_iload rfl ?_
                  refine r_iconst ?_
                  refine r_icmp_lt (fun c_179 => ?_) (fun c_179 => ?_)
                  · have c_179 := (n_lt (a := (st.length + 2)) (b := 2) rfl rfl (by omega) (by omega)).mp c_179
                    omega
                  · have c_179 := (not_congr (n_lt (a := (st.length + 2)) (b := 2) rfl rfl (by omega) (by omega))).mp c_179
                    refine r_iincN (y := io ((st.length + 2) - 1)) (ls' := [_, _, _, _, _, _, _, _, _]) rfl (zt rfl) (n_dec (a := (st.length + 2)) (b := 1) rfl rfl (by omega)) rfl ?_
                    refine r_aload_n rfl ?_
                    refine r_iload rfl ?_
                    refine r_iconst ?_
                    refine r_isub ?_
                    refine r_iload rfl ?_
                    refine r_ineg ?_
                    refine r_aload_n rfl ?_
                    refine r_iload rfl ?_
                    refine r_iconst ?_
                    refine r_isub ?_
                    refine r_iaload (by decide) rfl (by decide) (ixE (n_sub (a := ((st.length + 2) - 1)) (b := 1) rfl rfl (by omega)) (show (((st.length + 2) - 1) - 1) < 160 by omega) (by decide)) hK.2.1 ?_
                    refine r_aload_n rfl ?_
                    refine r_iload rfl ?_
                    refine r_iaload (by decide) rfl (by decide) (ixE rfl (show ((st.length + 2) - 1) < 160 by omega) (by decide)) hK.1 ?_
                    refine r_static (vs := [_, _, _]) (by decide) (zl rfl) rfl rfl (zl rfl) (Nat.le_refl _) rfl ?_
                    refine s_X5_joined (by omega) ?_
                    refine r_iastore rfl (by decide) (ixE (n_sub (a := ((st.length + 2) - 1)) (b := 1) rfl rfl (by omega)) (show (((st.length + 2) - 1) - 1) < 160 by omega) (by decide)) ?_
                    refine r_nil ?_
                    refine E_go 14 rfl ?_
                    refine r_iincN (y := io ((s + k) + 1)) (ls' := [_, _, _, _, _, _, _, _, _]) rfl (zt rfl) (n_add (a := (s + k)) (b := 1) rfl rfl) rfl ?_
                    refine r_goto ?_
                    refine ih (d - 1) (by omega) (k + 1) (by omega) (jn (-(I (q + 1) (s + k))) a b :: st) _ _ _ _ ?_ ?_ ?_ ?_
                    · show _ = stp (I 27) (I (q + 1) (s + k)) (rn (I 27) (I (q + 1)) s k)
                      rw [← hst]
                      refine Eq.trans ?_ (show opw (I (q + 1) (s + k)) (b :: a :: st) = _ from by first | exact (stp_o (Or.inl c_51) c_70).symm | exact (stp_o (Or.inr c_58) c_70).symm)
                      rw [opw, if_neg c_114, if_neg c_144]
                    · simp only [List.length_cons, List.length_nil] at hl ⊢ <;> omega
                    · exact sk_push rfl hK.2.2
                    · exact hJ.up (by omega) (by omega)
                · refine r_iload rfl ?_
                  refine r_iconst ?_
                  refine r_icmp_lt (fun c_150 => ?_) (fun c_150 => ?_)
                  · have c_150 := (n_lt (a := (st.length + 2)) (b := 1) rfl rfl (by omega) (by omega)).mp c_150
                    omega
                  · have c_150 := (not_congr (n_lt (a := (st.length + 2)) (b := 1) rfl rfl (by omega) (by omega))).mp c_150
                    refine r_aload_n rfl ?_
                    refine r_iload rfl ?_
                    refine r_iconst ?_
                    refine r_isub ?_
                    refine r_aload_n rfl ?_
                    refine r_iload rfl ?_
                    refine r_iconst ?_
                    refine r_isub ?_
                    refine r_iaload (by decide) rfl (by decide) (ixE (n_sub (a := (st.length + 2)) (b := 1) rfl rfl (by omega)) (show ((st.length + 2) - 1) < 160 by omega) (by decide)) hK.1 ?_
                    refine r_if_ne (fun c_164 => ?_) (fun c_164 => ?_)
                    · refine E_go 11 rfl ?_
                      refine r_iconst ?_
                      refine r_nil ?_
                      refine E_go 12 rfl ?_
                      refine r_iastore rfl (by decide) (ixE (n_sub (a := (st.length + 2)) (b := 1) rfl rfl (by omega)) (show ((st.length + 2) - 1) < 160 by omega) (by decide)) ?_
                      refine r_goto ?_
                      refine E_go 14 rfl ?_
                      refine r_iincN (y := io ((s + k) + 1)) (ls' := [_, _, _, _, _, _, _, _, _]) rfl (zt rfl) (n_add (a := (s + k)) (b := 1) rfl rfl) rfl ?_
                      refine r_goto ?_
                      refine ih (d - 1) (by omega) (k + 1) (by omega) (0 :: (a :: st)) _ _ _ _ ?_ ?_ ?_ ?_
                      · show _ = stp (I 27) (I (q + 1) (s + k)) (rn (I 27) (I (q + 1)) s k)
                        rw [← hst]
                        refine Eq.trans ?_ (show opw (I (q + 1) (s + k)) (b :: a :: st) = _ from by first | exact (stp_o (Or.inl c_51) c_70).symm | exact (stp_o (Or.inr c_58) c_70).symm)
                        rw [opw, if_neg c_114, if_pos c_144, if_neg c_164]
                      · simp only [List.length_cons, List.length_nil] at hl ⊢ <;> omega
                      · exact sk_push rfl hK.2
                      · exact hJ.up (by omega) (by omega)
                    · refine r_iconst ?_
                      refine r_goto ?_
                      refine E_go 12 rfl ?_
                      refine r_iastore rfl (by decide) (ixE (n_sub (a := (st.length + 2)) (b := 1) rfl rfl (by omega)) (show ((st.length + 2) - 1) < 160 by omega) (by decide)) ?_
                      refine r_goto ?_
                      refine E_go 14 rfl ?_
                      refine r_iincN (y := io ((s + k) + 1)) (ls' := [_, _, _, _, _, _, _, _, _]) rfl (zt rfl) (n_add (a := (s + k)) (b := 1) rfl rfl) rfl ?_
                      refine r_goto ?_
                      refine ih (d - 1) (by omega) (k + 1) (by omega) (1 :: (a :: st)) _ _ _ _ ?_ ?_ ?_ ?_
                      · show _ = stp (I 27) (I (q + 1) (s + k)) (rn (I 27) (I (q + 1)) s k)
                        rw [← hst]
                        refine Eq.trans ?_ (show opw (I (q + 1) (s + k)) (b :: a :: st) = _ from by first | exact (stp_o (Or.inl c_51) c_70).symm | exact (stp_o (Or.inr c_58) c_70).symm)
                        rw [opw, if_neg c_114, if_pos c_144, if_pos c_164]
                      · simp only [List.length_cons, List.length_nil] at hl ⊢ <;> omega
                      · exact sk_push rfl hK.2
                      · exact hJ.up (by omega) (by omega)
              · refine r_iload rfl ?_
                refine r_iconst ?_
                refine r_icmp_lt (fun c_120 => ?_) (fun c_120 => ?_)
                · have c_120 := (n_lt (a := (st.length + 2)) (b := 1) rfl rfl (by omega) (by omega)).mp c_120
                  omega
                · have c_120 := (not_congr (n_lt (a := (st.length + 2)) (b := 1) rfl rfl (by omega) (by omega))).mp c_120
                  refine r_aload_n rfl ?_
                  refine r_iload rfl ?_
                  refine r_iconst ?_
                  refine r_isub ?_
                  refine r_aload_n rfl ?_
                  refine r_iload rfl ?_
                  refine r_iconst ?_
                  refine r_isub ?_
                  refine r_iaload (by decide) rfl (by decide) (ixE (n_sub (a := (st.length + 2)) (b := 1) rfl rfl (by omega)) (show ((st.length + 2) - 1) < 160 by omega) (by decide)) hK.1 ?_
                  refine r_ineg ?_
                  refine r_iastore rfl (by decide) (ixE (n_sub (a := (st.length + 2)) (b := 1) rfl rfl (by omega)) (show ((st.length + 2) - 1) < 160 by omega) (by decide)) ?_
                  refine r_goto ?_
                  refine E_go 14 rfl ?_
                  refine r_iincN (y := io ((s + k) + 1)) (ls' := [_, _, _, _, _, _, _, _, _]) rfl (zt rfl) (n_add (a := (s + k)) (b := 1) rfl rfl) rfl ?_
                  refine r_goto ?_
                  refine ih (d - 1) (by omega) (k + 1) (by omega) ((-b) :: (a :: st)) _ _ _ _ ?_ ?_ ?_ ?_
                  · show _ = stp (I 27) (I (q + 1) (s + k)) (rn (I 27) (I (q + 1)) s k)
                    rw [← hst]
                    refine Eq.trans ?_ (show opw (I (q + 1) (s + k)) (b :: a :: st) = _ from by first | exact (stp_o (Or.inl c_51) c_70).symm | exact (stp_o (Or.inr c_58) c_70).symm)
                    exact (if_pos c_114).symm
                  · simp only [List.length_cons, List.length_nil] at hl ⊢ <;> omega
                  · exact sk_push rfl hK.2
                  · exact hJ.up (by omega) (by omega)
            · have c_75 := (not_congr (n_eq (a := 0) (b := 0) rfl rfl (by omega) (by omega))).mp c_75
              omega
        · refine r_iload rfl ?_
          refine r_bipush ?_
          refine r_icmp_ge (fun c_58 => ?_) (fun c_58 => ?_)
          · refine E_go 4 rfl ?_
            refine r_iconst ?_
            refine r_nil ?_
            refine E_go 5 rfl ?_
            refine r_istore (ls' := [_, _, _, _, _, _, _, _, _]) (zt rfl) rfl ?_
            refine r_iload rfl ?_
            refine r_if_ge (fun c_70 => ?_) (fun c_70 => ?_)
            · refine E_go 6 rfl ?_
              refine r_iload rfl ?_
              refine r_aload_n rfl ?_
              refine r_alen (by decide) (by decide) (by decide) ?_
              refine r_icmp_ge (fun c_82 => ?_) (fun c_82 => ?_)
              · have c_82 := (n_le (a := 160) (b := (st.length + 2)) rfl rfl (by omega) (by omega)).mp c_82
                omega
              · have c_82 := (not_congr (n_le (a := 160) (b := (st.length + 2)) rfl rfl (by omega) (by omega))).mp c_82
                refine r_aload_n rfl ?_
                refine r_iload rfl ?_
                refine r_iload rfl ?_
                refine r_if_eq (fun c_90 => ?_) (fun c_90 => ?_)
                · have c_90 := (n_eq (a := 0) (b := 0) rfl rfl (by omega) (by omega)).mp c_90
                  refine E_go 7 rfl ?_
                  refine r_iload rfl ?_
                  refine r_nil ?_
                  refine E_go 8 rfl ?_
                  refine r_iastore rfl (by decide) (ixE rfl (show (st.length + 2) < 160 by omega) (by decide)) ?_
                  refine r_iincN (y := io ((st.length + 2) + 1)) (ls' := [_, _, _, _, _, _, _, _, _]) rfl (zt rfl) (n_add (a := (st.length + 2)) (b := 1) rfl rfl) rfl ?_
                  refine r_goto ?_
                  refine E_go 14 rfl ?_
                  refine r_iincN (y := io ((s + k) + 1)) (ls' := [_, _, _, _, _, _, _, _, _]) rfl (zt rfl) (n_add (a := (s + k)) (b := 1) rfl rfl) rfl ?_
                  refine r_goto ?_
                  refine ih (d - 1) (by omega) (k + 1) (by omega) ((I (q + 1) (s + k)) :: (b :: a :: st)) _ _ _ _ ?_ ?_ ?_ ?_
                  · show _ = stp (I 27) (I (q + 1) (s + k)) (rn (I 27) (I (q + 1)) s k)
                    rw [← hst]
                    first | exact (stp_w (Or.inl c_51) c_70).symm | exact (stp_w (Or.inr c_58) c_70).symm
                  · simp only [List.length_cons, List.length_nil] at hl ⊢ <;> omega
                  · exact sk_push rfl hK
                  · exact hJ.up (by omega) (by omega)
                · have c_90 := (not_congr (n_eq (a := 0) (b := 0) rfl rfl (by omega) (by omega))).mp c_90
                  omega
            · refine r_iload rfl ?_
              refine r_if_eq (fun c_75 => ?_) (fun c_75 => ?_)
              · have c_75 := (n_eq (a := 0) (b := 0) rfl rfl (by omega) (by omega)).mp c_75
                refine E_go 9 rfl ?_
                refine r_iload rfl ?_
                refine r_ineg ?_
                refine r_bipush ?_
                refine r_icmp_ne (fun c_114 => ?_) (fun c_114 => ?_)
                · refine E_go 10 rfl ?_
                  refine r_iload rfl ?_
                  refine r_ineg ?_
                  refine r_bipush ?_
                  refine r_icmp_ne (fun c_144 => ?_) (fun c_144 => ?_)
                  · refine E_go 13 rfl ?_
                    refine r_iload rfl ?_
                    refine r_iconst ?_
                    refine r_icmp_lt (fun c_179 => ?_) (fun c_179 => ?_)
                    · have c_179 := (n_lt (a := (st.length + 2)) (b := 2) rfl rfl (by omega) (by omega)).mp c_179
                      omega
                    · have c_179 := (not_congr (n_lt (a := (st.length + 2)) (b := 2) rfl rfl (by omega) (by omega))).mp c_179
                      refine r_iincN (y := io ((st.length + 2) - 1)) (ls' := [_, _, _, _, _, _, _, _, _]) rfl (zt rfl) (n_dec (a := (st.length + 2)) (b := 1) rfl rfl (by omega)) rfl ?_
                      refine r_aload_n rfl ?_
                      refine r_iload rfl ?_
                      refine r_iconst ?_
                      refine r_isub ?_
                      refine r_iload rfl ?_
                      refine r_ineg ?_
                      refine r_aload_n rfl ?_
                      refine r_iload rfl ?_
                      refine r_iconst ?_
                      refine r_isub ?_
                      refine r_iaload (by decide) rfl (by decide) (ixE (n_sub (a := ((st.length + 2) - 1)) (b := 1) rfl rfl (by omega)) (show (((st.length + 2) - 1) - 1) < 160 by omega) (by decide)) hK.2.1 ?_
                      refine r_aload_n rfl ?_
                      refine r_iload rfl ?_
                      refine r_iaload (by decide) rfl (by decide) (ixE rfl (show ((st.length + 2) - 1) < 160 by omega) (by decide)) hK.1 ?_
                      refine r_static (vs := [_, _, _]) (by decide) (zl rfl) rfl rfl (zl rfl) (Nat.le_refl _) rfl ?_
                      refine s_X5_joined (by omega) ?_
                      refine r_iastore rfl (by decide) (ixE (n_sub (a := ((st.length + 2) - 1)) (b := 1) rfl rfl (by omega)) (show (((st.length + 2) - 1) - 1) < 160 by omega) (by decide)) ?_
                      refine r_nil ?_
                      refine E_go 14 rfl ?_
                      refine r_iincN (y := io ((s + k) + 1)) (ls' := [_, _, _, _, _, _, _, _, _]) rfl (zt rfl) (n_add (a := (s + k)) (b := 1) rfl rfl) rfl ?_
                      refine r_goto ?_
                      refine ih (d - 1) (by omega) (k + 1) (by omega) (jn (-(I (q + 1) (s + k))) a b :: st) _ _ _ _ ?_ ?_ ?_ ?_
                      · show _ = stp (I 27) (I (q + 1) (s + k)) (rn (I 27) (I (q + 1)) s k)
                        rw [← hst]
                        refine Eq.trans ?_ (show opw (I (q + 1) (s + k)) (b :: a :: st) = _ from by first | exact (stp_o (Or.inl c_51) c_70).symm | exact (stp_o (Or.inr c_58) c_70).symm)
                        rw [opw, if_neg c_114, if_neg c_144]
                      · simp only [List.length_cons, List.length_nil] at hl ⊢ <;> omega
                      · exact sk_push rfl hK.2.2
                      · exact hJ.up (by omega) (by omega)
                  · refine r_iload rfl ?_
                    refine r_iconst ?_
                    refine r_icmp_lt (fun c_150 => ?_) (fun c_150 => ?_)
                    · have c_150 := (n_lt (a := (st.length + 2)) (b := 1) rfl rfl (by omega) (by omega)).mp c_150
                      omega
                    · have c_150 := (not_congr (n_lt (a := (st.length + 2)) (b := 1) rfl rfl (by omega) (by omega))).mp c_150
                      refine r_aload_n rfl ?_
                      refine r_iload rfl ?_
                      refine r_iconst ?_
                      refine r_isub ?_
                      refine r_aload_n rfl ?_
                      refine r_iload rfl ?_
                      refine r_iconst ?_
                      refine r_isub ?_
                      refine r_iaload (by decide) rfl (by decide) (ixE (n_sub (a := (st.length + 2)) (b := 1) rfl rfl (by omega)) (show ((st.length + 2) - 1) < 160 by omega) (by decide)) hK.1 ?_
                      refine r_if_ne (fun c_164 => ?_) (fun c_164 => ?_)
                      · refine E_go 11 rfl ?_
                        refine r_iconst ?_
                        refine r_nil ?_
                        refine E_go 12 rfl ?_
                        refine r_iastore rfl (by decide) (ixE (n_sub (a := (st.length + 2)) (b := 1) rfl rfl (by omega)) (show ((st.length + 2) - 1) < 160 by omega) (by decide)) ?_
                        refine r_goto ?_
                        refine E_go 14 rfl ?_
                        refine r_iincN (y := io ((s + k) + 1)) (ls' := [_, _, _, _, _, _, _, _, _]) rfl (zt rfl) (n_add (a := (s + k)) (b := 1) rfl rfl) rfl ?_
                        refine r_goto ?_
                        refine ih (d - 1) (by omega) (k + 1) (by omega) (0 :: (a :: st)) _ _ _ _ ?_ ?_ ?_ ?_
                        · show _ = stp (I 27) (I (q + 1) (s + k)) (rn (I 27) (I (q + 1)) s k)
                          rw [← hst]
                          refine Eq.trans ?_ (show opw (I (q + 1) (s + k)) (b :: a :: st) = _ from by first | exact (stp_o (Or.inl c_51) c_70).symm | exact (stp_o (Or.inr c_58) c_70).symm)
                          rw [opw, if_neg c_114, if_pos c_144, if_neg c_164]
                        · simp only [List.length_cons, List.length_nil] at hl ⊢ <;> omega
                        · exact sk_push rfl hK.2
                        · exact hJ.up (by omega) (by omega)
                      · refine r_iconst ?_
                        refine r_goto ?_
                        refine E_go 12 rfl ?_
                        refine r_iastore rfl (by decide) (ixE (n_sub (a := (st.length + 2)) (b := 1) rfl rfl (by omega)) (show ((st.length + 2) - 1) < 160 by omega) (by decide)) ?_
                        refine r_goto ?_
                        refine E_go 14 rfl ?_
                        refine r_iincN (y := io ((s + k) + 1)) (ls' := [_, _, _, _, _, _, _, _, _]) rfl (zt rfl) (n_add (a := (s + k)) (b := 1) rfl rfl) rfl ?_
                        refine r_goto ?_
                        refine ih (d - 1) (by omega) (k + 1) (by omega) (1 :: (a :: st)) _ _ _ _ ?_ ?_ ?_ ?_
                        · show _ = stp (I 27) (I (q + 1) (s + k)) (rn (I 27) (I (q + 1)) s k)
                          rw [← hst]
                          refine Eq.trans ?_ (show opw (I (q + 1) (s + k)) (b :: a :: st) = _ from by first | exact (stp_o (Or.inl c_51) c_70).symm | exact (stp_o (Or.inr c_58) c_70).symm)
                          rw [opw, if_neg c_114, if_pos c_144, if_pos c_164]
                        · simp only [List.length_cons, List.length_nil] at hl ⊢ <;> omega
                        · exact sk_push rfl hK.2
                        · exact hJ.up (by omega) (by omega)
                · refine r_iload rfl ?_
                  refine r_iconst ?_
                  refine r_icmp_lt (fun c_120 => ?_) (fun c_120 => ?_)
                  · have c_120 := (n_lt (a := (st.length + 2)) (b := 1) rfl rfl (by omega) (by omega)).mp c_120
                    omega
                  · have c_120 := (not_congr (n_lt (a := (st.length + 2)) (b := 1) rfl rfl (by omega) (by omega))).mp c_120
                    refine r_aload_n rfl ?_
                    refine r_iload rfl ?_
                    refine r_iconst ?_
                    refine r_isub ?_
                    refine r_aload_n rfl ?_
                    refine r_iload rfl ?_
                    refine r_iconst ?_
                    refine r_isub ?_
                    refine r_iaload (by decide) rfl (by decide) (ixE (n_sub (a := (st.length + 2)) (b := 1) rfl rfl (by omega)) (show ((st.length + 2) - 1) < 160 by omega) (by decide)) hK.1 ?_
                    refine r_ineg ?_
                    refine r_iastore rfl (by decide) (ixE (n_sub (a := (st.length + 2)) (b := 1) rfl rfl (by omega)) (show ((st.length + 2) - 1) < 160 by omega) (by decide)) ?_
                    refine r_goto ?_
                    refine E_go 14 rfl ?_
                    refine r_iincN (y := io ((s + k) + 1)) (ls' := [_, _, _, _, _, _, _, _, _]) rfl (zt rfl) (n_add (a := (s + k)) (b := 1) rfl rfl) rfl ?_
                    refine r_goto ?_
                    refine ih (d - 1) (by omega) (k + 1) (by omega) ((-b) :: (a :: st)) _ _ _ _ ?_ ?_ ?_ ?_
                    · show _ = stp (I 27) (I (q + 1) (s + k)) (rn (I 27) (I (q + 1)) s k)
                      rw [← hst]
                      refine Eq.trans ?_ (show opw (I (q + 1) (s + k)) (b :: a :: st) = _ from by first | exact (stp_o (Or.inl c_51) c_70).symm | exact (stp_o (Or.inr c_58) c_70).symm)
                      exact (if_pos c_114).symm
                    · simp only [List.length_cons, List.length_nil] at hl ⊢ <;> omega
                    · exact sk_push rfl hK.2
                    · exact hJ.up (by omega) (by omega)
              · have c_75 := (not_congr (n_eq (a := 0) (b := 0) rfl rfl (by omega) (by omega))).mp c_75
                omega
          · refine r_iconst ?_
            refine r_goto ?_
            refine E_go 5 rfl ?_
            refine r_istore (ls' := [_, _, _, _, _, _, _, _, _]) (zt rfl) rfl ?_
            refine r_iload rfl ?_
            refine r_if_ge (fun c_70 => ?_) (fun c_70 => ?_)
            · refine E_go 6 rfl ?_
              refine r_iload rfl ?_
              refine r_aload_n rfl ?_
              refine r_alen (by decide) (by decide) (by decide) ?_
              refine r_icmp_ge (fun c_82 => ?_) (fun c_82 => ?_)
              · have c_82 := (n_le (a := 160) (b := (st.length + 2)) rfl rfl (by omega) (by omega)).mp c_82
                omega
              · have c_82 := (not_congr (n_le (a := 160) (b := (st.length + 2)) rfl rfl (by omega) (by omega))).mp c_82
                refine r_aload_n rfl ?_
                refine r_iload rfl ?_
                refine r_iload rfl ?_
                refine r_if_eq (fun c_90 => ?_) (fun c_90 => ?_)
                · have c_90 := (n_eq (a := 1) (b := 0) rfl rfl (by omega) (by omega)).mp c_90
                  omega
                · have c_90 := (not_congr (n_eq (a := 1) (b := 0) rfl rfl (by omega) (by omega))).mp c_90
                  obtain ⟨nk, hnk, enk⟩ := io_ex (n := 6) (Int32.not_lt.mp c_51) (Int32.not_le.mp c_58) (by omega)
                  refine r_aload_n rfl ?_
                  refine r_iload rfl ?_
                  refine r_iaload (by decide) rfl (by decide) (ixE enk (show nk < 6 by omega) (by decide)) (congrFun hV nk) ?_
                  refine r_goto ?_
                  refine E_go 8 rfl ?_
                  refine r_iastore rfl (by decide) (ixE rfl (show (st.length + 2) < 160 by omega) (by decide)) ?_
                  refine r_iincN (y := io ((st.length + 2) + 1)) (ls' := [_, _, _, _, _, _, _, _, _]) rfl (zt rfl) (n_add (a := (st.length + 2)) (b := 1) rfl rfl) rfl ?_
                  refine r_goto ?_
                  refine E_go 14 rfl ?_
                  refine r_iincN (y := io ((s + k) + 1)) (ls' := [_, _, _, _, _, _, _, _, _]) rfl (zt rfl) (n_add (a := (s + k)) (b := 1) rfl rfl) rfl ?_
                  refine r_goto ?_
                  refine ih (d - 1) (by omega) (k + 1) (by omega) (I 27 nk :: (b :: a :: st)) _ _ _ _ ?_ ?_ ?_ ?_
                  · show _ = stp (I 27) (I (q + 1) (s + k)) (rn (I 27) (I (q + 1)) s k)
                    rw [← hst]
                    rw [stp_v c_51 c_58, show nmv (I (q + 1) (s + k)) = io nk from enk, io_nat (by omega)]
                  · simp only [List.length_cons, List.length_nil] at hl ⊢ <;> omega
                  · exact sk_push rfl hK
                  · exact hJ.up (by omega) (by omega)
            · refine r_iload rfl ?_
              refine r_if_eq (fun c_75 => ?_) (fun c_75 => ?_)
              · have c_75 := (n_eq (a := 1) (b := 0) rfl rfl (by omega) (by omega)).mp c_75
                omega
              · have c_75 := (not_congr (n_eq (a := 1) (b := 0) rfl rfl (by omega) (by omega))).mp c_75
                refine r_nil ?_
                refine E_go 6 rfl ?_
                refine r_iload rfl ?_
                refine r_aload_n rfl ?_
                refine r_alen (by decide) (by decide) (by decide) ?_
                refine r_icmp_ge (fun c_82 => ?_) (fun c_82 => ?_)
                · have c_82 := (n_le (a := 160) (b := (st.length + 2)) rfl rfl (by omega) (by omega)).mp c_82
                  omega
                · have c_82 := (not_congr (n_le (a := 160) (b := (st.length + 2)) rfl rfl (by omega) (by omega))).mp c_82
                  refine r_aload_n rfl ?_
                  refine r_iload rfl ?_
                  refine r_iload rfl ?_
                  refine r_if_eq (fun c_90 => ?_) (fun c_90 => ?_)
                  · have c_90 := (n_eq (a := 1) (b := 0) rfl rfl (by omega) (by omega)).mp c_90
                    omega
                  · have c_90 := (not_congr (n_eq (a := 1) (b := 0) rfl rfl (by omega) (by omega))).mp c_90
                    obtain ⟨nk, hnk, enk⟩ := io_ex (n := 6) (Int32.not_lt.mp c_51) (Int32.not_le.mp c_58) (by omega)
                    refine r_aload_n rfl ?_
                    refine r_iload rfl ?_
                    refine r_iaload (by decide) rfl (by decide) (ixE enk (show nk < 6 by omega) (by decide)) (congrFun hV nk) ?_
                    refine r_goto ?_
                    refine E_go 8 rfl ?_
                    refine r_iastore rfl (by decide) (ixE rfl (show (st.length + 2) < 160 by omega) (by decide)) ?_
                    refine r_iincN (y := io ((st.length + 2) + 1)) (ls' := [_, _, _, _, _, _, _, _, _]) rfl (zt rfl) (n_add (a := (st.length + 2)) (b := 1) rfl rfl) rfl ?_
                    refine r_goto ?_
                    refine E_go 14 rfl ?_
                    refine r_iincN (y := io ((s + k) + 1)) (ls' := [_, _, _, _, _, _, _, _, _]) rfl (zt rfl) (n_add (a := (s + k)) (b := 1) rfl rfl) rfl ?_
                    refine r_goto ?_
                    refine ih (d - 1) (by omega) (k + 1) (by omega) (I 27 nk :: (b :: a :: st)) _ _ _ _ ?_ ?_ ?_ ?_
                    · show _ = stp (I 27) (I (q + 1) (s + k)) (rn (I 27) (I (q + 1)) s k)
                      rw [← hst]
                      rw [stp_v c_51 c_58, show nmv (I (q + 1) (s + k)) = io nk from enk, io_nat (by omega)]
                    · simp only [List.length_cons, List.length_nil] at hl ⊢ <;> omega
                    · exact sk_push rfl hK
                    · exact hJ.up (by omega) (by omega)
  refine M_go (ls := [_, _, _, _, _, _, _, _, _]) (ml := 9) rfl rfl rfl (zl rfl) rfl ?_
  refine r_iconst ?_
  refine r_istore (ls' := [_, _, _, _, _, _, _, _, _]) (zt rfl) rfl ?_
  refine r_iload_n rfl ?_
  refine r_if_ne (fun c_4 => ?_) (fun c_4 => ?_)
  · have c_4 := (not_congr (n_eq (a := 1) (b := 0) rfl rfl (by omega) (by omega))).mp c_4
    refine E_go 1 rfl ?_
    refine r_aload_n rfl ?_
    refine r_getA (q := (q + 2)) (by decide) (txf1 hq) hq.1.1 hq.1.2.1 ?_
    refine r_iload_n rfl ?_
    refine r_iconst ?_
    refine r_isub ?_
    refine r_iaload (by decide) hq.2.2.2.1 hq.2.2.2.2.2 (ixQ (n_sub (a := 1) (b := 1) rfl rfl (by omega)) (show (1 - 1) < 3 by omega) (by decide) hq.2.2.2.2.1) he1 ?_
    refine r_nil ?_
    refine E_go 2 rfl ?_
    refine r_istore (ls' := [_, _, _, _, _, _, _, _, _]) (zt rfl) rfl ?_
    refine r_nil ?_
    exact key (e - s) 0 (by omega) [] I _ _ _ rfl (Nat.le_refl _) trivial oF.refl
  · have c_4 := (n_eq (a := 1) (b := 0) rfl rfl (by omega) (by omega)).mp c_4
    omega

set_option maxRecDepth 10000 in
theorem s_value2 {xs : xSc} {m : Nat} {I : Nat → Nat → Int32} {L : Nat → Nat → Int64} {Q : Value → xHp → Prop} (hm : 2 ≤ m) {q s e : Nat} (hq : TxP q) (he1 : I (q + 2) 1 = io s) (he : I (q + 2) 2 = io e) (hse : s ≤ e) (h160 : e ≤ 160) (hQ : ∀ J, oF 28 28 I J → Q (.int ((rn (I 27) (I (q + 1)) s (e - s)).headD 0)) (Hp J L)) : M xs m xi_X5_value [.ref q, .int 2, .ref 27, .ref 28] (Hp I L) Q := by
  obtain ⟨m, rfl⟩ : ∃ k, m = k + 1 := ⟨m - 1, by omega⟩
  have hq1 := hq.1.2.2
  have he2 : ∀ J, oF 28 28 I J → J (q + 2) 2 = io e := fun J hJ => by rw [hJ (q + 2) (by omega)]; exact he
  have key : ∀ d k, k + d = e - s → ∀ (st : List Int32) (J : Nat → Nat → Int32) (x6 x7 x8 : Value), st = rn (I 27) (I (q + 1)) s k → st.length ≤ k → sk (J 28) st → oF 28 28 I J → E xs m xi_X5_value 82 Q 21 [.ref q, .int 2, .ref 27, .ref 28, .int (io st.length), .int (io (s + k)), x6, x7, x8] [] (82, J, L, xF0) := by
    intro d
    induction d using Nat.strongRecOn with
    | _ d ih =>
    intro k hk st J x6 x7 x8 hst hl hK hJ
    have hC : J (q + 1) = I (q + 1) := hJ (q + 1) (by omega)
    have hV : J 27 = I 27 := hJ 27 (by omega)
    rcases st with _ | ⟨b, _ | ⟨a, st⟩⟩
    · simp only [List.length_cons, List.length_nil] at hl
      refine E_go 3 rfl ?_
      refine r_iload rfl ?_
      refine r_aload_n rfl ?_
      refine r_getA (q := (q + 2)) (by decide) (txf1 hq) hq.1.1 hq.1.2.1 ?_
      refine r_iload_n rfl ?_
      refine r_iaload (by decide) hq.2.2.2.1 hq.2.2.2.2.2 (ixQ rfl (show 2 < 3 by omega) (by decide) hq.2.2.2.2.1) (he2 J hJ) ?_
      refine r_icmp_ge (fun c_29 => ?_) (fun c_29 => ?_)
      · have c_29 := (n_le (a := e) (b := (s + k)) rfl rfl (by omega) (by omega)).mp c_29
        refine E_go 15 rfl ?_
        refine r_iload rfl ?_
        refine r_if_le (fun c_215 => ?_) (fun c_215 => ?_)
        · have c_215 := (n_le (a := 0) (b := 0) rfl rfl (by omega) (by omega)).mp c_215
          refine E_go 16 rfl ?_
          refine r_iconst ?_
          refine r_nil ?_
          refine E_go 17 rfl ?_
          refine r_iret rfl trivial ?_
          refine qi (hQ J hJ) ?_
          rw [show e - s = k by omega, ← hst]
          rfl
        · have c_215 := (not_congr (n_le (a := 0) (b := 0) rfl rfl (by omega) (by omega))).mp c_215
          omega
      · have c_29 := (not_congr (n_le (a := e) (b := (s + k)) rfl rfl (by omega) (by omega))).mp c_29
        refine r_aload_n rfl ?_
        refine r_getA (q := (q + 1)) (by decide) (txf0 hq) hq.1.1 hq.1.2.1 ?_
        refine r_iload rfl ?_
        refine r_iaload (by decide) hq.2.1.2.1 hq.2.1.2.2.2 (ixQ rfl (show (s + k) < 160 by omega) (by decide) hq.2.1.2.2.1) (congrFun hC (s + k)) ?_
        refine r_istore (ls' := [_, _, _, _, _, _, _, _, _]) (zt rfl) rfl ?_
        refine r_iload rfl ?_
        refine r_ineg ?_
        refine r_bipush ?_
        refine r_isub ?_
        refine r_istore (ls' := [_, _, _, _, _, _, _, _, _]) (zt rfl) rfl ?_
        refine r_iload rfl ?_
        refine r_if_lt (fun c_51 => ?_) (fun c_51 => ?_)
        · refine E_go 4 rfl ?_
          refine r_iconst ?_
          refine r_nil ?_
          refine E_go 5 rfl ?_
          refine r_istore (ls' := [_, _, _, _, _, _, _, _, _]) (zt rfl) rfl ?_
          refine r_iload rfl ?_
          refine r_if_ge (fun c_70 => ?_) (fun c_70 => ?_)
          · refine E_go 6 rfl ?_
            refine r_iload rfl ?_
            refine r_aload_n rfl ?_
            refine r_alen (by decide) (by decide) (by decide) ?_
            refine r_icmp_ge (fun c_82 => ?_) (fun c_82 => ?_)
            · have c_82 := (n_le (a := 160) (b := 0) rfl rfl (by omega) (by omega)).mp c_82
              omega
            · have c_82 := (not_congr (n_le (a := 160) (b := 0) rfl rfl (by omega) (by omega))).mp c_82
              refine r_aload_n rfl ?_
              refine r_iload rfl ?_
              refine r_iload rfl ?_
              refine r_if_eq (fun c_90 => ?_) (fun c_90 => ?_)
              · have c_90 := (n_eq (a := 0) (b := 0) rfl rfl (by omega) (by omega)).mp c_90
                refine E_go 7 rfl ?_
                refine r_iload rfl ?_
                refine r_nil ?_
                refine E_go 8 rfl ?_
                refine r_iastore rfl (by decide) (ixE rfl (show 0 < 160 by omega) (by decide)) ?_
                refine r_iincN (y := io (0 + 1)) (ls' := [_, _, _, _, _, _, _, _, _]) rfl (zt rfl) (n_add (a := 0) (b := 1) rfl rfl) rfl ?_
                refine r_goto ?_
                refine E_go 14 rfl ?_
                refine r_iincN (y := io ((s + k) + 1)) (ls' := [_, _, _, _, _, _, _, _, _]) rfl (zt rfl) (n_add (a := (s + k)) (b := 1) rfl rfl) rfl ?_
                refine r_goto ?_
                refine ih (d - 1) (by omega) (k + 1) (by omega) ((I (q + 1) (s + k)) :: []) _ _ _ _ ?_ ?_ ?_ ?_
                · show _ = stp (I 27) (I (q + 1) (s + k)) (rn (I 27) (I (q + 1)) s k)
                  rw [← hst]
                  first | exact (stp_w (Or.inl c_51) c_70).symm | exact (stp_w (Or.inr c_58) c_70).symm
                · simp only [List.length_cons, List.length_nil] at hl ⊢ <;> omega
                · exact sk_push rfl hK
                · exact hJ.up (by omega) (by omega)
              · have c_90 := (not_congr (n_eq (a := 0) (b := 0) rfl rfl (by omega) (by omega))).mp c_90
                omega
          · refine r_iload rfl ?_
            refine r_if_eq (fun c_75 => ?_) (fun c_75 => ?_)
            · have c_75 := (n_eq (a := 0) (b := 0) rfl rfl (by omega) (by omega)).mp c_75
              refine E_go 9 rfl ?_
              refine r_iload rfl ?_
              refine r_ineg ?_
              refine r_bipush ?_
              refine r_icmp_ne (fun c_114 => ?_) (fun c_114 => ?_)
              · refine E_go 10 rfl ?_
                refine r_iload rfl ?_
                refine r_ineg ?_
                refine r_bipush ?_
                refine r_icmp_ne (fun c_144 => ?_) (fun c_144 => ?_)
                · refine E_go 13 rfl ?_
                  refine r_iload rfl ?_
                  refine r_iconst ?_
                  refine r_icmp_lt (fun c_179 => ?_) (fun c_179 => ?_)
                  · have c_179 := (n_lt (a := 0) (b := 2) rfl rfl (by omega) (by omega)).mp c_179
                    refine E_go 14 rfl ?_
                    refine r_iincN (y := io ((s + k) + 1)) (ls' := [_, _, _, _, _, _, _, _, _]) rfl (zt rfl) (n_add (a := (s + k)) (b := 1) rfl rfl) rfl ?_
                    refine r_goto ?_
                    refine ih (d - 1) (by omega) (k + 1) (by omega) ([]) _ _ _ _ ?_ ?_ ?_ ?_
                    · show _ = stp (I 27) (I (q + 1) (s + k)) (rn (I 27) (I (q + 1)) s k)
                      rw [← hst]
                      refine Eq.trans ?_ (show opw (I (q + 1) (s + k)) [] = _ from by first | exact (stp_o (Or.inl c_51) c_70).symm | exact (stp_o (Or.inr c_58) c_70).symm)
                      rfl
                    · simp only [List.length_cons, List.length_nil] at hl ⊢ <;> omega
                    · exact hK
                    · exact hJ
                  · have c_179 := (not_congr (n_lt (a := 0) (b := 2) rfl rfl (by omega) (by omega))).mp c_179
                    omega
                · refine r_iload rfl ?_
                  refine r_iconst ?_
                  refine r_icmp_lt (fun c_150 => ?_) (fun c_150 => ?_)
                  · have c_150 := (n_lt (a := 0) (b := 1) rfl rfl (by omega) (by omega)).mp c_150
                    refine E_go 13 rfl ?_
                    refine r_iload rfl ?_
                    refine r_iconst ?_
                    refine r_icmp_lt (fun c_179 => ?_) (fun c_179 => ?_)
                    · have c_179 := (n_lt (a := 0) (b := 2) rfl rfl (by omega) (by omega)).mp c_179
                      refine E_go 14 rfl ?_
                      refine r_iincN (y := io ((s + k) + 1)) (ls' := [_, _, _, _, _, _, _, _, _]) rfl (zt rfl) (n_add (a := (s + k)) (b := 1) rfl rfl) rfl ?_
                      refine r_goto ?_
                      refine ih (d - 1) (by omega) (k + 1) (by omega) ([]) _ _ _ _ ?_ ?_ ?_ ?_
                      · show _ = stp (I 27) (I (q + 1) (s + k)) (rn (I 27) (I (q + 1)) s k)
                        rw [← hst]
                        refine Eq.trans ?_ (show opw (I (q + 1) (s + k)) [] = _ from by first | exact (stp_o (Or.inl c_51) c_70).symm | exact (stp_o (Or.inr c_58) c_70).symm)
                        rfl
                      · simp only [List.length_cons, List.length_nil] at hl ⊢ <;> omega
                      · exact hK
                      · exact hJ
                    · have c_179 := (not_congr (n_lt (a := 0) (b := 2) rfl rfl (by omega) (by omega))).mp c_179
                      omega
                  · have c_150 := (not_congr (n_lt (a := 0) (b := 1) rfl rfl (by omega) (by omega))).mp c_150
                    omega
              · refine r_iload rfl ?_
                refine r_iconst ?_
                refine r_icmp_lt (fun c_120 => ?_) (fun c_120 => ?_)
                · have c_120 := (n_lt (a := 0) (b := 1) rfl rfl (by omega) (by omega)).mp c_120
                  refine E_go 10 rfl ?_
                  refine r_iload rfl ?_
                  refine r_ineg ?_
                  refine r_bipush ?_
                  refine r_icmp_ne (fun c_144 => ?_) (fun c_144 => ?_)
                  · refine E_go 13 rfl ?_
                    refine r_iload rfl ?_
                    refine r_iconst ?_
                    refine r_icmp_lt (fun c_179 => ?_) (fun c_179 => ?_)
                    · have c_179 := (n_lt (a := 0) (b := 2) rfl rfl (by omega) (by omega)).mp c_179
                      refine E_go 14 rfl ?_
                      refine r_iincN (y := io ((s + k) + 1)) (ls' := [_, _, _, _, _, _, _, _, _]) rfl (zt rfl) (n_add (a := (s + k)) (b := 1) rfl rfl) rfl ?_
                      refine r_goto ?_
                      refine ih (d - 1) (by omega) (k + 1) (by omega) ([]) _ _ _ _ ?_ ?_ ?_ ?_
                      · show _ = stp (I 27) (I (q + 1) (s + k)) (rn (I 27) (I (q + 1)) s k)
                        rw [← hst]
                        refine Eq.trans ?_ (show opw (I (q + 1) (s + k)) [] = _ from by first | exact (stp_o (Or.inl c_51) c_70).symm | exact (stp_o (Or.inr c_58) c_70).symm)
                        rfl
                      · simp only [List.length_cons, List.length_nil] at hl ⊢ <;> omega
                      · exact hK
                      · exact hJ
                    · have c_179 := (not_congr (n_lt (a := 0) (b := 2) rfl rfl (by omega) (by omega))).mp c_179
                      omega
                  · refine r_iload rfl ?_
                    refine r_iconst ?_
                    refine r_icmp_lt (fun c_150 => ?_) (fun c_150 => ?_)
                    · have c_150 := (n_lt (a := 0) (b := 1) rfl rfl (by omega) (by omega)).mp c_150
                      refine E_go 13 rfl ?_
                      refine r_iload rfl ?_
                      refine r_iconst ?_
                      refine r_icmp_lt (fun c_179 => ?_) (fun c_179 => ?_)
                      · have c_179 := (n_lt (a := 0) (b := 2) rfl rfl (by omega) (by omega)).mp c_179
                        refine E_go 14 rfl ?_
                        refine r_iincN (y := io ((s + k) + 1)) (ls' := [_, _, _, _, _, _, _, _, _]) rfl (zt rfl) (n_add (a := (s + k)) (b := 1) rfl rfl) rfl ?_
                        refine r_goto ?_
                        refine ih (d - 1) (by omega) (k + 1) (by omega) ([]) _ _ _ _ ?_ ?_ ?_ ?_
                        · show _ = stp (I 27) (I (q + 1) (s + k)) (rn (I 27) (I (q + 1)) s k)
                          rw [← hst]
                          refine Eq.trans ?_ (show opw (I (q + 1) (s + k)) [] = _ from by first | exact (stp_o (Or.inl c_51) c_70).symm | exact (stp_o (Or.inr c_58) c_70).symm)
                          rfl
                        · simp only [List.length_cons, List.length_nil] at hl ⊢ <;> omega
                        · exact hK
                        · exact hJ
                      · have c_179 := (not_congr (n_lt (a := 0) (b := 2) rfl rfl (by omega) (by omega))).mp c_179
                        omega
                    · have c_150 := (not_congr (n_lt (a := 0) (b := 1) rfl rfl (by omega) (by omega))).mp c_150
                      omega
                · have c_120 := (not_congr (n_lt (a := 0) (b := 1) rfl rfl (by omega) (by omega))).mp c_120
                  omega
            · have c_75 := (not_congr (n_eq (a := 0) (b := 0) rfl rfl (by omega) (by omega))).mp c_75
              omega
        · refine r_iload rfl ?_
          refine r_bipush ?_
          refine r_icmp_ge (fun c_58 => ?_) (fun c_58 => ?_)
          · refine E_go 4 rfl ?_
            refine r_iconst ?_
            refine r_nil ?_
            refine E_go 5 rfl ?_
            refine r_istore (ls' := [_, _, _, _, _, _, _, _, _]) (zt rfl) rfl ?_
            refine r_iload rfl ?_
            refine r_if_ge (fun c_70 => ?_) (fun c_70 => ?_)
            · refine E_go 6 rfl ?_
              refine r_iload rfl ?_
              refine r_aload_n rfl ?_
              refine r_alen (by decide) (by decide) (by decide) ?_
              refine r_icmp_ge (fun c_82 => ?_) (fun c_82 => ?_)
              · have c_82 := (n_le (a := 160) (b := 0) rfl rfl (by omega) (by omega)).mp c_82
                omega
              · have c_82 := (not_congr (n_le (a := 160) (b := 0) rfl rfl (by omega) (by omega))).mp c_82
                refine r_aload_n rfl ?_
                refine r_iload rfl ?_
                refine r_iload rfl ?_
                refine r_if_eq (fun c_90 => ?_) (fun c_90 => ?_)
                · have c_90 := (n_eq (a := 0) (b := 0) rfl rfl (by omega) (by omega)).mp c_90
                  refine E_go 7 rfl ?_
                  refine r_iload rfl ?_
                  refine r_nil ?_
                  refine E_go 8 rfl ?_
                  refine r_iastore rfl (by decide) (ixE rfl (show 0 < 160 by omega) (by decide)) ?_
                  refine r_iincN (y := io (0 + 1)) (ls' := [_, _, _, _, _, _, _, _, _]) rfl (zt rfl) (n_add (a := 0) (b := 1) rfl rfl) rfl ?_
                  refine r_goto ?_
                  refine E_go 14 rfl ?_
                  refine r_iincN (y := io ((s + k) + 1)) (ls' := [_, _, _, _, _, _, _, _, _]) rfl (zt rfl) (n_add (a := (s + k)) (b := 1) rfl rfl) rfl ?_
                  refine r_goto ?_
                  refine ih (d - 1) (by omega) (k + 1) (by omega) ((I (q + 1) (s + k)) :: []) _ _ _ _ ?_ ?_ ?_ ?_
                  · show _ = stp (I 27) (I (q + 1) (s + k)) (rn (I 27) (I (q + 1)) s k)
                    rw [← hst]
                    first | exact (stp_w (Or.inl c_51) c_70).symm | exact (stp_w (Or.inr c_58) c_70).symm
                  · simp only [List.length_cons, List.length_nil] at hl ⊢ <;> omega
                  · exact sk_push rfl hK
                  · exact hJ.up (by omega) (by omega)
                · have c_90 := (not_congr (n_eq (a := 0) (b := 0) rfl rfl (by omega) (by omega))).mp c_90
                  omega
            · refine r_iload rfl ?_
              refine r_if_eq (fun c_75 => ?_) (fun c_75 => ?_)
              · have c_75 := (n_eq (a := 0) (b := 0) rfl rfl (by omega) (by omega)).mp c_75
                refine E_go 9 rfl ?_
                refine r_iload rfl ?_
                refine r_ineg ?_
                refine r_bipush ?_
                refine r_icmp_ne (fun c_114 => ?_) (fun c_114 => ?_)
                · refine E_go 10 rfl ?_
                  refine r_iload rfl ?_
                  refine r_ineg ?_
                  refine r_bipush ?_
                  refine r_icmp_ne (fun c_144 => ?_) (fun c_144 => ?_)
                  · refine E_go 13 rfl ?_
                    refine r_iload rfl ?_
                    refine r_iconst ?_
                    refine r_icmp_lt (fun c_179 => ?_) (fun c_179 => ?_)
                    · have c_179 := (n_lt (a := 0) (b := 2) rfl rfl (by omega) (by omega)).mp c_179
                      refine E_go 14 rfl ?_
                      refine r_iincN (y := io ((s + k) + 1)) (ls' := [_, _, _, _, _, _, _, _, _]) rfl (zt rfl) (n_add (a := (s + k)) (b := 1) rfl rfl) rfl ?_
                      refine r_goto ?_
                      refine ih (d - 1) (by omega) (k + 1) (by omega) ([]) _ _ _ _ ?_ ?_ ?_ ?_
                      · show _ = stp (I 27) (I (q + 1) (s + k)) (rn (I 27) (I (q + 1)) s k)
                        rw [← hst]
                        refine Eq.trans ?_ (show opw (I (q + 1) (s + k)) [] = _ from by first | exact (stp_o (Or.inl c_51) c_70).symm | exact (stp_o (Or.inr c_58) c_70).symm)
                        rfl
                      · simp only [List.length_cons, List.length_nil] at hl ⊢ <;> omega
                      · exact hK
                      · exact hJ
                    · have c_179 := (not_congr (n_lt (a := 0) (b := 2) rfl rfl (by omega) (by omega))).mp c_179
                      omega
                  · refine r_iload rfl ?_
                    refine r_iconst ?_
                    refine r_icmp_lt (fun c_150 => ?_) (fun c_150 => ?_)
                    · have c_150 := (n_lt (a := 0) (b := 1) rfl rfl (by omega) (by omega)).mp c_150
                      refine E_go 13 rfl ?_
                      refine r_iload rfl ?_
                      refine r_iconst ?_
                      refine r_icmp_lt (fun c_179 => ?_) (fun c_179 => ?_)
                      · have c_179 := (n_lt (a := 0) (b := 2) rfl rfl (by omega) (by omega)).mp c_179
                        refine E_go 14 rfl ?_
                        refine r_iincN (y := io ((s + k) + 1)) (ls' := [_, _, _, _, _, _, _, _, _]) rfl (zt rfl) (n_add (a := (s + k)) (b := 1) rfl rfl) rfl ?_
                        refine r_goto ?_
                        refine ih (d - 1) (by omega) (k + 1) (by omega) ([]) _ _ _ _ ?_ ?_ ?_ ?_
                        · show _ = stp (I 27) (I (q + 1) (s + k)) (rn (I 27) (I (q + 1)) s k)
                          rw [← hst]
                          refine Eq.trans ?_ (show opw (I (q + 1) (s + k)) [] = _ from by first | exact (stp_o (Or.inl c_51) c_70).symm | exact (stp_o (Or.inr c_58) c_70).symm)
                          rfl
                        · simp only [List.length_cons, List.length_nil] at hl ⊢ <;> omega
                        · exact hK
                        · exact hJ
                      · have c_179 := (not_congr (n_lt (a := 0) (b := 2) rfl rfl (by omega) (by omega))).mp c_179
                        omega
                    · have c_150 := (not_congr (n_lt (a := 0) (b := 1) rfl rfl (by omega) (by omega))).mp c_150
                      omega
                · refine r_iload rfl ?_
                  refine r_iconst ?_
                  refine r_icmp_lt (fun c_120 => ?_) (fun c_120 => ?_)
                  · have c_120 := (n_lt (a := 0) (b := 1) rfl rfl (by omega) (by omega)).mp c_120
                    refine E_go 10 rfl ?_
                    refine r_iload rfl ?_
                    refine r_ineg ?_
                    refine r_bipush ?_
                    refine r_icmp_ne (fun c_144 => ?_) (fun c_144 => ?_)
                    · refine E_go 13 rfl ?_
                      refine r_iload rfl ?_
                      refine r_iconst ?_
                      refine r_icmp_lt (fun c_179 => ?_) (fun c_179 => ?_)
                      · have c_179 := (n_lt (a := 0) (b := 2) rfl rfl (by omega) (by omega)).mp c_179
                        refine E_go 14 rfl ?_
                        refine r_iincN (y := io ((s + k) + 1)) (ls' := [_, _, _, _, _, _, _, _, _]) rfl (zt rfl) (n_add (a := (s + k)) (b := 1) rfl rfl) rfl ?_
                        refine r_goto ?_
                        refine ih (d - 1) (by omega) (k + 1) (by omega) ([]) _ _ _ _ ?_ ?_ ?_ ?_
                        · show _ = stp (I 27) (I (q + 1) (s + k)) (rn (I 27) (I (q + 1)) s k)
                          rw [← hst]
                          refine Eq.trans ?_ (show opw (I (q + 1) (s + k)) [] = _ from by first | exact (stp_o (Or.inl c_51) c_70).symm | exact (stp_o (Or.inr c_58) c_70).symm)
                          rfl
                        · simp only [List.length_cons, List.length_nil] at hl ⊢ <;> omega
                        · exact hK
                        · exact hJ
                      · have c_179 := (not_congr (n_lt (a := 0) (b := 2) rfl rfl (by omega) (by omega))).mp c_179
                        omega
                    · refine r_iload rfl ?_
                      refine r_iconst ?_
                      refine r_icmp_lt (fun c_150 => ?_) (fun c_150 => ?_)
                      · have c_150 := (n_lt (a := 0) (b := 1) rfl rfl (by omega) (by omega)).mp c_150
                        refine E_go 13 rfl ?_
                        refine r_iload rfl ?_
                        refine r_iconst ?_
                        refine r_icmp_lt (fun c_179 => ?_) (fun c_179 => ?_)
                        · have c_179 := (n_lt (a := 0) (b := 2) rfl rfl (by omega) (by omega)).mp c_179
                          refine E_go 14 rfl ?_
                          refine r_iincN (y := io ((s + k) + 1)) (ls' := [_, _, _, _, _, _, _, _, _]) rfl (zt rfl) (n_add (a := (s + k)) (b := 1) rfl rfl) rfl ?_
                          refine r_goto ?_
                          refine ih (d - 1) (by omega) (k + 1) (by omega) ([]) _ _ _ _ ?_ ?_ ?_ ?_
                          · show _ = stp (I 27) (I (q + 1) (s + k)) (rn (I 27) (I (q + 1)) s k)
                            rw [← hst]
                            refine Eq.trans ?_ (show opw (I (q + 1) (s + k)) [] = _ from by first | exact (stp_o (Or.inl c_51) c_70).symm | exact (stp_o (Or.inr c_58) c_70).symm)
                            rfl
                          · simp only [List.length_cons, List.length_nil] at hl ⊢ <;> omega
                          · exact hK
                          · exact hJ
                        · have c_179 := (not_congr (n_lt (a := 0) (b := 2) rfl rfl (by omega) (by omega))).mp c_179
                          omega
                      · have c_150 := (not_congr (n_lt (a := 0) (b := 1) rfl rfl (by omega) (by omega))).mp c_150
                        omega
                  · have c_120 := (not_congr (n_lt (a := 0) (b := 1) rfl rfl (by omega) (by omega))).mp c_120
                    omega
              · have c_75 := (not_congr (n_eq (a := 0) (b := 0) rfl rfl (by omega) (by omega))).mp c_75
                omega
          · refine r_iconst ?_
            refine r_goto ?_
            refine E_go 5 rfl ?_
            refine r_istore (ls' := [_, _, _, _, _, _, _, _, _]) (zt rfl) rfl ?_
            refine r_iload rfl ?_
            refine r_if_ge (fun c_70 => ?_) (fun c_70 => ?_)
            · refine E_go 6 rfl ?_
              refine r_iload rfl ?_
              refine r_aload_n rfl ?_
              refine r_alen (by decide) (by decide) (by decide) ?_
              refine r_icmp_ge (fun c_82 => ?_) (fun c_82 => ?_)
              · have c_82 := (n_le (a := 160) (b := 0) rfl rfl (by omega) (by omega)).mp c_82
                omega
              · have c_82 := (not_congr (n_le (a := 160) (b := 0) rfl rfl (by omega) (by omega))).mp c_82
                refine r_aload_n rfl ?_
                refine r_iload rfl ?_
                refine r_iload rfl ?_
                refine r_if_eq (fun c_90 => ?_) (fun c_90 => ?_)
                · have c_90 := (n_eq (a := 1) (b := 0) rfl rfl (by omega) (by omega)).mp c_90
                  omega
                · have c_90 := (not_congr (n_eq (a := 1) (b := 0) rfl rfl (by omega) (by omega))).mp c_90
                  obtain ⟨nk, hnk, enk⟩ := io_ex (n := 6) (Int32.not_lt.mp c_51) (Int32.not_le.mp c_58) (by omega)
                  refine r_aload_n rfl ?_
                  refine r_iload rfl ?_
                  refine r_iaload (by decide) rfl (by decide) (ixE enk (show nk < 6 by omega) (by decide)) (congrFun hV nk) ?_
                  refine r_goto ?_
                  refine E_go 8 rfl ?_
                  refine r_iastore rfl (by decide) (ixE rfl (show 0 < 160 by omega) (by decide)) ?_
                  refine r_iincN (y := io (0 + 1)) (ls' := [_, _, _, _, _, _, _, _, _]) rfl (zt rfl) (n_add (a := 0) (b := 1) rfl rfl) rfl ?_
                  refine r_goto ?_
                  refine E_go 14 rfl ?_
                  refine r_iincN (y := io ((s + k) + 1)) (ls' := [_, _, _, _, _, _, _, _, _]) rfl (zt rfl) (n_add (a := (s + k)) (b := 1) rfl rfl) rfl ?_
                  refine r_goto ?_
                  refine ih (d - 1) (by omega) (k + 1) (by omega) (I 27 nk :: []) _ _ _ _ ?_ ?_ ?_ ?_
                  · show _ = stp (I 27) (I (q + 1) (s + k)) (rn (I 27) (I (q + 1)) s k)
                    rw [← hst]
                    rw [stp_v c_51 c_58, show nmv (I (q + 1) (s + k)) = io nk from enk, io_nat (by omega)]
                  · simp only [List.length_cons, List.length_nil] at hl ⊢ <;> omega
                  · exact sk_push rfl hK
                  · exact hJ.up (by omega) (by omega)
            · refine r_iload rfl ?_
              refine r_if_eq (fun c_75 => ?_) (fun c_75 => ?_)
              · have c_75 := (n_eq (a := 1) (b := 0) rfl rfl (by omega) (by omega)).mp c_75
                omega
              · have c_75 := (not_congr (n_eq (a := 1) (b := 0) rfl rfl (by omega) (by omega))).mp c_75
                refine r_nil ?_
                refine E_go 6 rfl ?_
                refine r_iload rfl ?_
                refine r_aload_n rfl ?_
                refine r_alen (by decide) (by decide) (by decide) ?_
                refine r_icmp_ge (fun c_82 => ?_) (fun c_82 => ?_)
                · have c_82 := (n_le (a := 160) (b := 0) rfl rfl (by omega) (by omega)).mp c_82
                  omega
                · have c_82 := (not_congr (n_le (a := 160) (b := 0) rfl rfl (by omega) (by omega))).mp c_82
                  refine r_aload_n rfl ?_
                  refine r_iload rfl ?_
                  refine r_iload rfl ?_
                  refine r_if_eq (fun c_90 => ?_) (fun c_90 => ?_)
                  · have c_90 := (n_eq (a := 1) (b := 0) rfl rfl (by omega) (by omega)).mp c_90
                    omega
                  · have c_90 := (not_congr (n_eq (a := 1) (b := 0) rfl rfl (by omega) (by omega))).mp c_90
                    obtain ⟨nk, hnk, enk⟩ := io_ex (n := 6) (Int32.not_lt.mp c_51) (Int32.not_le.mp c_58) (by omega)
                    refine r_aload_n rfl ?_
                    refine r_iload rfl ?_
                    refine r_iaload (by decide) rfl (by decide) (ixE enk (show nk < 6 by omega) (by decide)) (congrFun hV nk) ?_
                    refine r_goto ?_
                    refine E_go 8 rfl ?_
                    refine r_iastore rfl (by decide) (ixE rfl (show 0 < 160 by omega) (by decide)) ?_
                    refine r_iincN (y := io (0 + 1)) (ls' := [_, _, _, _, _, _, _, _, _]) rfl (zt rfl) (n_add (a := 0) (b := 1) rfl rfl) rfl ?_
                    refine r_goto ?_
                    refine E_go 14 rfl ?_
                    refine r_iincN (y := io ((s + k) + 1)) (ls' := [_, _, _, _, _, _, _, _, _]) rfl (zt rfl) (n_add (a := (s + k)) (b := 1) rfl rfl) rfl ?_
                    refine r_goto ?_
                    refine ih (d - 1) (by omega) (k + 1) (by omega) (I 27 nk :: []) _ _ _ _ ?_ ?_ ?_ ?_
                    · show _ = stp (I 27) (I (q + 1) (s + k)) (rn (I 27) (I (q + 1)) s k)
                      rw [← hst]
                      rw [stp_v c_51 c_58, show nmv (I (q + 1) (s + k)) = io nk from enk, io_nat (by omega)]
                    · simp only [List.length_cons, List.length_nil] at hl ⊢ <;> omega
                    · exact sk_push rfl hK
                    · exact hJ.up (by omega) (by omega)
    · simp only [List.length_cons, List.length_nil] at hl
      refine E_go 3 rfl ?_
      refine r_iload rfl ?_
      refine r_aload_n rfl ?_
      refine r_getA (q := (q + 2)) (by decide) (txf1 hq) hq.1.1 hq.1.2.1 ?_
      refine r_iload_n rfl ?_
      refine r_iaload (by decide) hq.2.2.2.1 hq.2.2.2.2.2 (ixQ rfl (show 2 < 3 by omega) (by decide) hq.2.2.2.2.1) (he2 J hJ) ?_
      refine r_icmp_ge (fun c_29 => ?_) (fun c_29 => ?_)
      · have c_29 := (n_le (a := e) (b := (s + k)) rfl rfl (by omega) (by omega)).mp c_29
        refine E_go 15 rfl ?_
        refine r_iload rfl ?_
        refine r_if_le (fun c_215 => ?_) (fun c_215 => ?_)
        · have c_215 := (n_le (a := 1) (b := 0) rfl rfl (by omega) (by omega)).mp c_215
          omega
        · have c_215 := (not_congr (n_le (a := 1) (b := 0) rfl rfl (by omega) (by omega))).mp c_215
          refine r_aload_n rfl ?_
          refine r_iload rfl ?_
          refine r_iconst ?_
          refine r_isub ?_
          refine r_iaload (by decide) rfl (by decide) (ixE (n_sub (a := 1) (b := 1) rfl rfl (by omega)) (show (1 - 1) < 160 by omega) (by decide)) rfl ?_
          refine r_goto ?_
          refine E_go 17 rfl ?_
          refine r_iret rfl trivial ?_
          refine qi (hQ J hJ) ?_
          rw [show e - s = k by omega, ← hst]
          exact hK.1.symm
      · have c_29 := (not_congr (n_le (a := e) (b := (s + k)) rfl rfl (by omega) (by omega))).mp c_29
        refine r_aload_n rfl ?_
        refine r_getA (q := (q + 1)) (by decide) (txf0 hq) hq.1.1 hq.1.2.1 ?_
        refine r_iload rfl ?_
        refine r_iaload (by decide) hq.2.1.2.1 hq.2.1.2.2.2 (ixQ rfl (show (s + k) < 160 by omega) (by decide) hq.2.1.2.2.1) (congrFun hC (s + k)) ?_
        refine r_istore (ls' := [_, _, _, _, _, _, _, _, _]) (zt rfl) rfl ?_
        refine r_iload rfl ?_
        refine r_ineg ?_
        refine r_bipush ?_
        refine r_isub ?_
        refine r_istore (ls' := [_, _, _, _, _, _, _, _, _]) (zt rfl) rfl ?_
        refine r_iload rfl ?_
        refine r_if_lt (fun c_51 => ?_) (fun c_51 => ?_)
        · refine E_go 4 rfl ?_
          refine r_iconst ?_
          refine r_nil ?_
          refine E_go 5 rfl ?_
          refine r_istore (ls' := [_, _, _, _, _, _, _, _, _]) (zt rfl) rfl ?_
          refine r_iload rfl ?_
          refine r_if_ge (fun c_70 => ?_) (fun c_70 => ?_)
          · refine E_go 6 rfl ?_
            refine r_iload rfl ?_
            refine r_aload_n rfl ?_
            refine r_alen (by decide) (by decide) (by decide) ?_
            refine r_icmp_ge (fun c_82 => ?_) (fun c_82 => ?_)
            · have c_82 := (n_le (a := 160) (b := 1) rfl rfl (by omega) (by omega)).mp c_82
              omega
            · have c_82 := (not_congr (n_le (a := 160) (b := 1) rfl rfl (by omega) (by omega))).mp c_82
              refine r_aload_n rfl ?_
              refine r_iload rfl ?_
              refine r_iload rfl ?_
              refine r_if_eq (fun c_90 => ?_) (fun c_90 => ?_)
              · have c_90 := (n_eq (a := 0) (b := 0) rfl rfl (by omega) (by omega)).mp c_90
                refine E_go 7 rfl ?_
                refine r_iload rfl ?_
                refine r_nil ?_
                refine E_go 8 rfl ?_
                refine r_iastore rfl (by decide) (ixE rfl (show 1 < 160 by omega) (by decide)) ?_
                refine r_iincN (y := io (1 + 1)) (ls' := [_, _, _, _, _, _, _, _, _]) rfl (zt rfl) (n_add (a := 1) (b := 1) rfl rfl) rfl ?_
                refine r_goto ?_
                refine E_go 14 rfl ?_
                refine r_iincN (y := io ((s + k) + 1)) (ls' := [_, _, _, _, _, _, _, _, _]) rfl (zt rfl) (n_add (a := (s + k)) (b := 1) rfl rfl) rfl ?_
                refine r_goto ?_
                refine ih (d - 1) (by omega) (k + 1) (by omega) ((I (q + 1) (s + k)) :: [b]) _ _ _ _ ?_ ?_ ?_ ?_
                · show _ = stp (I 27) (I (q + 1) (s + k)) (rn (I 27) (I (q + 1)) s k)
                  rw [← hst]
                  first | exact (stp_w (Or.inl c_51) c_70).symm | exact (stp_w (Or.inr c_58) c_70).symm
                · simp only [List.length_cons, List.length_nil] at hl ⊢ <;> omega
                · exact sk_push rfl hK
                · exact hJ.up (by omega) (by omega)
              · have c_90 := (not_congr (n_eq (a := 0) (b := 0) rfl rfl (by omega) (by omega))).mp c_90
                omega
          · refine r_iload rfl ?_
            refine r_if_eq (fun c_75 => ?_) (fun c_75 => ?_)
            · have c_75 := (n_eq (a := 0) (b := 0) rfl rfl (by omega) (by omega)).mp c_75
              refine E_go 9 rfl ?_
              refine r_iload rfl ?_
              refine r_ineg ?_
              refine r_bipush ?_
              refine r_icmp_ne (fun c_114 => ?_) (fun c_114 => ?_)
              · refine E_go 10 rfl ?_
                refine r_iload rfl ?_
                refine r_ineg ?_
                refine r_bipush ?_
                refine r_icmp_ne (fun c_144 => ?_) (fun c_144 => ?_)
                · refine E_go 13 rfl ?_
                  refine r_iload rfl ?_
                  refine r_iconst ?_
                  refine r_icmp_lt (fun c_179 => ?_) (fun c_179 => ?_)
                  · have c_179 := (n_lt (a := 1) (b := 2) rfl rfl (by omega) (by omega)).mp c_179
                    refine E_go 14 rfl ?_
                    refine r_iincN (y := io ((s + k) + 1)) (ls' := [_, _, _, _, _, _, _, _, _]) rfl (zt rfl) (n_add (a := (s + k)) (b := 1) rfl rfl) rfl ?_
                    refine r_goto ?_
                    refine ih (d - 1) (by omega) (k + 1) (by omega) ([b]) _ _ _ _ ?_ ?_ ?_ ?_
                    · show _ = stp (I 27) (I (q + 1) (s + k)) (rn (I 27) (I (q + 1)) s k)
                      rw [← hst]
                      refine Eq.trans ?_ (show opw (I (q + 1) (s + k)) [b] = _ from by first | exact (stp_o (Or.inl c_51) c_70).symm | exact (stp_o (Or.inr c_58) c_70).symm)
                      rw [opw, if_neg c_114, if_neg c_144]
                    · simp only [List.length_cons, List.length_nil] at hl ⊢ <;> omega
                    · exact hK
                    · exact hJ
                  · have c_179 := (not_congr (n_lt (a := 1) (b := 2) rfl rfl (by omega) (by omega))).mp c_179
                    omega
                · refine r_iload rfl ?_
                  refine r_iconst ?_
                  refine r_icmp_lt (fun c_150 => ?_) (fun c_150 => ?_)
                  · have c_150 := (n_lt (a := 1) (b := 1) rfl rfl (by omega) (by omega)).mp c_150
                    omega
                  · have c_150 := (not_congr (n_lt (a := 1) (b := 1) rfl rfl (by omega) (by omega))).mp c_150
                    refine r_aload_n rfl ?_
                    refine r_iload rfl ?_
                    refine r_iconst ?_
                    refine r_isub ?_
                    refine r_aload_n rfl ?_
                    refine r_iload rfl ?_
                    refine r_iconst ?_
                    refine r_isub ?_
                    refine r_iaload (by decide) rfl (by decide) (ixE (n_sub (a := 1) (b := 1) rfl rfl (by omega)) (show (1 - 1) < 160 by omega) (by decide)) hK.1 ?_
                    refine r_if_ne (fun c_164 => ?_) (fun c_164 => ?_)
                    · refine E_go 11 rfl ?_
                      refine r_iconst ?_
                      refine r_nil ?_
                      refine E_go 12 rfl ?_
                      refine r_iastore rfl (by decide) (ixE (n_sub (a := 1) (b := 1) rfl rfl (by omega)) (show (1 - 1) < 160 by omega) (by decide)) ?_
                      refine r_goto ?_
                      refine E_go 14 rfl ?_
                      refine r_iincN (y := io ((s + k) + 1)) (ls' := [_, _, _, _, _, _, _, _, _]) rfl (zt rfl) (n_add (a := (s + k)) (b := 1) rfl rfl) rfl ?_
                      refine r_goto ?_
                      refine ih (d - 1) (by omega) (k + 1) (by omega) (0 :: []) _ _ _ _ ?_ ?_ ?_ ?_
                      · show _ = stp (I 27) (I (q + 1) (s + k)) (rn (I 27) (I (q + 1)) s k)
                        rw [← hst]
                        refine Eq.trans ?_ (show opw (I (q + 1) (s + k)) [b] = _ from by first | exact (stp_o (Or.inl c_51) c_70).symm | exact (stp_o (Or.inr c_58) c_70).symm)
                        rw [opw, if_neg c_114, if_pos c_144, if_neg c_164]
                      · simp only [List.length_cons, List.length_nil] at hl ⊢ <;> omega
                      · exact sk_push rfl hK.2
                      · exact hJ.up (by omega) (by omega)
                    · refine r_iconst ?_
                      refine r_goto ?_
                      refine E_go 12 rfl ?_
                      refine r_iastore rfl (by decide) (ixE (n_sub (a := 1) (b := 1) rfl rfl (by omega)) (show (1 - 1) < 160 by omega) (by decide)) ?_
                      refine r_goto ?_
                      refine E_go 14 rfl ?_
                      refine r_iincN (y := io ((s + k) + 1)) (ls' := [_, _, _, _, _, _, _, _, _]) rfl (zt rfl) (n_add (a := (s + k)) (b := 1) rfl rfl) rfl ?_
                      refine r_goto ?_
                      refine ih (d - 1) (by omega) (k + 1) (by omega) (1 :: []) _ _ _ _ ?_ ?_ ?_ ?_
                      · show _ = stp (I 27) (I (q + 1) (s + k)) (rn (I 27) (I (q + 1)) s k)
                        rw [← hst]
                        refine Eq.trans ?_ (show opw (I (q + 1) (s + k)) [b] = _ from by first | exact (stp_o (Or.inl c_51) c_70).symm | exact (stp_o (Or.inr c_58) c_70).symm)
                        rw [opw, if_neg c_114, if_pos c_144, if_pos c_164]
                      · simp only [List.length_cons, List.length_nil] at hl ⊢ <;> omega
                      · exact sk_push rfl hK.2
                      · exact hJ.up (by omega) (by omega)
              · refine r_iload rfl ?_
                refine r_iconst ?_
                refine r_icmp_lt (fun c_120 => ?_) (fun c_120 => ?_)
                · have c_120 := (n_lt (a := 1) (b := 1) rfl rfl (by omega) (by omega)).mp c_120
                  omega
                · have c_120 := (not_congr (n_lt (a := 1) (b := 1) rfl rfl (by omega) (by omega))).mp c_120
                  refine r_aload_n rfl ?_
                  refine r_iload rfl ?_
                  refine r_iconst ?_
                  refine r_isub ?_
                  refine r_aload_n rfl ?_
                  refine r_iload rfl ?_
                  refine r_iconst ?_
                  refine r_isub ?_
                  refine r_iaload (by decide) rfl (by decide) (ixE (n_sub (a := 1) (b := 1) rfl rfl (by omega)) (show (1 - 1) < 160 by omega) (by decide)) hK.1 ?_
                  refine r_ineg ?_
                  refine r_iastore rfl (by decide) (ixE (n_sub (a := 1) (b := 1) rfl rfl (by omega)) (show (1 - 1) < 160 by omega) (by decide)) ?_
                  refine r_goto ?_
                  refine E_go 14 rfl ?_
                  refine r_iincN (y := io ((s + k) + 1)) (ls' := [_, _, _, _, _, _, _, _, _]) rfl (zt rfl) (n_add (a := (s + k)) (b := 1) rfl rfl) rfl ?_
                  refine r_goto ?_
                  refine ih (d - 1) (by omega) (k + 1) (by omega) ((-b) :: []) _ _ _ _ ?_ ?_ ?_ ?_
                  · show _ = stp (I 27) (I (q + 1) (s + k)) (rn (I 27) (I (q + 1)) s k)
                    rw [← hst]
                    refine Eq.trans ?_ (show opw (I (q + 1) (s + k)) [b] = _ from by first | exact (stp_o (Or.inl c_51) c_70).symm | exact (stp_o (Or.inr c_58) c_70).symm)
                    exact (if_pos c_114).symm
                  · simp only [List.length_cons, List.length_nil] at hl ⊢ <;> omega
                  · exact sk_push rfl hK.2
                  · exact hJ.up (by omega) (by omega)
            · have c_75 := (not_congr (n_eq (a := 0) (b := 0) rfl rfl (by omega) (by omega))).mp c_75
              omega
        · refine r_iload rfl ?_
          refine r_bipush ?_
          refine r_icmp_ge (fun c_58 => ?_) (fun c_58 => ?_)
          · refine E_go 4 rfl ?_
            refine r_iconst ?_
            refine r_nil ?_
            refine E_go 5 rfl ?_
            refine r_istore (ls' := [_, _, _, _, _, _, _, _, _]) (zt rfl) rfl ?_
            refine r_iload rfl ?_
            refine r_if_ge (fun c_70 => ?_) (fun c_70 => ?_)
            · refine E_go 6 rfl ?_
              refine r_iload rfl ?_
              refine r_aload_n rfl ?_
              refine r_alen (by decide) (by decide) (by decide) ?_
              refine r_icmp_ge (fun c_82 => ?_) (fun c_82 => ?_)
              · have c_82 := (n_le (a := 160) (b := 1) rfl rfl (by omega) (by omega)).mp c_82
                omega
              · have c_82 := (not_congr (n_le (a := 160) (b := 1) rfl rfl (by omega) (by omega))).mp c_82
                refine r_aload_n rfl ?_
                refine r_iload rfl ?_
                refine r_iload rfl ?_
                refine r_if_eq (fun c_90 => ?_) (fun c_90 => ?_)
                · have c_90 := (n_eq (a := 0) (b := 0) rfl rfl (by omega) (by omega)).mp c_90
                  refine E_go 7 rfl ?_
                  refine r_iload rfl ?_
                  refine r_nil ?_
                  refine E_go 8 rfl ?_
                  refine r_iastore rfl (by decide) (ixE rfl (show 1 < 160 by omega) (by decide)) ?_
                  refine r_iincN (y := io (1 + 1)) (ls' := [_, _, _, _, _, _, _, _, _]) rfl (zt rfl) (n_add (a := 1) (b := 1) rfl rfl) rfl ?_
                  refine r_goto ?_
                  refine E_go 14 rfl ?_
                  refine r_iincN (y := io ((s + k) + 1)) (ls' := [_, _, _, _, _, _, _, _, _]) rfl (zt rfl) (n_add (a := (s + k)) (b := 1) rfl rfl) rfl ?_
                  refine r_goto ?_
                  refine ih (d - 1) (by omega) (k + 1) (by omega) ((I (q + 1) (s + k)) :: [b]) _ _ _ _ ?_ ?_ ?_ ?_
                  · show _ = stp (I 27) (I (q + 1) (s + k)) (rn (I 27) (I (q + 1)) s k)
                    rw [← hst]
                    first | exact (stp_w (Or.inl c_51) c_70).symm | exact (stp_w (Or.inr c_58) c_70).symm
                  · simp only [List.length_cons, List.length_nil] at hl ⊢ <;> omega
                  · exact sk_push rfl hK
                  · exact hJ.up (by omega) (by omega)
                · have c_90 := (not_congr (n_eq (a := 0) (b := 0) rfl rfl (by omega) (by omega))).mp c_90
                  omega
            · refine r_iload rfl ?_
              refine r_if_eq (fun c_75 => ?_) (fun c_75 => ?_)
              · have c_75 := (n_eq (a := 0) (b := 0) rfl rfl (by omega) (by omega)).mp c_75
                refine E_go 9 rfl ?_
                refine r_iload rfl ?_
                refine r_ineg ?_
                refine r_bipush ?_
                refine r_icmp_ne (fun c_114 => ?_) (fun c_114 => ?_)
                · refine E_go 10 rfl ?_
                  refine r_iload rfl ?_
                  refine r_ineg ?_
                  refine r_bipush ?_
                  refine r_icmp_ne (fun c_144 => ?_) (fun c_144 => ?_)
                  · refine E_go 13 rfl ?_
                    refine r_iload rfl ?_
                    refine r_iconst ?_
                    refine r_icmp_lt (fun c_179 => ?_) (fun c_179 => ?_)
                    · have c_179 := (n_lt (a := 1) (b := 2) rfl rfl (by omega) (by omega)).mp c_179
                      refine E_go 14 rfl ?_
                      refine r_iincN (y := io ((s + k) + 1)) (ls' := [_, _, _, _, _, _, _, _, _]) rfl (zt rfl) (n_add (a := (s + k)) (b := 1) rfl rfl) rfl ?_
                      refine r_goto ?_
                      refine ih (d - 1) (by omega) (k + 1) (by omega) ([b]) _ _ _ _ ?_ ?_ ?_ ?_
                      · show _ = stp (I 27) (I (q + 1) (s + k)) (rn (I 27) (I (q + 1)) s k)
                        rw [← hst]
                        refine Eq.trans ?_ (show opw (I (q + 1) (s + k)) [b] = _ from by first | exact (stp_o (Or.inl c_51) c_70).symm | exact (stp_o (Or.inr c_58) c_70).symm)
                        rw [opw, if_neg c_114, if_neg c_144]
                      · simp only [List.length_cons, List.length_nil] at hl ⊢ <;> omega
                      · exact hK
                      · exact hJ
                    · have c_179 := (not_congr (n_lt (a := 1) (b := 2) rfl rfl (by omega) (by omega))).mp c_179
                      omega
                  · refine r_iload rfl ?_
                    refine r_iconst ?_
                    refine r_icmp_lt (fun c_150 => ?_) (fun c_150 => ?_)
                    · have c_150 := (n_lt (a := 1) (b := 1) rfl rfl (by omega) (by omega)).mp c_150
                      omega
                    · have c_150 := (not_congr (n_lt (a := 1) (b := 1) rfl rfl (by omega) (by omega))).mp c_150
                      refine r_aload_n rfl ?_
                      refine r_iload rfl ?_
                      refine r_iconst ?_
                      refine r_isub ?_
                      refine r_aload_n rfl ?_
                      refine r_iload rfl ?_
                      refine r_iconst ?_
                      refine r_isub ?_
                      refine r_iaload (by decide) rfl (by decide) (ixE (n_sub (a := 1) (b := 1) rfl rfl (by omega)) (show (1 - 1) < 160 by omega) (by decide)) hK.1 ?_
                      refine r_if_ne (fun c_164 => ?_) (fun c_164 => ?_)
                      · refine E_go 11 rfl ?_
                        refine r_iconst ?_
                        refine r_nil ?_
                        refine E_go 12 rfl ?_
                        refine r_iastore rfl (by decide) (ixE (n_sub (a := 1) (b := 1) rfl rfl (by omega)) (show (1 - 1) < 160 by omega) (by decide)) ?_
                        refine r_goto ?_
                        refine E_go 14 rfl ?_
                        refine r_iincN (y := io ((s + k) + 1)) (ls' := [_, _, _, _, _, _, _, _, _]) rfl (zt rfl) (n_add (a := (s + k)) (b := 1) rfl rfl) rfl ?_
                        refine r_goto ?_
                        refine ih (d - 1) (by omega) (k + 1) (by omega) (0 :: []) _ _ _ _ ?_ ?_ ?_ ?_
                        · show _ = stp (I 27) (I (q + 1) (s + k)) (rn (I 27) (I (q + 1)) s k)
                          rw [← hst]
                          refine Eq.trans ?_ (show opw (I (q + 1) (s + k)) [b] = _ from by first | exact (stp_o (Or.inl c_51) c_70).symm | exact (stp_o (Or.inr c_58) c_70).symm)
                          rw [opw, if_neg c_114, if_pos c_144, if_neg c_164]
                        · simp only [List.length_cons, List.length_nil] at hl ⊢ <;> omega
                        · exact sk_push rfl hK.2
                        · exact hJ.up (by omega) (by omega)
                      · refine r_iconst ?_
                        refine r_goto ?_
                        refine E_go 12 rfl ?_
                        refine r_iastore rfl (by decide) (ixE (n_sub (a := 1) (b := 1) rfl rfl (by omega)) (show (1 - 1) < 160 by omega) (by decide)) ?_
                        refine r_goto ?_
                        refine E_go 14 rfl ?_
                        refine r_iincN (y := io ((s + k) + 1)) (ls' := [_, _, _, _, _, _, _, _, _]) rfl (zt rfl) (n_add (a := (s + k)) (b := 1) rfl rfl) rfl ?_
                        refine r_goto ?_
                        refine ih (d - 1) (by omega) (k + 1) (by omega) (1 :: []) _ _ _ _ ?_ ?_ ?_ ?_
                        · show _ = stp (I 27) (I (q + 1) (s + k)) (rn (I 27) (I (q + 1)) s k)
                          rw [← hst]
                          refine Eq.trans ?_ (show opw (I (q + 1) (s + k)) [b] = _ from by first | exact (stp_o (Or.inl c_51) c_70).symm | exact (stp_o (Or.inr c_58) c_70).symm)
                          rw [opw, if_neg c_114, if_pos c_144, if_pos c_164]
                        · simp only [List.length_cons, List.length_nil] at hl ⊢ <;> omega
                        · exact sk_push rfl hK.2
                        · exact hJ.up (by omega) (by omega)
                · refine r_iload rfl ?_
                  refine r_iconst ?_
                  refine r_icmp_lt (fun c_120 => ?_) (fun c_120 => ?_)
                  · have c_120 := (n_lt (a := 1) (b := 1) rfl rfl (by omega) (by omega)).mp c_120
                    omega
                  · have c_120 := (not_congr (n_lt (a := 1) (b := 1) rfl rfl (by omega) (by omega))).mp c_120
                    refine r_aload_n rfl ?_
                    refine r_iload rfl ?_
                    refine r_iconst ?_
                    refine r_isub ?_
                    refine r_aload_n rfl ?_
                    refine r_iload rfl ?_
                    refine r_iconst ?_
                    refine r_isub ?_
                    refine r_iaload (by decide) rfl (by decide) (ixE (n_sub (a := 1) (b := 1) rfl rfl (by omega)) (show (1 - 1) < 160 by omega) (by decide)) hK.1 ?_
                    refine r_ineg ?_
                    refine r_iastore rfl (by decide) (ixE (n_sub (a := 1) (b := 1) rfl rfl (by omega)) (show (1 - 1) < 160 by omega) (by decide)) ?_
                    refine r_goto ?_
                    refine E_go 14 rfl ?_
                    refine r_iincN (y := io ((s + k) + 1)) (ls' := [_, _, _, _, _, _, _, _, _]) rfl (zt rfl) (n_add (a := (s + k)) (b := 1) rfl rfl) rfl ?_
                    refine r_goto ?_
                    refine ih (d - 1) (by omega) (k + 1) (by omega) ((-b) :: []) _ _ _ _ ?_ ?_ ?_ ?_
                    · show _ = stp (I 27) (I (q + 1) (s + k)) (rn (I 27) (I (q + 1)) s k)
                      rw [← hst]
                      refine Eq.trans ?_ (show opw (I (q + 1) (s + k)) [b] = _ from by first | exact (stp_o (Or.inl c_51) c_70).symm | exact (stp_o (Or.inr c_58) c_70).symm)
                      exact (if_pos c_114).symm
                    · simp only [List.length_cons, List.length_nil] at hl ⊢ <;> omega
                    · exact sk_push rfl hK.2
                    · exact hJ.up (by omega) (by omega)
              · have c_75 := (not_congr (n_eq (a := 0) (b := 0) rfl rfl (by omega) (by omega))).mp c_75
                omega
          · refine r_iconst ?_
            refine r_goto ?_
            refine E_go 5 rfl ?_
            refine r_istore (ls' := [_, _, _, _, _, _, _, _, _]) (zt rfl) rfl ?_
            refine r_iload rfl ?_
            refine r_if_ge (fun c_70 => ?_) (fun c_70 => ?_)
            · refine E_go 6 rfl ?_
              refine r_iload rfl ?_
              refine r_aload_n rfl ?_
              refine r_alen (by decide) (by decide) (by decide) ?_
              refine r_icmp_ge (fun c_82 => ?_) (fun c_82 => ?_)
              · have c_82 := (n_le (a := 160) (b := 1) rfl rfl (by omega) (by omega)).mp c_82
                omega
              · have c_82 := (not_congr (n_le (a := 160) (b := 1) rfl rfl (by omega) (by omega))).mp c_82
                refine r_aload_n rfl ?_
                refine r_iload rfl ?_
                refine r_iload rfl ?_
                refine r_if_eq (fun c_90 => ?_) (fun c_90 => ?_)
                · have c_90 := (n_eq (a := 1) (b := 0) rfl rfl (by omega) (by omega)).mp c_90
                  omega
                · have c_90 := (not_congr (n_eq (a := 1) (b := 0) rfl rfl (by omega) (by omega))).mp c_90
                  obtain ⟨nk, hnk, enk⟩ := io_ex (n := 6) (Int32.not_lt.mp c_51) (Int32.not_le.mp c_58) (by omega)
                  refine r_aload_n rfl ?_
                  refine r_iload rfl ?_
                  refine r_iaload (by decide) rfl (by decide) (ixE enk (show nk < 6 by omega) (by decide)) (congrFun hV nk) ?_
                  refine r_goto ?_
                  refine E_go 8 rfl ?_
                  refine r_iastore rfl (by decide) (ixE rfl (show 1 < 160 by omega) (by decide)) ?_
                  refine r_iincN (y := io (1 + 1)) (ls' := [_, _, _, _, _, _, _, _, _]) rfl (zt rfl) (n_add (a := 1) (b := 1) rfl rfl) rfl ?_
                  refine r_goto ?_
                  refine E_go 14 rfl ?_
                  refine r_iincN (y := io ((s + k) + 1)) (ls' := [_, _, _, _, _, _, _, _, _]) rfl (zt rfl) (n_add (a := (s + k)) (b := 1) rfl rfl) rfl ?_
                  refine r_goto ?_
                  refine ih (d - 1) (by omega) (k + 1) (by omega) (I 27 nk :: [b]) _ _ _ _ ?_ ?_ ?_ ?_
                  · show _ = stp (I 27) (I (q + 1) (s + k)) (rn (I 27) (I (q + 1)) s k)
                    rw [← hst]
                    rw [stp_v c_51 c_58, show nmv (I (q + 1) (s + k)) = io nk from enk, io_nat (by omega)]
                  · simp only [List.length_cons, List.length_nil] at hl ⊢ <;> omega
                  · exact sk_push rfl hK
                  · exact hJ.up (by omega) (by omega)
            · refine r_iload rfl ?_
              refine r_if_eq (fun c_75 => ?_) (fun c_75 => ?_)
              · have c_75 := (n_eq (a := 1) (b := 0) rfl rfl (by omega) (by omega)).mp c_75
                omega
              · have c_75 := (not_congr (n_eq (a := 1) (b := 0) rfl rfl (by omega) (by omega))).mp c_75
                refine r_nil ?_
                refine E_go 6 rfl ?_
                refine r_iload rfl ?_
                refine r_aload_n rfl ?_
                refine r_alen (by decide) (by decide) (by decide) ?_
                refine r_icmp_ge (fun c_82 => ?_) (fun c_82 => ?_)
                · have c_82 := (n_le (a := 160) (b := 1) rfl rfl (by omega) (by omega)).mp c_82
                  omega
                · have c_82 := (not_congr (n_le (a := 160) (b := 1) rfl rfl (by omega) (by omega))).mp c_82
                  refine r_aload_n rfl ?_
                  refine r_iload rfl ?_
                  refine r_iload rfl ?_
                  refine r_if_eq (fun c_90 => ?_) (fun c_90 => ?_)
                  · have c_90 := (n_eq (a := 1) (b := 0) rfl rfl (by omega) (by omega)).mp c_90
                    omega
                  · have c_90 := (not_congr (n_eq (a := 1) (b := 0) rfl rfl (by omega) (by omega))).mp c_90
                    obtain ⟨nk, hnk, enk⟩ := io_ex (n := 6) (Int32.not_lt.mp c_51) (Int32.not_le.mp c_58) (by omega)
                    refine r_aload_n rfl ?_
                    refine r_iload rfl ?_
                    refine r_iaload (by decide) rfl (by decide) (ixE enk (show nk < 6 by omega) (by decide)) (congrFun hV nk) ?_
                    refine r_goto ?_
                    refine E_go 8 rfl ?_
                    refine r_iastore rfl (by decide) (ixE rfl (show 1 < 160 by omega) (by decide)) ?_
                    refine r_iincN (y := io (1 + 1)) (ls' := [_, _, _, _, _, _, _, _, _]) rfl (zt rfl) (n_add (a := 1) (b := 1) rfl rfl) rfl ?_
                    refine r_goto ?_
                    refine E_go 14 rfl ?_
                    refine r_iincN (y := io ((s + k) + 1)) (ls' := [_, _, _, _, _, _, _, _, _]) rfl (zt rfl) (n_add (a := (s + k)) (b := 1) rfl rfl) rfl ?_
                    refine r_goto ?_
                    refine ih (d - 1) (by omega) (k + 1) (by omega) (I 27 nk :: [b]) _ _ _ _ ?_ ?_ ?_ ?_
                    · show _ = stp (I 27) (I (q + 1) (s + k)) (rn (I 27) (I (q + 1)) s k)
                      rw [← hst]
                      rw [stp_v c_51 c_58, show nmv (I (q + 1) (s + k)) = io nk from enk, io_nat (by omega)]
                    · simp only [List.length_cons, List.length_nil] at hl ⊢ <;> omega
                    · exact sk_push rfl hK
                    · exact hJ.up (by omega) (by omega)
    · simp only [List.length_cons, List.length_nil] at hl
      refine E_go 3 rfl ?_
      refine r_iload rfl ?_
      refine r_aload_n rfl ?_
      refine r_getA (q := (q + 2)) (by decide) (txf1 hq) hq.1.1 hq.1.2.1 ?_
      refine r_iload_n rfl ?_
      refine r_iaload (by decide) hq.2.2.2.1 hq.2.2.2.2.2 (ixQ rfl (show 2 < 3 by omega) (by decide) hq.2.2.2.2.1) (he2 J hJ) ?_
      refine r_icmp_ge (fun c_29 => ?_) (fun c_29 => ?_)
      · have c_29 := (n_le (a := e) (b := (s + k)) rfl rfl (by omega) (by omega)).mp c_29
        refine E_go 15 rfl ?_
        refine r_iload rfl ?_
        refine r_if_le (fun c_215 => ?_) (fun c_215 => ?_)
        · have c_215 := (n_le (a := (st.length + 2)) (b := 0) rfl rfl (by omega) (by omega)).mp c_215
          omega
        · have c_215 := (not_congr (n_le (a := (st.length + 2)) (b := 0) rfl rfl (by omega) (by omega))).mp c_215
          refine r_aload_n rfl ?_
          refine r_iload rfl ?_
          refine r_iconst ?_
          refine r_isub ?_
          refine r_iaload (by decide) rfl (by decide) (ixE (n_sub (a := (st.length + 2)) (b := 1) rfl rfl (by omega)) (show ((st.length + 2) - 1) < 160 by omega) (by decide)) rfl ?_
          refine r_goto ?_
          refine E_go 17 rfl ?_
          refine r_iret rfl trivial ?_
          refine qi (hQ J hJ) ?_
          rw [show e - s = k by omega, ← hst]
          exact hK.1.symm
      · have c_29 := (not_congr (n_le (a := e) (b := (s + k)) rfl rfl (by omega) (by omega))).mp c_29
        refine r_aload_n rfl ?_
        refine r_getA (q := (q + 1)) (by decide) (txf0 hq) hq.1.1 hq.1.2.1 ?_
        refine r_iload rfl ?_
        refine r_iaload (by decide) hq.2.1.2.1 hq.2.1.2.2.2 (ixQ rfl (show (s + k) < 160 by omega) (by decide) hq.2.1.2.2.1) (congrFun hC (s + k)) ?_
        refine r_istore (ls' := [_, _, _, _, _, _, _, _, _]) (zt rfl) rfl ?_
        refine r_iload rfl ?_
        refine r_ineg ?_
        refine r_bipush ?_
        refine r_isub ?_
        refine r_istore (ls' := [_, _, _, _, _, _, _, _, _]) (zt rfl) rfl ?_
        refine r_iload rfl ?_
        refine r_if_lt (fun c_51 => ?_) (fun c_51 => ?_)
        · refine E_go 4 rfl ?_
          refine r_iconst ?_
          refine r_nil ?_
          refine E_go 5 rfl ?_
          refine r_istore (ls' := [_, _, _, _, _, _, _, _, _]) (zt rfl) rfl ?_
          refine r_iload rfl ?_
          refine r_if_ge (fun c_70 => ?_) (fun c_70 => ?_)
          · refine E_go 6 rfl ?_
            refine r_iload rfl ?_
            refine r_aload_n rfl ?_
            refine r_alen (by decide) (by decide) (by decide) ?_
            refine r_icmp_ge (fun c_82 => ?_) (fun c_82 => ?_)
            · have c_82 := (n_le (a := 160) (b := (st.length + 2)) rfl rfl (by omega) (by omega)).mp c_82
              omega
            · have c_82 := (not_congr (n_le (a := 160) (b := (st.length + 2)) rfl rfl (by omega) (by omega))).mp c_82
              refine r_aload_n rfl ?_
              refine r_iload rfl ?_
              refine r_iload rfl ?_
              refine r_if_eq (fun c_90 => ?_) (fun c_90 => ?_)
              · have c_90 := (n_eq (a := 0) (b := 0) rfl rfl (by omega) (by omega)).mp c_90
                refine E_go 7 rfl ?_
                refine r_iload rfl ?_
                refine r_nil ?_
                refine E_go 8 rfl ?_
                refine r_iastore rfl (by decide) (ixE rfl (show (st.length + 2) < 160 by omega) (by decide)) ?_
                refine r_iincN (y := io ((st.length + 2) + 1)) (ls' := [_, _, _, _, _, _, _, _, _]) rfl (zt rfl) (n_add (a := (st.length + 2)) (b := 1) rfl rfl) rfl ?_
                refine r_goto ?_
                refine E_go 14 rfl ?_
                refine r_iincN (y := io ((s + k) + 1)) (ls' := [_, _, _, _, _, _, _, _, _]) rfl (zt rfl) (n_add (a := (s + k)) (b := 1) rfl rfl) rfl ?_
                refine r_goto ?_
                refine ih (d - 1) (by omega) (k + 1) (by omega) ((I (q + 1) (s + k)) :: (b :: a :: st)) _ _ _ _ ?_ ?_ ?_ ?_
                · show _ = stp (I 27) (I (q + 1) (s + k)) (rn (I 27) (I (q + 1)) s k)
                  rw [← hst]
                  first | exact (stp_w (Or.inl c_51) c_70).symm | exact (stp_w (Or.inr c_58) c_70).symm
                · simp only [List.length_cons, List.length_nil] at hl ⊢ <;> omega
                · exact sk_push rfl hK
                · exact hJ.up (by omega) (by omega)
              · have c_90 := (not_congr (n_eq (a := 0) (b := 0) rfl rfl (by omega) (by omega))).mp c_90
                omega
          · refine r_iload rfl ?_
            refine r_if_eq (fun c_75 => ?_) (fun c_75 => ?_)
            · have c_75 := (n_eq (a := 0) (b := 0) rfl rfl (by omega) (by omega)).mp c_75
              refine E_go 9 rfl ?_
              refine r_iload rfl ?_
              refine r_ineg ?_
              refine r_bipush ?_
              refine r_icmp_ne (fun c_114 => ?_) (fun c_114 => ?_)
              · refine E_go 10 rfl ?_
                refine r_iload rfl ?_
                refine r_ineg ?_
                refine r_bipush ?_
                refine r_icmp_ne (fun c_144 => ?_) (fun c_144 => ?_)
                · refine E_go 13 rfl ?_
                  refine r_iload rfl ?_
                  refine r_iconst ?_
                  refine r_icmp_lt (fun c_179 => ?_) (fun c_179 => ?_)
                  · have c_179 := (n_lt (a := (st.length + 2)) (b := 2) rfl rfl (by omega) (by omega)).mp c_179
                    omega
                  · have c_179 := (not_congr (n_lt (a := (st.length + 2)) (b := 2) rfl rfl (by omega) (by omega))).mp c_179
                    refine r_iincN (y := io ((st.length + 2) - 1)) (ls' := [_, _, _, _, _, _, _, _, _]) rfl (zt rfl) (n_dec (a := (st.length + 2)) (b := 1) rfl rfl (by omega)) rfl ?_
                    refine r_aload_n rfl ?_
                    refine r_iload rfl ?_
                    refine r_iconst ?_
                    refine r_isub ?_
                    refine r_iload rfl ?_
                    refine r_ineg ?_
                    refine r_aload_n rfl ?_
                    refine r_iload rfl ?_
                    refine r_iconst ?_
                    refine r_isub ?_
                    refine r_iaload (by decide) rfl (by decide) (ixE (n_sub (a := ((st.length + 2) - 1)) (b := 1) rfl rfl (by omega)) (show (((st.length + 2) - 1) - 1) < 160 by omega) (by decide)) hK.2.1 ?_
                    refine r_aload_n rfl ?_
                    refine r_iload rfl ?_
                    refine r_iaload (by decide) rfl (by decide) (ixE rfl (show ((st.length + 2) - 1) < 160 by omega) (by decide)) hK.1 ?_
                    refine r_static (vs := [_, _, _]) (by decide) (zl rfl) rfl rfl (zl rfl) (Nat.le_refl _) rfl ?_
                    refine s_X5_joined (by omega) ?_
                    refine r_iastore rfl (by decide) (ixE (n_sub (a := ((st.length + 2) - 1)) (b := 1) rfl rfl (by omega)) (show (((st.length + 2) - 1) - 1) < 160 by omega) (by decide)) ?_
                    refine r_nil ?_
                    refine E_go 14 rfl ?_
                    refine r_iincN (y := io ((s + k) + 1)) (ls' := [_, _, _, _, _, _, _, _, _]) rfl (zt rfl) (n_add (a := (s + k)) (b := 1) rfl rfl) rfl ?_
                    refine r_goto ?_
                    refine ih (d - 1) (by omega) (k + 1) (by omega) (jn (-(I (q + 1) (s + k))) a b :: st) _ _ _ _ ?_ ?_ ?_ ?_
                    · show _ = stp (I 27) (I (q + 1) (s + k)) (rn (I 27) (I (q + 1)) s k)
                      rw [← hst]
                      refine Eq.trans ?_ (show opw (I (q + 1) (s + k)) (b :: a :: st) = _ from by first | exact (stp_o (Or.inl c_51) c_70).symm | exact (stp_o (Or.inr c_58) c_70).symm)
                      rw [opw, if_neg c_114, if_neg c_144]
                    · simp only [List.length_cons, List.length_nil] at hl ⊢ <;> omega
                    · exact sk_push rfl hK.2.2
                    · exact hJ.up (by omega) (by omega)
                · refine r_iload rfl ?_
                  refine r_iconst ?_
                  refine r_icmp_lt (fun c_150 => ?_) (fun c_150 => ?_)
                  · have c_150 := (n_lt (a := (st.length + 2)) (b := 1) rfl rfl (by omega) (by omega)).mp c_150
                    omega
                  · have c_150 := (not_congr (n_lt (a := (st.length + 2)) (b := 1) rfl rfl (by omega) (by omega))).mp c_150
                    refine r_aload_n rfl ?_
                    refine r_iload rfl ?_
                    refine r_iconst ?_
                    refine r_isub ?_
                    refine r_aload_n rfl ?_
                    refine r_iload rfl ?_
                    refine r_iconst ?_
                    refine r_isub ?_
                    refine r_iaload (by decide) rfl (by decide) (ixE (n_sub (a := (st.length + 2)) (b := 1) rfl rfl (by omega)) (show ((st.length + 2) - 1) < 160 by omega) (by decide)) hK.1 ?_
                    refine r_if_ne (fun c_164 => ?_) (fun c_164 => ?_)
                    · refine E_go 11 rfl ?_
                      refine r_iconst ?_
                      refine r_nil ?_
                      refine E_go 12 rfl ?_
                      refine r_iastore rfl (by decide) (ixE (n_sub (a := (st.length + 2)) (b := 1) rfl rfl (by omega)) (show ((st.length + 2) - 1) < 160 by omega) (by decide)) ?_
                      refine r_goto ?_
                      refine E_go 14 rfl ?_
                      refine r_iincN (y := io ((s + k) + 1)) (ls' := [_, _, _, _, _, _, _, _, _]) rfl (zt rfl) (n_add (a := (s + k)) (b := 1) rfl rfl) rfl ?_
                      refine r_goto ?_
                      refine ih (d - 1) (by omega) (k + 1) (by omega) (0 :: (a :: st)) _ _ _ _ ?_ ?_ ?_ ?_
                      · show _ = stp (I 27) (I (q + 1) (s + k)) (rn (I 27) (I (q + 1)) s k)
                        rw [← hst]
                        refine Eq.trans ?_ (show opw (I (q + 1) (s + k)) (b :: a :: st) = _ from by first | exact (stp_o (Or.inl c_51) c_70).symm | exact (stp_o (Or.inr c_58) c_70).symm)
                        rw [opw, if_neg c_114, if_pos c_144, if_neg c_164]
                      · simp only [List.length_cons, List.length_nil] at hl ⊢ <;> omega
                      · exact sk_push rfl hK.2
                      · exact hJ.up (by omega) (by omega)
                    · refine r_iconst ?_
                      refine r_goto ?_
                      refine E_go 12 rfl ?_
                      refine r_iastore rfl (by decide) (ixE (n_sub (a := (st.length + 2)) (b := 1) rfl rfl (by omega)) (show ((st.length + 2) - 1) < 160 by omega) (by decide)) ?_
                      refine r_goto ?_
                      refine E_go 14 rfl ?_
                      refine r_iincN (y := io ((s + k) + 1)) (ls' := [_, _, _, _, _, _, _, _, _]) rfl (zt rfl) (n_add (a := (s + k)) (b := 1) rfl rfl) rfl ?_
                      refine r_goto ?_
                      refine ih (d - 1) (by omega) (k + 1) (by omega) (1 :: (a :: st)) _ _ _ _ ?_ ?_ ?_ ?_
                      · show _ = stp (I 27) (I (q + 1) (s + k)) (rn (I 27) (I (q + 1)) s k)
                        rw [← hst]
                        refine Eq.trans ?_ (show opw (I (q + 1) (s + k)) (b :: a :: st) = _ from by first | exact (stp_o (Or.inl c_51) c_70).symm | exact (stp_o (Or.inr c_58) c_70).symm)
                        rw [opw, if_neg c_114, if_pos c_144, if_pos c_164]
                      · simp only [List.length_cons, List.length_nil] at hl ⊢ <;> omega
                      · exact sk_push rfl hK.2
                      · exact hJ.up (by omega) (by omega)
              · refine r_iload rfl ?_
                refine r_iconst ?_
                refine r_icmp_lt (fun c_120 => ?_) (fun c_120 => ?_)
                · have c_120 := (n_lt (a := (st.length + 2)) (b := 1) rfl rfl (by omega) (by omega)).mp c_120
                  omega
                · have c_120 := (not_congr (n_lt (a := (st.length + 2)) (b := 1) rfl rfl (by omega) (by omega))).mp c_120
                  refine r_aload_n rfl ?_
                  refine r_iload rfl ?_
                  refine r_iconst ?_
                  refine r_isub ?_
                  refine r_aload_n rfl ?_
                  refine r_iload rfl ?_
                  refine r_iconst ?_
                  refine r_isub ?_
                  refine r_iaload (by decide) rfl (by decide) (ixE (n_sub (a := (st.length + 2)) (b := 1) rfl rfl (by omega)) (show ((st.length + 2) - 1) < 160 by omega) (by decide)) hK.1 ?_
                  refine r_ineg ?_
                  refine r_iastore rfl (by decide) (ixE (n_sub (a := (st.length + 2)) (b := 1) rfl rfl (by omega)) (show ((st.length + 2) - 1) < 160 by omega) (by decide)) ?_
                  refine r_goto ?_
                  refine E_go 14 rfl ?_
                  refine r_iincN (y := io ((s + k) + 1)) (ls' := [_, _, _, _, _, _, _, _, _]) rfl (zt rfl) (n_add (a := (s + k)) (b := 1) rfl rfl) rfl ?_
                  refine r_goto ?_
                  refine ih (d - 1) (by omega) (k + 1) (by omega) ((-b) :: (a :: st)) _ _ _ _ ?_ ?_ ?_ ?_
                  · show _ = stp (I 27) (I (q + 1) (s + k)) (rn (I 27) (I (q + 1)) s k)
                    rw [← hst]
                    refine Eq.trans ?_ (show opw (I (q + 1) (s + k)) (b :: a :: st) = _ from by first | exact (stp_o (Or.inl c_51) c_70).symm | exact (stp_o (Or.inr c_58) c_70).symm)
                    exact (if_pos c_114).symm
                  · simp only [List.length_cons, List.length_nil] at hl ⊢ <;> omega
                  · exact sk_push rfl hK.2
                  · exact hJ.up (by omega) (by omega)
            · have c_75 := (not_congr (n_eq (a := 0) (b := 0) rfl rfl (by omega) (by omega))).mp c_75
              omega
        · refine r_iload rfl ?_
          refine r_bipush ?_
          refine r_icmp_ge (fun c_58 => ?_) (fun c_58 => ?_)
          · refine E_go 4 rfl ?_
            refine r_iconst ?_
            refine r_nil ?_
            refine E_go 5 rfl ?_
            refine r_istore (ls' := [_, _, _, _, _, _, _, _, _]) (zt rfl) rfl ?_
            refine r_iload rfl ?_
            refine r_if_ge (fun c_70 => ?_) (fun c_70 => ?_)
            · refine E_go 6 rfl ?_
              refine r_iload rfl ?_
              refine r_aload_n rfl ?_
              refine r_alen (by decide) (by decide) (by decide) ?_
              refine r_icmp_ge (fun c_82 => ?_) (fun c_82 => ?_)
              · have c_82 := (n_le (a := 160) (b := (st.length + 2)) rfl rfl (by omega) (by omega)).mp c_82
                omega
              · have c_82 := (not_congr (n_le (a := 160) (b := (st.length + 2)) rfl rfl (by omega) (by omega))).mp c_82
                refine r_aload_n rfl ?_
                refine r_iload rfl ?_
                refine r_iload rfl ?_
                refine r_if_eq (fun c_90 => ?_) (fun c_90 => ?_)
                · have c_90 := (n_eq (a := 0) (b := 0) rfl rfl (by omega) (by omega)).mp c_90
                  refine E_go 7 rfl ?_
                  refine r_iload rfl ?_
                  refine r_nil ?_
                  refine E_go 8 rfl ?_
                  refine r_iastore rfl (by decide) (ixE rfl (show (st.length + 2) < 160 by omega) (by decide)) ?_
                  refine r_iincN (y := io ((st.length + 2) + 1)) (ls' := [_, _, _, _, _, _, _, _, _]) rfl (zt rfl) (n_add (a := (st.length + 2)) (b := 1) rfl rfl) rfl ?_
                  refine r_goto ?_
                  refine E_go 14 rfl ?_
                  refine r_iincN (y := io ((s + k) + 1)) (ls' := [_, _, _, _, _, _, _, _, _]) rfl (zt rfl) (n_add (a := (s + k)) (b := 1) rfl rfl) rfl ?_
                  refine r_goto ?_
                  refine ih (d - 1) (by omega) (k + 1) (by omega) ((I (q + 1) (s + k)) :: (b :: a :: st)) _ _ _ _ ?_ ?_ ?_ ?_
                  · show _ = stp (I 27) (I (q + 1) (s + k)) (rn (I 27) (I (q + 1)) s k)
                    rw [← hst]
                    first | exact (stp_w (Or.inl c_51) c_70).symm | exact (stp_w (Or.inr c_58) c_70).symm
                  · simp only [List.length_cons, List.length_nil] at hl ⊢ <;> omega
                  · exact sk_push rfl hK
                  · exact hJ.up (by omega) (by omega)
                · have c_90 := (not_congr (n_eq (a := 0) (b := 0) rfl rfl (by omega) (by omega))).mp c_90
                  omega
            · refine r_iload rfl ?_
              refine r_if_eq (fun c_75 => ?_) (fun c_75 => ?_)
              · have c_75 := (n_eq (a := 0) (b := 0) rfl rfl (by omega) (by omega)).mp c_75
                refine E_go 9 rfl ?_
                refine r_iload rfl ?_
                refine r_ineg ?_
                refine r_bipush ?_
                refine r_icmp_ne (fun c_114 => ?_) (fun c_114 => ?_)
                · refine E_go 10 rfl ?_
                  refine r_iload rfl ?_
                  refine r_ineg ?_
                  refine r_bipush ?_
                  refine r_icmp_ne (fun c_144 => ?_) (fun c_144 => ?_)
                  · refine E_go 13 rfl ?_
                    refine r_iload rfl ?_
                    refine r_iconst ?_
                    refine r_icmp_lt (fun c_179 => ?_) (fun c_179 => ?_)
                    · have c_179 := (n_lt (a := (st.length + 2)) (b := 2) rfl rfl (by omega) (by omega)).mp c_179
                      omega
                    · have c_179 := (not_congr (n_lt (a := (st.length + 2)) (b := 2) rfl rfl (by omega) (by omega))).mp c_179
                      refine r_iincN (y := io ((st.length + 2) - 1)) (ls' := [_, _, _, _, _, _, _, _, _]) rfl (zt rfl) (n_dec (a := (st.length + 2)) (b := 1) rfl rfl (by omega)) rfl ?_
                      refine r_aload_n rfl ?_
                      refine r_iload rfl ?_
                      refine r_iconst ?_
                      refine r_isub ?_
                      refine r_iload rfl ?_
                      refine r_ineg ?_
                      refine r_aload_n rfl ?_
                      refine r_iload rfl ?_
                      refine r_iconst ?_
                      refine r_isub ?_
                      refine r_iaload (by decide) rfl (by decide) (ixE (n_sub (a := ((st.length + 2) - 1)) (b := 1) rfl rfl (by omega)) (show (((st.length + 2) - 1) - 1) < 160 by omega) (by decide)) hK.2.1 ?_
                      refine r_aload_n rfl ?_
                      refine r_iload rfl ?_
                      refine r_iaload (by decide) rfl (by decide) (ixE rfl (show ((st.length + 2) - 1) < 160 by omega) (by decide)) hK.1 ?_
                      refine r_static (vs := [_, _, _]) (by decide) (zl rfl) rfl rfl (zl rfl) (Nat.le_refl _) rfl ?_
                      refine s_X5_joined (by omega) ?_
                      refine r_iastore rfl (by decide) (ixE (n_sub (a := ((st.length + 2) - 1)) (b := 1) rfl rfl (by omega)) (show (((st.length + 2) - 1) - 1) < 160 by omega) (by decide)) ?_
                      refine r_nil ?_
                      refine E_go 14 rfl ?_
                      refine r_iincN (y := io ((s + k) + 1)) (ls' := [_, _, _, _, _, _, _, _, _]) rfl (zt rfl) (n_add (a := (s + k)) (b := 1) rfl rfl) rfl ?_
                      refine r_goto ?_
                      refine ih (d - 1) (by omega) (k + 1) (by omega) (jn (-(I (q + 1) (s + k))) a b :: st) _ _ _ _ ?_ ?_ ?_ ?_
                      · show _ = stp (I 27) (I (q + 1) (s + k)) (rn (I 27) (I (q + 1)) s k)
                        rw [← hst]
                        refine Eq.trans ?_ (show opw (I (q + 1) (s + k)) (b :: a :: st) = _ from by first | exact (stp_o (Or.inl c_51) c_70).symm | exact (stp_o (Or.inr c_58) c_70).symm)
                        rw [opw, if_neg c_114, if_neg c_144]
                      · simp only [List.length_cons, List.length_nil] at hl ⊢ <;> omega
                      · exact sk_push rfl hK.2.2
                      · exact hJ.up (by omega) (by omega)
                  · refine r_iload rfl ?_
                    refine r_iconst ?_
                    refine r_icmp_lt (fun c_150 => ?_) (fun c_150 => ?_)
                    · have c_150 := (n_lt (a := (st.length + 2)) (b := 1) rfl rfl (by omega) (by omega)).mp c_150
                      omega
                    · have c_150 := (not_congr (n_lt (a := (st.length + 2)) (b := 1) rfl rfl (by omega) (by omega))).mp c_150
                      refine r_aload_n rfl ?_
                      refine r_iload rfl ?_
                      refine r_iconst ?_
                      refine r_isub ?_
                      refine r_aload_n rfl ?_
                      refine r_iload rfl ?_
                      refine r_iconst ?_
                      refine r_isub ?_
                      refine r_iaload (by decide) rfl (by decide) (ixE (n_sub (a := (st.length + 2)) (b := 1) rfl rfl (by omega)) (show ((st.length + 2) - 1) < 160 by omega) (by decide)) hK.1 ?_
                      refine r_if_ne (fun c_164 => ?_) (fun c_164 => ?_)
                      · refine E_go 11 rfl ?_
                        refine r_iconst ?_
                        refine r_nil ?_
                        refine E_go 12 rfl ?_
                        refine r_iastore rfl (by decide) (ixE (n_sub (a := (st.length + 2)) (b := 1) rfl rfl (by omega)) (show ((st.length + 2) - 1) < 160 by omega) (by decide)) ?_
                        refine r_goto ?_
                        refine E_go 14 rfl ?_
                        refine r_iincN (y := io ((s + k) + 1)) (ls' := [_, _, _, _, _, _, _, _, _]) rfl (zt rfl) (n_add (a := (s + k)) (b := 1) rfl rfl) rfl ?_
                        refine r_goto ?_
                        refine ih (d - 1) (by omega) (k + 1) (by omega) (0 :: (a :: st)) _ _ _ _ ?_ ?_ ?_ ?_
                        · show _ = stp (I 27) (I (q + 1) (s + k)) (rn (I 27) (I (q + 1)) s k)
                          rw [← hst]
                          refine Eq.trans ?_ (show opw (I (q + 1) (s + k)) (b :: a :: st) = _ from by first | exact (stp_o (Or.inl c_51) c_70).symm | exact (stp_o (Or.inr c_58) c_70).symm)
                          rw [opw, if_neg c_114, if_pos c_144, if_neg c_164]
                        · simp only [List.length_cons, List.length_nil] at hl ⊢ <;> omega
                        · exact sk_push rfl hK.2
                        · exact hJ.up (by omega) (by omega)
                      · refine r_iconst ?_
                        refine r_goto ?_
                        refine E_go 12 rfl ?_
                        refine r_iastore rfl (by decide) (ixE (n_sub (a := (st.length + 2)) (b := 1) rfl rfl (by omega)) (show ((st.length + 2) - 1) < 160 by omega) (by decide)) ?_
                        refine r_goto ?_
                        refine E_go 14 rfl ?_
                        refine r_iincN (y := io ((s + k) + 1)) (ls' := [_, _, _, _, _, _, _, _, _]) rfl (zt rfl) (n_add (a := (s + k)) (b := 1) rfl rfl) rfl ?_
                        refine r_goto ?_
                        refine ih (d - 1) (by omega) (k + 1) (by omega) (1 :: (a :: st)) _ _ _ _ ?_ ?_ ?_ ?_
                        · show _ = stp (I 27) (I (q + 1) (s + k)) (rn (I 27) (I (q + 1)) s k)
                          rw [← hst]
                          refine Eq.trans ?_ (show opw (I (q + 1) (s + k)) (b :: a :: st) = _ from by first | exact (stp_o (Or.inl c_51) c_70).symm | exact (stp_o (Or.inr c_58) c_70).symm)
                          rw [opw, if_neg c_114, if_pos c_144, if_pos c_164]
                        · simp only [List.length_cons, List.length_nil] at hl ⊢ <;> omega
                        · exact sk_push rfl hK.2
                        · exact hJ.up (by omega) (by omega)
                · refine r_iload rfl ?_
                  refine r_iconst ?_
                  refine r_icmp_lt (fun c_120 => ?_) (fun c_120 => ?_)
                  · have c_120 := (n_lt (a := (st.length + 2)) (b := 1) rfl rfl (by omega) (by omega)).mp c_120
                    omega
                  · have c_120 := (not_congr (n_lt (a := (st.length + 2)) (b := 1) rfl rfl (by omega) (by omega))).mp c_120
                    refine r_aload_n rfl ?_
                    refine r_iload rfl ?_
                    refine r_iconst ?_
                    refine r_isub ?_
                    refine r_aload_n rfl ?_
                    refine r_iload rfl ?_
                    refine r_iconst ?_
                    refine r_isub ?_
                    refine r_iaload (by decide) rfl (by decide) (ixE (n_sub (a := (st.length + 2)) (b := 1) rfl rfl (by omega)) (show ((st.length + 2) - 1) < 160 by omega) (by decide)) hK.1 ?_
                    refine r_ineg ?_
                    refine r_iastore rfl (by decide) (ixE (n_sub (a := (st.length + 2)) (b := 1) rfl rfl (by omega)) (show ((st.length + 2) - 1) < 160 by omega) (by decide)) ?_
                    refine r_goto ?_
                    refine E_go 14 rfl ?_
                    refine r_iincN (y := io ((s + k) + 1)) (ls' := [_, _, _, _, _, _, _, _, _]) rfl (zt rfl) (n_add (a := (s + k)) (b := 1) rfl rfl) rfl ?_
                    refine r_goto ?_
                    refine ih (d - 1) (by omega) (k + 1) (by omega) ((-b) :: (a :: st)) _ _ _ _ ?_ ?_ ?_ ?_
                    · show _ = stp (I 27) (I (q + 1) (s + k)) (rn (I 27) (I (q + 1)) s k)
                      rw [← hst]
                      refine Eq.trans ?_ (show opw (I (q + 1) (s + k)) (b :: a :: st) = _ from by first | exact (stp_o (Or.inl c_51) c_70).symm | exact (stp_o (Or.inr c_58) c_70).symm)
                      exact (if_pos c_114).symm
                    · simp only [List.length_cons, List.length_nil] at hl ⊢ <;> omega
                    · exact sk_push rfl hK.2
                    · exact hJ.up (by omega) (by omega)
              · have c_75 := (not_congr (n_eq (a := 0) (b := 0) rfl rfl (by omega) (by omega))).mp c_75
                omega
          · refine r_iconst ?_
            refine r_goto ?_
            refine E_go 5 rfl ?_
            refine r_istore (ls' := [_, _, _, _, _, _, _, _, _]) (zt rfl) rfl ?_
            refine r_iload rfl ?_
            refine r_if_ge (fun c_70 => ?_) (fun c_70 => ?_)
            · refine E_go 6 rfl ?_
              refine r_iload rfl ?_
              refine r_aload_n rfl ?_
              refine r_alen (by decide) (by decide) (by decide) ?_
              refine r_icmp_ge (fun c_82 => ?_) (fun c_82 => ?_)
              · have c_82 := (n_le (a := 160) (b := (st.length + 2)) rfl rfl (by omega) (by omega)).mp c_82
                omega
              · have c_82 := (not_congr (n_le (a := 160) (b := (st.length + 2)) rfl rfl (by omega) (by omega))).mp c_82
                refine r_aload_n rfl ?_
                refine r_iload rfl ?_
                refine r_iload rfl ?_
                refine r_if_eq (fun c_90 => ?_) (fun c_90 => ?_)
                · have c_90 := (n_eq (a := 1) (b := 0) rfl rfl (by omega) (by omega)).mp c_90
                  omega
                · have c_90 := (not_congr (n_eq (a := 1) (b := 0) rfl rfl (by omega) (by omega))).mp c_90
                  obtain ⟨nk, hnk, enk⟩ := io_ex (n := 6) (Int32.not_lt.mp c_51) (Int32.not_le.mp c_58) (by omega)
                  refine r_aload_n rfl ?_
                  refine r_iload rfl ?_
                  refine r_iaload (by decide) rfl (by decide) (ixE enk (show nk < 6 by omega) (by decide)) (congrFun hV nk) ?_
                  refine r_goto ?_
                  refine E_go 8 rfl ?_
                  refine r_iastore rfl (by decide) (ixE rfl (show (st.length + 2) < 160 by omega) (by decide)) ?_
                  refine r_iincN (y := io ((st.length + 2) + 1)) (ls' := [_, _, _, _, _, _, _, _, _]) rfl (zt rfl) (n_add (a := (st.length + 2)) (b := 1) rfl rfl) rfl ?_
                  refine r_goto ?_
                  refine E_go 14 rfl ?_
                  refine r_iincN (y := io ((s + k) + 1)) (ls' := [_, _, _, _, _, _, _, _, _]) rfl (zt rfl) (n_add (a := (s + k)) (b := 1) rfl rfl) rfl ?_
                  refine r_goto ?_
                  refine ih (d - 1) (by omega) (k + 1) (by omega) (I 27 nk :: (b :: a :: st)) _ _ _ _ ?_ ?_ ?_ ?_
                  · show _ = stp (I 27) (I (q + 1) (s + k)) (rn (I 27) (I (q + 1)) s k)
                    rw [← hst]
                    rw [stp_v c_51 c_58, show nmv (I (q + 1) (s + k)) = io nk from enk, io_nat (by omega)]
                  · simp only [List.length_cons, List.length_nil] at hl ⊢ <;> omega
                  · exact sk_push rfl hK
                  · exact hJ.up (by omega) (by omega)
            · refine r_iload rfl ?_
              refine r_if_eq (fun c_75 => ?_) (fun c_75 => ?_)
              · have c_75 := (n_eq (a := 1) (b := 0) rfl rfl (by omega) (by omega)).mp c_75
                omega
              · have c_75 := (not_congr (n_eq (a := 1) (b := 0) rfl rfl (by omega) (by omega))).mp c_75
                refine r_nil ?_
                refine E_go 6 rfl ?_
                refine r_iload rfl ?_
                refine r_aload_n rfl ?_
                refine r_alen (by decide) (by decide) (by decide) ?_
                refine r_icmp_ge (fun c_82 => ?_) (fun c_82 => ?_)
                · have c_82 := (n_le (a := 160) (b := (st.length + 2)) rfl rfl (by omega) (by omega)).mp c_82
                  omega
                · have c_82 := (not_congr (n_le (a := 160) (b := (st.length + 2)) rfl rfl (by omega) (by omega))).mp c_82
                  refine r_aload_n rfl ?_
                  refine r_iload rfl ?_
                  refine r_iload rfl ?_
                  refine r_if_eq (fun c_90 => ?_) (fun c_90 => ?_)
                  · have c_90 := (n_eq (a := 1) (b := 0) rfl rfl (by omega) (by omega)).mp c_90
                    omega
                  · have c_90 := (not_congr (n_eq (a := 1) (b := 0) rfl rfl (by omega) (by omega))).mp c_90
                    obtain ⟨nk, hnk, enk⟩ := io_ex (n := 6) (Int32.not_lt.mp c_51) (Int32.not_le.mp c_58) (by omega)
                    refine r_aload_n rfl ?_
                    refine r_iload rfl ?_
                    refine r_iaload (by decide) rfl (by decide) (ixE enk (show nk < 6 by omega) (by decide)) (congrFun hV nk) ?_
                    refine r_goto ?_
                    refine E_go 8 rfl ?_
                    refine r_iastore rfl (by decide) (ixE rfl (show (st.length + 2) < 160 by omega) (by decide)) ?_
                    refine r_iincN (y := io ((st.length + 2) + 1)) (ls' := [_, _, _, _, _, _, _, _, _]) rfl (zt rfl) (n_add (a := (st.length + 2)) (b := 1) rfl rfl) rfl ?_
                    refine r_goto ?_
                    refine E_go 14 rfl ?_
                    refine r_iincN (y := io ((s + k) + 1)) (ls' := [_, _, _, _, _, _, _, _, _]) rfl (zt rfl) (n_add (a := (s + k)) (b := 1) rfl rfl) rfl ?_
                    refine r_goto ?_
                    refine ih (d - 1) (by omega) (k + 1) (by omega) (I 27 nk :: (b :: a :: st)) _ _ _ _ ?_ ?_ ?_ ?_
                    · show _ = stp (I 27) (I (q + 1) (s + k)) (rn (I 27) (I (q + 1)) s k)
                      rw [← hst]
                      rw [stp_v c_51 c_58, show nmv (I (q + 1) (s + k)) = io nk from enk, io_nat (by omega)]
                    · simp only [List.length_cons, List.length_nil] at hl ⊢ <;> omega
                    · exact sk_push rfl hK
                    · exact hJ.up (by omega) (by omega)
  refine M_go (ls := [_, _, _, _, _, _, _, _, _]) (ml := 9) rfl rfl rfl (zl rfl) rfl ?_
  refine r_iconst ?_
  refine r_istore (ls' := [_, _, _, _, _, _, _, _, _]) (zt rfl) rfl ?_
  refine r_iload_n rfl ?_
  refine r_if_ne (fun c_4 => ?_) (fun c_4 => ?_)
  · have c_4 := (not_congr (n_eq (a := 2) (b := 0) rfl rfl (by omega) (by omega))).mp c_4
    refine E_go 1 rfl ?_
    refine r_aload_n rfl ?_
    refine r_getA (q := (q + 2)) (by decide) (txf1 hq) hq.1.1 hq.1.2.1 ?_
    refine r_iload_n rfl ?_
    refine r_iconst ?_
    refine r_isub ?_
    refine r_iaload (by decide) hq.2.2.2.1 hq.2.2.2.2.2 (ixQ (n_sub (a := 2) (b := 1) rfl rfl (by omega)) (show (2 - 1) < 3 by omega) (by decide) hq.2.2.2.2.1) he1 ?_
    refine r_nil ?_
    refine E_go 2 rfl ?_
    refine r_istore (ls' := [_, _, _, _, _, _, _, _, _]) (zt rfl) rfl ?_
    refine r_nil ?_
    exact key (e - s) 0 (by omega) [] I _ _ _ rfl (Nat.le_refl _) trivial oF.refl
  · have c_4 := (n_eq (a := 2) (b := 0) rfl rfl (by omega) (by omega)).mp c_4
    omega
