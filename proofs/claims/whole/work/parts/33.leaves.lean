/-! leaves: methods that read nothing but their arguments -/

set_option maxRecDepth 10000 in
theorem s_X6_within {xs : xSc} {m : Nat} (hm : 1 ≤ m) {a : Int32} {b : Int32} {c : Int32} {h : xHp} {Q : Value → xHp → Prop} (hQ : Q (.int ((if b < (if a < c then a else c) then (if a < c then a else c) else b))) h) : M xs m xi_X6_within [.int a, .int b, .int c] h Q := by
  obtain ⟨m, rfl⟩ : ∃ k, m = k + 1 := ⟨m - 1, by omega⟩
  refine M_go (ls := [_, _, _]) (ml := 3) rfl rfl rfl (zl rfl) rfl ?_
  refine r_iload_n rfl ?_
  refine r_iload_n rfl ?_
  refine r_iload_n rfl ?_
  refine r_min rfl (zl rfl) ?_
  refine r_max rfl (zl rfl) ?_
  refine r_iret rfl trivial ?_
  exact hQ

set_option maxRecDepth 10000 in
theorem s_X7_within {xs : xSc} {m : Nat} (hm : 1 ≤ m) {a : Int32} {b : Int32} {c : Int32} {h : xHp} {Q : Value → xHp → Prop} (hQ : Q (.int (if b ≤ a then (if a ≤ c then a else c) else b)) h) : M xs m xi_X7_within [.int a, .int b, .int c] h Q := by
  obtain ⟨m, rfl⟩ : ∃ k, m = k + 1 := ⟨m - 1, by omega⟩
  refine M_go (ls := [_, _, _]) (ml := 3) rfl rfl rfl (zl rfl) rfl ?_
  refine r_iload_n rfl ?_
  refine r_iload_n rfl ?_
  refine r_icmp_ge (fun c_2 => ?_) (fun c_2 => ?_)
  · refine E_go 1 rfl ?_
    refine r_iload_n rfl ?_
    refine r_iload_n rfl ?_
    refine r_icmp_le (fun c_11 => ?_) (fun c_11 => ?_)
    · refine E_go 2 rfl ?_
      refine r_iload_n rfl ?_
      refine r_nil ?_
      refine E_go 3 rfl ?_
      refine r_iret rfl trivial ?_
      simpa [*] using hQ
    · refine r_iload_n rfl ?_
      refine r_goto ?_
      refine E_go 3 rfl ?_
      refine r_iret rfl trivial ?_
      simpa [*] using hQ
  · refine r_iload_n rfl ?_
    refine r_goto ?_
    refine E_go 3 rfl ?_
    refine r_iret rfl trivial ?_
    simpa [*] using hQ

set_option maxRecDepth 10000 in
theorem s_X7_in {xs : xSc} {m : Nat} (hm : 1 ≤ m) {a : Int64} {b : Int64} {c : Int64} {h : xHp} {Q : Value → xHp → Prop} (hQ : Q (.int (if lg_cmp a b < 0 then 0 else if 0 < lg_cmp a c then 0 else 1)) h) : M xs m xi_X7_in [.long a, .long b, .long c] h Q := by
  obtain ⟨m, rfl⟩ : ∃ k, m = k + 1 := ⟨m - 1, by omega⟩
  refine M_go (ls := [_, _, _, _, _, _]) (ml := 6) rfl rfl rfl (zl rfl) rfl ?_
  refine r_lload_n rfl ?_
  refine r_lload_n rfl ?_
  refine r_lcmp ?_
  refine r_if_lt (fun c_3 => ?_) (fun c_3 => ?_)
  · refine E_go 1 rfl ?_
    refine r_iconst ?_
    refine r_nil ?_
    refine E_go 2 rfl ?_
    refine r_iret rfl (by first | exact Or.inl rfl | exact Or.inr rfl) ?_
    simpa [*] using hQ
  · refine r_lload_n rfl ?_
    refine r_lload rfl ?_
    refine r_lcmp ?_
    refine r_if_gt (fun c_10 => ?_) (fun c_10 => ?_)
    · refine E_go 1 rfl ?_
      refine r_iconst ?_
      refine r_nil ?_
      refine E_go 2 rfl ?_
      refine r_iret rfl (by first | exact Or.inl rfl | exact Or.inr rfl) ?_
      simpa [*] using hQ
    · refine r_iconst ?_
      refine r_goto ?_
      refine E_go 2 rfl ?_
      refine r_iret rfl (by first | exact Or.inl rfl | exact Or.inr rfl) ?_
      simpa [*] using hQ

set_option maxRecDepth 10000 in
theorem s_X2_isLetter {xs : xSc} {m : Nat} (hm : 1 ≤ m) {a : Int32} {h : xHp} {Q : Value → xHp → Prop} (hQ : Q (.int (if a < 97 then 0 else if 122 < a then 0 else 1)) h) : M xs m xi_X2_isLetter [.int a] h Q := by
  obtain ⟨m, rfl⟩ : ∃ k, m = k + 1 := ⟨m - 1, by omega⟩
  refine M_go (ls := [_]) (ml := 1) rfl rfl rfl (zl rfl) rfl ?_
  refine r_iload_n rfl ?_
  refine r_bipush ?_
  refine r_icmp_lt (fun c_3 => ?_) (fun c_3 => ?_)
  · refine E_go 1 rfl ?_
    refine r_iconst ?_
    refine r_nil ?_
    refine E_go 2 rfl ?_
    refine r_iret rfl (by first | exact Or.inl rfl | exact Or.inr rfl) ?_
    simpa [*] using hQ
  · refine r_iload_n rfl ?_
    refine r_bipush ?_
    refine r_icmp_gt (fun c_9 => ?_) (fun c_9 => ?_)
    · refine E_go 1 rfl ?_
      refine r_iconst ?_
      refine r_nil ?_
      refine E_go 2 rfl ?_
      refine r_iret rfl (by first | exact Or.inl rfl | exact Or.inr rfl) ?_
      simpa [*] using hQ
    · refine r_iconst ?_
      refine r_goto ?_
      refine E_go 2 rfl ?_
      refine r_iret rfl (by first | exact Or.inl rfl | exact Or.inr rfl) ?_
      simpa [*] using hQ

set_option maxRecDepth 10000 in
theorem s_X2_isDigit {xs : xSc} {m : Nat} (hm : 1 ≤ m) {a : Int32} {h : xHp} {Q : Value → xHp → Prop} (hQ : Q (.int (if a < 48 then 0 else if 57 < a then 0 else 1)) h) : M xs m xi_X2_isDigit [.int a] h Q := by
  obtain ⟨m, rfl⟩ : ∃ k, m = k + 1 := ⟨m - 1, by omega⟩
  refine M_go (ls := [_]) (ml := 1) rfl rfl rfl (zl rfl) rfl ?_
  refine r_iload_n rfl ?_
  refine r_bipush ?_
  refine r_icmp_lt (fun c_3 => ?_) (fun c_3 => ?_)
  · refine E_go 1 rfl ?_
    refine r_iconst ?_
    refine r_nil ?_
    refine E_go 2 rfl ?_
    refine r_iret rfl (by first | exact Or.inl rfl | exact Or.inr rfl) ?_
    simpa [*] using hQ
  · refine r_iload_n rfl ?_
    refine r_bipush ?_
    refine r_icmp_gt (fun c_9 => ?_) (fun c_9 => ?_)
    · refine E_go 1 rfl ?_
      refine r_iconst ?_
      refine r_nil ?_
      refine E_go 2 rfl ?_
      refine r_iret rfl (by first | exact Or.inl rfl | exact Or.inr rfl) ?_
      simpa [*] using hQ
    · refine r_iconst ?_
      refine r_goto ?_
      refine E_go 2 rfl ?_
      refine r_iret rfl (by first | exact Or.inl rfl | exact Or.inr rfl) ?_
      simpa [*] using hQ

set_option maxRecDepth 10000 in
theorem s_X2_isSign {xs : xSc} {m : Nat} (hm : 1 ≤ m) {a : Int32} {h : xHp} {Q : Value → xHp → Prop} (hQ : Q (.int (if a = 40 ∨ a = 41 ∨ a = 59 ∨ a = 43 ∨ a = 45 ∨ a = 42 ∨ a = 60 ∨ a = 61 then 1 else 0)) h) : M xs m xi_X2_isSign [.int a] h Q := by
  obtain ⟨m, rfl⟩ : ∃ k, m = k + 1 := ⟨m - 1, by omega⟩
  refine M_go (ls := [_]) (ml := 1) rfl rfl rfl (zl rfl) rfl ?_
  refine r_iload_n rfl ?_
  refine r_bipush ?_
  refine r_icmp_eq (fun c_3 => ?_) (fun c_3 => ?_)
  · refine E_go 1 rfl ?_
    refine r_iconst ?_
    refine r_goto ?_
    refine E_go 3 rfl ?_
    refine r_iret rfl (by first | exact Or.inl rfl | exact Or.inr rfl) ?_
    simpa [*] using hQ
  · refine r_iload_n rfl ?_
    refine r_bipush ?_
    refine r_icmp_eq (fun c_9 => ?_) (fun c_9 => ?_)
    · refine E_go 1 rfl ?_
      refine r_iconst ?_
      refine r_goto ?_
      refine E_go 3 rfl ?_
      refine r_iret rfl (by first | exact Or.inl rfl | exact Or.inr rfl) ?_
      simpa [*] using hQ
    · refine r_iload_n rfl ?_
      refine r_bipush ?_
      refine r_icmp_eq (fun c_15 => ?_) (fun c_15 => ?_)
      · refine E_go 1 rfl ?_
        refine r_iconst ?_
        refine r_goto ?_
        refine E_go 3 rfl ?_
        refine r_iret rfl (by first | exact Or.inl rfl | exact Or.inr rfl) ?_
        simpa [*] using hQ
      · refine r_iload_n rfl ?_
        refine r_bipush ?_
        refine r_icmp_eq (fun c_21 => ?_) (fun c_21 => ?_)
        · refine E_go 1 rfl ?_
          refine r_iconst ?_
          refine r_goto ?_
          refine E_go 3 rfl ?_
          refine r_iret rfl (by first | exact Or.inl rfl | exact Or.inr rfl) ?_
          simpa [*] using hQ
        · refine r_iload_n rfl ?_
          refine r_bipush ?_
          refine r_icmp_eq (fun c_27 => ?_) (fun c_27 => ?_)
          · refine E_go 1 rfl ?_
            refine r_iconst ?_
            refine r_goto ?_
            refine E_go 3 rfl ?_
            refine r_iret rfl (by first | exact Or.inl rfl | exact Or.inr rfl) ?_
            simpa [*] using hQ
          · refine r_iload_n rfl ?_
            refine r_bipush ?_
            refine r_icmp_eq (fun c_33 => ?_) (fun c_33 => ?_)
            · refine E_go 1 rfl ?_
              refine r_iconst ?_
              refine r_goto ?_
              refine E_go 3 rfl ?_
              refine r_iret rfl (by first | exact Or.inl rfl | exact Or.inr rfl) ?_
              simpa [*] using hQ
            · refine r_iload_n rfl ?_
              refine r_bipush ?_
              refine r_icmp_eq (fun c_39 => ?_) (fun c_39 => ?_)
              · refine E_go 1 rfl ?_
                refine r_iconst ?_
                refine r_goto ?_
                refine E_go 3 rfl ?_
                refine r_iret rfl (by first | exact Or.inl rfl | exact Or.inr rfl) ?_
                simpa [*] using hQ
              · refine r_iload_n rfl ?_
                refine r_bipush ?_
                refine r_icmp_ne (fun c_45 => ?_) (fun c_45 => ?_)
                · refine E_go 2 rfl ?_
                  refine r_iconst ?_
                  refine r_nil ?_
                  refine E_go 3 rfl ?_
                  refine r_iret rfl (by first | exact Or.inl rfl | exact Or.inr rfl) ?_
                  simpa [*] using hQ
                · refine r_nil ?_
                  refine E_go 1 rfl ?_
                  refine r_iconst ?_
                  refine r_goto ?_
                  refine E_go 3 rfl ?_
                  refine r_iret rfl (by first | exact Or.inl rfl | exact Or.inr rfl) ?_
                  simpa [*] using hQ

set_option maxRecDepth 10000 in
theorem s_X1_takesOfHeat {xs : xSc} {m : Nat} (hm : 1 ≤ m) {k : Int32} {n : Int32} {h : xHp} {Q : Value → xHp → Prop} (hQ : Q (.int (if k = 1 then 6 + n else if k = 2 then 6 / 2 else if k = 3 then 6 + n else if k = 4 then 6 / 2 + 1 else if k = 5 then 0 else 6)) h) : M xs m xi_X1_takesOfHeat [.int k, .int n] h Q := by
  obtain ⟨m, rfl⟩ : ∃ k, m = k + 1 := ⟨m - 1, by omega⟩
  refine M_go (ls := [_, _, _]) (ml := 3) rfl rfl rfl (zl rfl) rfl ?_
  refine r_bipush ?_
  refine r_istore_n (ls' := [_, _, _]) (zt rfl) rfl ?_
  refine r_iload_n rfl ?_
  refine r_table ?_
  refine r_sw1 (fun c_4 => ?_) (fun c_4 => ?_)
  · refine E_go 1 rfl ?_
    refine r_iload_n rfl ?_
    refine r_iload_n rfl ?_
    refine r_iadd ?_
    refine r_iret rfl trivial ?_
    simpa [*] using hQ
  refine r_sw1 (fun c_4 => ?_) (fun c_4 => ?_)
  · refine E_go 2 rfl ?_
    refine r_iload_n rfl ?_
    refine r_iconst ?_
    refine r_idiv (by decide) ?_
    refine r_iret rfl trivial ?_
    simpa [*] using hQ
  refine r_sw1 (fun c_4 => ?_) (fun c_4 => ?_)
  · refine E_go 1 rfl ?_
    refine r_iload_n rfl ?_
    refine r_iload_n rfl ?_
    refine r_iadd ?_
    refine r_iret rfl trivial ?_
    simpa [*] using hQ
  refine r_sw1 (fun c_4 => ?_) (fun c_4 => ?_)
  · refine E_go 3 rfl ?_
    refine r_iload_n rfl ?_
    refine r_iconst ?_
    refine r_idiv (by decide) ?_
    refine r_iconst ?_
    refine r_iadd ?_
    refine r_iret rfl trivial ?_
    simpa [*] using hQ
  refine r_sw1 (fun c_4 => ?_) (fun c_4 => ?_)
  · refine E_go 4 rfl ?_
    refine r_iconst ?_
    refine r_iret rfl trivial ?_
    simpa [*] using hQ
  refine r_sw0 ?_
  refine E_go 5 rfl ?_
  refine r_iload_n rfl ?_
  refine r_iret rfl trivial ?_
  simpa [*] using hQ
