/-! leaves, continued: kinds, bits -/

theorem qi {Q : Value → xHp → Prop} {h : xHp} {x y : Int32} (hQ : Q (.int x) h) (e : x = y) : Q (.int y) h := e ▸ hQ
theorem ltn {a b : Int32} : a < b ↔ ¬ b ≤ a := Int32.not_le.symm
theorem ql {Q : Value → xHp → Prop} {h : xHp} {x y : Int64} (hQ : Q (.long x) h) (e : x = y) : Q (.long y) h := e ▸ hQ

set_option maxRecDepth 10000 in
theorem s_X1_showsWant {xs : xSc} {m : Nat} (hm : 1 ≤ m) {k : Int32} {n : Int32} {t : Int32} {u : Int32} {h : xHp} {Q : Value → xHp → Prop} (hQ : Q (.int (kShow k n t u)) h) : M xs m xi_X1_showsWant [.int k, .int n, .int t, .int u] h Q := by
  obtain ⟨m, rfl⟩ : ∃ k, m = k + 1 := ⟨m - 1, by omega⟩
  refine M_go (ls := [_, _, _, _, _, _]) (ml := 6) rfl rfl rfl (zl rfl) rfl ?_
  refine r_iload_n rfl ?_
  refine r_iconst ?_
  refine r_iload_n rfl ?_
  refine r_imul ?_
  refine r_bipush ?_
  refine r_iadd ?_
  refine r_icmp_le (fun c_7 => ?_) (fun c_7 => ?_)
  · refine E_go 1 rfl ?_
    refine r_iconst ?_
    refine r_nil ?_
    refine E_go 2 rfl ?_
    refine r_istore (ls' := [_, _, _, _, _, _]) (zt rfl) rfl ?_
    refine r_iload_n rfl ?_
    refine r_if_le (fun c_18 => ?_) (fun c_18 => ?_)
    · refine E_go 3 rfl ?_
      refine r_iconst ?_
      refine r_nil ?_
      refine E_go 4 rfl ?_
      refine r_istore (ls' := [_, _, _, _, _, _]) (zt rfl) rfl ?_
      refine r_iload_n rfl ?_
      refine r_table ?_
      refine r_sw1 (fun c_29 => ?_) (fun d_29_1 => ?_)
      · refine E_go 5 rfl ?_
        refine r_iload rfl ?_
        refine r_iret rfl (by first | exact Or.inl rfl | exact Or.inr rfl) ?_
        refine qi hQ ?_
        simp_all [kShow, ltn, -Int32.not_le]
      refine r_sw1 (fun c_29 => ?_) (fun d_29_2 => ?_)
      · refine E_go 6 rfl ?_
        refine r_iload rfl ?_
        refine r_iret rfl (by first | exact Or.inl rfl | exact Or.inr rfl) ?_
        refine qi hQ ?_
        simp_all [kShow, ltn, -Int32.not_le]
      refine r_sw1 (fun c_29 => ?_) (fun d_29_3 => ?_)
      · refine E_go 7 rfl ?_
        refine r_iload rfl ?_
        refine r_if_ne (fun c_72 => ?_) (fun c_72 => ?_)
        · refine E_go 8 rfl ?_
          refine r_iconst ?_
          refine r_goto ?_
          refine E_go 10 rfl ?_
          refine r_iret rfl (by first | exact Or.inl rfl | exact Or.inr rfl) ?_
          refine qi hQ ?_
          simp_all [kShow, ltn, -Int32.not_le]
        · refine r_iload_n rfl ?_
          refine r_iconst ?_
          refine r_irem (by decide) ?_
          refine r_iconst ?_
          refine r_icmp_ne (fun c_79 => ?_) (fun c_79 => ?_)
          · refine E_go 9 rfl ?_
            refine r_iconst ?_
            refine r_nil ?_
            refine E_go 10 rfl ?_
            refine r_iret rfl (by first | exact Or.inl rfl | exact Or.inr rfl) ?_
            refine qi hQ ?_
            simp_all [kShow, ltn, -Int32.not_le]
          · refine r_nil ?_
            refine E_go 8 rfl ?_
            refine r_iconst ?_
            refine r_goto ?_
            refine E_go 10 rfl ?_
            refine r_iret rfl (by first | exact Or.inl rfl | exact Or.inr rfl) ?_
            refine qi hQ ?_
            simp_all [kShow, ltn, -Int32.not_le]
      refine r_sw1 (fun c_29 => ?_) (fun d_29_4 => ?_)
      · refine E_go 11 rfl ?_
        refine r_iload rfl ?_
        refine r_if_eq (fun c_90 => ?_) (fun c_90 => ?_)
        · refine E_go 12 rfl ?_
          refine r_iconst ?_
          refine r_nil ?_
          refine E_go 13 rfl ?_
          refine r_iret rfl (by first | exact Or.inl rfl | exact Or.inr rfl) ?_
          refine qi hQ ?_
          simp_all [kShow, ltn, -Int32.not_le]
        · refine r_iload_n rfl ?_
          refine r_iload_n rfl ?_
          refine r_icmp_lt (fun c_95 => ?_) (fun c_95 => ?_)
          · refine E_go 12 rfl ?_
            refine r_iconst ?_
            refine r_nil ?_
            refine E_go 13 rfl ?_
            refine r_iret rfl (by first | exact Or.inl rfl | exact Or.inr rfl) ?_
            refine qi hQ ?_
            simp_all [kShow, ltn, -Int32.not_le]
          · refine r_iconst ?_
            refine r_goto ?_
            refine E_go 13 rfl ?_
            refine r_iret rfl (by first | exact Or.inl rfl | exact Or.inr rfl) ?_
            refine qi hQ ?_
            simp_all [kShow, ltn, -Int32.not_le]
      refine r_sw1 (fun c_29 => ?_) (fun d_29_5 => ?_)
      · refine E_go 14 rfl ?_
        refine r_iconst ?_
        refine r_iret rfl (by first | exact Or.inl rfl | exact Or.inr rfl) ?_
        refine qi hQ ?_
        simp_all [kShow, ltn, -Int32.not_le]
      refine r_sw0 ?_
      refine E_go 15 rfl ?_
      refine r_iload_n rfl ?_
      refine r_bipush ?_
      refine r_icmp_le (fun c_109 => ?_) (fun c_109 => ?_)
      · refine E_go 16 rfl ?_
        refine r_iconst ?_
        refine r_nil ?_
        refine E_go 17 rfl ?_
        refine r_iret rfl (by first | exact Or.inl rfl | exact Or.inr rfl) ?_
        refine qi hQ ?_
        simp_all [kShow, ltn, -Int32.not_le]
      · refine r_iconst ?_
        refine r_goto ?_
        refine E_go 17 rfl ?_
        refine r_iret rfl (by first | exact Or.inl rfl | exact Or.inr rfl) ?_
        refine qi hQ ?_
        simp_all [kShow, ltn, -Int32.not_le]
    · refine r_iconst ?_
      refine r_goto ?_
      refine E_go 4 rfl ?_
      refine r_istore (ls' := [_, _, _, _, _, _]) (zt rfl) rfl ?_
      refine r_iload_n rfl ?_
      refine r_table ?_
      refine r_sw1 (fun c_29 => ?_) (fun d_29_1 => ?_)
      · refine E_go 5 rfl ?_
        refine r_iload rfl ?_
        refine r_iret rfl (by first | exact Or.inl rfl | exact Or.inr rfl) ?_
        refine qi hQ ?_
        simp_all [kShow, ltn, -Int32.not_le]
      refine r_sw1 (fun c_29 => ?_) (fun d_29_2 => ?_)
      · refine E_go 6 rfl ?_
        refine r_iload rfl ?_
        refine r_iret rfl (by first | exact Or.inl rfl | exact Or.inr rfl) ?_
        refine qi hQ ?_
        simp_all [kShow, ltn, -Int32.not_le]
      refine r_sw1 (fun c_29 => ?_) (fun d_29_3 => ?_)
      · refine E_go 7 rfl ?_
        refine r_iload rfl ?_
        refine r_if_ne (fun c_72 => ?_) (fun c_72 => ?_)
        · refine E_go 8 rfl ?_
          refine r_iconst ?_
          refine r_goto ?_
          refine E_go 10 rfl ?_
          refine r_iret rfl (by first | exact Or.inl rfl | exact Or.inr rfl) ?_
          refine qi hQ ?_
          simp_all [kShow, ltn, -Int32.not_le]
        · refine r_iload_n rfl ?_
          refine r_iconst ?_
          refine r_irem (by decide) ?_
          refine r_iconst ?_
          refine r_icmp_ne (fun c_79 => ?_) (fun c_79 => ?_)
          · refine E_go 9 rfl ?_
            refine r_iconst ?_
            refine r_nil ?_
            refine E_go 10 rfl ?_
            refine r_iret rfl (by first | exact Or.inl rfl | exact Or.inr rfl) ?_
            refine qi hQ ?_
            simp_all [kShow, ltn, -Int32.not_le]
          · refine r_nil ?_
            refine E_go 8 rfl ?_
            refine r_iconst ?_
            refine r_goto ?_
            refine E_go 10 rfl ?_
            refine r_iret rfl (by first | exact Or.inl rfl | exact Or.inr rfl) ?_
            refine qi hQ ?_
            simp_all [kShow, ltn, -Int32.not_le]
      refine r_sw1 (fun c_29 => ?_) (fun d_29_4 => ?_)
      · refine E_go 11 rfl ?_
        refine r_iload rfl ?_
        refine r_if_eq (fun c_90 => ?_) (fun c_90 => ?_)
        · refine E_go 12 rfl ?_
          refine r_iconst ?_
          refine r_nil ?_
          refine E_go 13 rfl ?_
          refine r_iret rfl (by first | exact Or.inl rfl | exact Or.inr rfl) ?_
          refine qi hQ ?_
          simp_all [kShow, ltn, -Int32.not_le]
        · refine r_iload_n rfl ?_
          refine r_iload_n rfl ?_
          refine r_icmp_lt (fun c_95 => ?_) (fun c_95 => ?_)
          · refine E_go 12 rfl ?_
            refine r_iconst ?_
            refine r_nil ?_
            refine E_go 13 rfl ?_
            refine r_iret rfl (by first | exact Or.inl rfl | exact Or.inr rfl) ?_
            refine qi hQ ?_
            simp_all [kShow, ltn, -Int32.not_le]
          · refine r_iconst ?_
            refine r_goto ?_
            refine E_go 13 rfl ?_
            refine r_iret rfl (by first | exact Or.inl rfl | exact Or.inr rfl) ?_
            refine qi hQ ?_
            simp_all [kShow, ltn, -Int32.not_le]
      refine r_sw1 (fun c_29 => ?_) (fun d_29_5 => ?_)
      · refine E_go 14 rfl ?_
        refine r_iconst ?_
        refine r_iret rfl (by first | exact Or.inl rfl | exact Or.inr rfl) ?_
        refine qi hQ ?_
        simp_all [kShow, ltn, -Int32.not_le]
      refine r_sw0 ?_
      refine E_go 15 rfl ?_
      refine r_iload_n rfl ?_
      refine r_bipush ?_
      refine r_icmp_le (fun c_109 => ?_) (fun c_109 => ?_)
      · refine E_go 16 rfl ?_
        refine r_iconst ?_
        refine r_nil ?_
        refine E_go 17 rfl ?_
        refine r_iret rfl (by first | exact Or.inl rfl | exact Or.inr rfl) ?_
        refine qi hQ ?_
        simp_all [kShow, ltn, -Int32.not_le]
      · refine r_iconst ?_
        refine r_goto ?_
        refine E_go 17 rfl ?_
        refine r_iret rfl (by first | exact Or.inl rfl | exact Or.inr rfl) ?_
        refine qi hQ ?_
        simp_all [kShow, ltn, -Int32.not_le]
  · refine r_iconst ?_
    refine r_goto ?_
    refine E_go 2 rfl ?_
    refine r_istore (ls' := [_, _, _, _, _, _]) (zt rfl) rfl ?_
    refine r_iload_n rfl ?_
    refine r_if_le (fun c_18 => ?_) (fun c_18 => ?_)
    · refine E_go 3 rfl ?_
      refine r_iconst ?_
      refine r_nil ?_
      refine E_go 4 rfl ?_
      refine r_istore (ls' := [_, _, _, _, _, _]) (zt rfl) rfl ?_
      refine r_iload_n rfl ?_
      refine r_table ?_
      refine r_sw1 (fun c_29 => ?_) (fun d_29_1 => ?_)
      · refine E_go 5 rfl ?_
        refine r_iload rfl ?_
        refine r_iret rfl (by first | exact Or.inl rfl | exact Or.inr rfl) ?_
        refine qi hQ ?_
        simp_all [kShow, ltn, -Int32.not_le]
      refine r_sw1 (fun c_29 => ?_) (fun d_29_2 => ?_)
      · refine E_go 6 rfl ?_
        refine r_iload rfl ?_
        refine r_iret rfl (by first | exact Or.inl rfl | exact Or.inr rfl) ?_
        refine qi hQ ?_
        simp_all [kShow, ltn, -Int32.not_le]
      refine r_sw1 (fun c_29 => ?_) (fun d_29_3 => ?_)
      · refine E_go 7 rfl ?_
        refine r_iload rfl ?_
        refine r_if_ne (fun c_72 => ?_) (fun c_72 => ?_)
        · refine E_go 8 rfl ?_
          refine r_iconst ?_
          refine r_goto ?_
          refine E_go 10 rfl ?_
          refine r_iret rfl (by first | exact Or.inl rfl | exact Or.inr rfl) ?_
          refine qi hQ ?_
          simp_all [kShow, ltn, -Int32.not_le]
        · refine r_iload_n rfl ?_
          refine r_iconst ?_
          refine r_irem (by decide) ?_
          refine r_iconst ?_
          refine r_icmp_ne (fun c_79 => ?_) (fun c_79 => ?_)
          · refine E_go 9 rfl ?_
            refine r_iconst ?_
            refine r_nil ?_
            refine E_go 10 rfl ?_
            refine r_iret rfl (by first | exact Or.inl rfl | exact Or.inr rfl) ?_
            refine qi hQ ?_
            simp_all [kShow, ltn, -Int32.not_le]
          · refine r_nil ?_
            refine E_go 8 rfl ?_
            refine r_iconst ?_
            refine r_goto ?_
            refine E_go 10 rfl ?_
            refine r_iret rfl (by first | exact Or.inl rfl | exact Or.inr rfl) ?_
            refine qi hQ ?_
            simp_all [kShow, ltn, -Int32.not_le]
      refine r_sw1 (fun c_29 => ?_) (fun d_29_4 => ?_)
      · refine E_go 11 rfl ?_
        refine r_iload rfl ?_
        refine r_if_eq (fun c_90 => ?_) (fun c_90 => ?_)
        · refine E_go 12 rfl ?_
          refine r_iconst ?_
          refine r_nil ?_
          refine E_go 13 rfl ?_
          refine r_iret rfl (by first | exact Or.inl rfl | exact Or.inr rfl) ?_
          refine qi hQ ?_
          simp_all [kShow, ltn, -Int32.not_le]
        · refine r_iload_n rfl ?_
          refine r_iload_n rfl ?_
          refine r_icmp_lt (fun c_95 => ?_) (fun c_95 => ?_)
          · refine E_go 12 rfl ?_
            refine r_iconst ?_
            refine r_nil ?_
            refine E_go 13 rfl ?_
            refine r_iret rfl (by first | exact Or.inl rfl | exact Or.inr rfl) ?_
            refine qi hQ ?_
            simp_all [kShow, ltn, -Int32.not_le]
          · refine r_iconst ?_
            refine r_goto ?_
            refine E_go 13 rfl ?_
            refine r_iret rfl (by first | exact Or.inl rfl | exact Or.inr rfl) ?_
            refine qi hQ ?_
            simp_all [kShow, ltn, -Int32.not_le]
      refine r_sw1 (fun c_29 => ?_) (fun d_29_5 => ?_)
      · refine E_go 14 rfl ?_
        refine r_iconst ?_
        refine r_iret rfl (by first | exact Or.inl rfl | exact Or.inr rfl) ?_
        refine qi hQ ?_
        simp_all [kShow, ltn, -Int32.not_le]
      refine r_sw0 ?_
      refine E_go 15 rfl ?_
      refine r_iload_n rfl ?_
      refine r_bipush ?_
      refine r_icmp_le (fun c_109 => ?_) (fun c_109 => ?_)
      · refine E_go 16 rfl ?_
        refine r_iconst ?_
        refine r_nil ?_
        refine E_go 17 rfl ?_
        refine r_iret rfl (by first | exact Or.inl rfl | exact Or.inr rfl) ?_
        refine qi hQ ?_
        simp_all [kShow, ltn, -Int32.not_le]
      · refine r_iconst ?_
        refine r_goto ?_
        refine E_go 17 rfl ?_
        refine r_iret rfl (by first | exact Or.inl rfl | exact Or.inr rfl) ?_
        refine qi hQ ?_
        simp_all [kShow, ltn, -Int32.not_le]
    · refine r_iconst ?_
      refine r_goto ?_
      refine E_go 4 rfl ?_
      refine r_istore (ls' := [_, _, _, _, _, _]) (zt rfl) rfl ?_
      refine r_iload_n rfl ?_
      refine r_table ?_
      refine r_sw1 (fun c_29 => ?_) (fun d_29_1 => ?_)
      · refine E_go 5 rfl ?_
        refine r_iload rfl ?_
        refine r_iret rfl (by first | exact Or.inl rfl | exact Or.inr rfl) ?_
        refine qi hQ ?_
        simp_all [kShow, ltn, -Int32.not_le]
      refine r_sw1 (fun c_29 => ?_) (fun d_29_2 => ?_)
      · refine E_go 6 rfl ?_
        refine r_iload rfl ?_
        refine r_iret rfl (by first | exact Or.inl rfl | exact Or.inr rfl) ?_
        refine qi hQ ?_
        simp_all [kShow, ltn, -Int32.not_le]
      refine r_sw1 (fun c_29 => ?_) (fun d_29_3 => ?_)
      · refine E_go 7 rfl ?_
        refine r_iload rfl ?_
        refine r_if_ne (fun c_72 => ?_) (fun c_72 => ?_)
        · refine E_go 8 rfl ?_
          refine r_iconst ?_
          refine r_goto ?_
          refine E_go 10 rfl ?_
          refine r_iret rfl (by first | exact Or.inl rfl | exact Or.inr rfl) ?_
          refine qi hQ ?_
          simp_all [kShow, ltn, -Int32.not_le]
        · refine r_iload_n rfl ?_
          refine r_iconst ?_
          refine r_irem (by decide) ?_
          refine r_iconst ?_
          refine r_icmp_ne (fun c_79 => ?_) (fun c_79 => ?_)
          · refine E_go 9 rfl ?_
            refine r_iconst ?_
            refine r_nil ?_
            refine E_go 10 rfl ?_
            refine r_iret rfl (by first | exact Or.inl rfl | exact Or.inr rfl) ?_
            refine qi hQ ?_
            simp_all [kShow, ltn, -Int32.not_le]
          · refine r_nil ?_
            refine E_go 8 rfl ?_
            refine r_iconst ?_
            refine r_goto ?_
            refine E_go 10 rfl ?_
            refine r_iret rfl (by first | exact Or.inl rfl | exact Or.inr rfl) ?_
            refine qi hQ ?_
            simp_all [kShow, ltn, -Int32.not_le]
      refine r_sw1 (fun c_29 => ?_) (fun d_29_4 => ?_)
      · refine E_go 11 rfl ?_
        refine r_iload rfl ?_
        refine r_if_eq (fun c_90 => ?_) (fun c_90 => ?_)
        · refine E_go 12 rfl ?_
          refine r_iconst ?_
          refine r_nil ?_
          refine E_go 13 rfl ?_
          refine r_iret rfl (by first | exact Or.inl rfl | exact Or.inr rfl) ?_
          refine qi hQ ?_
          simp_all [kShow, ltn, -Int32.not_le]
        · refine r_iload_n rfl ?_
          refine r_iload_n rfl ?_
          refine r_icmp_lt (fun c_95 => ?_) (fun c_95 => ?_)
          · refine E_go 12 rfl ?_
            refine r_iconst ?_
            refine r_nil ?_
            refine E_go 13 rfl ?_
            refine r_iret rfl (by first | exact Or.inl rfl | exact Or.inr rfl) ?_
            refine qi hQ ?_
            simp_all [kShow, ltn, -Int32.not_le]
          · refine r_iconst ?_
            refine r_goto ?_
            refine E_go 13 rfl ?_
            refine r_iret rfl (by first | exact Or.inl rfl | exact Or.inr rfl) ?_
            refine qi hQ ?_
            simp_all [kShow, ltn, -Int32.not_le]
      refine r_sw1 (fun c_29 => ?_) (fun d_29_5 => ?_)
      · refine E_go 14 rfl ?_
        refine r_iconst ?_
        refine r_iret rfl (by first | exact Or.inl rfl | exact Or.inr rfl) ?_
        refine qi hQ ?_
        simp_all [kShow, ltn, -Int32.not_le]
      refine r_sw0 ?_
      refine E_go 15 rfl ?_
      refine r_iload_n rfl ?_
      refine r_bipush ?_
      refine r_icmp_le (fun c_109 => ?_) (fun c_109 => ?_)
      · refine E_go 16 rfl ?_
        refine r_iconst ?_
        refine r_nil ?_
        refine E_go 17 rfl ?_
        refine r_iret rfl (by first | exact Or.inl rfl | exact Or.inr rfl) ?_
        refine qi hQ ?_
        simp_all [kShow, ltn, -Int32.not_le]
      · refine r_iconst ?_
        refine r_goto ?_
        refine E_go 17 rfl ?_
        refine r_iret rfl (by first | exact Or.inl rfl | exact Or.inr rfl) ?_
        refine qi hQ ?_
        simp_all [kShow, ltn, -Int32.not_le]

set_option maxRecDepth 10000 in
theorem s_X1_joyOfCup {xs : xSc} {m : Nat} (hm : 1 ≤ m) {k : Int32} {n : Int32} {v : Int32} {g : Int32} {h : xHp} {Q : Value → xHp → Prop} (hQ : Q (.int (kJoy k n v g)) h) : M xs m xi_X1_joyOfCup [.int k, .int n, .int v, .int g] h Q := by
  obtain ⟨m, rfl⟩ : ∃ k, m = k + 1 := ⟨m - 1, by omega⟩
  refine M_go (ls := [_, _, _, _, _, _]) (ml := 6) rfl rfl rfl (zl rfl) rfl ?_
  refine r_iload_n rfl ?_
  refine r_bipush ?_
  refine r_icmp_le (fun c_3 => ?_) (fun c_3 => ?_)
  · refine E_go 1 rfl ?_
    refine r_iconst ?_
    refine r_nil ?_
    refine E_go 2 rfl ?_
    refine r_istore (ls' := [_, _, _, _, _, _]) (zt rfl) rfl ?_
    refine r_iload_n rfl ?_
    refine r_iload_n rfl ?_
    refine r_iadd ?_
    refine r_istore (ls' := [_, _, _, _, _, _]) (zt rfl) rfl ?_
    refine r_iload_n rfl ?_
    refine r_table ?_
    refine r_sw1 (fun c_21 => ?_) (fun d_21_1 => ?_)
    · refine E_go 3 rfl ?_
      refine r_iload rfl ?_
      refine r_iret rfl trivial ?_
      refine qi hQ ?_
      simp_all [kJoy, ltn, -Int32.not_le]
    refine r_sw1 (fun c_21 => ?_) (fun d_21_2 => ?_)
    · refine E_go 4 rfl ?_
      refine r_iload rfl ?_
      refine r_iret rfl trivial ?_
      refine qi hQ ?_
      simp_all [kJoy, ltn, -Int32.not_le]
    refine r_sw1 (fun c_21 => ?_) (fun d_21_3 => ?_)
    · refine E_go 5 rfl ?_
      refine r_iload rfl ?_
      refine r_iconst ?_
      refine r_iadd ?_
      refine r_iret rfl trivial ?_
      refine qi hQ ?_
      simp_all [kJoy, ltn, -Int32.not_le]
    refine r_sw1 (fun c_21 => ?_) (fun d_21_4 => ?_)
    · refine E_go 6 rfl ?_
      refine r_iload rfl ?_
      refine r_iconst ?_
      refine r_idiv (by decide) ?_
      refine r_iret rfl trivial ?_
      refine qi hQ ?_
      simp_all [kJoy, ltn, -Int32.not_le]
    refine r_sw1 (fun c_21 => ?_) (fun d_21_5 => ?_)
    · refine E_go 7 rfl ?_
      refine r_iconst ?_
      refine r_iret rfl trivial ?_
      refine qi hQ ?_
      simp_all [kJoy, ltn, -Int32.not_le]
    refine r_sw0 ?_
    refine E_go 8 rfl ?_
    refine r_iload_n rfl ?_
    refine r_iret rfl trivial ?_
    refine qi hQ ?_
    simp_all [kJoy, ltn, -Int32.not_le]
  · refine r_iconst ?_
    refine r_iload_n rfl ?_
    refine r_imul ?_
    refine r_goto ?_
    refine E_go 2 rfl ?_
    refine r_istore (ls' := [_, _, _, _, _, _]) (zt rfl) rfl ?_
    refine r_iload_n rfl ?_
    refine r_iload_n rfl ?_
    refine r_iadd ?_
    refine r_istore (ls' := [_, _, _, _, _, _]) (zt rfl) rfl ?_
    refine r_iload_n rfl ?_
    refine r_table ?_
    refine r_sw1 (fun c_21 => ?_) (fun d_21_1 => ?_)
    · refine E_go 3 rfl ?_
      refine r_iload rfl ?_
      refine r_iret rfl trivial ?_
      refine qi hQ ?_
      simp_all [kJoy, ltn, -Int32.not_le]
    refine r_sw1 (fun c_21 => ?_) (fun d_21_2 => ?_)
    · refine E_go 4 rfl ?_
      refine r_iload rfl ?_
      refine r_iret rfl trivial ?_
      refine qi hQ ?_
      simp_all [kJoy, ltn, -Int32.not_le]
    refine r_sw1 (fun c_21 => ?_) (fun d_21_3 => ?_)
    · refine E_go 5 rfl ?_
      refine r_iload rfl ?_
      refine r_iconst ?_
      refine r_iadd ?_
      refine r_iret rfl trivial ?_
      refine qi hQ ?_
      simp_all [kJoy, ltn, -Int32.not_le]
    refine r_sw1 (fun c_21 => ?_) (fun d_21_4 => ?_)
    · refine E_go 6 rfl ?_
      refine r_iload rfl ?_
      refine r_iconst ?_
      refine r_idiv (by decide) ?_
      refine r_iret rfl trivial ?_
      refine qi hQ ?_
      simp_all [kJoy, ltn, -Int32.not_le]
    refine r_sw1 (fun c_21 => ?_) (fun d_21_5 => ?_)
    · refine E_go 7 rfl ?_
      refine r_iconst ?_
      refine r_iret rfl trivial ?_
      refine qi hQ ?_
      simp_all [kJoy, ltn, -Int32.not_le]
    refine r_sw0 ?_
    refine E_go 8 rfl ?_
    refine r_iload_n rfl ?_
    refine r_iret rfl trivial ?_
    refine qi hQ ?_
    simp_all [kJoy, ltn, -Int32.not_le]

theorem x6w {v lo hi : Int32} (h : lo ≤ hi) : (if lo < (if v < hi then v else hi) then (if v < hi then v else hi) else lo) = w3 v lo hi := by
  unfold w3
  rw [le_int] at h
  simp only [lt_int]
  repeat' split
  all_goals first | rfl | (exfalso; omega) | (rw [eq_int]; omega)
theorem x7w {v lo hi : Int32} (h : lo ≤ hi) : (if lo ≤ v then (if v ≤ hi then v else hi) else lo) = w3 v lo hi := by
  unfold w3
  rw [le_int] at h
  simp only [le_int, lt_int]
  repeat' split
  all_goals first | rfl | (exfalso; omega) | (rw [eq_int]; omega)
theorem x1t {k n : Int32} : (if k = 1 then 6 + n else if k = 2 then 6 / 2 else if k = 3 then 6 + n else if k = 4 then 6 / 2 + 1 else if k = 5 then 0 else 6) = kTake k n := rfl

set_option maxRecDepth 10000 in
theorem s_J6_bitCount_0f7a4 {xs : xSc} {m : Nat} (hm : 1 ≤ m) {x : Int32} {h : xHp} {Q : Value → xHp → Prop} (hx : ∃ k, k < 32 ∧ x = io k) (hQ : Q (.int (bc x)) h) : M xs m xi_J6_bitCount_0f7a4 [.int x] h Q := by
  obtain ⟨m, rfl⟩ : ∃ k, m = k + 1 := ⟨m - 1, by omega⟩
  refine M_go (ls := [_]) (ml := 1) rfl rfl rfl (zl rfl) rfl ?_
  refine r_iload_n rfl ?_
  refine r_iload_n rfl ?_
  refine r_iconst ?_
  refine r_iushr ?_
  refine r_ldc_w ?_
  refine r_iand ?_
  refine r_isub ?_
  refine r_istore_n (ls' := [_]) (zt rfl) rfl ?_
  refine r_iload_n rfl ?_
  refine r_ldc_w ?_
  refine r_iand ?_
  refine r_iload_n rfl ?_
  refine r_iconst ?_
  refine r_iushr ?_
  refine r_ldc_w ?_
  refine r_iand ?_
  refine r_iadd ?_
  refine r_istore_n (ls' := [_]) (zt rfl) rfl ?_
  refine r_iload_n rfl ?_
  refine r_iload_n rfl ?_
  refine r_iconst ?_
  refine r_iushr ?_
  refine r_iadd ?_
  refine r_ldc_w ?_
  refine r_iand ?_
  refine r_istore_n (ls' := [_]) (zt rfl) rfl ?_
  refine r_iload_n rfl ?_
  refine r_iload_n rfl ?_
  refine r_bipush ?_
  refine r_iushr ?_
  refine r_iadd ?_
  refine r_istore_n (ls' := [_]) (zt rfl) rfl ?_
  refine r_iload_n rfl ?_
  refine r_iload_n rfl ?_
  refine r_bipush ?_
  refine r_iushr ?_
  refine r_iadd ?_
  refine r_istore_n (ls' := [_]) (zt rfl) rfl ?_
  refine r_iload_n rfl ?_
  refine r_bipush ?_
  refine r_iand ?_
  refine r_iret rfl trivial ?_
  refine qi hQ ?_
  clear hQ
  obtain ⟨k, hk, rfl⟩ := hx
  revert k
  decide +kernel

theorem bc_dn : ∀ k, k < 32 → ¬ io k = 0 → ∃ j, j < k ∧ io k &&& (io k - 1) = io j ∧ bc (io j) + 1 = bc (io k) := by decide +kernel
theorem bc_0 : bc 0 = 0 := rfl
set_option maxRecDepth 10000 in
theorem s_X7_bitsOf {xs : xSc} {m : Nat} (hm : 1 ≤ m) {x : Int32} {h : xHp} {Q : Value → xHp → Prop} (hx : ∃ k, k < 32 ∧ x = io k) (hQ : Q (.int (bc x)) h) : M xs m xi_X7_bitsOf [.int x] h Q := by
  obtain ⟨m, rfl⟩ : ∃ k, m = k + 1 := ⟨m - 1, by omega⟩
  have key : ∀ k, k < 32 → ∀ s : Int32, s + bc (io k) = bc x → E xs m xi_X7_bitsOf (h.1 + xAl xi_X7_bitsOf) Q 4 [.int x, .int s, .int (io k)] [] h := by
    intro k
    induction k using Nat.strongRecOn with
    | _ k ih =>
    intro hk s hs

    refine E_go 1 rfl ?_
    refine r_iload_n rfl ?_
    refine r_if_eq (fun c_5 => ?_) (fun c_5 => ?_)
    · refine E_go 2 rfl ?_
      refine r_iload_n rfl ?_
      refine r_iret rfl trivial ?_
      refine qi hQ ?_
      rw [show io k = (0 : Int32) from c_5, bc_0, Int32.add_zero] at hs
      exact hs.symm
    · refine r_iinc (ls' := [_, _, _]) rfl (zt rfl) rfl ?_
      refine r_iload_n rfl ?_
      refine r_iload_n rfl ?_
      refine r_iconst ?_
      refine r_isub ?_
      refine r_iand ?_
      refine r_istore_n (ls' := [_, _, _]) (zt rfl) rfl ?_
      refine r_goto ?_
      obtain ⟨j, hj, e1, e2⟩ := bc_dn k hk c_5
      rw [e1]
      exact ih j hj (by omega) _ (by rw [Int32.add_assoc, Int32.add_comm 1, e2]; exact hs)

  refine M_go (ls := [_, _, _]) (ml := 3) rfl rfl rfl (zl rfl) rfl ?_
  refine r_iconst ?_
  refine r_istore_n (ls' := [_, _, _]) (zt rfl) rfl ?_
  refine r_iload_n rfl ?_
  refine r_istore_n (ls' := [_, _, _]) (zt rfl) rfl ?_
  refine r_nil ?_
  obtain ⟨k, hk, rfl⟩ := hx
  exact key k hk 0 (by rw [Int32.zero_add])
