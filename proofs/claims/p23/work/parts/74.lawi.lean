set_option maxHeartbeats 8000000 in
set_option maxRecDepth 100000 in
theorem law_turn {g : kG} {X : kX} {bs Ls : Nat} {xs : Nat → Int32} {u : Nat → va_E} {ak ap am al aa n m t e k0 n0 : Nat} {B : kB} {S : Nat → kS} {C K P M L A : Nat → Int32}  (hfl : X.2.1.stackTraces = false) (F : Fx g X cL_law 16 (some .boolean) wsL_law RL ({ frames := 11, cells := 1200130, slots := 5501080, locals := 428 })) (T : Sx g X bs Ls xs) (hLs : Ls ≤ 260) (he : e < 60) (hk0 : k0 + 500 ≤ 1200130) (hn0 : n0 + 3000 ≤ 5501080) (hT : TW g u ak ap am al aa n B m S t C K P M L A) (ho : okB n B K P M L A) (kk : ∀ (u' : Nat → va_E) (n' m' t' : Nat) (B' : kB) (S' : Nat → kS) (C' K' P' M' L' A' : Nat → Int32), TW g u' ak ap am al aa n' B' m' S' t' C' K' P' M' L' A' → okB n' B' K' P' M' L' A' → VL g X (k0 + 500) (n0 + 3000) u' 42 [(0, .ref bs), (1, .ref (g.2.1 0)), (2, .ref ak), (3, .ref ap), (4, .ref am), (5, .ref al), (6, .ref aa), (7, .int (nI n')), (8, .int (nI (e + 1)))] []) : VL g X k0 n0 u 42 [(0, .ref bs), (1, .ref (g.2.1 0)), (2, .ref ak), (3, .ref ap), (4, .ref am), (5, .ref al), (6, .ref aa), (7, .int (nI n)), (8, .int (nI e))] [] := by
  have hn : n ≤ 16 := hT.1.2.1.le
  refine r_iload F 8 rfl dL_law_42 ?_
  refine r_bipush (v := 60) F (by decide) dL_law_44 ?_
  refine r_icmp_ge F 754 (by decide) dL_law_46 (fun c_46_1 => absurd c_46_1 (nI_ge (b := 60) he (by decide))) (fun _ => ?_)
  refine r_aload_n F 0 rfl dL_law_49 ?_
  refine r_iload F 8 rfl dL_law_50 ?_
  refine r_calli (g_SS (nA := 2) (As := [.ref bs, .int (nI e)]) (rest := []) F T (c_L_cell (i := e) (L := Ls) (xs := xs) (by omega) (by omega)) gL_law_L_cell rfl (by decide +kernel) rfl ⟨Nat.le_of_ble_eq_true rfl, Nat.le_of_ble_eq_true rfl⟩ ⟨by (try dsimp only); omega, by (try dsimp only); omega⟩ rfl (Nat.le_of_ble_eq_true rfl) dL_law_52) (fun r_2 u_2 hp_2 => ?_)
  refine r_widen (k' := k0) (n' := n0) (by (try dsimp only); omega) (by (try dsimp only); omega) ?_
  obtain rfl := hp_2
  refine r_istore (lv' := [(0, .ref bs), (1, .ref (g.2.1 0)), (2, .ref ak), (3, .ref ap), (4, .ref am), (5, .ref al), (6, .ref aa), (7, .int (nI n)), (8, .int (nI e)), (9, .int r_2)]) F (by decide) rfl dL_law_55 ?_
  refine r_iload F 9 rfl dL_law_57 ?_
  refine r_bipush (v := 14) F (by decide) dL_law_59 ?_
  refine r_calli (g_S (nA := 2) (As := [.int r_2, .int (nI 14)]) (rest := []) F (c_L_low (v := r_2) (w := 14) (by decide) (by decide)) gL_law_L_low rfl (by decide +kernel) rfl ⟨Nat.le_of_ble_eq_true rfl, Nat.le_of_ble_eq_true rfl⟩ ⟨by (try dsimp only); omega, by (try dsimp only); omega⟩ rfl (Nat.le_of_ble_eq_true rfl) dL_law_61) (fun r_3 u_3 hp_3 => ?_)
  refine r_widen (k' := k0) (n' := n0) (by (try dsimp only); omega) (by (try dsimp only); omega) ?_
  obtain ⟨⟨kd, hkd, rfl⟩, rfl⟩ := hp_3
  refine r_istore (lv' := [(0, .ref bs), (1, .ref (g.2.1 0)), (2, .ref ak), (3, .ref ap), (4, .ref am), (5, .ref al), (6, .ref aa), (7, .int (nI n)), (8, .int (nI e)), (9, .int r_2), (10, .int (nI kd))]) F (by decide) rfl dL_law_64 ?_
  refine r_iconst (v := 1) F (by decide) dL_law_66 ?_
  refine r_istore (lv' := [(0, .ref bs), (1, .ref (g.2.1 0)), (2, .ref ak), (3, .ref ap), (4, .ref am), (5, .ref al), (6, .ref aa), (7, .int (nI n)), (8, .int (nI e)), (9, .int r_2), (10, .int (nI kd)), (11, .int 1)]) F (by decide) rfl dL_law_67 ?_
  refine r_iload F 10 rfl dL_law_69 ?_
  refine r_bipush (v := 6) F (by decide) dL_law_71 ?_
  refine r_icmp_lt F 81 (by decide) dL_law_73 (fun c_73_4 => ?_) (fun c_73_4 => ?_)
  · skip
    refine r_iload F 7 rfl dL_law_81 ?_
    refine r_bipush (v := 16) F (by decide) dL_law_83 ?_
    refine r_icmp_ge F 416 (by decide) dL_law_85 (fun c_85_5 => ?_) (fun c_85_5 => ?_)
    · skip
      have hnp_5 : 0 < n := p_16 c_85_5
      refine r_iload F 10 rfl dL_law_416 ?_
      refine r_bipush (v := 6) F (by decide) dL_law_418 ?_
      refine r_icmp_ne F 458 (by decide) dL_law_420 (fun c_420_6 => ?_) (fun c_420_6 => ?_)
      · skip
        refine r_iload F 10 rfl dL_law_458 ?_
        refine r_bipush (v := 7) F (by decide) dL_law_460 ?_
        refine r_icmp_ne F 539 (by decide) dL_law_462 (fun c_462_7 => ?_) (fun c_462_7 => ?_)
        · skip
          exact op_answer hnp_5 hfl F T hLs he hk0 hn0 hT ho (fun u2 n2 m2 t2 B2 S2 C2 K2 P2 M2 L2 A2 hT2 ho2 => law_tail hfl F T hLs he hk0 hn0 hT2 ho2 (fun u3 hT3 => kk _ _ _ _ _ _ _ _ _ _ _ _ hT3 ho2))
        · skip
          refine r_iload F 9 rfl dL_law_465 ?_
          refine r_iconst (v := 4) F (by decide) dL_law_467 ?_
          refine r_ishr F dL_law_468 ?_
          refine r_bipush (v := 6) F (by decide) dL_law_469 ?_
          refine r_calli (g_S (nA := 2) (As := [.int (r_2 >>> (4 &&& 31)), .int (nI 6)]) (rest := []) F (c_L_low (v := (r_2 >>> (4 &&& 31))) (w := 6) (by decide) (by decide)) gL_law_L_low rfl (by decide +kernel) rfl ⟨Nat.le_of_ble_eq_true rfl, Nat.le_of_ble_eq_true rfl⟩ ⟨by (try dsimp only); omega, by (try dsimp only); omega⟩ rfl (Nat.le_of_ble_eq_true rfl) dL_law_471) (fun r_8 u_8 hp_8 => ?_)
          refine r_widen (k' := k0) (n' := n0) (by (try dsimp only); omega) (by (try dsimp only); omega) ?_
          obtain ⟨⟨z2, hz2, rfl⟩, rfl⟩ := hp_8
          refine r_if_ne F 539 (by decide) dL_law_474 (fun c_474_9 => ?_) (fun c_474_9 => ?_)
          · skip
            exact op_answer hnp_5 hfl F T hLs he hk0 hn0 hT ho (fun u2 n2 m2 t2 B2 S2 C2 K2 P2 M2 L2 A2 hT2 ho2 => law_tail hfl F T hLs he hk0 hn0 hT2 ho2 (fun u3 hT3 => kk _ _ _ _ _ _ _ _ _ _ _ _ hT3 ho2))
          · skip
            exact op_clear hfl F T hLs he hk0 hn0 hT ho (fun u2 n2 m2 t2 B2 S2 C2 K2 P2 M2 L2 A2 hT2 ho2 => law_tail hfl F T hLs he hk0 hn0 hT2 ho2 (fun u3 hT3 => kk _ _ _ _ _ _ _ _ _ _ _ _ hT3 ho2))
      · skip
        refine r_iload F 9 rfl dL_law_423 ?_
        refine r_iconst (v := 4) F (by decide) dL_law_425 ?_
        refine r_ishr F dL_law_426 ?_
        refine r_iconst (v := 3) F (by decide) dL_law_427 ?_
        refine r_calli (g_S (nA := 2) (As := [.int (r_2 >>> (4 &&& 31)), .int (nI 3)]) (rest := []) F (c_L_low (v := (r_2 >>> (4 &&& 31))) (w := 3) (by decide) (by decide)) gL_law_L_low rfl (by decide +kernel) rfl ⟨Nat.le_of_ble_eq_true rfl, Nat.le_of_ble_eq_true rfl⟩ ⟨by (try dsimp only); omega, by (try dsimp only); omega⟩ rfl (Nat.le_of_ble_eq_true rfl) dL_law_428) (fun r_10 u_10 hp_10 => ?_)
        refine r_widen (k' := k0) (n' := n0) (by (try dsimp only); omega) (by (try dsimp only); omega) ?_
        obtain ⟨⟨z1, hz1, rfl⟩, rfl⟩ := hp_10
        refine r_if_ne F 458 (by decide) dL_law_431 (fun c_431_11 => ?_) (fun c_431_11 => ?_)
        · skip
          refine r_iload F 10 rfl dL_law_458 ?_
          refine r_bipush (v := 7) F (by decide) dL_law_460 ?_
          refine r_icmp_ne F 539 (by decide) dL_law_462 (fun c_462_12 => ?_) (fun c_462_12 => ?_)
          · skip
            exact op_answer hnp_5 hfl F T hLs he hk0 hn0 hT ho (fun u2 n2 m2 t2 B2 S2 C2 K2 P2 M2 L2 A2 hT2 ho2 => law_tail hfl F T hLs he hk0 hn0 hT2 ho2 (fun u3 hT3 => kk _ _ _ _ _ _ _ _ _ _ _ _ hT3 ho2))
          · skip
            refine r_iload F 9 rfl dL_law_465 ?_
            refine r_iconst (v := 4) F (by decide) dL_law_467 ?_
            refine r_ishr F dL_law_468 ?_
            refine r_bipush (v := 6) F (by decide) dL_law_469 ?_
            refine r_calli (g_S (nA := 2) (As := [.int (r_2 >>> (4 &&& 31)), .int (nI 6)]) (rest := []) F (c_L_low (v := (r_2 >>> (4 &&& 31))) (w := 6) (by decide) (by decide)) gL_law_L_low rfl (by decide +kernel) rfl ⟨Nat.le_of_ble_eq_true rfl, Nat.le_of_ble_eq_true rfl⟩ ⟨by (try dsimp only); omega, by (try dsimp only); omega⟩ rfl (Nat.le_of_ble_eq_true rfl) dL_law_471) (fun r_13 u_13 hp_13 => ?_)
            refine r_widen (k' := k0) (n' := n0) (by (try dsimp only); omega) (by (try dsimp only); omega) ?_
            obtain ⟨⟨z2, hz2, rfl⟩, rfl⟩ := hp_13
            refine r_if_ne F 539 (by decide) dL_law_474 (fun c_474_14 => ?_) (fun c_474_14 => ?_)
            · skip
              exact op_answer hnp_5 hfl F T hLs he hk0 hn0 hT ho (fun u2 n2 m2 t2 B2 S2 C2 K2 P2 M2 L2 A2 hT2 ho2 => law_tail hfl F T hLs he hk0 hn0 hT2 ho2 (fun u3 hT3 => kk _ _ _ _ _ _ _ _ _ _ _ _ hT3 ho2))
            · skip
              exact op_clear hfl F T hLs he hk0 hn0 hT ho (fun u2 n2 m2 t2 B2 S2 C2 K2 P2 M2 L2 A2 hT2 ho2 => law_tail hfl F T hLs he hk0 hn0 hT2 ho2 (fun u3 hT3 => kk _ _ _ _ _ _ _ _ _ _ _ _ hT3 ho2))
        · skip
          obtain ⟨n1, rfl⟩ : ∃ n1, n = n1 + 1 := ⟨n - 1, by have := hnp_5; omega⟩
          exact op_drop hfl F T hLs he hk0 hn0 hT ho (fun u2 n2 m2 t2 B2 S2 C2 K2 P2 M2 L2 A2 hT2 ho2 => law_tail hfl F T hLs he hk0 hn0 hT2 ho2 (fun u3 hT3 => kk _ _ _ _ _ _ _ _ _ _ _ _ hT3 ho2))
    · skip
      have hn16_14 : n < 16 := p_lt16 (by omega) c_85_5
      exact op_add hn16_14 hfl F T hLs he hk0 hn0 hT ho (fun u2 n2 m2 t2 B2 S2 C2 K2 P2 M2 L2 A2 hT2 ho2 => law_tail hfl F T hLs he hk0 hn0 hT2 ho2 (fun u3 hT3 => kk _ _ _ _ _ _ _ _ _ _ _ _ hT3 ho2))
  · skip
    refine r_iload F 7 rfl dL_law_76 ?_
    refine r_if_ne F 416 (by decide) dL_law_78 (fun c_78_15 => ?_) (fun c_78_15 => ?_)
    · skip
      have hnp_15 : 0 < n := p_0 c_78_15
      refine r_iload F 10 rfl dL_law_416 ?_
      refine r_bipush (v := 6) F (by decide) dL_law_418 ?_
      refine r_icmp_ne F 458 (by decide) dL_law_420 (fun c_420_16 => ?_) (fun c_420_16 => ?_)
      · skip
        refine r_iload F 10 rfl dL_law_458 ?_
        refine r_bipush (v := 7) F (by decide) dL_law_460 ?_
        refine r_icmp_ne F 539 (by decide) dL_law_462 (fun c_462_17 => ?_) (fun c_462_17 => ?_)
        · skip
          exact op_answer hnp_15 hfl F T hLs he hk0 hn0 hT ho (fun u2 n2 m2 t2 B2 S2 C2 K2 P2 M2 L2 A2 hT2 ho2 => law_tail hfl F T hLs he hk0 hn0 hT2 ho2 (fun u3 hT3 => kk _ _ _ _ _ _ _ _ _ _ _ _ hT3 ho2))
        · skip
          refine r_iload F 9 rfl dL_law_465 ?_
          refine r_iconst (v := 4) F (by decide) dL_law_467 ?_
          refine r_ishr F dL_law_468 ?_
          refine r_bipush (v := 6) F (by decide) dL_law_469 ?_
          refine r_calli (g_S (nA := 2) (As := [.int (r_2 >>> (4 &&& 31)), .int (nI 6)]) (rest := []) F (c_L_low (v := (r_2 >>> (4 &&& 31))) (w := 6) (by decide) (by decide)) gL_law_L_low rfl (by decide +kernel) rfl ⟨Nat.le_of_ble_eq_true rfl, Nat.le_of_ble_eq_true rfl⟩ ⟨by (try dsimp only); omega, by (try dsimp only); omega⟩ rfl (Nat.le_of_ble_eq_true rfl) dL_law_471) (fun r_18 u_18 hp_18 => ?_)
          refine r_widen (k' := k0) (n' := n0) (by (try dsimp only); omega) (by (try dsimp only); omega) ?_
          obtain ⟨⟨z2, hz2, rfl⟩, rfl⟩ := hp_18
          refine r_if_ne F 539 (by decide) dL_law_474 (fun c_474_19 => ?_) (fun c_474_19 => ?_)
          · skip
            exact op_answer hnp_15 hfl F T hLs he hk0 hn0 hT ho (fun u2 n2 m2 t2 B2 S2 C2 K2 P2 M2 L2 A2 hT2 ho2 => law_tail hfl F T hLs he hk0 hn0 hT2 ho2 (fun u3 hT3 => kk _ _ _ _ _ _ _ _ _ _ _ _ hT3 ho2))
          · skip
            exact op_clear hfl F T hLs he hk0 hn0 hT ho (fun u2 n2 m2 t2 B2 S2 C2 K2 P2 M2 L2 A2 hT2 ho2 => law_tail hfl F T hLs he hk0 hn0 hT2 ho2 (fun u3 hT3 => kk _ _ _ _ _ _ _ _ _ _ _ _ hT3 ho2))
      · skip
        refine r_iload F 9 rfl dL_law_423 ?_
        refine r_iconst (v := 4) F (by decide) dL_law_425 ?_
        refine r_ishr F dL_law_426 ?_
        refine r_iconst (v := 3) F (by decide) dL_law_427 ?_
        refine r_calli (g_S (nA := 2) (As := [.int (r_2 >>> (4 &&& 31)), .int (nI 3)]) (rest := []) F (c_L_low (v := (r_2 >>> (4 &&& 31))) (w := 3) (by decide) (by decide)) gL_law_L_low rfl (by decide +kernel) rfl ⟨Nat.le_of_ble_eq_true rfl, Nat.le_of_ble_eq_true rfl⟩ ⟨by (try dsimp only); omega, by (try dsimp only); omega⟩ rfl (Nat.le_of_ble_eq_true rfl) dL_law_428) (fun r_20 u_20 hp_20 => ?_)
        refine r_widen (k' := k0) (n' := n0) (by (try dsimp only); omega) (by (try dsimp only); omega) ?_
        obtain ⟨⟨z1, hz1, rfl⟩, rfl⟩ := hp_20
        refine r_if_ne F 458 (by decide) dL_law_431 (fun c_431_21 => ?_) (fun c_431_21 => ?_)
        · skip
          refine r_iload F 10 rfl dL_law_458 ?_
          refine r_bipush (v := 7) F (by decide) dL_law_460 ?_
          refine r_icmp_ne F 539 (by decide) dL_law_462 (fun c_462_22 => ?_) (fun c_462_22 => ?_)
          · skip
            exact op_answer hnp_15 hfl F T hLs he hk0 hn0 hT ho (fun u2 n2 m2 t2 B2 S2 C2 K2 P2 M2 L2 A2 hT2 ho2 => law_tail hfl F T hLs he hk0 hn0 hT2 ho2 (fun u3 hT3 => kk _ _ _ _ _ _ _ _ _ _ _ _ hT3 ho2))
          · skip
            refine r_iload F 9 rfl dL_law_465 ?_
            refine r_iconst (v := 4) F (by decide) dL_law_467 ?_
            refine r_ishr F dL_law_468 ?_
            refine r_bipush (v := 6) F (by decide) dL_law_469 ?_
            refine r_calli (g_S (nA := 2) (As := [.int (r_2 >>> (4 &&& 31)), .int (nI 6)]) (rest := []) F (c_L_low (v := (r_2 >>> (4 &&& 31))) (w := 6) (by decide) (by decide)) gL_law_L_low rfl (by decide +kernel) rfl ⟨Nat.le_of_ble_eq_true rfl, Nat.le_of_ble_eq_true rfl⟩ ⟨by (try dsimp only); omega, by (try dsimp only); omega⟩ rfl (Nat.le_of_ble_eq_true rfl) dL_law_471) (fun r_23 u_23 hp_23 => ?_)
            refine r_widen (k' := k0) (n' := n0) (by (try dsimp only); omega) (by (try dsimp only); omega) ?_
            obtain ⟨⟨z2, hz2, rfl⟩, rfl⟩ := hp_23
            refine r_if_ne F 539 (by decide) dL_law_474 (fun c_474_24 => ?_) (fun c_474_24 => ?_)
            · skip
              exact op_answer hnp_15 hfl F T hLs he hk0 hn0 hT ho (fun u2 n2 m2 t2 B2 S2 C2 K2 P2 M2 L2 A2 hT2 ho2 => law_tail hfl F T hLs he hk0 hn0 hT2 ho2 (fun u3 hT3 => kk _ _ _ _ _ _ _ _ _ _ _ _ hT3 ho2))
            · skip
              exact op_clear hfl F T hLs he hk0 hn0 hT ho (fun u2 n2 m2 t2 B2 S2 C2 K2 P2 M2 L2 A2 hT2 ho2 => law_tail hfl F T hLs he hk0 hn0 hT2 ho2 (fun u3 hT3 => kk _ _ _ _ _ _ _ _ _ _ _ _ hT3 ho2))
        · skip
          obtain ⟨n1, rfl⟩ : ∃ n1, n = n1 + 1 := ⟨n - 1, by have := hnp_15; omega⟩
          exact op_drop hfl F T hLs he hk0 hn0 hT ho (fun u2 n2 m2 t2 B2 S2 C2 K2 P2 M2 L2 A2 hT2 ho2 => law_tail hfl F T hLs he hk0 hn0 hT2 ho2 (fun u3 hT3 => kk _ _ _ _ _ _ _ _ _ _ _ _ hT3 ho2))
    · skip
      refine r_iload F 7 rfl dL_law_81 ?_
      refine r_bipush (v := 16) F (by decide) dL_law_83 ?_
      refine r_icmp_ge F 416 (by decide) dL_law_85 (fun c_85_25 => ?_) (fun c_85_25 => ?_)
      · skip
        have hnp_25 : 0 < n := p_16 c_85_25
        refine r_iload F 10 rfl dL_law_416 ?_
        refine r_bipush (v := 6) F (by decide) dL_law_418 ?_
        refine r_icmp_ne F 458 (by decide) dL_law_420 (fun c_420_26 => ?_) (fun c_420_26 => ?_)
        · skip
          refine r_iload F 10 rfl dL_law_458 ?_
          refine r_bipush (v := 7) F (by decide) dL_law_460 ?_
          refine r_icmp_ne F 539 (by decide) dL_law_462 (fun c_462_27 => ?_) (fun c_462_27 => ?_)
          · skip
            exact op_answer hnp_25 hfl F T hLs he hk0 hn0 hT ho (fun u2 n2 m2 t2 B2 S2 C2 K2 P2 M2 L2 A2 hT2 ho2 => law_tail hfl F T hLs he hk0 hn0 hT2 ho2 (fun u3 hT3 => kk _ _ _ _ _ _ _ _ _ _ _ _ hT3 ho2))
          · skip
            refine r_iload F 9 rfl dL_law_465 ?_
            refine r_iconst (v := 4) F (by decide) dL_law_467 ?_
            refine r_ishr F dL_law_468 ?_
            refine r_bipush (v := 6) F (by decide) dL_law_469 ?_
            refine r_calli (g_S (nA := 2) (As := [.int (r_2 >>> (4 &&& 31)), .int (nI 6)]) (rest := []) F (c_L_low (v := (r_2 >>> (4 &&& 31))) (w := 6) (by decide) (by decide)) gL_law_L_low rfl (by decide +kernel) rfl ⟨Nat.le_of_ble_eq_true rfl, Nat.le_of_ble_eq_true rfl⟩ ⟨by (try dsimp only); omega, by (try dsimp only); omega⟩ rfl (Nat.le_of_ble_eq_true rfl) dL_law_471) (fun r_28 u_28 hp_28 => ?_)
            refine r_widen (k' := k0) (n' := n0) (by (try dsimp only); omega) (by (try dsimp only); omega) ?_
            obtain ⟨⟨z2, hz2, rfl⟩, rfl⟩ := hp_28
            refine r_if_ne F 539 (by decide) dL_law_474 (fun c_474_29 => ?_) (fun c_474_29 => ?_)
            · skip
              exact op_answer hnp_25 hfl F T hLs he hk0 hn0 hT ho (fun u2 n2 m2 t2 B2 S2 C2 K2 P2 M2 L2 A2 hT2 ho2 => law_tail hfl F T hLs he hk0 hn0 hT2 ho2 (fun u3 hT3 => kk _ _ _ _ _ _ _ _ _ _ _ _ hT3 ho2))
            · skip
              exact op_clear hfl F T hLs he hk0 hn0 hT ho (fun u2 n2 m2 t2 B2 S2 C2 K2 P2 M2 L2 A2 hT2 ho2 => law_tail hfl F T hLs he hk0 hn0 hT2 ho2 (fun u3 hT3 => kk _ _ _ _ _ _ _ _ _ _ _ _ hT3 ho2))
        · skip
          refine r_iload F 9 rfl dL_law_423 ?_
          refine r_iconst (v := 4) F (by decide) dL_law_425 ?_
          refine r_ishr F dL_law_426 ?_
          refine r_iconst (v := 3) F (by decide) dL_law_427 ?_
          refine r_calli (g_S (nA := 2) (As := [.int (r_2 >>> (4 &&& 31)), .int (nI 3)]) (rest := []) F (c_L_low (v := (r_2 >>> (4 &&& 31))) (w := 3) (by decide) (by decide)) gL_law_L_low rfl (by decide +kernel) rfl ⟨Nat.le_of_ble_eq_true rfl, Nat.le_of_ble_eq_true rfl⟩ ⟨by (try dsimp only); omega, by (try dsimp only); omega⟩ rfl (Nat.le_of_ble_eq_true rfl) dL_law_428) (fun r_30 u_30 hp_30 => ?_)
          refine r_widen (k' := k0) (n' := n0) (by (try dsimp only); omega) (by (try dsimp only); omega) ?_
          obtain ⟨⟨z1, hz1, rfl⟩, rfl⟩ := hp_30
          refine r_if_ne F 458 (by decide) dL_law_431 (fun c_431_31 => ?_) (fun c_431_31 => ?_)
          · skip
            refine r_iload F 10 rfl dL_law_458 ?_
            refine r_bipush (v := 7) F (by decide) dL_law_460 ?_
            refine r_icmp_ne F 539 (by decide) dL_law_462 (fun c_462_32 => ?_) (fun c_462_32 => ?_)
            · skip
              exact op_answer hnp_25 hfl F T hLs he hk0 hn0 hT ho (fun u2 n2 m2 t2 B2 S2 C2 K2 P2 M2 L2 A2 hT2 ho2 => law_tail hfl F T hLs he hk0 hn0 hT2 ho2 (fun u3 hT3 => kk _ _ _ _ _ _ _ _ _ _ _ _ hT3 ho2))
            · skip
              refine r_iload F 9 rfl dL_law_465 ?_
              refine r_iconst (v := 4) F (by decide) dL_law_467 ?_
              refine r_ishr F dL_law_468 ?_
              refine r_bipush (v := 6) F (by decide) dL_law_469 ?_
              refine r_calli (g_S (nA := 2) (As := [.int (r_2 >>> (4 &&& 31)), .int (nI 6)]) (rest := []) F (c_L_low (v := (r_2 >>> (4 &&& 31))) (w := 6) (by decide) (by decide)) gL_law_L_low rfl (by decide +kernel) rfl ⟨Nat.le_of_ble_eq_true rfl, Nat.le_of_ble_eq_true rfl⟩ ⟨by (try dsimp only); omega, by (try dsimp only); omega⟩ rfl (Nat.le_of_ble_eq_true rfl) dL_law_471) (fun r_33 u_33 hp_33 => ?_)
              refine r_widen (k' := k0) (n' := n0) (by (try dsimp only); omega) (by (try dsimp only); omega) ?_
              obtain ⟨⟨z2, hz2, rfl⟩, rfl⟩ := hp_33
              refine r_if_ne F 539 (by decide) dL_law_474 (fun c_474_34 => ?_) (fun c_474_34 => ?_)
              · skip
                exact op_answer hnp_25 hfl F T hLs he hk0 hn0 hT ho (fun u2 n2 m2 t2 B2 S2 C2 K2 P2 M2 L2 A2 hT2 ho2 => law_tail hfl F T hLs he hk0 hn0 hT2 ho2 (fun u3 hT3 => kk _ _ _ _ _ _ _ _ _ _ _ _ hT3 ho2))
              · skip
                exact op_clear hfl F T hLs he hk0 hn0 hT ho (fun u2 n2 m2 t2 B2 S2 C2 K2 P2 M2 L2 A2 hT2 ho2 => law_tail hfl F T hLs he hk0 hn0 hT2 ho2 (fun u3 hT3 => kk _ _ _ _ _ _ _ _ _ _ _ _ hT3 ho2))
          · skip
            obtain ⟨n1, rfl⟩ : ∃ n1, n = n1 + 1 := ⟨n - 1, by have := hnp_25; omega⟩
            exact op_drop hfl F T hLs he hk0 hn0 hT ho (fun u2 n2 m2 t2 B2 S2 C2 K2 P2 M2 L2 A2 hT2 ho2 => law_tail hfl F T hLs he hk0 hn0 hT2 ho2 (fun u3 hT3 => kk _ _ _ _ _ _ _ _ _ _ _ _ hT3 ho2))
      · skip
        have hn16_34 : n < 16 := p_lt16 (by omega) c_85_25
        exact op_add hn16_34 hfl F T hLs he hk0 hn0 hT ho (fun u2 n2 m2 t2 B2 S2 C2 K2 P2 M2 L2 A2 hT2 ho2 => law_tail hfl F T hLs he hk0 hn0 hT2 ho2 (fun u3 hT3 => kk _ _ _ _ _ _ _ _ _ _ _ _ hT3 ho2))
set_option maxHeartbeats 4000000 in
set_option maxRecDepth 100000 in
/-- the law, from its loop on -/
theorem law_loop {g : kG} {X : kX} {bs Ls : Nat} {xs : Nat → Int32} {ak ap am al aa : Nat} (hfl : X.2.1.stackTraces = false) (F : Fx g X cL_law 16 (some .boolean) wsL_law RL ({ frames := 11, cells := 1200130, slots := 5501080, locals := 428 })) (T : Sx g X bs Ls xs) (hLs : Ls ≤ 260) (kend : ∀ k n u lv, k ≤ 1200130 → n ≤ 5501080 → VL g X k n u 754 lv []) : ∀ (f e k0 n0 : Nat) (u : Nat → va_E) (n m t : Nat) (B : kB) (S : Nat → kS) (C K P M L A : Nat → Int32), e + f = 60 → k0 + 500 * f ≤ 1200130 → n0 + 3000 * f ≤ 5501080 → TW g u ak ap am al aa n B m S t C K P M L A → okB n B K P M L A → VL g X k0 n0 u 42 [(0, .ref bs), (1, .ref (g.2.1 0)), (2, .ref ak), (3, .ref ap), (4, .ref am), (5, .ref al), (6, .ref aa), (7, .int (nI n)), (8, .int (nI e))] [] := by
  intro f
  induction f with
  | zero =>
    intro e k0 n0 u n m t B S C K P M L A h1 h2 h3 hT ho
    refine r_iload F 8 rfl dL_law_42 ?_
    refine r_bipush (v := 60) F (by decide) dL_law_44 ?_
    refine r_icmp_ge F 754 (by decide) dL_law_46 (fun _ => kend _ _ _ _ (by omega) (by omega)) (fun q => absurd (nI_le (a := 60) (b := e) (by omega) (by omega)) q)
  | succ f ih =>
    intro e k0 n0 u n m t B S C K P M L A h1 h2 h3 hT ho
    exact law_turn hfl F T hLs (by omega) (by omega) (by omega) hT ho (fun u' n' m' t' B' S' C' K' P' M' L' A' hT' ho' => ih (e + 1) (k0 + 500) (n0 + 3000) u' n' m' t' B' S' C' K' P' M' L' A' (by omega) (by omega) (by omega) hT' ho')
