set_option maxHeartbeats 4000000 in
set_option maxRecDepth 100000 in
theorem c_X1_size {g : kG} {l : Launch} {u : Nat → va_E} {nx m : Nat} {S : Nat → kS} (h : HsN g u nx m S) : CI g l yX1_size wsX1_size ({ frames := 0, cells := 0, slots := 0, locals := 0 }) [.ref (g.2.1 15)] u (fun r u' => r = nI m ∧ u = u') := by
  refine CI.of (cc := cX1_size) (nL := 1) (ty := .int) (by decide +kernel) rfl (fun _ _ _ => rfl) (Nat.le_of_ble_eq_true rfl) ?_
  intro X hXl F hret
  subst hXl
  have hinX1 : ∀ w ∈ wsX10, w ∈ wsX1_size := by decide +kernel
  show VL g X 0 0 u 0 [(0, .ref (g.2.1 15))] []
  refine r_aload_n F 0 rfl dX1_size_0 ?_
  refine r_get (C := RX1) (T := TX1) (N := 3) F 15 h.obj (by decide) hinX1 rfl 2 (by decide) (by decide +kernel) rfl dX1_size_1 ?_
  exact hret _ _ _ _ _ _ (Nat.le_of_ble_eq_true rfl) (Nat.le_of_ble_eq_true rfl) ⟨by rfl, rfl⟩ dX1_size_4
set_option maxHeartbeats 4000000 in
set_option maxRecDepth 100000 in
theorem c_X1_stateAt {g : kG} {l : Launch} {u : Nat → va_E} {j : Nat} {f : Nat → Option Nat} {a b : Int32} (ho : u 15 = .inr (1, [.ref (g.2.1 16), .int a, .int b])) (hu : u 16 = .inl (g.2.2.1 2, 6, .inr (.inr (.inr (.inr f))))) (hf : ∀ j, j < 6 → f j = some (g.2.1 (17 + 7 * j))) (hj : j < 6) : CQ g l yX1_stateAt wsX1_stateAt ({ frames := 0, cells := 0, slots := 0, locals := 0 }) [.ref (g.2.1 15), .int (nI j)] u (fun r u' => r = some (g.2.1 (17 + 7 * j)) ∧ u = u') := by
  refine CQ.of (cc := cX1_stateAt) (nL := 2) (by decide +kernel) rfl (Or.inl ⟨_, rfl⟩) (Nat.le_of_ble_eq_true rfl) ?_
  intro X hXl F hret
  subst hXl
  have hinX1 : ∀ w ∈ wsX10, w ∈ wsX1_stateAt := by decide +kernel
  show VL g X 0 0 u 0 [(0, .ref (g.2.1 15)), (1, .int (nI j))] []
  refine r_iload_n F 1 rfl dX1_stateAt_0 ?_
  refine r_if_lt F 22 (by decide) dX1_stateAt_1 (fun c_1_1 => absurd c_1_1 (nI_pos (by omega))) (fun c_1_1 => ?_)
  clear c_1_1
  refine r_iload_n F 1 rfl dX1_stateAt_4 ?_
  refine r_aload_n F 0 rfl dX1_stateAt_5 ?_
  refine r_get (C := RX1) (T := TX1) (N := 3) F 15 ho (by decide) hinX1 rfl 0 (by decide) (by decide +kernel) rfl dX1_stateAt_6 ?_
  refine r_alen (j := 2) (v := nI 6) F 16 rfl hu (by decide) rfl dX1_stateAt_9 ?_
  refine r_icmp_ge F 22 (by decide) dX1_stateAt_10 (fun c_10_2 => absurd c_10_2 (nI_ge (b := 6) hj (by decide))) (fun c_10_2 => ?_)
  clear c_10_2
  refine r_aload_n F 0 rfl dX1_stateAt_13 ?_
  refine r_get (C := RX1) (T := TX1) (N := 3) F 15 ho (by decide) hinX1 rfl 0 (by decide) (by decide +kernel) rfl dX1_stateAt_14 ?_
  refine r_iload_n F 1 rfl dX1_stateAt_17 ?_
  refine r_qald F 16 hu (by decide) (vp_in_nI hj (by decide)) dX1_stateAt_18 ?_
  refine r_eq (st2 := [va_rf (some (g.2.1 (17 + 7 * j)))]) (by rw [nI_clamp (by omega), hf j hj]) rfl ?_
  refine r_goto F 23 (by decide) dX1_stateAt_19 ?_
  exact hret _ _ _ _ _ (some _) (Nat.le_of_ble_eq_true rfl) (Nat.le_of_ble_eq_true rfl) ⟨rfl, rfl⟩ dX1_stateAt_23
set_option maxHeartbeats 4000000 in
set_option maxRecDepth 100000 in
theorem c_X1_save {g : kG} {l : Launch} {u : Nat → va_E} {i n nx m : Nat} {S : Nat → kS} {B : kB} (h : HsN g u nx m S) (hf0 : FmB g u i n B) (hi : i + 7 ≤ 15) : CV g l yX1_save wsX1_save ({ frames := 2, cells := 0, slots := 0, locals := 44 }) [.ref (g.2.1 15), .ref (g.2.1 i)] u (fun u' => HsB g u' (pushM m) (pushS m S (n, B)) ∧ ∀ j, ¬ (15 ≤ j ∧ j < 59) → u' j = u j) := by
  refine CV.of (cc := cX1_save) (nL := 3) (by decide +kernel) rfl (Nat.le_of_ble_eq_true rfl) ?_
  intro X hXl F hret
  subst hXl
  have hinX1 : ∀ w ∈ wsX10, w ∈ wsX1_save := by decide +kernel
  have hnx := h.1
  obtain ⟨f, hf16, hff⟩ := h.2.2.1
  obtain ⟨sz, G, V, hL⟩ := h.2.2.2.2.1 nx h.1
  show VL g X 0 0 u 0 [(0, .ref (g.2.1 15)), (1, .ref (g.2.1 i))] []
  refine r_aload_n F 0 rfl dX1_save_0 ?_
  refine r_aload_n F 0 rfl dX1_save_1 ?_
  refine r_get (C := RX1) (T := TX1) (N := 3) F 15 h.obj (by decide) hinX1 rfl 1 (by decide) (by decide +kernel) rfl dX1_save_2 ?_
  refine r_callq (g_V (C := RX1) (T := TX1) (N := 3) (nA := 1) (As := [.int (nI nx)]) (rest := []) F 15 h.obj (by decide) rfl (c_X1_stateAt (j := nx) h.obj hf16 hff h.1) gX1_save_X1_stateAt rfl (by decide +kernel) rfl ⟨Nat.le_of_ble_eq_true rfl, Nat.le_of_ble_eq_true rfl⟩ ⟨Nat.le_of_ble_eq_true rfl, Nat.le_of_ble_eq_true rfl⟩ rfl (Nat.le_of_ble_eq_true rfl) dX1_save_5) (fun r_1 u_1 hp_1 => ?_)
  obtain ⟨rfl, rfl⟩ := hp_1
  refine r_eq (st2 := [.ref (g.2.1 (17 + 7 * nx))]) rfl rfl ?_
  refine r_astore_n (lv' := [(0, .ref (g.2.1 15)), (1, .ref (g.2.1 i)), (2, .ref (g.2.1 (17 + 7 * nx)))]) F (by decide) rfl dX1_save_8 ?_
  refine r_aload_n F 2 rfl dX1_save_9 ?_
  refine r_ifnull F dX1_save_10 ?_
  refine r_aload_n F 2 rfl dX1_save_13 ?_
  refine r_aload_n F 1 rfl dX1_save_14 ?_
  refine r_callv (g_VN (C := RX0) (T := TX0) (N := 7) (nA := 1) (As := [.ref (g.2.1 i)]) (rest := []) F (17 + 7 * nx) hL.1 (by show _ < 66; omega) rfl (c_X0_copyFrom hL (by show _ ≤ 66; omega) hf0 (by show _ ≤ 66; omega) (Or.inr (by omega))) gX1_save_X0_copyFrom_n29 rfl 5 rfl (by decide +kernel) (by decide +kernel) (by decide +kernel) (by decide +kernel) rfl ⟨Nat.le_of_ble_eq_true rfl, Nat.le_of_ble_eq_true rfl⟩ ⟨Nat.le_of_ble_eq_true rfl, Nat.le_of_ble_eq_true rfl⟩ rfl (Nat.le_of_ble_eq_true rfl) dX1_save_15) (fun u_2 hp_2 => ?_)
  obtain ⟨hB_2, hk_2⟩ := hp_2
  have ho2 : u_2 15 = .inr (1, [.ref (g.2.1 16), .int (nI nx), .int (nI m)]) := (hk_2 15 (by omega)).trans h.obj
  refine r_aload_n F 0 rfl dX1_save_18 ?_
  refine r_aload_n F 0 rfl dX1_save_19 ?_
  refine r_get (C := RX1) (T := TX1) (N := 3) F 15 ho2 (by decide) hinX1 rfl 1 (by decide) (by decide +kernel) rfl dX1_save_20 ?_
  refine r_iconst (v := 1) F (by decide) dX1_save_23 ?_
  refine r_iadd F dX1_save_24 ?_
  refine r_bipush (v := 6) F (by decide) dX1_save_25 ?_
  refine r_icmp_ge F 39 (by decide) dX1_save_27 (fun c_27_3 => ?_) (fun c_27_3 => ?_)
  · skip
    refine r_iconst (v := 0) F (by decide) dX1_save_39 ?_
    refine r_put (C := RX1) (T := TX1) (N := 3) (ty := .int) F 15 ho2 (by decide) hinX1 tyX1 tyX1_ok nmX1 rfl 1 (by decide) (by decide +kernel) rfl (by decide +kernel) rfl rfl (Nat.le_of_ble_eq_true rfl) dX1_save_40 (fun u_4 hu_4 => ?_)
    have hq_5 : u_4 15 = .inr (1, [.ref (g.2.1 16), .int 0, .int (nI m)]) := by rw [hu_4, veq]; rfl
    refine r_aload_n F 0 rfl dX1_save_43 ?_
    refine r_aload_n F 0 rfl dX1_save_44 ?_
    refine r_get (C := RX1) (T := TX1) (N := 3) F 15 hq_5 (by decide) hinX1 rfl 2 (by decide) (by decide +kernel) rfl dX1_save_45 ?_
    refine r_iconst (v := 1) F (by decide) dX1_save_48 ?_
    refine r_iadd F dX1_save_49 ?_
    refine r_bipush (v := 6) F (by decide) dX1_save_50 ?_
    refine r_min (rest := [.ref (g.2.1 15)]) F (by decide +kernel) (by decide +kernel) (by decide +kernel) (by decide +kernel) ⟨Nat.le_of_ble_eq_true rfl, Nat.le_of_ble_eq_true rfl, Nat.le_of_ble_eq_true rfl, Nat.le_of_ble_eq_true rfl⟩ dX1_save_52 ?_
    refine r_put (C := RX1) (T := TX1) (N := 3) (ty := .int) F 15 hq_5 (by decide) hinX1 tyX1 tyX1_ok nmX1 rfl 2 (by decide) (by decide +kernel) rfl (by decide +kernel) rfl rfl (Nat.le_of_ble_eq_true rfl) dX1_save_55 (fun u_6 hu_6 => ?_)
    have hq_7 : u_6 15 = .inr (1, [.ref (g.2.1 16), .int 0, .int (minI ((nI m) + 1) 6)]) := by rw [hu_6, veq]; rfl
    have hx : nx = 5 := by have q := (nI_leI (by omega) (by omega)).mp (show nI 6 ≤ nI (nx + 1) by rw [← nI_1 nx]; exact c_27_3); omega
    have hfr : ∀ j, j ≠ 15 → u_6 j = u_2 j := fun j hj => by rw [hu_6, vne hj, hu_4, vne hj]
    exact hret _ _ _ _ _ (Nat.le_of_ble_eq_true rfl) (Nat.le_of_ble_eq_true rfl) ⟨⟨0, h.push (hB_2.keep (fun j h1 h2 => hfr j (by omega))) (fun j h1 h2 => (hfr j h1).trans (hk_2 j (by omega))) (Or.inr ⟨hx, rfl⟩) (by rw [hq_7, pushM_I h.2.2.2.1]; first | rfl | rw [nI_1])⟩, fun j hj => (hfr j (by omega)).trans (hk_2 j (by omega))⟩ dX1_save_58
  · skip
    refine r_aload_n F 0 rfl dX1_save_30 ?_
    refine r_get (C := RX1) (T := TX1) (N := 3) F 15 ho2 (by decide) hinX1 rfl 1 (by decide) (by decide +kernel) rfl dX1_save_31 ?_
    refine r_iconst (v := 1) F (by decide) dX1_save_34 ?_
    refine r_iadd F dX1_save_35 ?_
    refine r_goto F 40 (by decide) dX1_save_36 ?_
    refine r_put (C := RX1) (T := TX1) (N := 3) (ty := .int) F 15 ho2 (by decide) hinX1 tyX1 tyX1_ok nmX1 rfl 1 (by decide) (by decide +kernel) rfl (by decide +kernel) rfl rfl (Nat.le_of_ble_eq_true rfl) dX1_save_40 (fun u_8 hu_8 => ?_)
    have hq_9 : u_8 15 = .inr (1, [.ref (g.2.1 16), .int ((nI nx) + 1), .int (nI m)]) := by rw [hu_8, veq]; rfl
    refine r_aload_n F 0 rfl dX1_save_43 ?_
    refine r_aload_n F 0 rfl dX1_save_44 ?_
    refine r_get (C := RX1) (T := TX1) (N := 3) F 15 hq_9 (by decide) hinX1 rfl 2 (by decide) (by decide +kernel) rfl dX1_save_45 ?_
    refine r_iconst (v := 1) F (by decide) dX1_save_48 ?_
    refine r_iadd F dX1_save_49 ?_
    refine r_bipush (v := 6) F (by decide) dX1_save_50 ?_
    refine r_min (rest := [.ref (g.2.1 15)]) F (by decide +kernel) (by decide +kernel) (by decide +kernel) (by decide +kernel) ⟨Nat.le_of_ble_eq_true rfl, Nat.le_of_ble_eq_true rfl, Nat.le_of_ble_eq_true rfl, Nat.le_of_ble_eq_true rfl⟩ dX1_save_52 ?_
    refine r_put (C := RX1) (T := TX1) (N := 3) (ty := .int) F 15 hq_9 (by decide) hinX1 tyX1 tyX1_ok nmX1 rfl 2 (by decide) (by decide +kernel) rfl (by decide +kernel) rfl rfl (Nat.le_of_ble_eq_true rfl) dX1_save_55 (fun u_10 hu_10 => ?_)
    have hq_11 : u_10 15 = .inr (1, [.ref (g.2.1 16), .int ((nI nx) + 1), .int (minI ((nI m) + 1) 6)]) := by rw [hu_10, veq]; rfl
    have hx : nx + 1 < 6 := Nat.not_le.mp (fun z => c_27_3 (by have q := (nI_leI (a := 6) (by omega) (by omega)).mpr z; rw [← nI_1 nx] at q; exact q))
    have hfr : ∀ j, j ≠ 15 → u_10 j = u_2 j := fun j hj => by rw [hu_10, vne hj, hu_8, vne hj]
    exact hret _ _ _ _ _ (Nat.le_of_ble_eq_true rfl) (Nat.le_of_ble_eq_true rfl) ⟨⟨(nx + 1), h.push (hB_2.keep (fun j h1 h2 => hfr j (by omega))) (fun j h1 h2 => (hfr j h1).trans (hk_2 j (by omega))) (Or.inl ⟨hx, rfl⟩) (by rw [hq_11, pushM_I h.2.2.2.1]; first | rfl | rw [nI_1])⟩, fun j hj => (hfr j (by omega)).trans (hk_2 j (by omega))⟩ dX1_save_58