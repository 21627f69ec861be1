set_option maxHeartbeats 8000000 in
set_option maxRecDepth 100000 in
theorem op_add {g : kG} {X : kX} {bs Ls : Nat} {xs : Nat → Int32} {u : Nat → va_E} {ak ap am al aa n m t e k0 n0 : Nat} {B : kB} {S : Nat → kS} {C K P M L A : Nat → Int32} {h : Int32} {kd : Nat} (hn16 : n < 16) (hfl : X.2.1.stackTraces = false) (F : Fx g X cL_law 16 (some .boolean) wsL_law RL ({ frames := 11, cells := 1200130, slots := 5501080, locals := 428 })) (T : Sx g X bs Ls xs) (hLs : Ls ≤ 260) (he : e < 60) (hk0 : k0 + 500 ≤ 1200130) (hn0 : n0 + 3000 ≤ 5501080) (hT : TW g u ak ap am al aa n B m S t C K P M L A) (ho : okB n B K P M L A) (kk : ∀ (u' : Nat → va_E) (n' m' t' : Nat) (B' : kB) (S' : Nat → kS) (C' K' P' M' L' A' : Nat → Int32), TW g u' ak ap am al aa n' B' m' S' t' C' K' P' M' L' A' → okB n' B' K' P' M' L' A' → VL g X (k0 + 20) (n0 + 200) u' 627 [(0, .ref bs), (1, .ref (g.2.1 0)), (2, .ref ak), (3, .ref ap), (4, .ref am), (5, .ref al), (6, .ref aa), (7, .int (nI n')), (8, .int (nI e)), (11, .int 1)] []) : VL g X k0 n0 u 88 [(0, .ref bs), (1, .ref (g.2.1 0)), (2, .ref ak), (3, .ref ap), (4, .ref am), (5, .ref al), (6, .ref aa), (7, .int (nI n)), (8, .int (nI e)), (9, .int h), (10, .int (nI kd)), (11, .int 1)] [] := by
  have hn : n ≤ 16 := hT.1.2.1.le
  refine r_iload F 9 rfl dL_law_88 ?_
  refine r_iconst (v := 4) F (by decide) dL_law_90 ?_
  refine r_ishr F dL_law_91 ?_
  refine r_iconst (v := 4) F (by decide) dL_law_92 ?_
  refine r_calli (g_S (nA := 2) (As := [.int (h >>> (4 &&& 31)), .int (nI 4)]) (rest := []) F (c_L_low (v := (h >>> (4 &&& 31))) (w := 4) (by decide) (by decide)) gL_law_L_low rfl (by decide +kernel) rfl ⟨Nat.le_of_ble_eq_true rfl, Nat.le_of_ble_eq_true rfl⟩ ⟨by (try dsimp only); omega, by (try dsimp only); omega⟩ rfl (Nat.le_of_ble_eq_true rfl) dL_law_93) (fun r_1 u_1 hp_1 => ?_)
  refine r_widen (k' := k0) (n' := n0) (by (try dsimp only); omega) (by (try dsimp only); omega) ?_
  obtain ⟨⟨so, hso, rfl⟩, rfl⟩ := hp_1
  rcases (by omega : so = 0 ∨ so = 1 ∨ so = 2 ∨ so = 3) with rfl | rfl | rfl | rfl
  · skip
    refine r_eq (st2 := [.int 0]) rfl rfl ?_
    refine r_istore (lv' := [(0, .ref bs), (1, .ref (g.2.1 0)), (2, .ref ak), (3, .ref ap), (4, .ref am), (5, .ref al), (6, .ref aa), (7, .int (nI n)), (8, .int (nI e)), (9, .int h), (10, .int (nI kd)), (11, .int 1), (12, .int 0)]) F (by decide) rfl dL_law_96 ?_
    refine r_iload F 9 rfl dL_law_98 ?_
    refine r_bipush (v := 6) F (by decide) dL_law_100 ?_
    refine r_ishr F dL_law_102 ?_
    refine r_iload F 12 rfl dL_law_103 ?_
    refine r_iconst (v := 2) F (by decide) dL_law_105 ?_
    refine r_icmp_ne F 113 (by decide) dL_law_106 (fun _ => ?_) (fun c_106_2 => absurd c_106_2 (by decide))
    refine r_iconst (v := 5) F (by decide) dL_law_113 ?_
    refine r_calli (g_S (nA := 2) (As := [.int (h >>> (6 &&& 31)), .int (nI 5)]) (rest := []) F (c_L_low (v := (h >>> (6 &&& 31))) (w := 5) (by decide) (by decide)) gL_law_L_low rfl (by decide +kernel) rfl ⟨Nat.le_of_ble_eq_true rfl, Nat.le_of_ble_eq_true rfl⟩ ⟨by (try dsimp only); omega, by (try dsimp only); omega⟩ rfl (Nat.le_of_ble_eq_true rfl) dL_law_114) (fun r_3 u_3 hp_3 => ?_)
    refine r_widen (k' := k0) (n' := n0) (by (try dsimp only); omega) (by (try dsimp only); omega) ?_
    obtain ⟨⟨pp, hpp, rfl⟩, rfl⟩ := hp_3
    refine r_istore (lv' := [(0, .ref bs), (1, .ref (g.2.1 0)), (2, .ref ak), (3, .ref ap), (4, .ref am), (5, .ref al), (6, .ref aa), (7, .int (nI n)), (8, .int (nI e)), (9, .int h), (10, .int (nI kd)), (11, .int 1), (12, .int 0), (13, .int (nI pp))]) F (by decide) rfl dL_law_117 ?_
    refine r_iload F 12 rfl dL_law_119 ?_
    refine r_if_ne F 138 (by decide) dL_law_121 (fun c_121_4 => absurd c_121_4 (by decide)) (fun _ => ?_)
    refine r_iconst (v := 1) F (by decide) dL_law_124 ?_
    refine r_iload F 9 rfl dL_law_125 ?_
    refine r_bipush (v := 9) F (by decide) dL_law_127 ?_
    refine r_ishr F dL_law_129 ?_
    refine r_iconst (v := 5) F (by decide) dL_law_130 ?_
    refine r_calli (g_S (nA := 2) (As := [.int (h >>> (9 &&& 31)), .int (nI 5)]) (rest := [.int 1]) F (c_L_low (v := (h >>> (9 &&& 31))) (w := 5) (by decide) (by decide)) gL_law_L_low rfl (by decide +kernel) rfl ⟨Nat.le_of_ble_eq_true rfl, Nat.le_of_ble_eq_true rfl⟩ ⟨by (try dsimp only); omega, by (try dsimp only); omega⟩ rfl (Nat.le_of_ble_eq_true rfl) dL_law_131) (fun r_5 u_5 hp_5 => ?_)
    refine r_widen (k' := k0) (n' := n0) (by (try dsimp only); omega) (by (try dsimp only); omega) ?_
    obtain ⟨⟨q, hq, rfl⟩, rfl⟩ := hp_5
    refine r_iadd F dL_law_134 ?_
    refine r_eq (st2 := [.int (nI (q + 1))]) (congrArg (fun z_ : Int32 => ([.int z_] : List Value)) (show (1 + (nI q) : Int32) = nI (q + 1) from by rw [Int32.add_comm]; exact nI_1 q)) rfl ?_
    refine r_goto F 213 (by decide) dL_law_135 ?_
    refine r_istore (lv' := [(0, .ref bs), (1, .ref (g.2.1 0)), (2, .ref ak), (3, .ref ap), (4, .ref am), (5, .ref al), (6, .ref aa), (7, .int (nI n)), (8, .int (nI e)), (9, .int h), (10, .int (nI kd)), (11, .int 1), (12, .int 0), (13, .int (nI pp)), (14, .int (nI (q + 1)))]) F (by decide) rfl dL_law_213 ?_
    have j_277_6 : VL g X k0 n0 u 277 [(0, .ref bs), (1, .ref (g.2.1 0)), (2, .ref ak), (3, .ref ap), (4, .ref am), (5, .ref al), (6, .ref aa), (7, .int (nI n)), (8, .int (nI e)), (9, .int h), (10, .int (nI kd)), (11, .int 1), (12, .int 0), (13, .int (nI pp)), (14, .int (nI (q + 1)))] [] := by
      refine r_aload_n F 2 rfl dL_law_277 ?_
      refine r_iload F 7 rfl dL_law_278 ?_
      refine r_iload F 12 rfl dL_law_280 ?_
      refine r_iastA F hT.2.1 (vp_in_nI hn16 (by decide)) dL_law_282 (fun u_7 hu_7 => ?_)
      rw [show upd K (nI n).toNatClampNeg 0 = (upd K n 0) from by rw [nI_clamp (by omega)]] at hu_7
      have hT_8 : TW g u_7 ak ap am al aa n B m S t C (upd K n 0) P M L A := by rw [hu_7]; exact hT.upK
      refine r_aload_n F 3 rfl dL_law_283 ?_
      refine r_iload F 7 rfl dL_law_284 ?_
      refine r_iload F 13 rfl dL_law_286 ?_
      refine r_iastA F hT_8.2.2.1 (vp_in_nI hn16 (by decide)) dL_law_288 (fun u_9 hu_9 => ?_)
      rw [show upd P (nI n).toNatClampNeg (nI pp) = (upd P n (nI pp)) from by rw [nI_clamp (by omega)]] at hu_9
      have hT_10 : TW g u_9 ak ap am al aa n B m S t C (upd K n 0) (upd P n (nI pp)) M L A := by rw [hu_9]; exact hT_8.upP
      refine r_aload F 4 rfl dL_law_289 ?_
      refine r_iload F 7 rfl dL_law_291 ?_
      refine r_iload F 14 rfl dL_law_293 ?_
      refine r_iastA F hT_10.2.2.2.1 (vp_in_nI hn16 (by decide)) dL_law_295 (fun u_11 hu_11 => ?_)
      rw [show upd M (nI n).toNatClampNeg (nI (q + 1)) = (upd M n (nI (q + 1))) from by rw [nI_clamp (by omega)]] at hu_11
      have hT_12 : TW g u_11 ak ap am al aa n B m S t C (upd K n 0) (upd P n (nI pp)) (upd M n (nI (q + 1))) L A := by rw [hu_11]; exact hT_10.upM
      refine r_aload F 5 rfl dL_law_296 ?_
      refine r_iload F 7 rfl dL_law_298 ?_
      refine r_iload F 12 rfl dL_law_300 ?_
      refine r_iconst (v := 2) F (by decide) dL_law_302 ?_
      refine r_icmp_ne F 319 (by decide) dL_law_303 (fun _ => ?_) (fun c_303_13 => absurd c_303_13 (by decide))
      refine r_iconst (v := 0) F (by decide) dL_law_319 ?_
      refine r_iastA F hT_12.2.2.2.2.1 (vp_in_nI hn16 (by decide)) dL_law_320 (fun u_14 hu_14 => ?_)
      rw [show upd L (nI n).toNatClampNeg 0 = (upd L n 0) from by rw [nI_clamp (by omega)]] at hu_14
      have hT_15 : TW g u_14 ak ap am al aa n B m S t C (upd K n 0) (upd P n (nI pp)) (upd M n (nI (q + 1))) (upd L n 0) A := by rw [hu_14]; exact hT_12.upL
      refine r_aload F 6 rfl dL_law_321 ?_
      refine r_iload F 7 rfl dL_law_323 ?_
      refine r_iconst (v := -1) F (by decide) dL_law_325 ?_
      refine r_iastA F hT_15.2.2.2.2.2 (vp_in_nI hn16 (by decide)) dL_law_326 (fun u_16 hu_16 => ?_)
      rw [show upd A (nI n).toNatClampNeg (-1) = (upd A n (-1)) from by rw [nI_clamp (by omega)]] at hu_16
      have hT_17 : TW g u_16 ak ap am al aa n B m S t C (upd K n 0) (upd P n (nI pp)) (upd M n (nI (q + 1))) (upd L n 0) (upd A n (-1)) := by rw [hu_16]; exact hT_15.upA
      refine r_iinc (lv' := [(0, .ref bs), (1, .ref (g.2.1 0)), (2, .ref ak), (3, .ref ap), (4, .ref am), (5, .ref al), (6, .ref aa), (7, .int (nI (n + 1))), (8, .int (nI e)), (9, .int h), (10, .int (nI kd)), (11, .int 1), (12, .int 0), (13, .int (nI pp)), (14, .int (nI (q + 1)))]) F 7 rfl (nI_inc _) (by decide) rfl dL_law_327 ?_
      refine r_iload F 12 rfl dL_law_330 ?_
      refine r_if_ne F 346 (by decide) dL_law_332 (fun c_332_18 => absurd c_332_18 (by decide)) (fun _ => ?_)
      refine r_aload_n F 1 rfl dL_law_335 ?_
      refine r_iload F 13 rfl dL_law_336 ?_
      refine r_iload F 14 rfl dL_law_338 ?_
      have hcd : cdComb n (nI pp) (nI (q + 1)) = 0 := cdComb_0 hpp (by omega) (by omega) hn16
      refine r_calli (g_V (C := RX3) (T := TX3) (N := 4) (nA := 2) (As := [.int (nI pp), .int (nI (q + 1))]) (rest := []) F 0 hT_17.1.1 (by decide) rfl ((c_X3_comb hfl hT_17.1).ci (fun _ _ q => exIAS_n hcd q.1)) gL_law_X3_comb rfl (by decide +kernel) rfl ⟨Nat.le_of_ble_eq_true rfl, Nat.le_of_ble_eq_true rfl⟩ ⟨by (try dsimp only); omega, by (try dsimp only); omega⟩ rfl (Nat.le_of_ble_eq_true rfl) dL_law_340) (fun r_19 u_19 hp_19 => ?_)
      refine r_widen (k' := k0 + 3) (n' := n0 + 18) (by (try dsimp only); omega) (by (try dsimp only); omega) ?_
      obtain ⟨-, er_19, hC_19, hk_19⟩ := hp_19
      subst er_19
      have hT_19 := hT_17.keep hC_19 hk_19
      have hok_19 := ho.add (wf_comb ho.2.2.1 hcd) (lm := 0) (fun q => absurd q (by decide)) (fun _ => rfl)
      refine r_goto F 395 (by decide) dL_law_343 ?_
      refine r_istore (lv' := [(0, .ref bs), (1, .ref (g.2.1 0)), (2, .ref ak), (3, .ref ap), (4, .ref am), (5, .ref al), (6, .ref aa), (7, .int (nI (n + 1))), (8, .int (nI e)), (9, .int h), (10, .int (nI kd)), (11, .int 1), (12, .int 0), (13, .int (nI pp)), (14, .int (nI (q + 1))), (15, .int (nI n))]) F (by decide) rfl dL_law_395 ?_
      refine r_iload F 15 rfl dL_law_397 ?_
      refine r_iload F 7 rfl dL_law_399 ?_
      refine r_iconst (v := 1) F (by decide) dL_law_401 ?_
      refine r_isub F dL_law_402 ?_
      refine r_eq (st2 := [.int (nI n), .int (nI n)]) (congrArg (fun z_ : Int32 => ([.int z_, .int (nI n)] : List Value)) (show ((nI (n + 1)) - 1 : Int32) = nI n from nI_pred n)) rfl ?_
      refine r_icmp_ne F 410 (by decide) dL_law_403 (fun c_403_20 => absurd c_403_20 (fun q => q rfl)) (fun _ => ?_)
      refine r_iconst (v := 1) F (by decide) dL_law_406 ?_
      refine r_goto F 411 (by decide) dL_law_407 ?_
      refine r_istore (lv' := [(0, .ref bs), (1, .ref (g.2.1 0)), (2, .ref ak), (3, .ref ap), (4, .ref am), (5, .ref al), (6, .ref aa), (7, .int (nI (n + 1))), (8, .int (nI e)), (9, .int h), (10, .int (nI kd)), (11, .int 1), (12, .int 0), (13, .int (nI pp)), (14, .int (nI (q + 1))), (15, .int (nI n))]) F (by decide) rfl dL_law_411 ?_
      refine r_goto F 627 (by decide) dL_law_413 ?_
      refine r_lv (lv2 := [(0, .ref bs), (1, .ref (g.2.1 0)), (2, .ref ak), (3, .ref ap), (4, .ref am), (5, .ref al), (6, .ref aa), (7, .int (nI (n + 1))), (8, .int (nI e)), (11, .int 1)]) (by simp) ?_
      refine r_widen (k' := k0 + 20) (n' := n0 + 200) (by omega) (by omega) ?_
      exact kk _ _ _ _ _ _ _ _ _ _ _ _ hT_19 hok_19
    refine r_iconst (v := 0) F (by decide) dL_law_215 ?_
    refine r_istore (lv' := [(0, .ref bs), (1, .ref (g.2.1 0)), (2, .ref ak), (3, .ref ap), (4, .ref am), (5, .ref al), (6, .ref aa), (7, .int (nI n)), (8, .int (nI e)), (9, .int h), (10, .int (nI kd)), (11, .int 1), (12, .int 0), (13, .int (nI pp)), (14, .int (nI (q + 1))), (15, .int 0)]) F (by decide) rfl dL_law_216 ?_
    refine r_iload F 15 rfl dL_law_218 ?_
    refine r_iload F 7 rfl dL_law_220 ?_
    refine r_icmp_ge F 277 (by decide) dL_law_222 (fun c_222_21 => ?_) (fun c_222_21 => ?_)
    · skip
      refine r_lv (lv2 := [(0, .ref bs), (1, .ref (g.2.1 0)), (2, .ref ak), (3, .ref ap), (4, .ref am), (5, .ref al), (6, .ref aa), (7, .int (nI n)), (8, .int (nI e)), (9, .int h), (10, .int (nI kd)), (11, .int 1), (12, .int 0), (13, .int (nI pp)), (14, .int (nI (q + 1)))]) (by simp) ?_
      exact j_277_6
    · skip
      refine r_iload F 12 rfl dL_law_225 ?_
      refine r_iconst (v := 3) F (by decide) dL_law_227 ?_
      refine r_icmp_ne F 277 (by decide) dL_law_228 (fun _ => ?_) (fun c_228_22 => absurd c_228_22 (by decide))
      refine r_lv (lv2 := [(0, .ref bs), (1, .ref (g.2.1 0)), (2, .ref ak), (3, .ref ap), (4, .ref am), (5, .ref al), (6, .ref aa), (7, .int (nI n)), (8, .int (nI e)), (9, .int h), (10, .int (nI kd)), (11, .int 1), (12, .int 0), (13, .int (nI pp)), (14, .int (nI (q + 1)))]) (by simp) ?_
      exact j_277_6
  · skip
    refine r_eq (st2 := [.int 1]) rfl rfl ?_
    refine r_istore (lv' := [(0, .ref bs), (1, .ref (g.2.1 0)), (2, .ref ak), (3, .ref ap), (4, .ref am), (5, .ref al), (6, .ref aa), (7, .int (nI n)), (8, .int (nI e)), (9, .int h), (10, .int (nI kd)), (11, .int 1), (12, .int 1)]) F (by decide) rfl dL_law_96 ?_
    refine r_iload F 9 rfl dL_law_98 ?_
    refine r_bipush (v := 6) F (by decide) dL_law_100 ?_
    refine r_ishr F dL_law_102 ?_
    refine r_iload F 12 rfl dL_law_103 ?_
    refine r_iconst (v := 2) F (by decide) dL_law_105 ?_
    refine r_icmp_ne F 113 (by decide) dL_law_106 (fun _ => ?_) (fun c_106_23 => absurd c_106_23 (by decide))
    refine r_iconst (v := 5) F (by decide) dL_law_113 ?_
    refine r_calli (g_S (nA := 2) (As := [.int (h >>> (6 &&& 31)), .int (nI 5)]) (rest := []) F (c_L_low (v := (h >>> (6 &&& 31))) (w := 5) (by decide) (by decide)) gL_law_L_low rfl (by decide +kernel) rfl ⟨Nat.le_of_ble_eq_true rfl, Nat.le_of_ble_eq_true rfl⟩ ⟨by (try dsimp only); omega, by (try dsimp only); omega⟩ rfl (Nat.le_of_ble_eq_true rfl) dL_law_114) (fun r_24 u_24 hp_24 => ?_)
    refine r_widen (k' := k0) (n' := n0) (by (try dsimp only); omega) (by (try dsimp only); omega) ?_
    obtain ⟨⟨pp, hpp, rfl⟩, rfl⟩ := hp_24
    refine r_istore (lv' := [(0, .ref bs), (1, .ref (g.2.1 0)), (2, .ref ak), (3, .ref ap), (4, .ref am), (5, .ref al), (6, .ref aa), (7, .int (nI n)), (8, .int (nI e)), (9, .int h), (10, .int (nI kd)), (11, .int 1), (12, .int 1), (13, .int (nI pp))]) F (by decide) rfl dL_law_117 ?_
    refine r_iload F 12 rfl dL_law_119 ?_
    refine r_if_ne F 138 (by decide) dL_law_121 (fun _ => ?_) (fun c_121_25 => absurd c_121_25 (by decide))
    refine r_iload F 12 rfl dL_law_138 ?_
    refine r_iconst (v := 1) F (by decide) dL_law_140 ?_
    refine r_icmp_ne F 186 (by decide) dL_law_141 (fun c_141_26 => absurd c_141_26 (by decide)) (fun _ => ?_)
    have j_213_27 : ∀ (mo : Int32), (mo = -1 ∨ ∃ w, mo = nI w ∧ pp < w ∧ w < 5) → VL g X k0 n0 u 213 [(0, .ref bs), (1, .ref (g.2.1 0)), (2, .ref ak), (3, .ref ap), (4, .ref am), (5, .ref al), (6, .ref aa), (7, .int (nI n)), (8, .int (nI e)), (9, .int h), (10, .int (nI kd)), (11, .int 1), (12, .int 1), (13, .int (nI pp))] [.int mo] := by
      intro mo hmo
      refine r_istore (lv' := [(0, .ref bs), (1, .ref (g.2.1 0)), (2, .ref ak), (3, .ref ap), (4, .ref am), (5, .ref al), (6, .ref aa), (7, .int (nI n)), (8, .int (nI e)), (9, .int h), (10, .int (nI kd)), (11, .int 1), (12, .int 1), (13, .int (nI pp)), (14, .int mo)]) F (by decide) rfl dL_law_213 ?_
      have j_277_28 : VL g X k0 n0 u 277 [(0, .ref bs), (1, .ref (g.2.1 0)), (2, .ref ak), (3, .ref ap), (4, .ref am), (5, .ref al), (6, .ref aa), (7, .int (nI n)), (8, .int (nI e)), (9, .int h), (10, .int (nI kd)), (11, .int 1), (12, .int 1), (13, .int (nI pp)), (14, .int mo)] [] := by
        refine r_aload_n F 2 rfl dL_law_277 ?_
        refine r_iload F 7 rfl dL_law_278 ?_
        refine r_iload F 12 rfl dL_law_280 ?_
        refine r_iastA F hT.2.1 (vp_in_nI hn16 (by decide)) dL_law_282 (fun u_29 hu_29 => ?_)
        rw [show upd K (nI n).toNatClampNeg 1 = (upd K n 1) from by rw [nI_clamp (by omega)]] at hu_29
        have hT_30 : TW g u_29 ak ap am al aa n B m S t C (upd K n 1) P M L A := by rw [hu_29]; exact hT.upK
        refine r_aload_n F 3 rfl dL_law_283 ?_
        refine r_iload F 7 rfl dL_law_284 ?_
        refine r_iload F 13 rfl dL_law_286 ?_
        refine r_iastA F hT_30.2.2.1 (vp_in_nI hn16 (by decide)) dL_law_288 (fun u_31 hu_31 => ?_)
        rw [show upd P (nI n).toNatClampNeg (nI pp) = (upd P n (nI pp)) from by rw [nI_clamp (by omega)]] at hu_31
        have hT_32 : TW g u_31 ak ap am al aa n B m S t C (upd K n 1) (upd P n (nI pp)) M L A := by rw [hu_31]; exact hT_30.upP
        refine r_aload F 4 rfl dL_law_289 ?_
        refine r_iload F 7 rfl dL_law_291 ?_
        refine r_iload F 14 rfl dL_law_293 ?_
        refine r_iastA F hT_32.2.2.2.1 (vp_in_nI hn16 (by decide)) dL_law_295 (fun u_33 hu_33 => ?_)
        rw [show upd M (nI n).toNatClampNeg mo = (upd M n mo) from by rw [nI_clamp (by omega)]] at hu_33
        have hT_34 : TW g u_33 ak ap am al aa n B m S t C (upd K n 1) (upd P n (nI pp)) (upd M n mo) L A := by rw [hu_33]; exact hT_32.upM
        refine r_aload F 5 rfl dL_law_296 ?_
        refine r_iload F 7 rfl dL_law_298 ?_
        refine r_iload F 12 rfl dL_law_300 ?_
        refine r_iconst (v := 2) F (by decide) dL_law_302 ?_
        refine r_icmp_ne F 319 (by decide) dL_law_303 (fun _ => ?_) (fun c_303_35 => absurd c_303_35 (by decide))
        refine r_iconst (v := 0) F (by decide) dL_law_319 ?_
        refine r_iastA F hT_34.2.2.2.2.1 (vp_in_nI hn16 (by decide)) dL_law_320 (fun u_36 hu_36 => ?_)
        rw [show upd L (nI n).toNatClampNeg 0 = (upd L n 0) from by rw [nI_clamp (by omega)]] at hu_36
        have hT_37 : TW g u_36 ak ap am al aa n B m S t C (upd K n 1) (upd P n (nI pp)) (upd M n mo) (upd L n 0) A := by rw [hu_36]; exact hT_34.upL
        refine r_aload F 6 rfl dL_law_321 ?_
        refine r_iload F 7 rfl dL_law_323 ?_
        refine r_iconst (v := -1) F (by decide) dL_law_325 ?_
        refine r_iastA F hT_37.2.2.2.2.2 (vp_in_nI hn16 (by decide)) dL_law_326 (fun u_38 hu_38 => ?_)
        rw [show upd A (nI n).toNatClampNeg (-1) = (upd A n (-1)) from by rw [nI_clamp (by omega)]] at hu_38
        have hT_39 : TW g u_38 ak ap am al aa n B m S t C (upd K n 1) (upd P n (nI pp)) (upd M n mo) (upd L n 0) (upd A n (-1)) := by rw [hu_38]; exact hT_37.upA
        refine r_iinc (lv' := [(0, .ref bs), (1, .ref (g.2.1 0)), (2, .ref ak), (3, .ref ap), (4, .ref am), (5, .ref al), (6, .ref aa), (7, .int (nI (n + 1))), (8, .int (nI e)), (9, .int h), (10, .int (nI kd)), (11, .int 1), (12, .int 1), (13, .int (nI pp)), (14, .int mo)]) F 7 rfl (nI_inc _) (by decide) rfl dL_law_327 ?_
        refine r_iload F 12 rfl dL_law_330 ?_
        refine r_if_ne F 346 (by decide) dL_law_332 (fun _ => ?_) (fun c_332_40 => absurd c_332_40 (by decide))
        refine r_iload F 12 rfl dL_law_346 ?_
        refine r_iconst (v := 1) F (by decide) dL_law_348 ?_
        refine r_icmp_ne F 363 (by decide) dL_law_349 (fun c_349_41 => absurd c_349_41 (by decide)) (fun _ => ?_)
        refine r_aload_n F 1 rfl dL_law_352 ?_
        refine r_iload F 13 rfl dL_law_353 ?_
        refine r_iload F 14 rfl dL_law_355 ?_
        have hcd : cdTick n (nI pp) mo = 0 := cdTick_0 hpp hmo hn16
        refine r_calli (g_V (C := RX3) (T := TX3) (N := 4) (nA := 2) (As := [.int (nI pp), .int mo]) (rest := []) F 0 hT_39.1.1 (by decide) rfl ((c_X3_tick hfl hT_39.1).ci (fun _ _ q => exIAS_n hcd q.1)) gL_law_X3_tick rfl (by decide +kernel) rfl ⟨Nat.le_of_ble_eq_true rfl, Nat.le_of_ble_eq_true rfl⟩ ⟨by (try dsimp only); omega, by (try dsimp only); omega⟩ rfl (Nat.le_of_ble_eq_true rfl) dL_law_357) (fun r_42 u_42 hp_42 => ?_)
        refine r_widen (k' := k0 + 3) (n' := n0 + 18) (by (try dsimp only); omega) (by (try dsimp only); omega) ?_
        obtain ⟨-, er_42, hC_42, hk_42⟩ := hp_42
        subst er_42
        have hT_42 := hT_39.keep hC_42 hk_42
        have hok_42 := ho.add (wf_tick ho.2.2.1 hcd) (lm := 0) (fun q => absurd q (by decide)) (fun _ => rfl)
        refine r_goto F 395 (by decide) dL_law_360 ?_
        refine r_istore (lv' := [(0, .ref bs), (1, .ref (g.2.1 0)), (2, .ref ak), (3, .ref ap), (4, .ref am), (5, .ref al), (6, .ref aa), (7, .int (nI (n + 1))), (8, .int (nI e)), (9, .int h), (10, .int (nI kd)), (11, .int 1), (12, .int 1), (13, .int (nI pp)), (14, .int mo), (15, .int (nI n))]) F (by decide) rfl dL_law_395 ?_
        refine r_iload F 15 rfl dL_law_397 ?_
        refine r_iload F 7 rfl dL_law_399 ?_
        refine r_iconst (v := 1) F (by decide) dL_law_401 ?_
        refine r_isub F dL_law_402 ?_
        refine r_eq (st2 := [.int (nI n), .int (nI n)]) (congrArg (fun z_ : Int32 => ([.int z_, .int (nI n)] : List Value)) (show ((nI (n + 1)) - 1 : Int32) = nI n from nI_pred n)) rfl ?_
        refine r_icmp_ne F 410 (by decide) dL_law_403 (fun c_403_43 => absurd c_403_43 (fun q => q rfl)) (fun _ => ?_)
        refine r_iconst (v := 1) F (by decide) dL_law_406 ?_
        refine r_goto F 411 (by decide) dL_law_407 ?_
        refine r_istore (lv' := [(0, .ref bs), (1, .ref (g.2.1 0)), (2, .ref ak), (3, .ref ap), (4, .ref am), (5, .ref al), (6, .ref aa), (7, .int (nI (n + 1))), (8, .int (nI e)), (9, .int h), (10, .int (nI kd)), (11, .int 1), (12, .int 1), (13, .int (nI pp)), (14, .int mo), (15, .int (nI n))]) F (by decide) rfl dL_law_411 ?_
        refine r_goto F 627 (by decide) dL_law_413 ?_
        refine r_lv (lv2 := [(0, .ref bs), (1, .ref (g.2.1 0)), (2, .ref ak), (3, .ref ap), (4, .ref am), (5, .ref al), (6, .ref aa), (7, .int (nI (n + 1))), (8, .int (nI e)), (11, .int 1)]) (by simp) ?_
        refine r_widen (k' := k0 + 20) (n' := n0 + 200) (by omega) (by omega) ?_
        exact kk _ _ _ _ _ _ _ _ _ _ _ _ hT_42 hok_42
      refine r_iconst (v := 0) F (by decide) dL_law_215 ?_
      refine r_istore (lv' := [(0, .ref bs), (1, .ref (g.2.1 0)), (2, .ref ak), (3, .ref ap), (4, .ref am), (5, .ref al), (6, .ref aa), (7, .int (nI n)), (8, .int (nI e)), (9, .int h), (10, .int (nI kd)), (11, .int 1), (12, .int 1), (13, .int (nI pp)), (14, .int mo), (15, .int 0)]) F (by decide) rfl dL_law_216 ?_
      refine r_iload F 15 rfl dL_law_218 ?_
      refine r_iload F 7 rfl dL_law_220 ?_
      refine r_icmp_ge F 277 (by decide) dL_law_222 (fun c_222_44 => ?_) (fun c_222_44 => ?_)
      · skip
        refine r_lv (lv2 := [(0, .ref bs), (1, .ref (g.2.1 0)), (2, .ref ak), (3, .ref ap), (4, .ref am), (5, .ref al), (6, .ref aa), (7, .int (nI n)), (8, .int (nI e)), (9, .int h), (10, .int (nI kd)), (11, .int 1), (12, .int 1), (13, .int (nI pp)), (14, .int mo)]) (by simp) ?_
        exact j_277_28
      · skip
        refine r_iload F 12 rfl dL_law_225 ?_
        refine r_iconst (v := 3) F (by decide) dL_law_227 ?_
        refine r_icmp_ne F 277 (by decide) dL_law_228 (fun _ => ?_) (fun c_228_45 => absurd c_228_45 (by decide))
        refine r_lv (lv2 := [(0, .ref bs), (1, .ref (g.2.1 0)), (2, .ref ak), (3, .ref ap), (4, .ref am), (5, .ref al), (6, .ref aa), (7, .int (nI n)), (8, .int (nI e)), (9, .int h), (10, .int (nI kd)), (11, .int 1), (12, .int 1), (13, .int (nI pp)), (14, .int mo)]) (by simp) ?_
        exact j_277_28
    refine r_iload F 13 rfl dL_law_144 ?_
    refine r_iconst (v := 4) F (by decide) dL_law_146 ?_
    refine r_icmp_eq F 162 (by decide) dL_law_147 (fun c_147_46 => ?_) (fun c_147_46 => ?_)
    · skip
      refine r_iconst (v := -1) F (by decide) dL_law_162 ?_
      refine r_goto F 213 (by decide) dL_law_163 ?_
      exact j_213_27 _ (Or.inl rfl)
    · skip
      have hp4 : pp < 4 := n4_ne hpp c_147_46
      refine r_iload F 9 rfl dL_law_150 ?_
      refine r_bipush (v := 9) F (by decide) dL_law_152 ?_
      refine r_ishr F dL_law_154 ?_
      refine r_iconst (v := 4) F (by decide) dL_law_155 ?_
      refine r_calli (g_S (nA := 2) (As := [.int (h >>> (9 &&& 31)), .int (nI 4)]) (rest := []) F (c_L_low (v := (h >>> (9 &&& 31))) (w := 4) (by decide) (by decide)) gL_law_L_low rfl (by decide +kernel) rfl ⟨Nat.le_of_ble_eq_true rfl, Nat.le_of_ble_eq_true rfl⟩ ⟨by (try dsimp only); omega, by (try dsimp only); omega⟩ rfl (Nat.le_of_ble_eq_true rfl) dL_law_156) (fun r_47 u_47 hp_47 => ?_)
      refine r_widen (k' := k0) (n' := n0) (by (try dsimp only); omega) (by (try dsimp only); omega) ?_
      obtain ⟨⟨q1, hq1, rfl⟩, rfl⟩ := hp_47
      refine r_if_ne F 166 (by decide) dL_law_159 (fun c_159_48 => ?_) (fun c_159_48 => ?_)
      · skip
        refine r_iload F 13 rfl dL_law_166 ?_
        refine r_iconst (v := 1) F (by decide) dL_law_168 ?_
        refine r_iadd F dL_law_169 ?_
        refine r_iload F 9 rfl dL_law_170 ?_
        refine r_bipush (v := 11) F (by decide) dL_law_172 ?_
        refine r_ishr F dL_law_174 ?_
        refine r_iconst (v := 4) F (by decide) dL_law_175 ?_
        refine r_iload F 13 rfl dL_law_176 ?_
        refine r_isub F dL_law_178 ?_
        refine r_eq (st2 := [.int (nI (4 - pp)), .int (h >>> (11 &&& 31)), .int ((nI pp) + 1)]) (congrArg (fun z_ : Int32 => ([.int z_, .int (h >>> (11 &&& 31)), .int ((nI pp) + 1)] : List Value)) (show (4 - (nI pp) : Int32) = nI (4 - pp) from pk_sub (a := 4) (by omega))) rfl ?_
        refine r_calli (g_S (nA := 2) (As := [.int (h >>> (11 &&& 31)), .int (nI (4 - pp))]) (rest := [.int ((nI pp) + 1)]) F (c_L_low (v := (h >>> (11 &&& 31))) (w := (4 - pp)) (by omega) (by omega)) gL_law_L_low rfl (by decide +kernel) rfl ⟨Nat.le_of_ble_eq_true rfl, Nat.le_of_ble_eq_true rfl⟩ ⟨by (try dsimp only); omega, by (try dsimp only); omega⟩ rfl (Nat.le_of_ble_eq_true rfl) dL_law_179) (fun r_49 u_49 hp_49 => ?_)
        refine r_widen (k' := k0) (n' := n0) (by (try dsimp only); omega) (by (try dsimp only); omega) ?_
        obtain ⟨⟨r, hr, rfl⟩, rfl⟩ := hp_49
        refine r_iadd F dL_law_182 ?_
        refine r_eq (st2 := [.int (nI (pp + 1 + r))]) (congrArg (fun z_ : Int32 => ([.int z_] : List Value)) (show (((nI pp) + 1) + (nI r) : Int32) = nI (pp + 1 + r) from by rw [nI_1, nI_add])) rfl ?_
        refine r_goto F 213 (by decide) dL_law_183 ?_
        exact j_213_27 _ (Or.inr ⟨_, rfl, by omega, by omega⟩)
      · skip
        refine r_iconst (v := -1) F (by decide) dL_law_162 ?_
        refine r_goto F 213 (by decide) dL_law_163 ?_
        exact j_213_27 _ (Or.inl rfl)
  · skip
    refine r_eq (st2 := [.int 2]) rfl rfl ?_
    refine r_istore (lv' := [(0, .ref bs), (1, .ref (g.2.1 0)), (2, .ref ak), (3, .ref ap), (4, .ref am), (5, .ref al), (6, .ref aa), (7, .int (nI n)), (8, .int (nI e)), (9, .int h), (10, .int (nI kd)), (11, .int 1), (12, .int 2)]) F (by decide) rfl dL_law_96 ?_
    refine r_iload F 9 rfl dL_law_98 ?_
    refine r_bipush (v := 6) F (by decide) dL_law_100 ?_
    refine r_ishr F dL_law_102 ?_
    refine r_iload F 12 rfl dL_law_103 ?_
    refine r_iconst (v := 2) F (by decide) dL_law_105 ?_
    refine r_icmp_ne F 113 (by decide) dL_law_106 (fun c_106_50 => absurd c_106_50 (by decide)) (fun _ => ?_)
    refine r_iconst (v := 4) F (by decide) dL_law_109 ?_
    refine r_goto F 114 (by decide) dL_law_110 ?_
    refine r_calli (g_S (nA := 2) (As := [.int (h >>> (6 &&& 31)), .int (nI 4)]) (rest := []) F (c_L_low (v := (h >>> (6 &&& 31))) (w := 4) (by decide) (by decide)) gL_law_L_low rfl (by decide +kernel) rfl ⟨Nat.le_of_ble_eq_true rfl, Nat.le_of_ble_eq_true rfl⟩ ⟨by (try dsimp only); omega, by (try dsimp only); omega⟩ rfl (Nat.le_of_ble_eq_true rfl) dL_law_114) (fun r_51 u_51 hp_51 => ?_)
    refine r_widen (k' := k0) (n' := n0) (by (try dsimp only); omega) (by (try dsimp only); omega) ?_
    obtain ⟨⟨pp, hpp, rfl⟩, rfl⟩ := hp_51
    refine r_istore (lv' := [(0, .ref bs), (1, .ref (g.2.1 0)), (2, .ref ak), (3, .ref ap), (4, .ref am), (5, .ref al), (6, .ref aa), (7, .int (nI n)), (8, .int (nI e)), (9, .int h), (10, .int (nI kd)), (11, .int 1), (12, .int 2), (13, .int (nI pp))]) F (by decide) rfl dL_law_117 ?_
    refine r_iload F 12 rfl dL_law_119 ?_
    refine r_if_ne F 138 (by decide) dL_law_121 (fun _ => ?_) (fun c_121_52 => absurd c_121_52 (by decide))
    refine r_iload F 12 rfl dL_law_138 ?_
    refine r_iconst (v := 1) F (by decide) dL_law_140 ?_
    refine r_icmp_ne F 186 (by decide) dL_law_141 (fun _ => ?_) (fun c_141_53 => absurd c_141_53 (by decide))
    refine r_iload F 12 rfl dL_law_186 ?_
    refine r_iconst (v := 2) F (by decide) dL_law_188 ?_
    refine r_icmp_ne F 212 (by decide) dL_law_189 (fun c_189_54 => absurd c_189_54 (by decide)) (fun _ => ?_)
    refine r_iload F 13 rfl dL_law_192 ?_
    refine r_iconst (v := 1) F (by decide) dL_law_194 ?_
    refine r_iadd F dL_law_195 ?_
    refine r_iload F 9 rfl dL_law_196 ?_
    refine r_bipush (v := 9) F (by decide) dL_law_198 ?_
    refine r_ishr F dL_law_200 ?_
    refine r_iconst (v := 4) F (by decide) dL_law_201 ?_
    refine r_iload F 13 rfl dL_law_202 ?_
    refine r_isub F dL_law_204 ?_
    refine r_eq (st2 := [.int (nI (4 - pp)), .int (h >>> (9 &&& 31)), .int ((nI pp) + 1)]) (congrArg (fun z_ : Int32 => ([.int z_, .int (h >>> (9 &&& 31)), .int ((nI pp) + 1)] : List Value)) (show (4 - (nI pp) : Int32) = nI (4 - pp) from pk_sub (a := 4) (by omega))) rfl ?_
    refine r_calli (g_S (nA := 2) (As := [.int (h >>> (9 &&& 31)), .int (nI (4 - pp))]) (rest := [.int ((nI pp) + 1)]) F (c_L_low (v := (h >>> (9 &&& 31))) (w := (4 - pp)) (by omega) (by omega)) gL_law_L_low rfl (by decide +kernel) rfl ⟨Nat.le_of_ble_eq_true rfl, Nat.le_of_ble_eq_true rfl⟩ ⟨by (try dsimp only); omega, by (try dsimp only); omega⟩ rfl (Nat.le_of_ble_eq_true rfl) dL_law_205) (fun r_55 u_55 hp_55 => ?_)
    refine r_widen (k' := k0) (n' := n0) (by (try dsimp only); omega) (by (try dsimp only); omega) ?_
    obtain ⟨⟨r, hr, rfl⟩, rfl⟩ := hp_55
    refine r_iadd F dL_law_208 ?_
    refine r_eq (st2 := [.int (nI (pp + 1 + r))]) (congrArg (fun z_ : Int32 => ([.int z_] : List Value)) (show (((nI pp) + 1) + (nI r) : Int32) = nI (pp + 1 + r) from by rw [nI_1, nI_add])) rfl ?_
    refine r_goto F 213 (by decide) dL_law_209 ?_
    refine r_istore (lv' := [(0, .ref bs), (1, .ref (g.2.1 0)), (2, .ref ak), (3, .ref ap), (4, .ref am), (5, .ref al), (6, .ref aa), (7, .int (nI n)), (8, .int (nI e)), (9, .int h), (10, .int (nI kd)), (11, .int 1), (12, .int 2), (13, .int (nI pp)), (14, .int (nI (pp + 1 + r)))]) F (by decide) rfl dL_law_213 ?_
    have j_277_56 : VL g X k0 n0 u 277 [(0, .ref bs), (1, .ref (g.2.1 0)), (2, .ref ak), (3, .ref ap), (4, .ref am), (5, .ref al), (6, .ref aa), (7, .int (nI n)), (8, .int (nI e)), (9, .int h), (10, .int (nI kd)), (11, .int 1), (12, .int 2), (13, .int (nI pp)), (14, .int (nI (pp + 1 + r)))] [] := by
      refine r_aload_n F 2 rfl dL_law_277 ?_
      refine r_iload F 7 rfl dL_law_278 ?_
      refine r_iload F 12 rfl dL_law_280 ?_
      refine r_iastA F hT.2.1 (vp_in_nI hn16 (by decide)) dL_law_282 (fun u_57 hu_57 => ?_)
      rw [show upd K (nI n).toNatClampNeg 2 = (upd K n 2) from by rw [nI_clamp (by omega)]] at hu_57
      have hT_58 : TW g u_57 ak ap am al aa n B m S t C (upd K n 2) P M L A := by rw [hu_57]; exact hT.upK
      refine r_aload_n F 3 rfl dL_law_283 ?_
      refine r_iload F 7 rfl dL_law_284 ?_
      refine r_iload F 13 rfl dL_law_286 ?_
      refine r_iastA F hT_58.2.2.1 (vp_in_nI hn16 (by decide)) dL_law_288 (fun u_59 hu_59 => ?_)
      rw [show upd P (nI n).toNatClampNeg (nI pp) = (upd P n (nI pp)) from by rw [nI_clamp (by omega)]] at hu_59
      have hT_60 : TW g u_59 ak ap am al aa n B m S t C (upd K n 2) (upd P n (nI pp)) M L A := by rw [hu_59]; exact hT_58.upP
      refine r_aload F 4 rfl dL_law_289 ?_
      refine r_iload F 7 rfl dL_law_291 ?_
      refine r_iload F 14 rfl dL_law_293 ?_
      refine r_iastA F hT_60.2.2.2.1 (vp_in_nI hn16 (by decide)) dL_law_295 (fun u_61 hu_61 => ?_)
      rw [show upd M (nI n).toNatClampNeg (nI (pp + 1 + r)) = (upd M n (nI (pp + 1 + r))) from by rw [nI_clamp (by omega)]] at hu_61
      have hT_62 : TW g u_61 ak ap am al aa n B m S t C (upd K n 2) (upd P n (nI pp)) (upd M n (nI (pp + 1 + r))) L A := by rw [hu_61]; exact hT_60.upM
      refine r_aload F 5 rfl dL_law_296 ?_
      refine r_iload F 7 rfl dL_law_298 ?_
      refine r_iload F 12 rfl dL_law_300 ?_
      refine r_iconst (v := 2) F (by decide) dL_law_302 ?_
      refine r_icmp_ne F 319 (by decide) dL_law_303 (fun c_303_63 => absurd c_303_63 (by decide)) (fun _ => ?_)
      refine r_iload F 9 rfl dL_law_306 ?_
      refine r_bipush (v := 14) F (by decide) dL_law_308 ?_
      refine r_ishr F dL_law_310 ?_
      refine r_bipush (v := 100) F (by decide) dL_law_311 ?_
      refine r_calli (g_S (nA := 2) (As := [.int (h >>> (14 &&& 31)), .int (nI 100)]) (rest := [.int (nI n), .ref al]) F (c_L_low (v := (h >>> (14 &&& 31))) (w := 100) (by decide) (by decide)) gL_law_L_low rfl (by decide +kernel) rfl ⟨Nat.le_of_ble_eq_true rfl, Nat.le_of_ble_eq_true rfl⟩ ⟨by (try dsimp only); omega, by (try dsimp only); omega⟩ rfl (Nat.le_of_ble_eq_true rfl) dL_law_313) (fun r_64 u_64 hp_64 => ?_)
      refine r_widen (k' := k0) (n' := n0) (by (try dsimp only); omega) (by (try dsimp only); omega) ?_
      obtain ⟨⟨lm, hlm, rfl⟩, rfl⟩ := hp_64
      refine r_goto F 320 (by decide) dL_law_316 ?_
      refine r_iastA F hT_62.2.2.2.2.1 (vp_in_nI hn16 (by decide)) dL_law_320 (fun u_65 hu_65 => ?_)
      rw [show upd L (nI n).toNatClampNeg (nI lm) = (upd L n (nI lm)) from by rw [nI_clamp (by omega)]] at hu_65
      have hT_66 : TW g u_65 ak ap am al aa n B m S t C (upd K n 2) (upd P n (nI pp)) (upd M n (nI (pp + 1 + r))) (upd L n (nI lm)) A := by rw [hu_65]; exact hT_62.upL
      refine r_aload F 6 rfl dL_law_321 ?_
      refine r_iload F 7 rfl dL_law_323 ?_
      refine r_iconst (v := -1) F (by decide) dL_law_325 ?_
      refine r_iastA F hT_66.2.2.2.2.2 (vp_in_nI hn16 (by decide)) dL_law_326 (fun u_67 hu_67 => ?_)
      rw [show upd A (nI n).toNatClampNeg (-1) = (upd A n (-1)) from by rw [nI_clamp (by omega)]] at hu_67
      have hT_68 : TW g u_67 ak ap am al aa n B m S t C (upd K n 2) (upd P n (nI pp)) (upd M n (nI (pp + 1 + r))) (upd L n (nI lm)) (upd A n (-1)) := by rw [hu_67]; exact hT_66.upA
      refine r_iinc (lv' := [(0, .ref bs), (1, .ref (g.2.1 0)), (2, .ref ak), (3, .ref ap), (4, .ref am), (5, .ref al), (6, .ref aa), (7, .int (nI (n + 1))), (8, .int (nI e)), (9, .int h), (10, .int (nI kd)), (11, .int 1), (12, .int 2), (13, .int (nI pp)), (14, .int (nI (pp + 1 + r)))]) F 7 rfl (nI_inc _) (by decide) rfl dL_law_327 ?_
      refine r_iload F 12 rfl dL_law_330 ?_
      refine r_if_ne F 346 (by decide) dL_law_332 (fun _ => ?_) (fun c_332_69 => absurd c_332_69 (by decide))
      refine r_iload F 12 rfl dL_law_346 ?_
      refine r_iconst (v := 1) F (by decide) dL_law_348 ?_
      refine r_icmp_ne F 363 (by decide) dL_law_349 (fun _ => ?_) (fun c_349_70 => absurd c_349_70 (by decide))
      refine r_iload F 12 rfl dL_law_363 ?_
      refine r_iconst (v := 2) F (by decide) dL_law_365 ?_
      refine r_icmp_ne F 387 (by decide) dL_law_366 (fun c_366_71 => absurd c_366_71 (by decide)) (fun _ => ?_)
      refine r_aload_n F 1 rfl dL_law_369 ?_
      refine r_iload F 13 rfl dL_law_370 ?_
      refine r_iload F 14 rfl dL_law_372 ?_
      refine r_aload F 5 rfl dL_law_374 ?_
      refine r_iload F 7 rfl dL_law_376 ?_
      refine r_iconst (v := 1) F (by decide) dL_law_378 ?_
      refine r_isub F dL_law_379 ?_
      refine r_eq (st2 := [.int (nI n), .ref al, .int (nI (pp + 1 + r)), .int (nI pp), .ref (g.2.1 0)]) (congrArg (fun z_ : Int32 => ([.int z_, .ref al, .int (nI (pp + 1 + r)), .int (nI pp), .ref (g.2.1 0)] : List Value)) (show ((nI (n + 1)) - 1 : Int32) = nI n from nI_pred n)) rfl ?_
      refine r_ialdA F hT_68.2.2.2.2.1 (vp_in_nI hn16 (by decide)) dL_law_380 ?_
      refine r_eq (st2 := [.int (nI lm), .int (nI (pp + 1 + r)), .int (nI pp), .ref (g.2.1 0)]) (by rw [nI_clamp (by omega), upd_eq]) rfl ?_
      have hcd : cdSkip n (nI pp) (nI (pp + 1 + r)) (nI lm) = 0 := cdSkip_0 hpp (by omega) (by omega) hlm hn16
      refine r_calli (g_V (C := RX3) (T := TX3) (N := 4) (nA := 3) (As := [.int (nI pp), .int (nI (pp + 1 + r)), .int (nI lm)]) (rest := []) F 0 hT_68.1.1 (by decide) rfl ((c_X3_skip hfl hT_68.1).ci (fun _ _ q => exIAS_n hcd q.1)) gL_law_X3_skip rfl (by decide +kernel) rfl ⟨Nat.le_of_ble_eq_true rfl, Nat.le_of_ble_eq_true rfl⟩ ⟨by (try dsimp only); omega, by (try dsimp only); omega⟩ rfl (Nat.le_of_ble_eq_true rfl) dL_law_381) (fun r_72 u_72 hp_72 => ?_)
      refine r_widen (k' := k0 + 3) (n' := n0 + 18) (by (try dsimp only); omega) (by (try dsimp only); omega) ?_
      obtain ⟨-, er_72, hC_72, hk_72⟩ := hp_72
      subst er_72
      have hT_72 := hT_68.keep hC_72 hk_72
      have hok_72 := ho.add (wf_skip ho.2.2.1 hcd) (lm := nI lm) (fun _ => rfl) (fun q => absurd rfl q)
      refine r_goto F 395 (by decide) dL_law_384 ?_
      refine r_istore (lv' := [(0, .ref bs), (1, .ref (g.2.1 0)), (2, .ref ak), (3, .ref ap), (4, .ref am), (5, .ref al), (6, .ref aa), (7, .int (nI (n + 1))), (8, .int (nI e)), (9, .int h), (10, .int (nI kd)), (11, .int 1), (12, .int 2), (13, .int (nI pp)), (14, .int (nI (pp + 1 + r))), (15, .int (nI n))]) F (by decide) rfl dL_law_395 ?_
      refine r_iload F 15 rfl dL_law_397 ?_
      refine r_iload F 7 rfl dL_law_399 ?_
      refine r_iconst (v := 1) F (by decide) dL_law_401 ?_
      refine r_isub F dL_law_402 ?_
      refine r_eq (st2 := [.int (nI n), .int (nI n)]) (congrArg (fun z_ : Int32 => ([.int z_, .int (nI n)] : List Value)) (show ((nI (n + 1)) - 1 : Int32) = nI n from nI_pred n)) rfl ?_
      refine r_icmp_ne F 410 (by decide) dL_law_403 (fun c_403_73 => absurd c_403_73 (fun q => q rfl)) (fun _ => ?_)
      refine r_iconst (v := 1) F (by decide) dL_law_406 ?_
      refine r_goto F 411 (by decide) dL_law_407 ?_
      refine r_istore (lv' := [(0, .ref bs), (1, .ref (g.2.1 0)), (2, .ref ak), (3, .ref ap), (4, .ref am), (5, .ref al), (6, .ref aa), (7, .int (nI (n + 1))), (8, .int (nI e)), (9, .int h), (10, .int (nI kd)), (11, .int 1), (12, .int 2), (13, .int (nI pp)), (14, .int (nI (pp + 1 + r))), (15, .int (nI n))]) F (by decide) rfl dL_law_411 ?_
      refine r_goto F 627 (by decide) dL_law_413 ?_
      refine r_lv (lv2 := [(0, .ref bs), (1, .ref (g.2.1 0)), (2, .ref ak), (3, .ref ap), (4, .ref am), (5, .ref al), (6, .ref aa), (7, .int (nI (n + 1))), (8, .int (nI e)), (11, .int 1)]) (by simp) ?_
      refine r_widen (k' := k0 + 20) (n' := n0 + 200) (by omega) (by omega) ?_
      exact kk _ _ _ _ _ _ _ _ _ _ _ _ hT_72 hok_72
    refine r_iconst (v := 0) F (by decide) dL_law_215 ?_
    refine r_istore (lv' := [(0, .ref bs), (1, .ref (g.2.1 0)), (2, .ref ak), (3, .ref ap), (4, .ref am), (5, .ref al), (6, .ref aa), (7, .int (nI n)), (8, .int (nI e)), (9, .int h), (10, .int (nI kd)), (11, .int 1), (12, .int 2), (13, .int (nI pp)), (14, .int (nI (pp + 1 + r))), (15, .int 0)]) F (by decide) rfl dL_law_216 ?_
    refine r_iload F 15 rfl dL_law_218 ?_
    refine r_iload F 7 rfl dL_law_220 ?_
    refine r_icmp_ge F 277 (by decide) dL_law_222 (fun c_222_74 => ?_) (fun c_222_74 => ?_)
    · skip
      refine r_lv (lv2 := [(0, .ref bs), (1, .ref (g.2.1 0)), (2, .ref ak), (3, .ref ap), (4, .ref am), (5, .ref al), (6, .ref aa), (7, .int (nI n)), (8, .int (nI e)), (9, .int h), (10, .int (nI kd)), (11, .int 1), (12, .int 2), (13, .int (nI pp)), (14, .int (nI (pp + 1 + r)))]) (by simp) ?_
      exact j_277_56
    · skip
      refine r_iload F 12 rfl dL_law_225 ?_
      refine r_iconst (v := 3) F (by decide) dL_law_227 ?_
      refine r_icmp_ne F 277 (by decide) dL_law_228 (fun _ => ?_) (fun c_228_75 => absurd c_228_75 (by decide))
      refine r_lv (lv2 := [(0, .ref bs), (1, .ref (g.2.1 0)), (2, .ref ak), (3, .ref ap), (4, .ref am), (5, .ref al), (6, .ref aa), (7, .int (nI n)), (8, .int (nI e)), (9, .int h), (10, .int (nI kd)), (11, .int 1), (12, .int 2), (13, .int (nI pp)), (14, .int (nI (pp + 1 + r)))]) (by simp) ?_
      exact j_277_56
  · skip
    refine r_eq (st2 := [.int 3]) rfl rfl ?_
    refine r_istore (lv' := [(0, .ref bs), (1, .ref (g.2.1 0)), (2, .ref ak), (3, .ref ap), (4, .ref am), (5, .ref al), (6, .ref aa), (7, .int (nI n)), (8, .int (nI e)), (9, .int h), (10, .int (nI kd)), (11, .int 1), (12, .int 3)]) F (by decide) rfl dL_law_96 ?_
    refine r_iload F 9 rfl dL_law_98 ?_
    refine r_bipush (v := 6) F (by decide) dL_law_100 ?_
    refine r_ishr F dL_law_102 ?_
    refine r_iload F 12 rfl dL_law_103 ?_
    refine r_iconst (v := 2) F (by decide) dL_law_105 ?_
    refine r_icmp_ne F 113 (by decide) dL_law_106 (fun _ => ?_) (fun c_106_76 => absurd c_106_76 (by decide))
    refine r_iconst (v := 5) F (by decide) dL_law_113 ?_
    refine r_calli (g_S (nA := 2) (As := [.int (h >>> (6 &&& 31)), .int (nI 5)]) (rest := []) F (c_L_low (v := (h >>> (6 &&& 31))) (w := 5) (by decide) (by decide)) gL_law_L_low rfl (by decide +kernel) rfl ⟨Nat.le_of_ble_eq_true rfl, Nat.le_of_ble_eq_true rfl⟩ ⟨by (try dsimp only); omega, by (try dsimp only); omega⟩ rfl (Nat.le_of_ble_eq_true rfl) dL_law_114) (fun r_77 u_77 hp_77 => ?_)
    refine r_widen (k' := k0) (n' := n0) (by (try dsimp only); omega) (by (try dsimp only); omega) ?_
    obtain ⟨⟨pp, hpp, rfl⟩, rfl⟩ := hp_77
    refine r_istore (lv' := [(0, .ref bs), (1, .ref (g.2.1 0)), (2, .ref ak), (3, .ref ap), (4, .ref am), (5, .ref al), (6, .ref aa), (7, .int (nI n)), (8, .int (nI e)), (9, .int h), (10, .int (nI kd)), (11, .int 1), (12, .int 3), (13, .int (nI pp))]) F (by decide) rfl dL_law_117 ?_
    refine r_iload F 12 rfl dL_law_119 ?_
    refine r_if_ne F 138 (by decide) dL_law_121 (fun _ => ?_) (fun c_121_78 => absurd c_121_78 (by decide))
    refine r_iload F 12 rfl dL_law_138 ?_
    refine r_iconst (v := 1) F (by decide) dL_law_140 ?_
    refine r_icmp_ne F 186 (by decide) dL_law_141 (fun _ => ?_) (fun c_141_79 => absurd c_141_79 (by decide))
    refine r_iload F 12 rfl dL_law_186 ?_
    refine r_iconst (v := 2) F (by decide) dL_law_188 ?_
    refine r_icmp_ne F 212 (by decide) dL_law_189 (fun _ => ?_) (fun c_189_80 => absurd c_189_80 (by decide))
    refine r_iconst (v := 0) F (by decide) dL_law_212 ?_
    refine r_eq (st2 := [.int (nI 0)]) (congrArg (fun z_ : Int32 => ([.int z_] : List Value)) (show (0 : Int32) = nI 0 from rfl)) rfl ?_
    refine r_istore (lv' := [(0, .ref bs), (1, .ref (g.2.1 0)), (2, .ref ak), (3, .ref ap), (4, .ref am), (5, .ref al), (6, .ref aa), (7, .int (nI n)), (8, .int (nI e)), (9, .int h), (10, .int (nI kd)), (11, .int 1), (12, .int 3), (13, .int (nI pp)), (14, .int (nI 0))]) F (by decide) rfl dL_law_213 ?_
    refine r_iconst (v := 0) F (by decide) dL_law_215 ?_
    refine r_istore (lv' := [(0, .ref bs), (1, .ref (g.2.1 0)), (2, .ref ak), (3, .ref ap), (4, .ref am), (5, .ref al), (6, .ref aa), (7, .int (nI n)), (8, .int (nI e)), (9, .int h), (10, .int (nI kd)), (11, .int 1), (12, .int 3), (13, .int (nI pp)), (14, .int (nI 0)), (15, .int 0)]) F (by decide) rfl dL_law_216 ?_
    have loop_218 : ∀ (k : Nat) (j q : Nat) (x14_218 : Int32) (x15_218 : Int32), (j + k = n) → (q < 2 ^ j) → (∀ i, i < j → q.testBit i = true → B i 0 = 0 ∨ B i 0 = 3) → x14_218 = nI q → x15_218 = nI j → VL g X k0 n0 u 218 [(0, .ref bs), (1, .ref (g.2.1 0)), (2, .ref ak), (3, .ref ap), (4, .ref am), (5, .ref al), (6, .ref aa), (7, .int (nI n)), (8, .int (nI e)), (9, .int h), (10, .int (nI kd)), (11, .int 1), (12, .int 3), (13, .int (nI pp)), (14, .int x14_218), (15, .int x15_218)] [] := by
      intro k
      induction k with
      | zero =>
        rintro j q x14_218 x15_218 hkj hq hqb rfl rfl
        have hjn : n = j := by omega
        subst hjn
        refine r_iload F 15 rfl dL_law_218 ?_
        refine r_iload F 7 rfl dL_law_220 ?_
        refine r_icmp_ge F 277 (by decide) dL_law_222 (fun _ => ?_) (fun c_222_81 => absurd (Int32.le_refl _) c_222_81)
        refine r_aload_n F 2 rfl dL_law_277 ?_
        refine r_iload F 7 rfl dL_law_278 ?_
        refine r_iload F 12 rfl dL_law_280 ?_
        refine r_iastA F hT.2.1 (vp_in_nI hn16 (by decide)) dL_law_282 (fun u_82 hu_82 => ?_)
        rw [show upd K (nI n).toNatClampNeg 3 = (upd K n 3) from by rw [nI_clamp (by omega)]] at hu_82
        have hT_83 : TW g u_82 ak ap am al aa n B m S t C (upd K n 3) P M L A := by rw [hu_82]; exact hT.upK
        refine r_aload_n F 3 rfl dL_law_283 ?_
        refine r_iload F 7 rfl dL_law_284 ?_
        refine r_iload F 13 rfl dL_law_286 ?_
        refine r_iastA F hT_83.2.2.1 (vp_in_nI hn16 (by decide)) dL_law_288 (fun u_84 hu_84 => ?_)
        rw [show upd P (nI n).toNatClampNeg (nI pp) = (upd P n (nI pp)) from by rw [nI_clamp (by omega)]] at hu_84
        have hT_85 : TW g u_84 ak ap am al aa n B m S t C (upd K n 3) (upd P n (nI pp)) M L A := by rw [hu_84]; exact hT_83.upP
        refine r_aload F 4 rfl dL_law_289 ?_
        refine r_iload F 7 rfl dL_law_291 ?_
        refine r_iload F 14 rfl dL_law_293 ?_
        refine r_iastA F hT_85.2.2.2.1 (vp_in_nI hn16 (by decide)) dL_law_295 (fun u_86 hu_86 => ?_)
        rw [show upd M (nI n).toNatClampNeg (nI q) = (upd M n (nI q)) from by rw [nI_clamp (by omega)]] at hu_86
        have hT_87 : TW g u_86 ak ap am al aa n B m S t C (upd K n 3) (upd P n (nI pp)) (upd M n (nI q)) L A := by rw [hu_86]; exact hT_85.upM
        refine r_aload F 5 rfl dL_law_296 ?_
        refine r_iload F 7 rfl dL_law_298 ?_
        refine r_iload F 12 rfl dL_law_300 ?_
        refine r_iconst (v := 2) F (by decide) dL_law_302 ?_
        refine r_icmp_ne F 319 (by decide) dL_law_303 (fun _ => ?_) (fun c_303_88 => absurd c_303_88 (by decide))
        refine r_iconst (v := 0) F (by decide) dL_law_319 ?_
        refine r_iastA F hT_87.2.2.2.2.1 (vp_in_nI hn16 (by decide)) dL_law_320 (fun u_89 hu_89 => ?_)
        rw [show upd L (nI n).toNatClampNeg 0 = (upd L n 0) from by rw [nI_clamp (by omega)]] at hu_89
        have hT_90 : TW g u_89 ak ap am al aa n B m S t C (upd K n 3) (upd P n (nI pp)) (upd M n (nI q)) (upd L n 0) A := by rw [hu_89]; exact hT_87.upL
        refine r_aload F 6 rfl dL_law_321 ?_
        refine r_iload F 7 rfl dL_law_323 ?_
        refine r_iconst (v := -1) F (by decide) dL_law_325 ?_
        refine r_iastA F hT_90.2.2.2.2.2 (vp_in_nI hn16 (by decide)) dL_law_326 (fun u_91 hu_91 => ?_)
        rw [show upd A (nI n).toNatClampNeg (-1) = (upd A n (-1)) from by rw [nI_clamp (by omega)]] at hu_91
        have hT_92 : TW g u_91 ak ap am al aa n B m S t C (upd K n 3) (upd P n (nI pp)) (upd M n (nI q)) (upd L n 0) (upd A n (-1)) := by rw [hu_91]; exact hT_90.upA
        refine r_iinc (lv' := [(0, .ref bs), (1, .ref (g.2.1 0)), (2, .ref ak), (3, .ref ap), (4, .ref am), (5, .ref al), (6, .ref aa), (7, .int (nI (n + 1))), (8, .int (nI e)), (9, .int h), (10, .int (nI kd)), (11, .int 1), (12, .int 3), (13, .int (nI pp)), (14, .int (nI q)), (15, .int (nI n))]) F 7 rfl (nI_inc _) (by decide) rfl dL_law_327 ?_
        refine r_iload F 12 rfl dL_law_330 ?_
        refine r_if_ne F 346 (by decide) dL_law_332 (fun _ => ?_) (fun c_332_93 => absurd c_332_93 (by decide))
        refine r_iload F 12 rfl dL_law_346 ?_
        refine r_iconst (v := 1) F (by decide) dL_law_348 ?_
        refine r_icmp_ne F 363 (by decide) dL_law_349 (fun _ => ?_) (fun c_349_94 => absurd c_349_94 (by decide))
        refine r_iload F 12 rfl dL_law_363 ?_
        refine r_iconst (v := 2) F (by decide) dL_law_365 ?_
        refine r_icmp_ne F 387 (by decide) dL_law_366 (fun _ => ?_) (fun c_366_95 => absurd c_366_95 (by decide))
        refine r_aload_n F 1 rfl dL_law_387 ?_
        refine r_iload F 13 rfl dL_law_388 ?_
        refine r_iload F 14 rfl dL_law_390 ?_
        have hcd : cdTotal B n (nI pp) (nI q) = 0 := cdTotal_0 hpp hq hqb hn16
        refine r_calli (g_V (C := RX3) (T := TX3) (N := 4) (nA := 2) (As := [.int (nI pp), .int (nI q)]) (rest := []) F 0 hT_92.1.1 (by decide) rfl ((c_X3_total hfl hT_92.1).ci (fun _ _ q => exIAS_n hcd q.1)) gL_law_X3_total rfl (by decide +kernel) rfl ⟨Nat.le_of_ble_eq_true rfl, Nat.le_of_ble_eq_true rfl⟩ ⟨by (try dsimp only); omega, by (try dsimp only); omega⟩ rfl (Nat.le_of_ble_eq_true rfl) dL_law_392) (fun r_96 u_96 hp_96 => ?_)
        refine r_widen (k' := k0 + 3) (n' := n0 + 18) (by (try dsimp only); omega) (by (try dsimp only); omega) ?_
        obtain ⟨-, er_96, hC_96, hk_96⟩ := hp_96
        subst er_96
        have hT_96 := hT_92.keep hC_96 hk_96
        have hok_96 := ho.add (wf_total ho.2.2.1 hcd) (lm := 0) (fun q => absurd q (by decide)) (fun _ => rfl)
        refine r_istore (lv' := [(0, .ref bs), (1, .ref (g.2.1 0)), (2, .ref ak), (3, .ref ap), (4, .ref am), (5, .ref al), (6, .ref aa), (7, .int (nI (n + 1))), (8, .int (nI e)), (9, .int h), (10, .int (nI kd)), (11, .int 1), (12, .int 3), (13, .int (nI pp)), (14, .int (nI q)), (15, .int (nI n))]) F (by decide) rfl dL_law_395 ?_
        refine r_iload F 15 rfl dL_law_397 ?_
        refine r_iload F 7 rfl dL_law_399 ?_
        refine r_iconst (v := 1) F (by decide) dL_law_401 ?_
        refine r_isub F dL_law_402 ?_
        refine r_eq (st2 := [.int (nI n), .int (nI n)]) (congrArg (fun z_ : Int32 => ([.int z_, .int (nI n)] : List Value)) (show ((nI (n + 1)) - 1 : Int32) = nI n from nI_pred n)) rfl ?_
        refine r_icmp_ne F 410 (by decide) dL_law_403 (fun c_403_97 => absurd c_403_97 (fun q => q rfl)) (fun _ => ?_)
        refine r_iconst (v := 1) F (by decide) dL_law_406 ?_
        refine r_goto F 411 (by decide) dL_law_407 ?_
        refine r_istore (lv' := [(0, .ref bs), (1, .ref (g.2.1 0)), (2, .ref ak), (3, .ref ap), (4, .ref am), (5, .ref al), (6, .ref aa), (7, .int (nI (n + 1))), (8, .int (nI e)), (9, .int h), (10, .int (nI kd)), (11, .int 1), (12, .int 3), (13, .int (nI pp)), (14, .int (nI q)), (15, .int (nI n))]) F (by decide) rfl dL_law_411 ?_
        refine r_goto F 627 (by decide) dL_law_413 ?_
        refine r_lv (lv2 := [(0, .ref bs), (1, .ref (g.2.1 0)), (2, .ref ak), (3, .ref ap), (4, .ref am), (5, .ref al), (6, .ref aa), (7, .int (nI (n + 1))), (8, .int (nI e)), (11, .int 1)]) (by simp) ?_
        refine r_widen (k' := k0 + 20) (n' := n0 + 200) (by omega) (by omega) ?_
        exact kk _ _ _ _ _ _ _ _ _ _ _ _ hT_96 hok_96
      | succ k ih_218 =>
        rintro j q x14_218 x15_218 hkj hq hqb rfl rfl
        have hj : j < n := by omega
        obtain ⟨eK, eP, eM, eL, eA⟩ := ho.1 j hj
        refine r_iload F 15 rfl dL_law_218 ?_
        refine r_iload F 7 rfl dL_law_220 ?_
        refine r_icmp_ge F 277 (by decide) dL_law_222 (fun c_222_98 => absurd c_222_98 (nI_ge (b := n) hj (by omega))) (fun _ => ?_)
        refine r_iload F 12 rfl dL_law_225 ?_
        refine r_iconst (v := 3) F (by decide) dL_law_227 ?_
        refine r_icmp_ne F 277 (by decide) dL_law_228 (fun c_228_99 => absurd c_228_99 (by decide)) (fun _ => ?_)
        refine r_iload F 14 rfl dL_law_231 ?_
        have j_268_100 : ∀ (v : Int32), (∃ r, v = nI r ∧ (r = 0 ∨ r = 2 ^ j) ∧ (r = 0 ∨ B j 0 = 0 ∨ B j 0 = 3)) → VL g X k0 n0 u 268 [(0, .ref bs), (1, .ref (g.2.1 0)), (2, .ref ak), (3, .ref ap), (4, .ref am), (5, .ref al), (6, .ref aa), (7, .int (nI n)), (8, .int (nI e)), (9, .int h), (10, .int (nI kd)), (11, .int 1), (12, .int 3), (13, .int (nI pp)), (14, .int (nI q)), (15, .int (nI j))] [.int v, .int (nI q)] := by
          intro v hv
          obtain ⟨r, rfl, hr⟩ := hv
          refine r_ior F dL_law_268 ?_
          refine r_eq (st2 := [.int (nI (q + r))]) (congrArg (fun z_ : Int32 => ([.int z_] : List Value)) (show ((nI q) ||| (nI r) : Int32) = nI (q + r) from mk_or (by omega) hq hr.1)) rfl ?_
          refine r_istore (lv' := [(0, .ref bs), (1, .ref (g.2.1 0)), (2, .ref ak), (3, .ref ap), (4, .ref am), (5, .ref al), (6, .ref aa), (7, .int (nI n)), (8, .int (nI e)), (9, .int h), (10, .int (nI kd)), (11, .int 1), (12, .int 3), (13, .int (nI pp)), (14, .int (nI (q + r))), (15, .int (nI j))]) F (by decide) rfl dL_law_269 ?_
          refine r_iinc (lv' := [(0, .ref bs), (1, .ref (g.2.1 0)), (2, .ref ak), (3, .ref ap), (4, .ref am), (5, .ref al), (6, .ref aa), (7, .int (nI n)), (8, .int (nI e)), (9, .int h), (10, .int (nI kd)), (11, .int 1), (12, .int 3), (13, .int (nI pp)), (14, .int (nI (q + r))), (15, .int (nI (j + 1)))]) F 15 rfl (nI_inc _) (by decide) rfl dL_law_271 ?_
          refine r_goto F 218 (by decide) dL_law_274 ?_
          exact ih_218 (j + 1) (q + r) _ _ (by omega) (mk_lt hq hr.1) (mk_b hq hqb hr) rfl rfl
        refine r_aload_n F 2 rfl dL_law_233 ?_
        refine r_iload F 15 rfl dL_law_234 ?_
        refine r_ialdA F hT.2.1 (vp_in_nI (by omega) (by decide)) dL_law_236 ?_
        refine r_eq (st2 := [.int (B j 0), .int (nI q)]) (by rw [nI_clamp (by omega), eK]) rfl ?_
        refine r_if_eq F 248 (by decide) dL_law_237 (fun c_237_101 => ?_) (fun c_237_101 => ?_)
        · skip
          refine r_iload F 9 rfl dL_law_248 ?_
          refine r_bipush (v := 9) F (by decide) dL_law_250 ?_
          refine r_iload F 15 rfl dL_law_252 ?_
          refine r_bipush (v := 12) F (by decide) dL_law_254 ?_
          refine r_irem (v := nI (j % 12)) F (by decide) (pk_rem (d := 12) (by omega) (by decide) (by decide)) dL_law_256 ?_
          refine r_iadd F dL_law_257 ?_
          refine r_ishr F dL_law_258 ?_
          refine r_iconst (v := 1) F (by decide) dL_law_259 ?_
          refine r_iand F dL_law_260 ?_
          refine r_iload F 15 rfl dL_law_261 ?_
          refine r_ishl F dL_law_263 ?_
          refine r_goto F 268 (by decide) dL_law_264 ?_
          exact j_268_100 _ (by obtain ⟨r, er, hr⟩ := mk_v (h := h) (s := 9 + nI (j % 12)) (j := j) (by omega); exact ⟨r, er, hr, Or.inr (Or.inl c_237_101)⟩)
        · skip
          refine r_aload_n F 2 rfl dL_law_240 ?_
          refine r_iload F 15 rfl dL_law_241 ?_
          refine r_ialdA F hT.2.1 (vp_in_nI (by omega) (by decide)) dL_law_243 ?_
          refine r_eq (st2 := [.int (B j 0), .int (nI q)]) (by rw [nI_clamp (by omega), eK]) rfl ?_
          refine r_iconst (v := 3) F (by decide) dL_law_244 ?_
          refine r_icmp_ne F 267 (by decide) dL_law_245 (fun c_245_102 => ?_) (fun c_245_102 => ?_)
          · skip
            refine r_iconst (v := 0) F (by decide) dL_law_267 ?_
            exact j_268_100 _ (⟨0, rfl, Or.inl rfl, Or.inl rfl⟩)
          · skip
            refine r_iload F 9 rfl dL_law_248 ?_
            refine r_bipush (v := 9) F (by decide) dL_law_250 ?_
            refine r_iload F 15 rfl dL_law_252 ?_
            refine r_bipush (v := 12) F (by decide) dL_law_254 ?_
            refine r_irem (v := nI (j % 12)) F (by decide) (pk_rem (d := 12) (by omega) (by decide) (by decide)) dL_law_256 ?_
            refine r_iadd F dL_law_257 ?_
            refine r_ishr F dL_law_258 ?_
            refine r_iconst (v := 1) F (by decide) dL_law_259 ?_
            refine r_iand F dL_law_260 ?_
            refine r_iload F 15 rfl dL_law_261 ?_
            refine r_ishl F dL_law_263 ?_
            refine r_goto F 268 (by decide) dL_law_264 ?_
            exact j_268_100 _ (by obtain ⟨r, er, hr⟩ := mk_v (h := h) (s := 9 + nI (j % 12)) (j := j) (by omega); exact ⟨r, er, hr, Or.inr (Or.inr c_245_102)⟩)
    exact loop_218 n 0 0 _ _ (by omega) (by decide) (fun i hi => absurd hi (by omega)) rfl rfl
