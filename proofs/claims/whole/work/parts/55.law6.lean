/-- what stands between the law's steps -/
def Inv (g : kG) (u : Nat → va_E) : Prop := ∃ (n : Nat) (B : kB) (m : Nat) (S : Nat → kS) (t : Nat) (C : Nat → Int32) (th rm sp wr : Int32) (hs : Int64) (VA RD CH WE : Nat → Int32), CsB g u n B m S t C ∧ MdX g u th rm sp wr hs VA RD CH WE n B m S t C ∧ wfB n B ∧ wfS m S ∧ OutR g u
theorem MdX.m6 {g : kG} {u : Nat → va_E} {th rm sp wr : Int32} {hs : Int64} {VA RD CH WE : Nat → Int32} {n m t : Nat} {B : kB} {S : Nat → kS} {C : Nat → Int32} (h : MdX g u th rm sp wr hs VA RD CH WE n B m S t C) : m ≤ 6 := by
  obtain ⟨Z, SV, BF, h0, h1, h2, h3, h4, h5, h6⟩ := h
  exact h5
theorem OutV.r {g : kG} {u : Nat → va_E} {v : Int32} (h : OutV g u v) : OutR g u := by
  obtain ⟨f, h1, -⟩ := h
  exact ⟨f, h1⟩
theorem OutR.keep {g : kG} {u u' : Nat → va_E} (h : OutR g u) (hk : ∀ j, ¬ (61 ≤ j ∧ j < 69) → u' j = u j) : OutR g u' := by
  obtain ⟨f, h1⟩ := h
  exact ⟨f, (hk 69 (by omega)).trans h1⟩
set_option maxHeartbeats 4000000 in
set_option maxRecDepth 100000 in
theorem op_comb {g : kG} {X : kX} {ret : Option FieldType} {rm0 : Room} {b L i k n0 : Nat} {xs : Nat → Int32} {u : Nat → va_E} (hfl : X.2.1.stackTraces = false) (F : Fx g X cL_law 9 ret wsL_law RL rm0) (T : Sx g X b L xs) (hi : i + 4 ≤ L) (hL : L ≤ 2048) (hf : 10 ≤ rm0.frames) (hl : 300 ≤ rm0.locals) (hk : k + 4 ≤ rm0.cells ∧ n0 + 24 ≤ rm0.slots) (I : Inv g u) (kk : ∀ u', Inv g u' → VL g X (k + 4) (n0 + 24) u' 1064 [(0, .ref b), (1, .ref (g.2.1 0)), (2, .ref (g.2.1 61)), (3, .ref (g.2.1 69)), (4, .int (nI i))] []) : VL g X k n0 u 132 [(0, .ref b), (1, .ref (g.2.1 0)), (2, .ref (g.2.1 61)), (3, .ref (g.2.1 69)), (4, .int (nI i))] [] := by
  obtain ⟨n, B, m, S, t, C, th, rm, sp, wr, hs, VA, RD, CH, WE, hc, hM, hwf, hws, hO⟩ := I
  have hm6 := hM.m6
  refine r_aload_n F 1 rfl dL_law_132 ?_
  refine r_aload_n F 0 rfl dL_law_133 ?_
  refine r_iload F 4 rfl dL_law_134 ?_
  refine r_iconst (v := 1) F (by decide) dL_law_136 ?_
  refine r_iadd F dL_law_137 ?_
  refine r_sld F T (by rw [nI_1]; exact vp_in_nI (by omega) (by omega)) dL_law_138 ?_
  refine r_eq (st2 := [.int (xs (i + 1)), .ref (g.2.1 0)]) (by rw [nI_1, nI_clamp (by omega)]) rfl ?_
  refine r_aload_n F 0 rfl dL_law_139 ?_
  refine r_iload F 4 rfl dL_law_140 ?_
  refine r_iconst (v := 2) F (by decide) dL_law_142 ?_
  refine r_iadd F dL_law_143 ?_
  refine r_sld F T (by rw [show (2 : Int32) = nI 2 from rfl, nI_add]; exact vp_in_nI (by omega) (by omega)) dL_law_144 ?_
  refine r_eq (st2 := [.int (xs (i + 2)), .int (xs (i + 1)), .ref (g.2.1 0)]) (by rw [show (2 : Int32) = nI 2 from rfl, nI_add, nI_clamp (by omega)]) rfl ?_
  refine r_aload_n F 3 rfl dL_law_145 ?_
  refine r_calli (g_CS (nA := 4) (As := [.ref (g.2.1 0), .int (xs (i + 1)), .int (xs (i + 2)), .ref (g.2.1 69)]) (rest := []) F T (c_L_comb hfl hc hO) gL_law_L_comb rfl (by decide +kernel) rfl ⟨Nat.le_trans (Nat.le_of_ble_eq_true rfl) hf, Nat.le_trans (Nat.le_of_ble_eq_true rfl) hl⟩ ⟨Nat.le_trans (Nat.add_le_add_left (Nat.le_of_ble_eq_true rfl) k) hk.1, Nat.le_trans (Nat.add_le_add_left (Nat.le_of_ble_eq_true rfl) n0) hk.2⟩ rfl (Nat.le_of_ble_eq_true rfl) dL_law_146) (fun r1 u1 hp1 => ?_)
  rcases hp1 with ⟨hcd, rfl, hC, hV, hq⟩ | ⟨c1, hc0, hcd, rfl, rfl⟩
  · skip
    have hM1 := hM.keep (fun j h1 h2 => hq j h1 h2)
    refine r_istore (lv' := [(0, .ref b), (1, .ref (g.2.1 0)), (2, .ref (g.2.1 61)), (3, .ref (g.2.1 69)), (4, .int (nI i)), (5, .int 0)]) F (by decide) rfl dL_law_149 ?_
    refine r_aload_n F 2 rfl dL_law_151 ?_
    refine r_aload_n F 0 rfl dL_law_152 ?_
    refine r_iload F 4 rfl dL_law_153 ?_
    refine r_iconst (v := 1) F (by decide) dL_law_155 ?_
    refine r_iadd F dL_law_156 ?_
    refine r_sld F T (by rw [nI_1]; exact vp_in_nI (by omega) (by omega)) dL_law_157 ?_
    refine r_eq (st2 := [.int (xs (i + 1)), .ref (g.2.1 61)]) (by rw [nI_1, nI_clamp (by omega)]) rfl ?_
    refine r_aload_n F 0 rfl dL_law_158 ?_
    refine r_iload F 4 rfl dL_law_159 ?_
    refine r_iconst (v := 2) F (by decide) dL_law_161 ?_
    refine r_iadd F dL_law_162 ?_
    refine r_sld F T (by rw [show (2 : Int32) = nI 2 from rfl, nI_add]; exact vp_in_nI (by omega) (by omega)) dL_law_163 ?_
    refine r_eq (st2 := [.int (xs (i + 2)), .int (xs (i + 1)), .ref (g.2.1 61)]) (by rw [show (2 : Int32) = nI 2 from rfl, nI_add, nI_clamp (by omega)]) rfl ?_
    refine r_calli (g_V (C := RX4) (T := TX4) (N := 14) (nA := 2) (As := [.int (xs (i + 1)), .int (xs (i + 2))]) (rest := []) F 61 (by obtain ⟨Z9, S9, F9, h9, -⟩ := hM1; exact h9.1) (by decide) rfl (c_X4_comb hM1) gL_law_X4_comb rfl (by decide +kernel) rfl ⟨Nat.le_trans (Nat.le_of_ble_eq_true rfl) hf, Nat.le_trans (Nat.le_of_ble_eq_true rfl) hl⟩ ⟨Nat.le_trans (Nat.add_le_add_left (Nat.le_of_ble_eq_true rfl) k) hk.1, Nat.le_trans (Nat.add_le_add_left (Nat.le_of_ble_eq_true rfl) n0) hk.2⟩ rfl (Nat.le_of_ble_eq_true rfl) dL_law_164) (fun r2 u2 hp2 => ?_)
    obtain ⟨hp2, hq2⟩ := hp2
    rcases hp2 with ⟨-, rfl, hX⟩ | ⟨c2, h2, h3, -⟩
    · skip
      refine r_istore (lv' := [(0, .ref b), (1, .ref (g.2.1 0)), (2, .ref (g.2.1 61)), (3, .ref (g.2.1 69)), (4, .int (nI i)), (5, .int 0), (6, .int (nI n))]) F (by decide) rfl dL_law_167 ?_
      refine r_aload_n F 2 rfl dL_law_169 ?_
      refine r_calli (g_V (C := RX4) (T := TX4) (N := 14) (nA := 0) (As := []) (rest := []) F 61 (by obtain ⟨Z9, S9, F9, h9, -⟩ := hX; exact h9.1) (by decide) rfl (c_X4_thrown hX) gL_law_X4_thrown rfl (by decide +kernel) rfl ⟨Nat.le_trans (Nat.le_of_ble_eq_true rfl) hf, Nat.le_trans (Nat.le_of_ble_eq_true rfl) hl⟩ ⟨Nat.le_trans (Nat.add_le_add_left (Nat.le_of_ble_eq_true rfl) k) hk.1, Nat.le_trans (Nat.add_le_add_left (Nat.le_of_ble_eq_true rfl) n0) hk.2⟩ rfl (Nat.le_of_ble_eq_true rfl) dL_law_170) (fun r3 u3 hp3 => ?_)
      obtain ⟨rfl, rfl⟩ := hp3
      obtain ⟨fo, hO1, hO2⟩ := hV
      have hO3 : u2 69 = .inl (g.2.2.1 3, 1, .inr (.inl fo)) := (hq2 69 (by omega)).trans hO1
      refine r_iload F 5 rfl dL_law_173 ?_
      refine r_icmp_eq F 180 (by decide) dL_law_175 (fun c_175_1 => ?_) (fun c_175_1 => absurd c_175_1 (by decide))
      clear c_175_1
      refine r_iload F 5 rfl dL_law_180 ?_
      refine r_if_ne F 197 (by decide) dL_law_182 (fun c_182_2 => absurd c_182_2 (by decide)) (fun c_182_2 => ?_)
      clear c_182_2
      refine r_aload_n F 3 rfl dL_law_185 ?_
      refine r_iconst (v := 0) F (by decide) dL_law_186 ?_
      refine r_lald F 69 hO3 (by decide) (vp_in_nI (n := 0) (by decide) (by decide)) dL_law_187 ?_
      refine r_iload F 6 rfl dL_law_188 ?_
      refine r_i2l F rfl dL_law_190 ?_
      refine r_lcmp F dL_law_191 ?_
      refine r_if_eq F 197 (by decide) dL_law_192 (fun c_192_3 => ?_) (fun c_192_3 => absurd (by show lg_cmp (fo ((0 : Int32).toNatClampNeg)) _ = 0; rw [show fo ((0 : Int32).toNatClampNeg) = _ from hO2]; exact lg_cmp0 _) c_192_3)
      clear c_192_3
      refine r_goto F 1064 (by decide) dL_law_197 ?_
      refine r_lv (lv2 := [(0, .ref b), (1, .ref (g.2.1 0)), (2, .ref (g.2.1 61)), (3, .ref (g.2.1 69)), (4, .int (nI i))]) (by simp) ?_
      exact r_widen (by show _ ≤ k + 4; simp) (by show _ ≤ n0 + 24; simp) (kk _ ⟨_, _, _, _, _, _, _, _, _, _, _, _, _, _, _, hC.keep (fun j hj => hq2 j (by omega)), hX, (wf_comb hwf hcd), (hws.push hwf hm6), OutV.r ⟨fo, hO3, hO2⟩⟩)
    · exact absurd (h3.symm.trans hcd) (by omega)
  · skip
    have hM1 := hM
    have hc3 : c1 ≤ 3 := by rw [← hcd]; unfold cdComb; (repeat' split) <;> decide
    refine r_istore (lv' := [(0, .ref b), (1, .ref (g.2.1 0)), (2, .ref (g.2.1 61)), (3, .ref (g.2.1 69)), (4, .int (nI i)), (5, .int (nI c1))]) F (by decide) rfl dL_law_149 ?_
    refine r_aload_n F 2 rfl dL_law_151 ?_
    refine r_aload_n F 0 rfl dL_law_152 ?_
    refine r_iload F 4 rfl dL_law_153 ?_
    refine r_iconst (v := 1) F (by decide) dL_law_155 ?_
    refine r_iadd F dL_law_156 ?_
    refine r_sld F T (by rw [nI_1]; exact vp_in_nI (by omega) (by omega)) dL_law_157 ?_
    refine r_eq (st2 := [.int (xs (i + 1)), .ref (g.2.1 61)]) (by rw [nI_1, nI_clamp (by omega)]) rfl ?_
    refine r_aload_n F 0 rfl dL_law_158 ?_
    refine r_iload F 4 rfl dL_law_159 ?_
    refine r_iconst (v := 2) F (by decide) dL_law_161 ?_
    refine r_iadd F dL_law_162 ?_
    refine r_sld F T (by rw [show (2 : Int32) = nI 2 from rfl, nI_add]; exact vp_in_nI (by omega) (by omega)) dL_law_163 ?_
    refine r_eq (st2 := [.int (xs (i + 2)), .int (xs (i + 1)), .ref (g.2.1 61)]) (by rw [show (2 : Int32) = nI 2 from rfl, nI_add, nI_clamp (by omega)]) rfl ?_
    refine r_calli (g_V (C := RX4) (T := TX4) (N := 14) (nA := 2) (As := [.int (xs (i + 1)), .int (xs (i + 2))]) (rest := []) F 61 (by obtain ⟨Z9, S9, F9, h9, -⟩ := hM1; exact h9.1) (by decide) rfl (c_X4_comb hM1) gL_law_X4_comb rfl (by decide +kernel) rfl ⟨Nat.le_trans (Nat.le_of_ble_eq_true rfl) hf, Nat.le_trans (Nat.le_of_ble_eq_true rfl) hl⟩ ⟨Nat.le_trans (Nat.add_le_add_left (Nat.le_of_ble_eq_true rfl) k) hk.1, Nat.le_trans (Nat.add_le_add_left (Nat.le_of_ble_eq_true rfl) n0) hk.2⟩ rfl (Nat.le_of_ble_eq_true rfl) dL_law_164) (fun r2 u2 hp2 => ?_)
    obtain ⟨hp2, hq2⟩ := hp2
    rcases hp2 with ⟨h3, -⟩ | ⟨c2, h2, h3, hX⟩
    · exact absurd (hcd.symm.trans h3) (by omega)
    · skip
      obtain rfl : c1 = c2 := hcd.symm.trans h3
      refine r_istore (lv' := [(0, .ref b), (1, .ref (g.2.1 0)), (2, .ref (g.2.1 61)), (3, .ref (g.2.1 69)), (4, .int (nI i)), (5, .int (nI c1)), (6, .int r2)]) F (by decide) rfl dL_law_167 ?_
      refine r_aload_n F 2 rfl dL_law_169 ?_
      refine r_calli (g_V (C := RX4) (T := TX4) (N := 14) (nA := 0) (As := []) (rest := []) F 61 (by obtain ⟨Z9, S9, F9, h9, -⟩ := hX; exact h9.1) (by decide) rfl (c_X4_thrown hX) gL_law_X4_thrown rfl (by decide +kernel) rfl ⟨Nat.le_trans (Nat.le_of_ble_eq_true rfl) hf, Nat.le_trans (Nat.le_of_ble_eq_true rfl) hl⟩ ⟨Nat.le_trans (Nat.add_le_add_left (Nat.le_of_ble_eq_true rfl) k) hk.1, Nat.le_trans (Nat.add_le_add_left (Nat.le_of_ble_eq_true rfl) n0) hk.2⟩ rfl (Nat.le_of_ble_eq_true rfl) dL_law_170) (fun r3 u3 hp3 => ?_)
      obtain ⟨rfl, rfl⟩ := hp3
      refine r_iload F 5 rfl dL_law_173 ?_
      refine r_icmp_eq F 180 (by decide) dL_law_175 (fun c_175_4 => ?_) (fun c_175_4 => absurd rfl c_175_4)
      clear c_175_4
      refine r_iload F 5 rfl dL_law_180 ?_
      refine r_if_ne F 197 (by decide) dL_law_182 (fun c_182_5 => ?_) (fun c_182_5 => absurd c_182_5 (fun q => by have z := (nI_eq (b := 0) (by omega) (by decide)).mp q; omega))
      clear c_182_5
      refine r_goto F 1064 (by decide) dL_law_197 ?_
      refine r_lv (lv2 := [(0, .ref b), (1, .ref (g.2.1 0)), (2, .ref (g.2.1 61)), (3, .ref (g.2.1 69)), (4, .int (nI i))]) (by simp) ?_
      exact r_widen (by show _ ≤ k + 4; simp) (by show _ ≤ n0 + 24; simp) (kk _ ⟨_, _, _, _, _, _, _, _, _, _, _, _, _, _, _, hc.keep (fun j hj => hq2 j (by omega)), hX, hwf, hws, hO.keep hq2⟩)
set_option maxHeartbeats 4000000 in
set_option maxRecDepth 100000 in
theorem op_tick {g : kG} {X : kX} {ret : Option FieldType} {rm0 : Room} {b L i k n0 : Nat} {xs : Nat → Int32} {u : Nat → va_E} (hfl : X.2.1.stackTraces = false) (F : Fx g X cL_law 9 ret wsL_law RL rm0) (T : Sx g X b L xs) (hi : i + 4 ≤ L) (hL : L ≤ 2048) (hf : 10 ≤ rm0.frames) (hl : 300 ≤ rm0.locals) (hk : k + 4 ≤ rm0.cells ∧ n0 + 24 ≤ rm0.slots) (I : Inv g u) (kk : ∀ u', Inv g u' → VL g X (k + 4) (n0 + 24) u' 1064 [(0, .ref b), (1, .ref (g.2.1 0)), (2, .ref (g.2.1 61)), (3, .ref (g.2.1 69)), (4, .int (nI i))] []) : VL g X k n0 u 200 [(0, .ref b), (1, .ref (g.2.1 0)), (2, .ref (g.2.1 61)), (3, .ref (g.2.1 69)), (4, .int (nI i))] [] := by
  obtain ⟨n, B, m, S, t, C, th, rm, sp, wr, hs, VA, RD, CH, WE, hc, hM, hwf, hws, hO⟩ := I
  have hm6 := hM.m6
  refine r_aload_n F 1 rfl dL_law_200 ?_
  refine r_aload_n F 0 rfl dL_law_201 ?_
  refine r_iload F 4 rfl dL_law_202 ?_
  refine r_iconst (v := 1) F (by decide) dL_law_204 ?_
  refine r_iadd F dL_law_205 ?_
  refine r_sld F T (by rw [nI_1]; exact vp_in_nI (by omega) (by omega)) dL_law_206 ?_
  refine r_eq (st2 := [.int (xs (i + 1)), .ref (g.2.1 0)]) (by rw [nI_1, nI_clamp (by omega)]) rfl ?_
  refine r_aload_n F 0 rfl dL_law_207 ?_
  refine r_iload F 4 rfl dL_law_208 ?_
  refine r_iconst (v := 2) F (by decide) dL_law_210 ?_
  refine r_iadd F dL_law_211 ?_
  refine r_sld F T (by rw [show (2 : Int32) = nI 2 from rfl, nI_add]; exact vp_in_nI (by omega) (by omega)) dL_law_212 ?_
  refine r_eq (st2 := [.int (xs (i + 2)), .int (xs (i + 1)), .ref (g.2.1 0)]) (by rw [show (2 : Int32) = nI 2 from rfl, nI_add, nI_clamp (by omega)]) rfl ?_
  refine r_aload_n F 3 rfl dL_law_213 ?_
  refine r_calli (g_CS (nA := 4) (As := [.ref (g.2.1 0), .int (xs (i + 1)), .int (xs (i + 2)), .ref (g.2.1 69)]) (rest := []) F T (c_L_tick hfl hc hO) gL_law_L_tick rfl (by decide +kernel) rfl ⟨Nat.le_trans (Nat.le_of_ble_eq_true rfl) hf, Nat.le_trans (Nat.le_of_ble_eq_true rfl) hl⟩ ⟨Nat.le_trans (Nat.add_le_add_left (Nat.le_of_ble_eq_true rfl) k) hk.1, Nat.le_trans (Nat.add_le_add_left (Nat.le_of_ble_eq_true rfl) n0) hk.2⟩ rfl (Nat.le_of_ble_eq_true rfl) dL_law_214) (fun r1 u1 hp1 => ?_)
  rcases hp1 with ⟨hcd, rfl, hC, hV, hq⟩ | ⟨c1, hc0, hcd, rfl, rfl⟩
  · skip
    have hM1 := hM.keep (fun j h1 h2 => hq j h1 h2)
    refine r_istore (lv' := [(0, .ref b), (1, .ref (g.2.1 0)), (2, .ref (g.2.1 61)), (3, .ref (g.2.1 69)), (4, .int (nI i)), (5, .int 0)]) F (by decide) rfl dL_law_217 ?_
    refine r_aload_n F 2 rfl dL_law_219 ?_
    refine r_aload_n F 0 rfl dL_law_220 ?_
    refine r_iload F 4 rfl dL_law_221 ?_
    refine r_iconst (v := 1) F (by decide) dL_law_223 ?_
    refine r_iadd F dL_law_224 ?_
    refine r_sld F T (by rw [nI_1]; exact vp_in_nI (by omega) (by omega)) dL_law_225 ?_
    refine r_eq (st2 := [.int (xs (i + 1)), .ref (g.2.1 61)]) (by rw [nI_1, nI_clamp (by omega)]) rfl ?_
    refine r_aload_n F 0 rfl dL_law_226 ?_
    refine r_iload F 4 rfl dL_law_227 ?_
    refine r_iconst (v := 2) F (by decide) dL_law_229 ?_
    refine r_iadd F dL_law_230 ?_
    refine r_sld F T (by rw [show (2 : Int32) = nI 2 from rfl, nI_add]; exact vp_in_nI (by omega) (by omega)) dL_law_231 ?_
    refine r_eq (st2 := [.int (xs (i + 2)), .int (xs (i + 1)), .ref (g.2.1 61)]) (by rw [show (2 : Int32) = nI 2 from rfl, nI_add, nI_clamp (by omega)]) rfl ?_
    refine r_calli (g_V (C := RX4) (T := TX4) (N := 14) (nA := 2) (As := [.int (xs (i + 1)), .int (xs (i + 2))]) (rest := []) F 61 (by obtain ⟨Z9, S9, F9, h9, -⟩ := hM1; exact h9.1) (by decide) rfl (c_X4_tick hM1) gL_law_X4_tick rfl (by decide +kernel) rfl ⟨Nat.le_trans (Nat.le_of_ble_eq_true rfl) hf, Nat.le_trans (Nat.le_of_ble_eq_true rfl) hl⟩ ⟨Nat.le_trans (Nat.add_le_add_left (Nat.le_of_ble_eq_true rfl) k) hk.1, Nat.le_trans (Nat.add_le_add_left (Nat.le_of_ble_eq_true rfl) n0) hk.2⟩ rfl (Nat.le_of_ble_eq_true rfl) dL_law_232) (fun r2 u2 hp2 => ?_)
    obtain ⟨hp2, hq2⟩ := hp2
    rcases hp2 with ⟨-, rfl, hX⟩ | ⟨c2, h2, h3, -⟩
    · skip
      refine r_istore (lv' := [(0, .ref b), (1, .ref (g.2.1 0)), (2, .ref (g.2.1 61)), (3, .ref (g.2.1 69)), (4, .int (nI i)), (5, .int 0), (6, .int (nI n))]) F (by decide) rfl dL_law_235 ?_
      refine r_aload_n F 2 rfl dL_law_237 ?_
      refine r_calli (g_V (C := RX4) (T := TX4) (N := 14) (nA := 0) (As := []) (rest := []) F 61 (by obtain ⟨Z9, S9, F9, h9, -⟩ := hX; exact h9.1) (by decide) rfl (c_X4_thrown hX) gL_law_X4_thrown rfl (by decide +kernel) rfl ⟨Nat.le_trans (Nat.le_of_ble_eq_true rfl) hf, Nat.le_trans (Nat.le_of_ble_eq_true rfl) hl⟩ ⟨Nat.le_trans (Nat.add_le_add_left (Nat.le_of_ble_eq_true rfl) k) hk.1, Nat.le_trans (Nat.add_le_add_left (Nat.le_of_ble_eq_true rfl) n0) hk.2⟩ rfl (Nat.le_of_ble_eq_true rfl) dL_law_238) (fun r3 u3 hp3 => ?_)
      obtain ⟨rfl, rfl⟩ := hp3
      obtain ⟨fo, hO1, hO2⟩ := hV
      have hO3 : u2 69 = .inl (g.2.2.1 3, 1, .inr (.inl fo)) := (hq2 69 (by omega)).trans hO1
      refine r_iload F 5 rfl dL_law_241 ?_
      refine r_icmp_eq F 248 (by decide) dL_law_243 (fun c_243_1 => ?_) (fun c_243_1 => absurd c_243_1 (by decide))
      clear c_243_1
      refine r_iload F 5 rfl dL_law_248 ?_
      refine r_if_ne F 265 (by decide) dL_law_250 (fun c_250_2 => absurd c_250_2 (by decide)) (fun c_250_2 => ?_)
      clear c_250_2
      refine r_aload_n F 3 rfl dL_law_253 ?_
      refine r_iconst (v := 0) F (by decide) dL_law_254 ?_
      refine r_lald F 69 hO3 (by decide) (vp_in_nI (n := 0) (by decide) (by decide)) dL_law_255 ?_
      refine r_iload F 6 rfl dL_law_256 ?_
      refine r_i2l F rfl dL_law_258 ?_
      refine r_lcmp F dL_law_259 ?_
      refine r_if_eq F 265 (by decide) dL_law_260 (fun c_260_3 => ?_) (fun c_260_3 => absurd (by show lg_cmp (fo ((0 : Int32).toNatClampNeg)) _ = 0; rw [show fo ((0 : Int32).toNatClampNeg) = _ from hO2]; exact lg_cmp0 _) c_260_3)
      clear c_260_3
      refine r_goto F 1064 (by decide) dL_law_265 ?_
      refine r_lv (lv2 := [(0, .ref b), (1, .ref (g.2.1 0)), (2, .ref (g.2.1 61)), (3, .ref (g.2.1 69)), (4, .int (nI i))]) (by simp) ?_
      exact r_widen (by show _ ≤ k + 4; simp) (by show _ ≤ n0 + 24; simp) (kk _ ⟨_, _, _, _, _, _, _, _, _, _, _, _, _, _, _, hC.keep (fun j hj => hq2 j (by omega)), hX, (wf_tick hwf hcd), (hws.push hwf hm6), OutV.r ⟨fo, hO3, hO2⟩⟩)
    · exact absurd (h3.symm.trans hcd) (by omega)
  · skip
    have hM1 := hM
    have hc3 : c1 ≤ 3 := by rw [← hcd]; unfold cdTick; (repeat' split) <;> decide
    refine r_istore (lv' := [(0, .ref b), (1, .ref (g.2.1 0)), (2, .ref (g.2.1 61)), (3, .ref (g.2.1 69)), (4, .int (nI i)), (5, .int (nI c1))]) F (by decide) rfl dL_law_217 ?_
    refine r_aload_n F 2 rfl dL_law_219 ?_
    refine r_aload_n F 0 rfl dL_law_220 ?_
    refine r_iload F 4 rfl dL_law_221 ?_
    refine r_iconst (v := 1) F (by decide) dL_law_223 ?_
    refine r_iadd F dL_law_224 ?_
    refine r_sld F T (by rw [nI_1]; exact vp_in_nI (by omega) (by omega)) dL_law_225 ?_
    refine r_eq (st2 := [.int (xs (i + 1)), .ref (g.2.1 61)]) (by rw [nI_1, nI_clamp (by omega)]) rfl ?_
    refine r_aload_n F 0 rfl dL_law_226 ?_
    refine r_iload F 4 rfl dL_law_227 ?_
    refine r_iconst (v := 2) F (by decide) dL_law_229 ?_
    refine r_iadd F dL_law_230 ?_
    refine r_sld F T (by rw [show (2 : Int32) = nI 2 from rfl, nI_add]; exact vp_in_nI (by omega) (by omega)) dL_law_231 ?_
    refine r_eq (st2 := [.int (xs (i + 2)), .int (xs (i + 1)), .ref (g.2.1 61)]) (by rw [show (2 : Int32) = nI 2 from rfl, nI_add, nI_clamp (by omega)]) rfl ?_
    refine r_calli (g_V (C := RX4) (T := TX4) (N := 14) (nA := 2) (As := [.int (xs (i + 1)), .int (xs (i + 2))]) (rest := []) F 61 (by obtain ⟨Z9, S9, F9, h9, -⟩ := hM1; exact h9.1) (by decide) rfl (c_X4_tick hM1) gL_law_X4_tick rfl (by decide +kernel) rfl ⟨Nat.le_trans (Nat.le_of_ble_eq_true rfl) hf, Nat.le_trans (Nat.le_of_ble_eq_true rfl) hl⟩ ⟨Nat.le_trans (Nat.add_le_add_left (Nat.le_of_ble_eq_true rfl) k) hk.1, Nat.le_trans (Nat.add_le_add_left (Nat.le_of_ble_eq_true rfl) n0) hk.2⟩ rfl (Nat.le_of_ble_eq_true rfl) dL_law_232) (fun r2 u2 hp2 => ?_)
    obtain ⟨hp2, hq2⟩ := hp2
    rcases hp2 with ⟨h3, -⟩ | ⟨c2, h2, h3, hX⟩
    · exact absurd (hcd.symm.trans h3) (by omega)
    · skip
      obtain rfl : c1 = c2 := hcd.symm.trans h3
      refine r_istore (lv' := [(0, .ref b), (1, .ref (g.2.1 0)), (2, .ref (g.2.1 61)), (3, .ref (g.2.1 69)), (4, .int (nI i)), (5, .int (nI c1)), (6, .int r2)]) F (by decide) rfl dL_law_235 ?_
      refine r_aload_n F 2 rfl dL_law_237 ?_
      refine r_calli (g_V (C := RX4) (T := TX4) (N := 14) (nA := 0) (As := []) (rest := []) F 61 (by obtain ⟨Z9, S9, F9, h9, -⟩ := hX; exact h9.1) (by decide) rfl (c_X4_thrown hX) gL_law_X4_thrown rfl (by decide +kernel) rfl ⟨Nat.le_trans (Nat.le_of_ble_eq_true rfl) hf, Nat.le_trans (Nat.le_of_ble_eq_true rfl) hl⟩ ⟨Nat.le_trans (Nat.add_le_add_left (Nat.le_of_ble_eq_true rfl) k) hk.1, Nat.le_trans (Nat.add_le_add_left (Nat.le_of_ble_eq_true rfl) n0) hk.2⟩ rfl (Nat.le_of_ble_eq_true rfl) dL_law_238) (fun r3 u3 hp3 => ?_)
      obtain ⟨rfl, rfl⟩ := hp3
      refine r_iload F 5 rfl dL_law_241 ?_
      refine r_icmp_eq F 248 (by decide) dL_law_243 (fun c_243_4 => ?_) (fun c_243_4 => absurd rfl c_243_4)
      clear c_243_4
      refine r_iload F 5 rfl dL_law_248 ?_
      refine r_if_ne F 265 (by decide) dL_law_250 (fun c_250_5 => ?_) (fun c_250_5 => absurd c_250_5 (fun q => by have z := (nI_eq (b := 0) (by omega) (by decide)).mp q; omega))
      clear c_250_5
      refine r_goto F 1064 (by decide) dL_law_265 ?_
      refine r_lv (lv2 := [(0, .ref b), (1, .ref (g.2.1 0)), (2, .ref (g.2.1 61)), (3, .ref (g.2.1 69)), (4, .int (nI i))]) (by simp) ?_
      exact r_widen (by show _ ≤ k + 4; simp) (by show _ ≤ n0 + 24; simp) (kk _ ⟨_, _, _, _, _, _, _, _, _, _, _, _, _, _, _, hc.keep (fun j hj => hq2 j (by omega)), hX, hwf, hws, hO.keep hq2⟩)
set_option maxHeartbeats 4000000 in
set_option maxRecDepth 100000 in
theorem op_skip {g : kG} {X : kX} {ret : Option FieldType} {rm0 : Room} {b L i k n0 : Nat} {xs : Nat → Int32} {u : Nat → va_E} (hfl : X.2.1.stackTraces = false) (F : Fx g X cL_law 9 ret wsL_law RL rm0) (T : Sx g X b L xs) (hi : i + 4 ≤ L) (hL : L ≤ 2048) (hf : 10 ≤ rm0.frames) (hl : 300 ≤ rm0.locals) (hk : k + 4 ≤ rm0.cells ∧ n0 + 24 ≤ rm0.slots) (I : Inv g u) (kk : ∀ u', Inv g u' → VL g X (k + 4) (n0 + 24) u' 1064 [(0, .ref b), (1, .ref (g.2.1 0)), (2, .ref (g.2.1 61)), (3, .ref (g.2.1 69)), (4, .int (nI i))] []) : VL g X k n0 u 268 [(0, .ref b), (1, .ref (g.2.1 0)), (2, .ref (g.2.1 61)), (3, .ref (g.2.1 69)), (4, .int (nI i))] [] := by
  obtain ⟨n, B, m, S, t, C, th, rm, sp, wr, hs, VA, RD, CH, WE, hc, hM, hwf, hws, hO⟩ := I
  have hm6 := hM.m6
  refine r_aload_n F 1 rfl dL_law_268 ?_
  refine r_aload_n F 0 rfl dL_law_269 ?_
  refine r_iload F 4 rfl dL_law_270 ?_
  refine r_iconst (v := 1) F (by decide) dL_law_272 ?_
  refine r_iadd F dL_law_273 ?_
  refine r_sld F T (by rw [nI_1]; exact vp_in_nI (by omega) (by omega)) dL_law_274 ?_
  refine r_eq (st2 := [.int (xs (i + 1)), .ref (g.2.1 0)]) (by rw [nI_1, nI_clamp (by omega)]) rfl ?_
  refine r_aload_n F 0 rfl dL_law_275 ?_
  refine r_iload F 4 rfl dL_law_276 ?_
  refine r_iconst (v := 2) F (by decide) dL_law_278 ?_
  refine r_iadd F dL_law_279 ?_
  refine r_sld F T (by rw [show (2 : Int32) = nI 2 from rfl, nI_add]; exact vp_in_nI (by omega) (by omega)) dL_law_280 ?_
  refine r_eq (st2 := [.int (xs (i + 2)), .int (xs (i + 1)), .ref (g.2.1 0)]) (by rw [show (2 : Int32) = nI 2 from rfl, nI_add, nI_clamp (by omega)]) rfl ?_
  refine r_aload_n F 0 rfl dL_law_281 ?_
  refine r_iload F 4 rfl dL_law_282 ?_
  refine r_iconst (v := 3) F (by decide) dL_law_284 ?_
  refine r_iadd F dL_law_285 ?_
  refine r_sld F T (by rw [show (3 : Int32) = nI 3 from rfl, nI_add]; exact vp_in_nI (by omega) (by omega)) dL_law_286 ?_
  refine r_eq (st2 := [.int (xs (i + 3)), .int (xs (i + 2)), .int (xs (i + 1)), .ref (g.2.1 0)]) (by rw [show (3 : Int32) = nI 3 from rfl, nI_add, nI_clamp (by omega)]) rfl ?_
  refine r_aload_n F 3 rfl dL_law_287 ?_
  refine r_calli (g_CS (nA := 5) (As := [.ref (g.2.1 0), .int (xs (i + 1)), .int (xs (i + 2)), .int (xs (i + 3)), .ref (g.2.1 69)]) (rest := []) F T (c_L_skip hfl hc hO) gL_law_L_skip rfl (by decide +kernel) rfl ⟨Nat.le_trans (Nat.le_of_ble_eq_true rfl) hf, Nat.le_trans (Nat.le_of_ble_eq_true rfl) hl⟩ ⟨Nat.le_trans (Nat.add_le_add_left (Nat.le_of_ble_eq_true rfl) k) hk.1, Nat.le_trans (Nat.add_le_add_left (Nat.le_of_ble_eq_true rfl) n0) hk.2⟩ rfl (Nat.le_of_ble_eq_true rfl) dL_law_288) (fun r1 u1 hp1 => ?_)
  rcases hp1 with ⟨hcd, rfl, hC, hV, hq⟩ | ⟨c1, hc0, hcd, rfl, rfl⟩
  · skip
    have hM1 := hM.keep (fun j h1 h2 => hq j h1 h2)
    refine r_istore (lv' := [(0, .ref b), (1, .ref (g.2.1 0)), (2, .ref (g.2.1 61)), (3, .ref (g.2.1 69)), (4, .int (nI i)), (5, .int 0)]) F (by decide) rfl dL_law_291 ?_
    refine r_aload_n F 2 rfl dL_law_293 ?_
    refine r_aload_n F 0 rfl dL_law_294 ?_
    refine r_iload F 4 rfl dL_law_295 ?_
    refine r_iconst (v := 1) F (by decide) dL_law_297 ?_
    refine r_iadd F dL_law_298 ?_
    refine r_sld F T (by rw [nI_1]; exact vp_in_nI (by omega) (by omega)) dL_law_299 ?_
    refine r_eq (st2 := [.int (xs (i + 1)), .ref (g.2.1 61)]) (by rw [nI_1, nI_clamp (by omega)]) rfl ?_
    refine r_aload_n F 0 rfl dL_law_300 ?_
    refine r_iload F 4 rfl dL_law_301 ?_
    refine r_iconst (v := 2) F (by decide) dL_law_303 ?_
    refine r_iadd F dL_law_304 ?_
    refine r_sld F T (by rw [show (2 : Int32) = nI 2 from rfl, nI_add]; exact vp_in_nI (by omega) (by omega)) dL_law_305 ?_
    refine r_eq (st2 := [.int (xs (i + 2)), .int (xs (i + 1)), .ref (g.2.1 61)]) (by rw [show (2 : Int32) = nI 2 from rfl, nI_add, nI_clamp (by omega)]) rfl ?_
    refine r_aload_n F 0 rfl dL_law_306 ?_
    refine r_iload F 4 rfl dL_law_307 ?_
    refine r_iconst (v := 3) F (by decide) dL_law_309 ?_
    refine r_iadd F dL_law_310 ?_
    refine r_sld F T (by rw [show (3 : Int32) = nI 3 from rfl, nI_add]; exact vp_in_nI (by omega) (by omega)) dL_law_311 ?_
    refine r_eq (st2 := [.int (xs (i + 3)), .int (xs (i + 2)), .int (xs (i + 1)), .ref (g.2.1 61)]) (by rw [show (3 : Int32) = nI 3 from rfl, nI_add, nI_clamp (by omega)]) rfl ?_
    refine r_calli (g_V (C := RX4) (T := TX4) (N := 14) (nA := 3) (As := [.int (xs (i + 1)), .int (xs (i + 2)), .int (xs (i + 3))]) (rest := []) F 61 (by obtain ⟨Z9, S9, F9, h9, -⟩ := hM1; exact h9.1) (by decide) rfl (c_X4_skip hM1) gL_law_X4_skip rfl (by decide +kernel) rfl ⟨Nat.le_trans (Nat.le_of_ble_eq_true rfl) hf, Nat.le_trans (Nat.le_of_ble_eq_true rfl) hl⟩ ⟨Nat.le_trans (Nat.add_le_add_left (Nat.le_of_ble_eq_true rfl) k) hk.1, Nat.le_trans (Nat.add_le_add_left (Nat.le_of_ble_eq_true rfl) n0) hk.2⟩ rfl (Nat.le_of_ble_eq_true rfl) dL_law_312) (fun r2 u2 hp2 => ?_)
    obtain ⟨hp2, hq2⟩ := hp2
    rcases hp2 with ⟨-, rfl, hX⟩ | ⟨c2, h2, h3, -⟩
    · skip
      refine r_istore (lv' := [(0, .ref b), (1, .ref (g.2.1 0)), (2, .ref (g.2.1 61)), (3, .ref (g.2.1 69)), (4, .int (nI i)), (5, .int 0), (6, .int (nI n))]) F (by decide) rfl dL_law_315 ?_
      refine r_aload_n F 2 rfl dL_law_317 ?_
      refine r_calli (g_V (C := RX4) (T := TX4) (N := 14) (nA := 0) (As := []) (rest := []) F 61 (by obtain ⟨Z9, S9, F9, h9, -⟩ := hX; exact h9.1) (by decide) rfl (c_X4_thrown hX) gL_law_X4_thrown rfl (by decide +kernel) rfl ⟨Nat.le_trans (Nat.le_of_ble_eq_true rfl) hf, Nat.le_trans (Nat.le_of_ble_eq_true rfl) hl⟩ ⟨Nat.le_trans (Nat.add_le_add_left (Nat.le_of_ble_eq_true rfl) k) hk.1, Nat.le_trans (Nat.add_le_add_left (Nat.le_of_ble_eq_true rfl) n0) hk.2⟩ rfl (Nat.le_of_ble_eq_true rfl) dL_law_318) (fun r3 u3 hp3 => ?_)
      obtain ⟨rfl, rfl⟩ := hp3
      obtain ⟨fo, hO1, hO2⟩ := hV
      have hO3 : u2 69 = .inl (g.2.2.1 3, 1, .inr (.inl fo)) := (hq2 69 (by omega)).trans hO1
      refine r_iload F 5 rfl dL_law_321 ?_
      refine r_icmp_eq F 328 (by decide) dL_law_323 (fun c_323_1 => ?_) (fun c_323_1 => absurd c_323_1 (by decide))
      clear c_323_1
      refine r_iload F 5 rfl dL_law_328 ?_
      refine r_if_ne F 345 (by decide) dL_law_330 (fun c_330_2 => absurd c_330_2 (by decide)) (fun c_330_2 => ?_)
      clear c_330_2
      refine r_aload_n F 3 rfl dL_law_333 ?_
      refine r_iconst (v := 0) F (by decide) dL_law_334 ?_
      refine r_lald F 69 hO3 (by decide) (vp_in_nI (n := 0) (by decide) (by decide)) dL_law_335 ?_
      refine r_iload F 6 rfl dL_law_336 ?_
      refine r_i2l F rfl dL_law_338 ?_
      refine r_lcmp F dL_law_339 ?_
      refine r_if_eq F 345 (by decide) dL_law_340 (fun c_340_3 => ?_) (fun c_340_3 => absurd (by show lg_cmp (fo ((0 : Int32).toNatClampNeg)) _ = 0; rw [show fo ((0 : Int32).toNatClampNeg) = _ from hO2]; exact lg_cmp0 _) c_340_3)
      clear c_340_3
      refine r_goto F 1064 (by decide) dL_law_345 ?_
      refine r_lv (lv2 := [(0, .ref b), (1, .ref (g.2.1 0)), (2, .ref (g.2.1 61)), (3, .ref (g.2.1 69)), (4, .int (nI i))]) (by simp) ?_
      exact r_widen (by show _ ≤ k + 4; simp) (by show _ ≤ n0 + 24; simp) (kk _ ⟨_, _, _, _, _, _, _, _, _, _, _, _, _, _, _, hC.keep (fun j hj => hq2 j (by omega)), hX, (wf_skip hwf hcd), (hws.push hwf hm6), OutV.r ⟨fo, hO3, hO2⟩⟩)
    · exact absurd (h3.symm.trans hcd) (by omega)
  · skip
    have hM1 := hM
    have hc3 : c1 ≤ 3 := by rw [← hcd]; unfold cdSkip; (repeat' split) <;> decide
    refine r_istore (lv' := [(0, .ref b), (1, .ref (g.2.1 0)), (2, .ref (g.2.1 61)), (3, .ref (g.2.1 69)), (4, .int (nI i)), (5, .int (nI c1))]) F (by decide) rfl dL_law_291 ?_
    refine r_aload_n F 2 rfl dL_law_293 ?_
    refine r_aload_n F 0 rfl dL_law_294 ?_
    refine r_iload F 4 rfl dL_law_295 ?_
    refine r_iconst (v := 1) F (by decide) dL_law_297 ?_
    refine r_iadd F dL_law_298 ?_
    refine r_sld F T (by rw [nI_1]; exact vp_in_nI (by omega) (by omega)) dL_law_299 ?_
    refine r_eq (st2 := [.int (xs (i + 1)), .ref (g.2.1 61)]) (by rw [nI_1, nI_clamp (by omega)]) rfl ?_
    refine r_aload_n F 0 rfl dL_law_300 ?_
    refine r_iload F 4 rfl dL_law_301 ?_
    refine r_iconst (v := 2) F (by decide) dL_law_303 ?_
    refine r_iadd F dL_law_304 ?_
    refine r_sld F T (by rw [show (2 : Int32) = nI 2 from rfl, nI_add]; exact vp_in_nI (by omega) (by omega)) dL_law_305 ?_
    refine r_eq (st2 := [.int (xs (i + 2)), .int (xs (i + 1)), .ref (g.2.1 61)]) (by rw [show (2 : Int32) = nI 2 from rfl, nI_add, nI_clamp (by omega)]) rfl ?_
    refine r_aload_n F 0 rfl dL_law_306 ?_
    refine r_iload F 4 rfl dL_law_307 ?_
    refine r_iconst (v := 3) F (by decide) dL_law_309 ?_
    refine r_iadd F dL_law_310 ?_
    refine r_sld F T (by rw [show (3 : Int32) = nI 3 from rfl, nI_add]; exact vp_in_nI (by omega) (by omega)) dL_law_311 ?_
    refine r_eq (st2 := [.int (xs (i + 3)), .int (xs (i + 2)), .int (xs (i + 1)), .ref (g.2.1 61)]) (by rw [show (3 : Int32) = nI 3 from rfl, nI_add, nI_clamp (by omega)]) rfl ?_
    refine r_calli (g_V (C := RX4) (T := TX4) (N := 14) (nA := 3) (As := [.int (xs (i + 1)), .int (xs (i + 2)), .int (xs (i + 3))]) (rest := []) F 61 (by obtain ⟨Z9, S9, F9, h9, -⟩ := hM1; exact h9.1) (by decide) rfl (c_X4_skip hM1) gL_law_X4_skip rfl (by decide +kernel) rfl ⟨Nat.le_trans (Nat.le_of_ble_eq_true rfl) hf, Nat.le_trans (Nat.le_of_ble_eq_true rfl) hl⟩ ⟨Nat.le_trans (Nat.add_le_add_left (Nat.le_of_ble_eq_true rfl) k) hk.1, Nat.le_trans (Nat.add_le_add_left (Nat.le_of_ble_eq_true rfl) n0) hk.2⟩ rfl (Nat.le_of_ble_eq_true rfl) dL_law_312) (fun r2 u2 hp2 => ?_)
    obtain ⟨hp2, hq2⟩ := hp2
    rcases hp2 with ⟨h3, -⟩ | ⟨c2, h2, h3, hX⟩
    · exact absurd (hcd.symm.trans h3) (by omega)
    · skip
      obtain rfl : c1 = c2 := hcd.symm.trans h3
      refine r_istore (lv' := [(0, .ref b), (1, .ref (g.2.1 0)), (2, .ref (g.2.1 61)), (3, .ref (g.2.1 69)), (4, .int (nI i)), (5, .int (nI c1)), (6, .int r2)]) F (by decide) rfl dL_law_315 ?_
      refine r_aload_n F 2 rfl dL_law_317 ?_
      refine r_calli (g_V (C := RX4) (T := TX4) (N := 14) (nA := 0) (As := []) (rest := []) F 61 (by obtain ⟨Z9, S9, F9, h9, -⟩ := hX; exact h9.1) (by decide) rfl (c_X4_thrown hX) gL_law_X4_thrown rfl (by decide +kernel) rfl ⟨Nat.le_trans (Nat.le_of_ble_eq_true rfl) hf, Nat.le_trans (Nat.le_of_ble_eq_true rfl) hl⟩ ⟨Nat.le_trans (Nat.add_le_add_left (Nat.le_of_ble_eq_true rfl) k) hk.1, Nat.le_trans (Nat.add_le_add_left (Nat.le_of_ble_eq_true rfl) n0) hk.2⟩ rfl (Nat.le_of_ble_eq_true rfl) dL_law_318) (fun r3 u3 hp3 => ?_)
      obtain ⟨rfl, rfl⟩ := hp3
      refine r_iload F 5 rfl dL_law_321 ?_
      refine r_icmp_eq F 328 (by decide) dL_law_323 (fun c_323_4 => ?_) (fun c_323_4 => absurd rfl c_323_4)
      clear c_323_4
      refine r_iload F 5 rfl dL_law_328 ?_
      refine r_if_ne F 345 (by decide) dL_law_330 (fun c_330_5 => ?_) (fun c_330_5 => absurd c_330_5 (fun q => by have z := (nI_eq (b := 0) (by omega) (by decide)).mp q; omega))
      clear c_330_5
      refine r_goto F 1064 (by decide) dL_law_345 ?_
      refine r_lv (lv2 := [(0, .ref b), (1, .ref (g.2.1 0)), (2, .ref (g.2.1 61)), (3, .ref (g.2.1 69)), (4, .int (nI i))]) (by simp) ?_
      exact r_widen (by show _ ≤ k + 4; simp) (by show _ ≤ n0 + 24; simp) (kk _ ⟨_, _, _, _, _, _, _, _, _, _, _, _, _, _, _, hc.keep (fun j hj => hq2 j (by omega)), hX, hwf, hws, hO.keep hq2⟩)
set_option maxHeartbeats 4000000 in
set_option maxRecDepth 100000 in
theorem op_total {g : kG} {X : kX} {ret : Option FieldType} {rm0 : Room} {b L i k n0 : Nat} {xs : Nat → Int32} {u : Nat → va_E} (hfl : X.2.1.stackTraces = false) (F : Fx g X cL_law 9 ret wsL_law RL rm0) (T : Sx g X b L xs) (hi : i + 4 ≤ L) (hL : L ≤ 2048) (hf : 10 ≤ rm0.frames) (hl : 300 ≤ rm0.locals) (hk : k + 4 ≤ rm0.cells ∧ n0 + 24 ≤ rm0.slots) (I : Inv g u) (kk : ∀ u', Inv g u' → VL g X (k + 4) (n0 + 24) u' 1064 [(0, .ref b), (1, .ref (g.2.1 0)), (2, .ref (g.2.1 61)), (3, .ref (g.2.1 69)), (4, .int (nI i))] []) : VL g X k n0 u 348 [(0, .ref b), (1, .ref (g.2.1 0)), (2, .ref (g.2.1 61)), (3, .ref (g.2.1 69)), (4, .int (nI i))] [] := by
  obtain ⟨n, B, m, S, t, C, th, rm, sp, wr, hs, VA, RD, CH, WE, hc, hM, hwf, hws, hO⟩ := I
  have hm6 := hM.m6
  refine r_aload_n F 1 rfl dL_law_348 ?_
  refine r_aload_n F 0 rfl dL_law_349 ?_
  refine r_iload F 4 rfl dL_law_350 ?_
  refine r_iconst (v := 1) F (by decide) dL_law_352 ?_
  refine r_iadd F dL_law_353 ?_
  refine r_sld F T (by rw [nI_1]; exact vp_in_nI (by omega) (by omega)) dL_law_354 ?_
  refine r_eq (st2 := [.int (xs (i + 1)), .ref (g.2.1 0)]) (by rw [nI_1, nI_clamp (by omega)]) rfl ?_
  refine r_aload_n F 0 rfl dL_law_355 ?_
  refine r_iload F 4 rfl dL_law_356 ?_
  refine r_iconst (v := 2) F (by decide) dL_law_358 ?_
  refine r_iadd F dL_law_359 ?_
  refine r_sld F T (by rw [show (2 : Int32) = nI 2 from rfl, nI_add]; exact vp_in_nI (by omega) (by omega)) dL_law_360 ?_
  refine r_eq (st2 := [.int (xs (i + 2)), .int (xs (i + 1)), .ref (g.2.1 0)]) (by rw [show (2 : Int32) = nI 2 from rfl, nI_add, nI_clamp (by omega)]) rfl ?_
  refine r_aload_n F 3 rfl dL_law_361 ?_
  refine r_calli (g_CS (nA := 4) (As := [.ref (g.2.1 0), .int (xs (i + 1)), .int (xs (i + 2)), .ref (g.2.1 69)]) (rest := []) F T (c_L_total hfl hc hO) gL_law_L_total rfl (by decide +kernel) rfl ⟨Nat.le_trans (Nat.le_of_ble_eq_true rfl) hf, Nat.le_trans (Nat.le_of_ble_eq_true rfl) hl⟩ ⟨Nat.le_trans (Nat.add_le_add_left (Nat.le_of_ble_eq_true rfl) k) hk.1, Nat.le_trans (Nat.add_le_add_left (Nat.le_of_ble_eq_true rfl) n0) hk.2⟩ rfl (Nat.le_of_ble_eq_true rfl) dL_law_362) (fun r1 u1 hp1 => ?_)
  rcases hp1 with ⟨hcd, rfl, hC, hV, hq⟩ | ⟨c1, hc0, hcd, rfl, rfl⟩
  · skip
    have hM1 := hM.keep (fun j h1 h2 => hq j h1 h2)
    refine r_istore (lv' := [(0, .ref b), (1, .ref (g.2.1 0)), (2, .ref (g.2.1 61)), (3, .ref (g.2.1 69)), (4, .int (nI i)), (5, .int 0)]) F (by decide) rfl dL_law_365 ?_
    refine r_aload_n F 2 rfl dL_law_367 ?_
    refine r_aload_n F 0 rfl dL_law_368 ?_
    refine r_iload F 4 rfl dL_law_369 ?_
    refine r_iconst (v := 1) F (by decide) dL_law_371 ?_
    refine r_iadd F dL_law_372 ?_
    refine r_sld F T (by rw [nI_1]; exact vp_in_nI (by omega) (by omega)) dL_law_373 ?_
    refine r_eq (st2 := [.int (xs (i + 1)), .ref (g.2.1 61)]) (by rw [nI_1, nI_clamp (by omega)]) rfl ?_
    refine r_aload_n F 0 rfl dL_law_374 ?_
    refine r_iload F 4 rfl dL_law_375 ?_
    refine r_iconst (v := 2) F (by decide) dL_law_377 ?_
    refine r_iadd F dL_law_378 ?_
    refine r_sld F T (by rw [show (2 : Int32) = nI 2 from rfl, nI_add]; exact vp_in_nI (by omega) (by omega)) dL_law_379 ?_
    refine r_eq (st2 := [.int (xs (i + 2)), .int (xs (i + 1)), .ref (g.2.1 61)]) (by rw [show (2 : Int32) = nI 2 from rfl, nI_add, nI_clamp (by omega)]) rfl ?_
    refine r_calli (g_V (C := RX4) (T := TX4) (N := 14) (nA := 2) (As := [.int (xs (i + 1)), .int (xs (i + 2))]) (rest := []) F 61 (by obtain ⟨Z9, S9, F9, h9, -⟩ := hM1; exact h9.1) (by decide) rfl (c_X4_total hM1) gL_law_X4_total rfl (by decide +kernel) rfl ⟨Nat.le_trans (Nat.le_of_ble_eq_true rfl) hf, Nat.le_trans (Nat.le_of_ble_eq_true rfl) hl⟩ ⟨Nat.le_trans (Nat.add_le_add_left (Nat.le_of_ble_eq_true rfl) k) hk.1, Nat.le_trans (Nat.add_le_add_left (Nat.le_of_ble_eq_true rfl) n0) hk.2⟩ rfl (Nat.le_of_ble_eq_true rfl) dL_law_380) (fun r2 u2 hp2 => ?_)
    obtain ⟨hp2, hq2⟩ := hp2
    rcases hp2 with ⟨-, rfl, hX⟩ | ⟨c2, h2, h3, -⟩
    · skip
      refine r_istore (lv' := [(0, .ref b), (1, .ref (g.2.1 0)), (2, .ref (g.2.1 61)), (3, .ref (g.2.1 69)), (4, .int (nI i)), (5, .int 0), (6, .int (nI n))]) F (by decide) rfl dL_law_383 ?_
      refine r_aload_n F 2 rfl dL_law_385 ?_
      refine r_calli (g_V (C := RX4) (T := TX4) (N := 14) (nA := 0) (As := []) (rest := []) F 61 (by obtain ⟨Z9, S9, F9, h9, -⟩ := hX; exact h9.1) (by decide) rfl (c_X4_thrown hX) gL_law_X4_thrown rfl (by decide +kernel) rfl ⟨Nat.le_trans (Nat.le_of_ble_eq_true rfl) hf, Nat.le_trans (Nat.le_of_ble_eq_true rfl) hl⟩ ⟨Nat.le_trans (Nat.add_le_add_left (Nat.le_of_ble_eq_true rfl) k) hk.1, Nat.le_trans (Nat.add_le_add_left (Nat.le_of_ble_eq_true rfl) n0) hk.2⟩ rfl (Nat.le_of_ble_eq_true rfl) dL_law_386) (fun r3 u3 hp3 => ?_)
      obtain ⟨rfl, rfl⟩ := hp3
      obtain ⟨fo, hO1, hO2⟩ := hV
      have hO3 : u2 69 = .inl (g.2.2.1 3, 1, .inr (.inl fo)) := (hq2 69 (by omega)).trans hO1
      refine r_iload F 5 rfl dL_law_389 ?_
      refine r_icmp_eq F 396 (by decide) dL_law_391 (fun c_391_1 => ?_) (fun c_391_1 => absurd c_391_1 (by decide))
      clear c_391_1
      refine r_iload F 5 rfl dL_law_396 ?_
      refine r_if_ne F 413 (by decide) dL_law_398 (fun c_398_2 => absurd c_398_2 (by decide)) (fun c_398_2 => ?_)
      clear c_398_2
      refine r_aload_n F 3 rfl dL_law_401 ?_
      refine r_iconst (v := 0) F (by decide) dL_law_402 ?_
      refine r_lald F 69 hO3 (by decide) (vp_in_nI (n := 0) (by decide) (by decide)) dL_law_403 ?_
      refine r_iload F 6 rfl dL_law_404 ?_
      refine r_i2l F rfl dL_law_406 ?_
      refine r_lcmp F dL_law_407 ?_
      refine r_if_eq F 413 (by decide) dL_law_408 (fun c_408_3 => ?_) (fun c_408_3 => absurd (by show lg_cmp (fo ((0 : Int32).toNatClampNeg)) _ = 0; rw [show fo ((0 : Int32).toNatClampNeg) = _ from hO2]; exact lg_cmp0 _) c_408_3)
      clear c_408_3
      refine r_goto F 1064 (by decide) dL_law_413 ?_
      refine r_lv (lv2 := [(0, .ref b), (1, .ref (g.2.1 0)), (2, .ref (g.2.1 61)), (3, .ref (g.2.1 69)), (4, .int (nI i))]) (by simp) ?_
      exact r_widen (by show _ ≤ k + 4; simp) (by show _ ≤ n0 + 24; simp) (kk _ ⟨_, _, _, _, _, _, _, _, _, _, _, _, _, _, _, hC.keep (fun j hj => hq2 j (by omega)), hX, (wf_total hwf hcd), (hws.push hwf hm6), OutV.r ⟨fo, hO3, hO2⟩⟩)
    · exact absurd (h3.symm.trans hcd) (by omega)
  · skip
    have hM1 := hM
    have hc3 : c1 ≤ 3 := by rw [← hcd]; unfold cdTotal; (repeat' split) <;> decide
    refine r_istore (lv' := [(0, .ref b), (1, .ref (g.2.1 0)), (2, .ref (g.2.1 61)), (3, .ref (g.2.1 69)), (4, .int (nI i)), (5, .int (nI c1))]) F (by decide) rfl dL_law_365 ?_
    refine r_aload_n F 2 rfl dL_law_367 ?_
    refine r_aload_n F 0 rfl dL_law_368 ?_
    refine r_iload F 4 rfl dL_law_369 ?_
    refine r_iconst (v := 1) F (by decide) dL_law_371 ?_
    refine r_iadd F dL_law_372 ?_
    refine r_sld F T (by rw [nI_1]; exact vp_in_nI (by omega) (by omega)) dL_law_373 ?_
    refine r_eq (st2 := [.int (xs (i + 1)), .ref (g.2.1 61)]) (by rw [nI_1, nI_clamp (by omega)]) rfl ?_
    refine r_aload_n F 0 rfl dL_law_374 ?_
    refine r_iload F 4 rfl dL_law_375 ?_
    refine r_iconst (v := 2) F (by decide) dL_law_377 ?_
    refine r_iadd F dL_law_378 ?_
    refine r_sld F T (by rw [show (2 : Int32) = nI 2 from rfl, nI_add]; exact vp_in_nI (by omega) (by omega)) dL_law_379 ?_
    refine r_eq (st2 := [.int (xs (i + 2)), .int (xs (i + 1)), .ref (g.2.1 61)]) (by rw [show (2 : Int32) = nI 2 from rfl, nI_add, nI_clamp (by omega)]) rfl ?_
    refine r_calli (g_V (C := RX4) (T := TX4) (N := 14) (nA := 2) (As := [.int (xs (i + 1)), .int (xs (i + 2))]) (rest := []) F 61 (by obtain ⟨Z9, S9, F9, h9, -⟩ := hM1; exact h9.1) (by decide) rfl (c_X4_total hM1) gL_law_X4_total rfl (by decide +kernel) rfl ⟨Nat.le_trans (Nat.le_of_ble_eq_true rfl) hf, Nat.le_trans (Nat.le_of_ble_eq_true rfl) hl⟩ ⟨Nat.le_trans (Nat.add_le_add_left (Nat.le_of_ble_eq_true rfl) k) hk.1, Nat.le_trans (Nat.add_le_add_left (Nat.le_of_ble_eq_true rfl) n0) hk.2⟩ rfl (Nat.le_of_ble_eq_true rfl) dL_law_380) (fun r2 u2 hp2 => ?_)
    obtain ⟨hp2, hq2⟩ := hp2
    rcases hp2 with ⟨h3, -⟩ | ⟨c2, h2, h3, hX⟩
    · exact absurd (hcd.symm.trans h3) (by omega)
    · skip
      obtain rfl : c1 = c2 := hcd.symm.trans h3
      refine r_istore (lv' := [(0, .ref b), (1, .ref (g.2.1 0)), (2, .ref (g.2.1 61)), (3, .ref (g.2.1 69)), (4, .int (nI i)), (5, .int (nI c1)), (6, .int r2)]) F (by decide) rfl dL_law_383 ?_
      refine r_aload_n F 2 rfl dL_law_385 ?_
      refine r_calli (g_V (C := RX4) (T := TX4) (N := 14) (nA := 0) (As := []) (rest := []) F 61 (by obtain ⟨Z9, S9, F9, h9, -⟩ := hX; exact h9.1) (by decide) rfl (c_X4_thrown hX) gL_law_X4_thrown rfl (by decide +kernel) rfl ⟨Nat.le_trans (Nat.le_of_ble_eq_true rfl) hf, Nat.le_trans (Nat.le_of_ble_eq_true rfl) hl⟩ ⟨Nat.le_trans (Nat.add_le_add_left (Nat.le_of_ble_eq_true rfl) k) hk.1, Nat.le_trans (Nat.add_le_add_left (Nat.le_of_ble_eq_true rfl) n0) hk.2⟩ rfl (Nat.le_of_ble_eq_true rfl) dL_law_386) (fun r3 u3 hp3 => ?_)
      obtain ⟨rfl, rfl⟩ := hp3
      refine r_iload F 5 rfl dL_law_389 ?_
      refine r_icmp_eq F 396 (by decide) dL_law_391 (fun c_391_4 => ?_) (fun c_391_4 => absurd rfl c_391_4)
      clear c_391_4
      refine r_iload F 5 rfl dL_law_396 ?_
      refine r_if_ne F 413 (by decide) dL_law_398 (fun c_398_5 => ?_) (fun c_398_5 => absurd c_398_5 (fun q => by have z := (nI_eq (b := 0) (by omega) (by decide)).mp q; omega))
      clear c_398_5
      refine r_goto F 1064 (by decide) dL_law_413 ?_
      refine r_lv (lv2 := [(0, .ref b), (1, .ref (g.2.1 0)), (2, .ref (g.2.1 61)), (3, .ref (g.2.1 69)), (4, .int (nI i))]) (by simp) ?_
      exact r_widen (by show _ ≤ k + 4; simp) (by show _ ≤ n0 + 24; simp) (kk _ ⟨_, _, _, _, _, _, _, _, _, _, _, _, _, _, _, hc.keep (fun j hj => hq2 j (by omega)), hX, hwf, hws, hO.keep hq2⟩)
set_option maxHeartbeats 4000000 in
set_option maxRecDepth 100000 in
theorem op_drop {g : kG} {X : kX} {ret : Option FieldType} {rm0 : Room} {b L i k n0 : Nat} {xs : Nat → Int32} {u : Nat → va_E} (hfl : X.2.1.stackTraces = false) (F : Fx g X cL_law 9 ret wsL_law RL rm0) (T : Sx g X b L xs) (hi : i + 4 ≤ L) (hL : L ≤ 2048) (hf : 10 ≤ rm0.frames) (hl : 300 ≤ rm0.locals) (hk : k + 4 ≤ rm0.cells ∧ n0 + 24 ≤ rm0.slots) (I : Inv g u) (kk : ∀ u', Inv g u' → VL g X (k + 4) (n0 + 24) u' 1064 [(0, .ref b), (1, .ref (g.2.1 0)), (2, .ref (g.2.1 61)), (3, .ref (g.2.1 69)), (4, .int (nI i))] []) : VL g X k n0 u 416 [(0, .ref b), (1, .ref (g.2.1 0)), (2, .ref (g.2.1 61)), (3, .ref (g.2.1 69)), (4, .int (nI i))] [] := by
  obtain ⟨n, B, m, S, t, C, th, rm, sp, wr, hs, VA, RD, CH, WE, hc, hM, hwf, hws, hO⟩ := I
  have hm6 := hM.m6
  refine r_aload_n F 1 rfl dL_law_416 ?_
  refine r_aload_n F 3 rfl dL_law_417 ?_
  refine r_calli (g_CS (nA := 2) (As := [.ref (g.2.1 0), .ref (g.2.1 69)]) (rest := []) F T (c_L_drop hfl hc hO) gL_law_L_drop rfl (by decide +kernel) rfl ⟨Nat.le_trans (Nat.le_of_ble_eq_true rfl) hf, Nat.le_trans (Nat.le_of_ble_eq_true rfl) hl⟩ ⟨Nat.le_trans (Nat.add_le_add_left (Nat.le_of_ble_eq_true rfl) k) hk.1, Nat.le_trans (Nat.add_le_add_left (Nat.le_of_ble_eq_true rfl) n0) hk.2⟩ rfl (Nat.le_of_ble_eq_true rfl) dL_law_418) (fun r1 u1 hp1 => ?_)
  rcases hp1 with ⟨hcd, rfl, hC, hV, hq⟩ | ⟨c1, hc0, hcd, rfl, rfl⟩
  · skip
    have hM1 := hM.keep (fun j h1 h2 => hq j h1 h2)
    refine r_istore (lv' := [(0, .ref b), (1, .ref (g.2.1 0)), (2, .ref (g.2.1 61)), (3, .ref (g.2.1 69)), (4, .int (nI i)), (5, .int 0)]) F (by decide) rfl dL_law_421 ?_
    refine r_aload_n F 2 rfl dL_law_423 ?_
    refine r_calli (g_V (C := RX4) (T := TX4) (N := 14) (nA := 0) (As := []) (rest := []) F 61 (by obtain ⟨Z9, S9, F9, h9, -⟩ := hM1; exact h9.1) (by decide) rfl (c_X4_drop hM1) gL_law_X4_drop rfl (by decide +kernel) rfl ⟨Nat.le_trans (Nat.le_of_ble_eq_true rfl) hf, Nat.le_trans (Nat.le_of_ble_eq_true rfl) hl⟩ ⟨Nat.le_trans (Nat.add_le_add_left (Nat.le_of_ble_eq_true rfl) k) hk.1, Nat.le_trans (Nat.add_le_add_left (Nat.le_of_ble_eq_true rfl) n0) hk.2⟩ rfl (Nat.le_of_ble_eq_true rfl) dL_law_424) (fun r2 u2 hp2 => ?_)
    obtain ⟨hp2, hq2⟩ := hp2
    rcases hp2 with ⟨-, rfl, hX⟩ | ⟨c2, h2, h3, -⟩
    · skip
      refine r_istore (lv' := [(0, .ref b), (1, .ref (g.2.1 0)), (2, .ref (g.2.1 61)), (3, .ref (g.2.1 69)), (4, .int (nI i)), (5, .int 0), (6, .int (B (n - 1) 0))]) F (by decide) rfl dL_law_427 ?_
      refine r_aload_n F 2 rfl dL_law_429 ?_
      refine r_calli (g_V (C := RX4) (T := TX4) (N := 14) (nA := 0) (As := []) (rest := []) F 61 (by obtain ⟨Z9, S9, F9, h9, -⟩ := hX; exact h9.1) (by decide) rfl (c_X4_thrown hX) gL_law_X4_thrown rfl (by decide +kernel) rfl ⟨Nat.le_trans (Nat.le_of_ble_eq_true rfl) hf, Nat.le_trans (Nat.le_of_ble_eq_true rfl) hl⟩ ⟨Nat.le_trans (Nat.add_le_add_left (Nat.le_of_ble_eq_true rfl) k) hk.1, Nat.le_trans (Nat.add_le_add_left (Nat.le_of_ble_eq_true rfl) n0) hk.2⟩ rfl (Nat.le_of_ble_eq_true rfl) dL_law_430) (fun r3 u3 hp3 => ?_)
      obtain ⟨rfl, rfl⟩ := hp3
      obtain ⟨fo, hO1, hO2⟩ := hV
      have hO3 : u2 69 = .inl (g.2.2.1 3, 1, .inr (.inl fo)) := (hq2 69 (by omega)).trans hO1
      refine r_iload F 5 rfl dL_law_433 ?_
      refine r_icmp_eq F 440 (by decide) dL_law_435 (fun c_435_1 => ?_) (fun c_435_1 => absurd c_435_1 (by decide))
      clear c_435_1
      refine r_iload F 5 rfl dL_law_440 ?_
      refine r_if_ne F 457 (by decide) dL_law_442 (fun c_442_2 => absurd c_442_2 (by decide)) (fun c_442_2 => ?_)
      clear c_442_2
      refine r_aload_n F 3 rfl dL_law_445 ?_
      refine r_iconst (v := 0) F (by decide) dL_law_446 ?_
      refine r_lald F 69 hO3 (by decide) (vp_in_nI (n := 0) (by decide) (by decide)) dL_law_447 ?_
      refine r_iload F 6 rfl dL_law_448 ?_
      refine r_i2l F rfl dL_law_450 ?_
      refine r_lcmp F dL_law_451 ?_
      refine r_if_eq F 457 (by decide) dL_law_452 (fun c_452_3 => ?_) (fun c_452_3 => absurd (by show lg_cmp (fo ((0 : Int32).toNatClampNeg)) _ = 0; rw [show fo ((0 : Int32).toNatClampNeg) = _ from hO2]; exact lg_cmp0 _) c_452_3)
      clear c_452_3
      refine r_goto F 1064 (by decide) dL_law_457 ?_
      refine r_lv (lv2 := [(0, .ref b), (1, .ref (g.2.1 0)), (2, .ref (g.2.1 61)), (3, .ref (g.2.1 69)), (4, .int (nI i))]) (by simp) ?_
      exact r_widen (by show _ ≤ k + 4; simp) (by show _ ≤ n0 + 24; simp) (kk _ ⟨_, _, _, _, _, _, _, _, _, _, _, _, _, _, _, hC.keep (fun j hj => hq2 j (by omega)), hX, (hwf.le (Nat.sub_le _ _)), (hws.push hwf hm6), OutV.r ⟨fo, hO3, hO2⟩⟩)
    · exact absurd (h3.symm.trans hcd) (by omega)
  · skip
    have hM1 := hM
    have hc3 : c1 ≤ 3 := by rw [← hcd]; unfold cdDrop; (repeat' split) <;> decide
    refine r_istore (lv' := [(0, .ref b), (1, .ref (g.2.1 0)), (2, .ref (g.2.1 61)), (3, .ref (g.2.1 69)), (4, .int (nI i)), (5, .int (nI c1))]) F (by decide) rfl dL_law_421 ?_
    refine r_aload_n F 2 rfl dL_law_423 ?_
    refine r_calli (g_V (C := RX4) (T := TX4) (N := 14) (nA := 0) (As := []) (rest := []) F 61 (by obtain ⟨Z9, S9, F9, h9, -⟩ := hM1; exact h9.1) (by decide) rfl (c_X4_drop hM1) gL_law_X4_drop rfl (by decide +kernel) rfl ⟨Nat.le_trans (Nat.le_of_ble_eq_true rfl) hf, Nat.le_trans (Nat.le_of_ble_eq_true rfl) hl⟩ ⟨Nat.le_trans (Nat.add_le_add_left (Nat.le_of_ble_eq_true rfl) k) hk.1, Nat.le_trans (Nat.add_le_add_left (Nat.le_of_ble_eq_true rfl) n0) hk.2⟩ rfl (Nat.le_of_ble_eq_true rfl) dL_law_424) (fun r2 u2 hp2 => ?_)
    obtain ⟨hp2, hq2⟩ := hp2
    rcases hp2 with ⟨h3, -⟩ | ⟨c2, h2, h3, hX⟩
    · exact absurd (hcd.symm.trans h3) (by omega)
    · skip
      obtain rfl : c1 = c2 := hcd.symm.trans h3
      refine r_istore (lv' := [(0, .ref b), (1, .ref (g.2.1 0)), (2, .ref (g.2.1 61)), (3, .ref (g.2.1 69)), (4, .int (nI i)), (5, .int (nI c1)), (6, .int r2)]) F (by decide) rfl dL_law_427 ?_
      refine r_aload_n F 2 rfl dL_law_429 ?_
      refine r_calli (g_V (C := RX4) (T := TX4) (N := 14) (nA := 0) (As := []) (rest := []) F 61 (by obtain ⟨Z9, S9, F9, h9, -⟩ := hX; exact h9.1) (by decide) rfl (c_X4_thrown hX) gL_law_X4_thrown rfl (by decide +kernel) rfl ⟨Nat.le_trans (Nat.le_of_ble_eq_true rfl) hf, Nat.le_trans (Nat.le_of_ble_eq_true rfl) hl⟩ ⟨Nat.le_trans (Nat.add_le_add_left (Nat.le_of_ble_eq_true rfl) k) hk.1, Nat.le_trans (Nat.add_le_add_left (Nat.le_of_ble_eq_true rfl) n0) hk.2⟩ rfl (Nat.le_of_ble_eq_true rfl) dL_law_430) (fun r3 u3 hp3 => ?_)
      obtain ⟨rfl, rfl⟩ := hp3
      refine r_iload F 5 rfl dL_law_433 ?_
      refine r_icmp_eq F 440 (by decide) dL_law_435 (fun c_435_4 => ?_) (fun c_435_4 => absurd rfl c_435_4)
      clear c_435_4
      refine r_iload F 5 rfl dL_law_440 ?_
      refine r_if_ne F 457 (by decide) dL_law_442 (fun c_442_5 => ?_) (fun c_442_5 => absurd c_442_5 (fun q => by have z := (nI_eq (b := 0) (by omega) (by decide)).mp q; omega))
      clear c_442_5
      refine r_goto F 1064 (by decide) dL_law_457 ?_
      refine r_lv (lv2 := [(0, .ref b), (1, .ref (g.2.1 0)), (2, .ref (g.2.1 61)), (3, .ref (g.2.1 69)), (4, .int (nI i))]) (by simp) ?_
      exact r_widen (by show _ ≤ k + 4; simp) (by show _ ≤ n0 + 24; simp) (kk _ ⟨_, _, _, _, _, _, _, _, _, _, _, _, _, _, _, hc.keep (fun j hj => hq2 j (by omega)), hX, hwf, hws, hO.keep hq2⟩)
set_option maxHeartbeats 4000000 in
set_option maxRecDepth 100000 in
theorem op_answer {g : kG} {X : kX} {ret : Option FieldType} {rm0 : Room} {b L i k n0 : Nat} {xs : Nat → Int32} {u : Nat → va_E} (hfl : X.2.1.stackTraces = false) (F : Fx g X cL_law 9 ret wsL_law RL rm0) (T : Sx g X b L xs) (hi : i + 4 ≤ L) (hL : L ≤ 2048) (hf : 10 ≤ rm0.frames) (hl : 300 ≤ rm0.locals) (hk : k + 4 ≤ rm0.cells ∧ n0 + 24 ≤ rm0.slots) (I : Inv g u) (kk : ∀ u', Inv g u' → VL g X (k + 4) (n0 + 24) u' 1064 [(0, .ref b), (1, .ref (g.2.1 0)), (2, .ref (g.2.1 61)), (3, .ref (g.2.1 69)), (4, .int (nI i))] []) : VL g X k n0 u 460 [(0, .ref b), (1, .ref (g.2.1 0)), (2, .ref (g.2.1 61)), (3, .ref (g.2.1 69)), (4, .int (nI i))] [] := by
  obtain ⟨n, B, m, S, t, C, th, rm, sp, wr, hs, VA, RD, CH, WE, hc, hM, hwf, hws, hO⟩ := I
  have hm6 := hM.m6
  refine r_aload_n F 1 rfl dL_law_460 ?_
  refine r_aload_n F 0 rfl dL_law_461 ?_
  refine r_iload F 4 rfl dL_law_462 ?_
  refine r_iconst (v := 1) F (by decide) dL_law_464 ?_
  refine r_iadd F dL_law_465 ?_
  refine r_sld F T (by rw [nI_1]; exact vp_in_nI (by omega) (by omega)) dL_law_466 ?_
  refine r_eq (st2 := [.int (xs (i + 1)), .ref (g.2.1 0)]) (by rw [nI_1, nI_clamp (by omega)]) rfl ?_
  refine r_aload_n F 0 rfl dL_law_467 ?_
  refine r_iload F 4 rfl dL_law_468 ?_
  refine r_iconst (v := 2) F (by decide) dL_law_470 ?_
  refine r_iadd F dL_law_471 ?_
  refine r_sld F T (by rw [show (2 : Int32) = nI 2 from rfl, nI_add]; exact vp_in_nI (by omega) (by omega)) dL_law_472 ?_
  refine r_eq (st2 := [.int (xs (i + 2)), .int (xs (i + 1)), .ref (g.2.1 0)]) (by rw [show (2 : Int32) = nI 2 from rfl, nI_add, nI_clamp (by omega)]) rfl ?_
  refine r_aload_n F 3 rfl dL_law_473 ?_
  refine r_calli (g_CS (nA := 4) (As := [.ref (g.2.1 0), .int (xs (i + 1)), .int (xs (i + 2)), .ref (g.2.1 69)]) (rest := []) F T (c_L_answer hfl hc hwf.t hO) gL_law_L_answer rfl (by decide +kernel) rfl ⟨Nat.le_trans (Nat.le_of_ble_eq_true rfl) hf, Nat.le_trans (Nat.le_of_ble_eq_true rfl) hl⟩ ⟨Nat.le_trans (Nat.add_le_add_left (Nat.le_of_ble_eq_true rfl) k) hk.1, Nat.le_trans (Nat.add_le_add_left (Nat.le_of_ble_eq_true rfl) n0) hk.2⟩ rfl (Nat.le_of_ble_eq_true rfl) dL_law_474) (fun r1 u1 hp1 => ?_)
  rcases hp1 with ⟨hcd, rfl, hC, hV, hq⟩ | ⟨c1, hc0, hcd, rfl, rfl⟩
  · skip
    have hM1 := hM.keep (fun j h1 h2 => hq j h1 h2)
    refine r_istore (lv' := [(0, .ref b), (1, .ref (g.2.1 0)), (2, .ref (g.2.1 61)), (3, .ref (g.2.1 69)), (4, .int (nI i)), (5, .int 0)]) F (by decide) rfl dL_law_477 ?_
    refine r_aload_n F 2 rfl dL_law_479 ?_
    refine r_aload_n F 0 rfl dL_law_480 ?_
    refine r_iload F 4 rfl dL_law_481 ?_
    refine r_iconst (v := 1) F (by decide) dL_law_483 ?_
    refine r_iadd F dL_law_484 ?_
    refine r_sld F T (by rw [nI_1]; exact vp_in_nI (by omega) (by omega)) dL_law_485 ?_
    refine r_eq (st2 := [.int (xs (i + 1)), .ref (g.2.1 61)]) (by rw [nI_1, nI_clamp (by omega)]) rfl ?_
    refine r_aload_n F 0 rfl dL_law_486 ?_
    refine r_iload F 4 rfl dL_law_487 ?_
    refine r_iconst (v := 2) F (by decide) dL_law_489 ?_
    refine r_iadd F dL_law_490 ?_
    refine r_sld F T (by rw [show (2 : Int32) = nI 2 from rfl, nI_add]; exact vp_in_nI (by omega) (by omega)) dL_law_491 ?_
    refine r_eq (st2 := [.int (xs (i + 2)), .int (xs (i + 1)), .ref (g.2.1 61)]) (by rw [show (2 : Int32) = nI 2 from rfl, nI_add, nI_clamp (by omega)]) rfl ?_
    refine r_calli (g_V (C := RX4) (T := TX4) (N := 14) (nA := 2) (As := [.int (xs (i + 1)), .int (xs (i + 2))]) (rest := []) F 61 (by obtain ⟨Z9, S9, F9, h9, -⟩ := hM1; exact h9.1) (by decide) rfl (c_X4_answer hM1 hwf) gL_law_X4_answer rfl (by decide +kernel) rfl ⟨Nat.le_trans (Nat.le_of_ble_eq_true rfl) hf, Nat.le_trans (Nat.le_of_ble_eq_true rfl) hl⟩ ⟨Nat.le_trans (Nat.add_le_add_left (Nat.le_of_ble_eq_true rfl) k) hk.1, Nat.le_trans (Nat.add_le_add_left (Nat.le_of_ble_eq_true rfl) n0) hk.2⟩ rfl (Nat.le_of_ble_eq_true rfl) dL_law_492) (fun r2 u2 hp2 => ?_)
    obtain ⟨hp2, hq2⟩ := hp2
    rcases hp2 with ⟨-, rfl, hX⟩ | ⟨c2, h2, h3, -⟩
    · skip
      refine r_istore (lv' := [(0, .ref b), (1, .ref (g.2.1 0)), (2, .ref (g.2.1 61)), (3, .ref (g.2.1 69)), (4, .int (nI i)), (5, .int 0), (6, .int (cntN n (qWts (bUp B (xs (i + 1)).toNatClampNeg 4 (xs (i + 2))) (opm (bUp B (xs (i + 1)).toNatClampNeg 4 (xs (i + 2))) n))))]) F (by decide) rfl dL_law_495 ?_
      refine r_aload_n F 2 rfl dL_law_497 ?_
      refine r_calli (g_V (C := RX4) (T := TX4) (N := 14) (nA := 0) (As := []) (rest := []) F 61 (by obtain ⟨Z9, S9, F9, h9, -⟩ := hX; exact h9.1) (by decide) rfl (c_X4_thrown hX) gL_law_X4_thrown rfl (by decide +kernel) rfl ⟨Nat.le_trans (Nat.le_of_ble_eq_true rfl) hf, Nat.le_trans (Nat.le_of_ble_eq_true rfl) hl⟩ ⟨Nat.le_trans (Nat.add_le_add_left (Nat.le_of_ble_eq_true rfl) k) hk.1, Nat.le_trans (Nat.add_le_add_left (Nat.le_of_ble_eq_true rfl) n0) hk.2⟩ rfl (Nat.le_of_ble_eq_true rfl) dL_law_498) (fun r3 u3 hp3 => ?_)
      obtain ⟨rfl, rfl⟩ := hp3
      obtain ⟨fo, hO1, hO2⟩ := hV
      have hO3 : u2 69 = .inl (g.2.2.1 3, 1, .inr (.inl fo)) := (hq2 69 (by omega)).trans hO1
      refine r_iload F 5 rfl dL_law_501 ?_
      refine r_icmp_eq F 508 (by decide) dL_law_503 (fun c_503_1 => ?_) (fun c_503_1 => absurd c_503_1 (by decide))
      clear c_503_1
      refine r_iload F 5 rfl dL_law_508 ?_
      refine r_if_ne F 525 (by decide) dL_law_510 (fun c_510_2 => absurd c_510_2 (by decide)) (fun c_510_2 => ?_)
      clear c_510_2
      refine r_aload_n F 3 rfl dL_law_513 ?_
      refine r_iconst (v := 0) F (by decide) dL_law_514 ?_
      refine r_lald F 69 hO3 (by decide) (vp_in_nI (n := 0) (by decide) (by decide)) dL_law_515 ?_
      refine r_iload F 6 rfl dL_law_516 ?_
      refine r_i2l F rfl dL_law_518 ?_
      refine r_lcmp F dL_law_519 ?_
      refine r_if_eq F 525 (by decide) dL_law_520 (fun c_520_3 => ?_) (fun c_520_3 => absurd (by show lg_cmp (fo ((0 : Int32).toNatClampNeg)) _ = 0; rw [show fo ((0 : Int32).toNatClampNeg) = _ from hO2]; exact lg_cmp0 _) c_520_3)
      clear c_520_3
      refine r_goto F 1064 (by decide) dL_law_525 ?_
      refine r_lv (lv2 := [(0, .ref b), (1, .ref (g.2.1 0)), (2, .ref (g.2.1 61)), (3, .ref (g.2.1 69)), (4, .int (nI i))]) (by simp) ?_
      exact r_widen (by show _ ≤ k + 4; simp) (by show _ ≤ n0 + 24; simp) (kk _ ⟨_, _, _, _, _, _, _, _, _, _, _, _, _, _, _, hC.keep (fun j hj => hq2 j (by omega)), hX, (wf_ans hwf hcd), (hws.push hwf hm6), OutV.r ⟨fo, hO3, hO2⟩⟩)
    · exact absurd (h3.symm.trans hcd) (by omega)
  · skip
    have hM1 := hM
    have hc3 : c1 ≤ 3 := by rw [← hcd]; unfold cdAnswer; (repeat' split) <;> decide
    refine r_istore (lv' := [(0, .ref b), (1, .ref (g.2.1 0)), (2, .ref (g.2.1 61)), (3, .ref (g.2.1 69)), (4, .int (nI i)), (5, .int (nI c1))]) F (by decide) rfl dL_law_477 ?_
    refine r_aload_n F 2 rfl dL_law_479 ?_
    refine r_aload_n F 0 rfl dL_law_480 ?_
    refine r_iload F 4 rfl dL_law_481 ?_
    refine r_iconst (v := 1) F (by decide) dL_law_483 ?_
    refine r_iadd F dL_law_484 ?_
    refine r_sld F T (by rw [nI_1]; exact vp_in_nI (by omega) (by omega)) dL_law_485 ?_
    refine r_eq (st2 := [.int (xs (i + 1)), .ref (g.2.1 61)]) (by rw [nI_1, nI_clamp (by omega)]) rfl ?_
    refine r_aload_n F 0 rfl dL_law_486 ?_
    refine r_iload F 4 rfl dL_law_487 ?_
    refine r_iconst (v := 2) F (by decide) dL_law_489 ?_
    refine r_iadd F dL_law_490 ?_
    refine r_sld F T (by rw [show (2 : Int32) = nI 2 from rfl, nI_add]; exact vp_in_nI (by omega) (by omega)) dL_law_491 ?_
    refine r_eq (st2 := [.int (xs (i + 2)), .int (xs (i + 1)), .ref (g.2.1 61)]) (by rw [show (2 : Int32) = nI 2 from rfl, nI_add, nI_clamp (by omega)]) rfl ?_
    refine r_calli (g_V (C := RX4) (T := TX4) (N := 14) (nA := 2) (As := [.int (xs (i + 1)), .int (xs (i + 2))]) (rest := []) F 61 (by obtain ⟨Z9, S9, F9, h9, -⟩ := hM1; exact h9.1) (by decide) rfl (c_X4_answer hM1 hwf) gL_law_X4_answer rfl (by decide +kernel) rfl ⟨Nat.le_trans (Nat.le_of_ble_eq_true rfl) hf, Nat.le_trans (Nat.le_of_ble_eq_true rfl) hl⟩ ⟨Nat.le_trans (Nat.add_le_add_left (Nat.le_of_ble_eq_true rfl) k) hk.1, Nat.le_trans (Nat.add_le_add_left (Nat.le_of_ble_eq_true rfl) n0) hk.2⟩ rfl (Nat.le_of_ble_eq_true rfl) dL_law_492) (fun r2 u2 hp2 => ?_)
    obtain ⟨hp2, hq2⟩ := hp2
    rcases hp2 with ⟨h3, -⟩ | ⟨c2, h2, h3, hX⟩
    · exact absurd (hcd.symm.trans h3) (by omega)
    · skip
      obtain rfl : c1 = c2 := hcd.symm.trans h3
      refine r_istore (lv' := [(0, .ref b), (1, .ref (g.2.1 0)), (2, .ref (g.2.1 61)), (3, .ref (g.2.1 69)), (4, .int (nI i)), (5, .int (nI c1)), (6, .int r2)]) F (by decide) rfl dL_law_495 ?_
      refine r_aload_n F 2 rfl dL_law_497 ?_
      refine r_calli (g_V (C := RX4) (T := TX4) (N := 14) (nA := 0) (As := []) (rest := []) F 61 (by obtain ⟨Z9, S9, F9, h9, -⟩ := hX; exact h9.1) (by decide) rfl (c_X4_thrown hX) gL_law_X4_thrown rfl (by decide +kernel) rfl ⟨Nat.le_trans (Nat.le_of_ble_eq_true rfl) hf, Nat.le_trans (Nat.le_of_ble_eq_true rfl) hl⟩ ⟨Nat.le_trans (Nat.add_le_add_left (Nat.le_of_ble_eq_true rfl) k) hk.1, Nat.le_trans (Nat.add_le_add_left (Nat.le_of_ble_eq_true rfl) n0) hk.2⟩ rfl (Nat.le_of_ble_eq_true rfl) dL_law_498) (fun r3 u3 hp3 => ?_)
      obtain ⟨rfl, rfl⟩ := hp3
      refine r_iload F 5 rfl dL_law_501 ?_
      refine r_icmp_eq F 508 (by decide) dL_law_503 (fun c_503_4 => ?_) (fun c_503_4 => absurd rfl c_503_4)
      clear c_503_4
      refine r_iload F 5 rfl dL_law_508 ?_
      refine r_if_ne F 525 (by decide) dL_law_510 (fun c_510_5 => ?_) (fun c_510_5 => absurd c_510_5 (fun q => by have z := (nI_eq (b := 0) (by omega) (by decide)).mp q; omega))
      clear c_510_5
      refine r_goto F 1064 (by decide) dL_law_525 ?_
      refine r_lv (lv2 := [(0, .ref b), (1, .ref (g.2.1 0)), (2, .ref (g.2.1 61)), (3, .ref (g.2.1 69)), (4, .int (nI i))]) (by simp) ?_
      exact r_widen (by show _ ≤ k + 4; simp) (by show _ ≤ n0 + 24; simp) (kk _ ⟨_, _, _, _, _, _, _, _, _, _, _, _, _, _, _, hc.keep (fun j hj => hq2 j (by omega)), hX, hwf, hws, hO.keep hq2⟩)
set_option maxHeartbeats 4000000 in
set_option maxRecDepth 100000 in
theorem op_append {g : kG} {X : kX} {ret : Option FieldType} {rm0 : Room} {b L i k n0 : Nat} {xs : Nat → Int32} {u : Nat → va_E} (hfl : X.2.1.stackTraces = false) (F : Fx g X cL_law 9 ret wsL_law RL rm0) (T : Sx g X b L xs) (hi : i + 4 ≤ L) (hL : L ≤ 2048) (hf : 10 ≤ rm0.frames) (hl : 300 ≤ rm0.locals) (hk : k + 4 ≤ rm0.cells ∧ n0 + 24 ≤ rm0.slots) (I : Inv g u) (kk : ∀ u', Inv g u' → VL g X (k + 4) (n0 + 24) u' 1064 [(0, .ref b), (1, .ref (g.2.1 0)), (2, .ref (g.2.1 61)), (3, .ref (g.2.1 69)), (4, .int (nI i))] []) : VL g X k n0 u 541 [(0, .ref b), (1, .ref (g.2.1 0)), (2, .ref (g.2.1 61)), (3, .ref (g.2.1 69)), (4, .int (nI i))] [] := by
  obtain ⟨n, B, m, S, t, C, th, rm, sp, wr, hs, VA, RD, CH, WE, hc, hM, hwf, hws, hO⟩ := I
  have hm6 := hM.m6
  refine r_aload_n F 1 rfl dL_law_541 ?_
  refine r_aload_n F 0 rfl dL_law_542 ?_
  refine r_iload F 4 rfl dL_law_543 ?_
  refine r_iconst (v := 1) F (by decide) dL_law_545 ?_
  refine r_iadd F dL_law_546 ?_
  refine r_sld F T (by rw [nI_1]; exact vp_in_nI (by omega) (by omega)) dL_law_547 ?_
  refine r_eq (st2 := [.int (xs (i + 1)), .ref (g.2.1 0)]) (by rw [nI_1, nI_clamp (by omega)]) rfl ?_
  refine r_aload_n F 3 rfl dL_law_548 ?_
  refine r_calli (g_CS (nA := 3) (As := [.ref (g.2.1 0), .int (xs (i + 1)), .ref (g.2.1 69)]) (rest := []) F T (c_L_append hfl hc hO) gL_law_L_append rfl (by decide +kernel) rfl ⟨Nat.le_trans (Nat.le_of_ble_eq_true rfl) hf, Nat.le_trans (Nat.le_of_ble_eq_true rfl) hl⟩ ⟨Nat.le_trans (Nat.add_le_add_left (Nat.le_of_ble_eq_true rfl) k) hk.1, Nat.le_trans (Nat.add_le_add_left (Nat.le_of_ble_eq_true rfl) n0) hk.2⟩ rfl (Nat.le_of_ble_eq_true rfl) dL_law_549) (fun r1 u1 hp1 => ?_)
  rcases hp1 with ⟨hcd, rfl, hC, hV, hq⟩ | ⟨c1, hc0, hcd, rfl, rfl⟩
  · skip
    have hM1 := hM.keep (fun j h1 h2 => hq j h1 h2)
    refine r_istore (lv' := [(0, .ref b), (1, .ref (g.2.1 0)), (2, .ref (g.2.1 61)), (3, .ref (g.2.1 69)), (4, .int (nI i)), (5, .int 0)]) F (by decide) rfl dL_law_552 ?_
    refine r_aload_n F 2 rfl dL_law_554 ?_
    refine r_aload_n F 0 rfl dL_law_555 ?_
    refine r_iload F 4 rfl dL_law_556 ?_
    refine r_iconst (v := 1) F (by decide) dL_law_558 ?_
    refine r_iadd F dL_law_559 ?_
    refine r_sld F T (by rw [nI_1]; exact vp_in_nI (by omega) (by omega)) dL_law_560 ?_
    refine r_eq (st2 := [.int (xs (i + 1)), .ref (g.2.1 61)]) (by rw [nI_1, nI_clamp (by omega)]) rfl ?_
    refine r_calli (g_V (C := RX4) (T := TX4) (N := 14) (nA := 1) (As := [.int (xs (i + 1))]) (rest := []) F 61 (by obtain ⟨Z9, S9, F9, h9, -⟩ := hM1; exact h9.1) (by decide) rfl (c_X4_append hM1) gL_law_X4_append rfl (by decide +kernel) rfl ⟨Nat.le_trans (Nat.le_of_ble_eq_true rfl) hf, Nat.le_trans (Nat.le_of_ble_eq_true rfl) hl⟩ ⟨Nat.le_trans (Nat.add_le_add_left (Nat.le_of_ble_eq_true rfl) k) hk.1, Nat.le_trans (Nat.add_le_add_left (Nat.le_of_ble_eq_true rfl) n0) hk.2⟩ rfl (Nat.le_of_ble_eq_true rfl) dL_law_561) (fun r2 u2 hp2 => ?_)
    obtain ⟨hp2, hq2⟩ := hp2
    rcases hp2 with ⟨-, rfl, hX⟩ | ⟨c2, h2, h3, -⟩
    · skip
      refine r_istore (lv' := [(0, .ref b), (1, .ref (g.2.1 0)), (2, .ref (g.2.1 61)), (3, .ref (g.2.1 69)), (4, .int (nI i)), (5, .int 0), (6, .int (nI (t + 1)))]) F (by decide) rfl dL_law_564 ?_
      refine r_aload_n F 2 rfl dL_law_566 ?_
      refine r_calli (g_V (C := RX4) (T := TX4) (N := 14) (nA := 0) (As := []) (rest := []) F 61 (by obtain ⟨Z9, S9, F9, h9, -⟩ := hX; exact h9.1) (by decide) rfl (c_X4_thrown hX) gL_law_X4_thrown rfl (by decide +kernel) rfl ⟨Nat.le_trans (Nat.le_of_ble_eq_true rfl) hf, Nat.le_trans (Nat.le_of_ble_eq_true rfl) hl⟩ ⟨Nat.le_trans (Nat.add_le_add_left (Nat.le_of_ble_eq_true rfl) k) hk.1, Nat.le_trans (Nat.add_le_add_left (Nat.le_of_ble_eq_true rfl) n0) hk.2⟩ rfl (Nat.le_of_ble_eq_true rfl) dL_law_567) (fun r3 u3 hp3 => ?_)
      obtain ⟨rfl, rfl⟩ := hp3
      obtain ⟨fo, hO1, hO2⟩ := hV
      have hO3 : u2 69 = .inl (g.2.2.1 3, 1, .inr (.inl fo)) := (hq2 69 (by omega)).trans hO1
      refine r_iload F 5 rfl dL_law_570 ?_
      refine r_icmp_eq F 577 (by decide) dL_law_572 (fun c_572_1 => ?_) (fun c_572_1 => absurd c_572_1 (by decide))
      clear c_572_1
      refine r_iload F 5 rfl dL_law_577 ?_
      refine r_if_ne F 594 (by decide) dL_law_579 (fun c_579_2 => absurd c_579_2 (by decide)) (fun c_579_2 => ?_)
      clear c_579_2
      refine r_aload_n F 3 rfl dL_law_582 ?_
      refine r_iconst (v := 0) F (by decide) dL_law_583 ?_
      refine r_lald F 69 hO3 (by decide) (vp_in_nI (n := 0) (by decide) (by decide)) dL_law_584 ?_
      refine r_iload F 6 rfl dL_law_585 ?_
      refine r_i2l F rfl dL_law_587 ?_
      refine r_lcmp F dL_law_588 ?_
      refine r_if_eq F 594 (by decide) dL_law_589 (fun c_589_3 => ?_) (fun c_589_3 => absurd (by show lg_cmp (fo ((0 : Int32).toNatClampNeg)) _ = 0; rw [show fo ((0 : Int32).toNatClampNeg) = _ from hO2]; exact lg_cmp0 _) c_589_3)
      clear c_589_3
      refine r_goto F 1064 (by decide) dL_law_594 ?_
      refine r_lv (lv2 := [(0, .ref b), (1, .ref (g.2.1 0)), (2, .ref (g.2.1 61)), (3, .ref (g.2.1 69)), (4, .int (nI i))]) (by simp) ?_
      exact r_widen (by show _ ≤ k + 4; simp) (by show _ ≤ n0 + 24; simp) (kk _ ⟨_, _, _, _, _, _, _, _, _, _, _, _, _, _, _, hC.keep (fun j hj => hq2 j (by omega)), hX, hwf, hws, OutV.r ⟨fo, hO3, hO2⟩⟩)
    · exact absurd (h3.symm.trans hcd) (by omega)
  · skip
    have hM1 := hM
    have hc3 : c1 ≤ 3 := by rw [← hcd]; unfold cdAppend; (repeat' split) <;> decide
    refine r_istore (lv' := [(0, .ref b), (1, .ref (g.2.1 0)), (2, .ref (g.2.1 61)), (3, .ref (g.2.1 69)), (4, .int (nI i)), (5, .int (nI c1))]) F (by decide) rfl dL_law_552 ?_
    refine r_aload_n F 2 rfl dL_law_554 ?_
    refine r_aload_n F 0 rfl dL_law_555 ?_
    refine r_iload F 4 rfl dL_law_556 ?_
    refine r_iconst (v := 1) F (by decide) dL_law_558 ?_
    refine r_iadd F dL_law_559 ?_
    refine r_sld F T (by rw [nI_1]; exact vp_in_nI (by omega) (by omega)) dL_law_560 ?_
    refine r_eq (st2 := [.int (xs (i + 1)), .ref (g.2.1 61)]) (by rw [nI_1, nI_clamp (by omega)]) rfl ?_
    refine r_calli (g_V (C := RX4) (T := TX4) (N := 14) (nA := 1) (As := [.int (xs (i + 1))]) (rest := []) F 61 (by obtain ⟨Z9, S9, F9, h9, -⟩ := hM1; exact h9.1) (by decide) rfl (c_X4_append hM1) gL_law_X4_append rfl (by decide +kernel) rfl ⟨Nat.le_trans (Nat.le_of_ble_eq_true rfl) hf, Nat.le_trans (Nat.le_of_ble_eq_true rfl) hl⟩ ⟨Nat.le_trans (Nat.add_le_add_left (Nat.le_of_ble_eq_true rfl) k) hk.1, Nat.le_trans (Nat.add_le_add_left (Nat.le_of_ble_eq_true rfl) n0) hk.2⟩ rfl (Nat.le_of_ble_eq_true rfl) dL_law_561) (fun r2 u2 hp2 => ?_)
    obtain ⟨hp2, hq2⟩ := hp2
    rcases hp2 with ⟨h3, -⟩ | ⟨c2, h2, h3, hX⟩
    · exact absurd (hcd.symm.trans h3) (by omega)
    · skip
      obtain rfl : c1 = c2 := hcd.symm.trans h3
      refine r_istore (lv' := [(0, .ref b), (1, .ref (g.2.1 0)), (2, .ref (g.2.1 61)), (3, .ref (g.2.1 69)), (4, .int (nI i)), (5, .int (nI c1)), (6, .int r2)]) F (by decide) rfl dL_law_564 ?_
      refine r_aload_n F 2 rfl dL_law_566 ?_
      refine r_calli (g_V (C := RX4) (T := TX4) (N := 14) (nA := 0) (As := []) (rest := []) F 61 (by obtain ⟨Z9, S9, F9, h9, -⟩ := hX; exact h9.1) (by decide) rfl (c_X4_thrown hX) gL_law_X4_thrown rfl (by decide +kernel) rfl ⟨Nat.le_trans (Nat.le_of_ble_eq_true rfl) hf, Nat.le_trans (Nat.le_of_ble_eq_true rfl) hl⟩ ⟨Nat.le_trans (Nat.add_le_add_left (Nat.le_of_ble_eq_true rfl) k) hk.1, Nat.le_trans (Nat.add_le_add_left (Nat.le_of_ble_eq_true rfl) n0) hk.2⟩ rfl (Nat.le_of_ble_eq_true rfl) dL_law_567) (fun r3 u3 hp3 => ?_)
      obtain ⟨rfl, rfl⟩ := hp3
      refine r_iload F 5 rfl dL_law_570 ?_
      refine r_icmp_eq F 577 (by decide) dL_law_572 (fun c_572_4 => ?_) (fun c_572_4 => absurd rfl c_572_4)
      clear c_572_4
      refine r_iload F 5 rfl dL_law_577 ?_
      refine r_if_ne F 594 (by decide) dL_law_579 (fun c_579_5 => ?_) (fun c_579_5 => absurd c_579_5 (fun q => by have z := (nI_eq (b := 0) (by omega) (by decide)).mp q; omega))
      clear c_579_5
      refine r_goto F 1064 (by decide) dL_law_594 ?_
      refine r_lv (lv2 := [(0, .ref b), (1, .ref (g.2.1 0)), (2, .ref (g.2.1 61)), (3, .ref (g.2.1 69)), (4, .int (nI i))]) (by simp) ?_
      exact r_widen (by show _ ≤ k + 4; simp) (by show _ ≤ n0 + 24; simp) (kk _ ⟨_, _, _, _, _, _, _, _, _, _, _, _, _, _, _, hc.keep (fun j hj => hq2 j (by omega)), hX, hwf, hws, hO.keep hq2⟩)
set_option maxHeartbeats 4000000 in
set_option maxRecDepth 100000 in
theorem op_fill {g : kG} {X : kX} {ret : Option FieldType} {rm0 : Room} {b L i k n0 : Nat} {xs : Nat → Int32} {u : Nat → va_E} (hfl : X.2.1.stackTraces = false) (F : Fx g X cL_law 9 ret wsL_law RL rm0) (T : Sx g X b L xs) (hi : i + 4 ≤ L) (hL : L ≤ 2048) (hf : 10 ≤ rm0.frames) (hl : 300 ≤ rm0.locals) (hk : k + 4 ≤ rm0.cells ∧ n0 + 24 ≤ rm0.slots) (I : Inv g u) (kk : ∀ u', Inv g u' → VL g X (k + 4) (n0 + 24) u' 1064 [(0, .ref b), (1, .ref (g.2.1 0)), (2, .ref (g.2.1 61)), (3, .ref (g.2.1 69)), (4, .int (nI i))] []) : VL g X k n0 u 623 [(0, .ref b), (1, .ref (g.2.1 0)), (2, .ref (g.2.1 61)), (3, .ref (g.2.1 69)), (4, .int (nI i))] [] := by
  obtain ⟨n, B, m, S, t, C, th, rm, sp, wr, hs, VA, RD, CH, WE, hc, hM, hwf, hws, hO⟩ := I
  have hm6 := hM.m6
  refine r_aload_n F 1 rfl dL_law_623 ?_
  refine r_aload_n F 3 rfl dL_law_624 ?_
  refine r_calli (g_CS (nA := 2) (As := [.ref (g.2.1 0), .ref (g.2.1 69)]) (rest := []) F T (c_L_fill hfl hc hwf.t hO) gL_law_L_fill rfl (by decide +kernel) rfl ⟨Nat.le_trans (Nat.le_of_ble_eq_true rfl) hf, Nat.le_trans (Nat.le_of_ble_eq_true rfl) hl⟩ ⟨Nat.le_trans (Nat.add_le_add_left (Nat.le_of_ble_eq_true rfl) k) hk.1, Nat.le_trans (Nat.add_le_add_left (Nat.le_of_ble_eq_true rfl) n0) hk.2⟩ rfl (Nat.le_of_ble_eq_true rfl) dL_law_625) (fun r1 u1 hp1 => ?_)
  rcases hp1 with ⟨hcd, rfl, hC, hV, hq⟩ | ⟨c1, hc0, hcd, rfl, rfl⟩
  · skip
    have hM1 := hM.keep (fun j h1 h2 => hq j h1 h2)
    refine r_istore (lv' := [(0, .ref b), (1, .ref (g.2.1 0)), (2, .ref (g.2.1 61)), (3, .ref (g.2.1 69)), (4, .int (nI i)), (5, .int 0)]) F (by decide) rfl dL_law_628 ?_
    refine r_aload_n F 2 rfl dL_law_630 ?_
    refine r_calli (g_V (C := RX4) (T := TX4) (N := 14) (nA := 0) (As := []) (rest := []) F 61 (by obtain ⟨Z9, S9, F9, h9, -⟩ := hM1; exact h9.1) (by decide) rfl (c_X4_fill hM1 hwf) gL_law_X4_fill rfl (by decide +kernel) rfl ⟨Nat.le_trans (Nat.le_of_ble_eq_true rfl) hf, Nat.le_trans (Nat.le_of_ble_eq_true rfl) hl⟩ ⟨Nat.le_trans (Nat.add_le_add_left (Nat.le_of_ble_eq_true rfl) k) hk.1, Nat.le_trans (Nat.add_le_add_left (Nat.le_of_ble_eq_true rfl) n0) hk.2⟩ rfl (Nat.le_of_ble_eq_true rfl) dL_law_631) (fun r2 u2 hp2 => ?_)
    obtain ⟨hp2, hq2⟩ := hp2
    replace hp2 : (cdFill C t = 0 ∧ r2 = (filG n C t B).1 ∧ ∃ rm' sp' wr' RD', MdX g u2 0 rm' sp' wr' hs VA RD' CH WE n (filG n C t B).2 (pushM m) (pushS m S (n, B)) 0 C) ∨ (∃ c, 0 < c ∧ cdFill C t = c ∧ ∃ rm' sp' wr' RD', MdX g u2 (nI c) rm' sp' wr' hs VA RD' CH WE n B m S t C) := by
      rcases hp2 with ⟨h1, h2, h3⟩ | ⟨h1, h3⟩
      · exact Or.inl ⟨if_pos h1, h2, h3⟩
      · exact Or.inr ⟨1, by decide, if_neg (by rw [h1]; decide), h3⟩
    rcases hp2 with ⟨-, rfl, hX⟩ | ⟨c2, h2, h3, -⟩
    · skip
      obtain ⟨rm2, sp2, wr2, RD2, hX⟩ := hX
      refine r_istore (lv' := [(0, .ref b), (1, .ref (g.2.1 0)), (2, .ref (g.2.1 61)), (3, .ref (g.2.1 69)), (4, .int (nI i)), (5, .int 0), (6, .int ((filG n C t B).1))]) F (by decide) rfl dL_law_634 ?_
      refine r_aload_n F 2 rfl dL_law_636 ?_
      refine r_calli (g_V (C := RX4) (T := TX4) (N := 14) (nA := 0) (As := []) (rest := []) F 61 (by obtain ⟨Z9, S9, F9, h9, -⟩ := hX; exact h9.1) (by decide) rfl (c_X4_thrown hX) gL_law_X4_thrown rfl (by decide +kernel) rfl ⟨Nat.le_trans (Nat.le_of_ble_eq_true rfl) hf, Nat.le_trans (Nat.le_of_ble_eq_true rfl) hl⟩ ⟨Nat.le_trans (Nat.add_le_add_left (Nat.le_of_ble_eq_true rfl) k) hk.1, Nat.le_trans (Nat.add_le_add_left (Nat.le_of_ble_eq_true rfl) n0) hk.2⟩ rfl (Nat.le_of_ble_eq_true rfl) dL_law_637) (fun r3 u3 hp3 => ?_)
      obtain ⟨rfl, rfl⟩ := hp3
      obtain ⟨fo, hO1, hO2⟩ := hV
      have hO3 : u2 69 = .inl (g.2.2.1 3, 1, .inr (.inl fo)) := (hq2 69 (by omega)).trans hO1
      refine r_iload F 5 rfl dL_law_640 ?_
      refine r_icmp_eq F 647 (by decide) dL_law_642 (fun c_642_1 => ?_) (fun c_642_1 => absurd c_642_1 (by decide))
      clear c_642_1
      refine r_iload F 5 rfl dL_law_647 ?_
      refine r_if_ne F 664 (by decide) dL_law_649 (fun c_649_2 => absurd c_649_2 (by decide)) (fun c_649_2 => ?_)
      clear c_649_2
      refine r_aload_n F 3 rfl dL_law_652 ?_
      refine r_iconst (v := 0) F (by decide) dL_law_653 ?_
      refine r_lald F 69 hO3 (by decide) (vp_in_nI (n := 0) (by decide) (by decide)) dL_law_654 ?_
      refine r_iload F 6 rfl dL_law_655 ?_
      refine r_i2l F rfl dL_law_657 ?_
      refine r_lcmp F dL_law_658 ?_
      refine r_if_eq F 664 (by decide) dL_law_659 (fun c_659_3 => ?_) (fun c_659_3 => absurd (by show lg_cmp (fo ((0 : Int32).toNatClampNeg)) _ = 0; rw [show fo ((0 : Int32).toNatClampNeg) = _ from hO2]; exact lg_cmp0 _) c_659_3)
      clear c_659_3
      refine r_goto F 1064 (by decide) dL_law_664 ?_
      refine r_lv (lv2 := [(0, .ref b), (1, .ref (g.2.1 0)), (2, .ref (g.2.1 61)), (3, .ref (g.2.1 69)), (4, .int (nI i))]) (by simp) ?_
      exact r_widen (by show _ ≤ k + 4; simp) (by show _ ≤ n0 + 24; simp) (kk _ ⟨_, _, _, _, _, _, _, _, _, _, _, _, _, _, _, hC.keep (fun j hj => hq2 j (by omega)), hX, (wf_fil hwf), (hws.push hwf hm6), OutV.r ⟨fo, hO3, hO2⟩⟩)
    · exact absurd (h3.symm.trans hcd) (by omega)
  · skip
    have hM1 := hM
    have hc3 : c1 ≤ 3 := by rw [← hcd]; unfold cdFill; (repeat' split) <;> decide
    refine r_istore (lv' := [(0, .ref b), (1, .ref (g.2.1 0)), (2, .ref (g.2.1 61)), (3, .ref (g.2.1 69)), (4, .int (nI i)), (5, .int (nI c1))]) F (by decide) rfl dL_law_628 ?_
    refine r_aload_n F 2 rfl dL_law_630 ?_
    refine r_calli (g_V (C := RX4) (T := TX4) (N := 14) (nA := 0) (As := []) (rest := []) F 61 (by obtain ⟨Z9, S9, F9, h9, -⟩ := hM1; exact h9.1) (by decide) rfl (c_X4_fill hM1 hwf) gL_law_X4_fill rfl (by decide +kernel) rfl ⟨Nat.le_trans (Nat.le_of_ble_eq_true rfl) hf, Nat.le_trans (Nat.le_of_ble_eq_true rfl) hl⟩ ⟨Nat.le_trans (Nat.add_le_add_left (Nat.le_of_ble_eq_true rfl) k) hk.1, Nat.le_trans (Nat.add_le_add_left (Nat.le_of_ble_eq_true rfl) n0) hk.2⟩ rfl (Nat.le_of_ble_eq_true rfl) dL_law_631) (fun r2 u2 hp2 => ?_)
    obtain ⟨hp2, hq2⟩ := hp2
    replace hp2 : (cdFill C t = 0 ∧ r2 = (filG n C t B).1 ∧ ∃ rm' sp' wr' RD', MdX g u2 0 rm' sp' wr' hs VA RD' CH WE n (filG n C t B).2 (pushM m) (pushS m S (n, B)) 0 C) ∨ (∃ c, 0 < c ∧ cdFill C t = c ∧ ∃ rm' sp' wr' RD', MdX g u2 (nI c) rm' sp' wr' hs VA RD' CH WE n B m S t C) := by
      rcases hp2 with ⟨h1, h2, h3⟩ | ⟨h1, h3⟩
      · exact Or.inl ⟨if_pos h1, h2, h3⟩
      · exact Or.inr ⟨1, by decide, if_neg (by rw [h1]; decide), h3⟩
    rcases hp2 with ⟨h3, -⟩ | ⟨c2, h2, h3, hX⟩
    · exact absurd (hcd.symm.trans h3) (by omega)
    · skip
      obtain rfl : c1 = c2 := hcd.symm.trans h3
      obtain ⟨rm2, sp2, wr2, RD2, hX⟩ := hX
      refine r_istore (lv' := [(0, .ref b), (1, .ref (g.2.1 0)), (2, .ref (g.2.1 61)), (3, .ref (g.2.1 69)), (4, .int (nI i)), (5, .int (nI c1)), (6, .int r2)]) F (by decide) rfl dL_law_634 ?_
      refine r_aload_n F 2 rfl dL_law_636 ?_
      refine r_calli (g_V (C := RX4) (T := TX4) (N := 14) (nA := 0) (As := []) (rest := []) F 61 (by obtain ⟨Z9, S9, F9, h9, -⟩ := hX; exact h9.1) (by decide) rfl (c_X4_thrown hX) gL_law_X4_thrown rfl (by decide +kernel) rfl ⟨Nat.le_trans (Nat.le_of_ble_eq_true rfl) hf, Nat.le_trans (Nat.le_of_ble_eq_true rfl) hl⟩ ⟨Nat.le_trans (Nat.add_le_add_left (Nat.le_of_ble_eq_true rfl) k) hk.1, Nat.le_trans (Nat.add_le_add_left (Nat.le_of_ble_eq_true rfl) n0) hk.2⟩ rfl (Nat.le_of_ble_eq_true rfl) dL_law_637) (fun r3 u3 hp3 => ?_)
      obtain ⟨rfl, rfl⟩ := hp3
      refine r_iload F 5 rfl dL_law_640 ?_
      refine r_icmp_eq F 647 (by decide) dL_law_642 (fun c_642_4 => ?_) (fun c_642_4 => absurd rfl c_642_4)
      clear c_642_4
      refine r_iload F 5 rfl dL_law_647 ?_
      refine r_if_ne F 664 (by decide) dL_law_649 (fun c_649_5 => ?_) (fun c_649_5 => absurd c_649_5 (fun q => by have z := (nI_eq (b := 0) (by omega) (by decide)).mp q; omega))
      clear c_649_5
      refine r_goto F 1064 (by decide) dL_law_664 ?_
      refine r_lv (lv2 := [(0, .ref b), (1, .ref (g.2.1 0)), (2, .ref (g.2.1 61)), (3, .ref (g.2.1 69)), (4, .int (nI i))]) (by simp) ?_
      exact r_widen (by show _ ≤ k + 4; simp) (by show _ ≤ n0 + 24; simp) (kk _ ⟨_, _, _, _, _, _, _, _, _, _, _, _, _, _, _, hc.keep (fun j hj => hq2 j (by omega)), hX, hwf, hws, hO.keep hq2⟩)
set_option maxHeartbeats 4000000 in
set_option maxRecDepth 100000 in
theorem op_undo {g : kG} {X : kX} {ret : Option FieldType} {rm0 : Room} {b L i k n0 : Nat} {xs : Nat → Int32} {u : Nat → va_E} (hfl : X.2.1.stackTraces = false) (F : Fx g X cL_law 9 ret wsL_law RL rm0) (T : Sx g X b L xs) (hi : i + 4 ≤ L) (hL : L ≤ 2048) (hf : 10 ≤ rm0.frames) (hl : 300 ≤ rm0.locals) (hk : k + 4 ≤ rm0.cells ∧ n0 + 24 ≤ rm0.slots) (I : Inv g u) (kk : ∀ u', Inv g u' → VL g X (k + 4) (n0 + 24) u' 1064 [(0, .ref b), (1, .ref (g.2.1 0)), (2, .ref (g.2.1 61)), (3, .ref (g.2.1 69)), (4, .int (nI i))] []) : VL g X k n0 u 667 [(0, .ref b), (1, .ref (g.2.1 0)), (2, .ref (g.2.1 61)), (3, .ref (g.2.1 69)), (4, .int (nI i))] [] := by
  obtain ⟨n, B, m, S, t, C, th, rm, sp, wr, hs, VA, RD, CH, WE, hc, hM, hwf, hws, hO⟩ := I
  have hm6 := hM.m6
  refine r_aload_n F 1 rfl dL_law_667 ?_
  refine r_aload_n F 3 rfl dL_law_668 ?_
  refine r_calli (g_CS (nA := 2) (As := [.ref (g.2.1 0), .ref (g.2.1 69)]) (rest := []) F T (c_L_undo hfl hc hO) gL_law_L_undo rfl (by decide +kernel) rfl ⟨Nat.le_trans (Nat.le_of_ble_eq_true rfl) hf, Nat.le_trans (Nat.le_of_ble_eq_true rfl) hl⟩ ⟨Nat.le_trans (Nat.add_le_add_left (Nat.le_of_ble_eq_true rfl) k) hk.1, Nat.le_trans (Nat.add_le_add_left (Nat.le_of_ble_eq_true rfl) n0) hk.2⟩ rfl (Nat.le_of_ble_eq_true rfl) dL_law_669) (fun r1 u1 hp1 => ?_)
  rcases hp1 with ⟨hcd, rfl, hC, hV, hq⟩ | ⟨c1, hc0, hcd, rfl, rfl⟩
  · skip
    have hM1 := hM.keep (fun j h1 h2 => hq j h1 h2)
    refine r_istore (lv' := [(0, .ref b), (1, .ref (g.2.1 0)), (2, .ref (g.2.1 61)), (3, .ref (g.2.1 69)), (4, .int (nI i)), (5, .int 0)]) F (by decide) rfl dL_law_672 ?_
    refine r_aload_n F 2 rfl dL_law_674 ?_
    refine r_calli (g_V (C := RX4) (T := TX4) (N := 14) (nA := 0) (As := []) (rest := []) F 61 (by obtain ⟨Z9, S9, F9, h9, -⟩ := hM1; exact h9.1) (by decide) rfl (c_X4_undo hM1) gL_law_X4_undo rfl (by decide +kernel) rfl ⟨Nat.le_trans (Nat.le_of_ble_eq_true rfl) hf, Nat.le_trans (Nat.le_of_ble_eq_true rfl) hl⟩ ⟨Nat.le_trans (Nat.add_le_add_left (Nat.le_of_ble_eq_true rfl) k) hk.1, Nat.le_trans (Nat.add_le_add_left (Nat.le_of_ble_eq_true rfl) n0) hk.2⟩ rfl (Nat.le_of_ble_eq_true rfl) dL_law_675) (fun r2 u2 hp2 => ?_)
    obtain ⟨hp2, hq2⟩ := hp2
    rcases hp2 with ⟨-, rfl, hX⟩ | ⟨c2, h2, h3, -⟩
    · skip
      refine r_istore (lv' := [(0, .ref b), (1, .ref (g.2.1 0)), (2, .ref (g.2.1 61)), (3, .ref (g.2.1 69)), (4, .int (nI i)), (5, .int 0), (6, .int (nI (m - 1)))]) F (by decide) rfl dL_law_678 ?_
      refine r_aload_n F 2 rfl dL_law_680 ?_
      refine r_calli (g_V (C := RX4) (T := TX4) (N := 14) (nA := 0) (As := []) (rest := []) F 61 (by obtain ⟨Z9, S9, F9, h9, -⟩ := hX; exact h9.1) (by decide) rfl (c_X4_thrown hX) gL_law_X4_thrown rfl (by decide +kernel) rfl ⟨Nat.le_trans (Nat.le_of_ble_eq_true rfl) hf, Nat.le_trans (Nat.le_of_ble_eq_true rfl) hl⟩ ⟨Nat.le_trans (Nat.add_le_add_left (Nat.le_of_ble_eq_true rfl) k) hk.1, Nat.le_trans (Nat.add_le_add_left (Nat.le_of_ble_eq_true rfl) n0) hk.2⟩ rfl (Nat.le_of_ble_eq_true rfl) dL_law_681) (fun r3 u3 hp3 => ?_)
      obtain ⟨rfl, rfl⟩ := hp3
      obtain ⟨fo, hO1, hO2⟩ := hV
      have hO3 : u2 69 = .inl (g.2.2.1 3, 1, .inr (.inl fo)) := (hq2 69 (by omega)).trans hO1
      refine r_iload F 5 rfl dL_law_684 ?_
      refine r_icmp_eq F 691 (by decide) dL_law_686 (fun c_686_1 => ?_) (fun c_686_1 => absurd c_686_1 (by decide))
      clear c_686_1
      refine r_iload F 5 rfl dL_law_691 ?_
      refine r_if_ne F 708 (by decide) dL_law_693 (fun c_693_2 => absurd c_693_2 (by decide)) (fun c_693_2 => ?_)
      clear c_693_2
      refine r_aload_n F 3 rfl dL_law_696 ?_
      refine r_iconst (v := 0) F (by decide) dL_law_697 ?_
      refine r_lald F 69 hO3 (by decide) (vp_in_nI (n := 0) (by decide) (by decide)) dL_law_698 ?_
      refine r_iload F 6 rfl dL_law_699 ?_
      refine r_i2l F rfl dL_law_701 ?_
      refine r_lcmp F dL_law_702 ?_
      refine r_if_eq F 708 (by decide) dL_law_703 (fun c_703_3 => ?_) (fun c_703_3 => absurd (by show lg_cmp (fo ((0 : Int32).toNatClampNeg)) _ = 0; rw [show fo ((0 : Int32).toNatClampNeg) = _ from hO2]; exact lg_cmp0 _) c_703_3)
      clear c_703_3
      refine r_goto F 1064 (by decide) dL_law_708 ?_
      refine r_lv (lv2 := [(0, .ref b), (1, .ref (g.2.1 0)), (2, .ref (g.2.1 61)), (3, .ref (g.2.1 69)), (4, .int (nI i))]) (by simp) ?_
      exact r_widen (by show _ ≤ k + 4; simp) (by show _ ≤ n0 + 24; simp) (kk _ ⟨_, _, _, _, _, _, _, _, _, _, _, _, _, _, _, hC.keep (fun j hj => hq2 j (by omega)), hX, (hws (m - 1) (by unfold cdUndo at hcd; split at hcd; cases hcd; omega)), (fun k hk => hws k (by omega)), OutV.r ⟨fo, hO3, hO2⟩⟩)
    · exact absurd (h3.symm.trans hcd) (by omega)
  · skip
    have hM1 := hM
    have hc3 : c1 ≤ 3 := by rw [← hcd]; unfold cdUndo; (repeat' split) <;> decide
    refine r_istore (lv' := [(0, .ref b), (1, .ref (g.2.1 0)), (2, .ref (g.2.1 61)), (3, .ref (g.2.1 69)), (4, .int (nI i)), (5, .int (nI c1))]) F (by decide) rfl dL_law_672 ?_
    refine r_aload_n F 2 rfl dL_law_674 ?_
    refine r_calli (g_V (C := RX4) (T := TX4) (N := 14) (nA := 0) (As := []) (rest := []) F 61 (by obtain ⟨Z9, S9, F9, h9, -⟩ := hM1; exact h9.1) (by decide) rfl (c_X4_undo hM1) gL_law_X4_undo rfl (by decide +kernel) rfl ⟨Nat.le_trans (Nat.le_of_ble_eq_true rfl) hf, Nat.le_trans (Nat.le_of_ble_eq_true rfl) hl⟩ ⟨Nat.le_trans (Nat.add_le_add_left (Nat.le_of_ble_eq_true rfl) k) hk.1, Nat.le_trans (Nat.add_le_add_left (Nat.le_of_ble_eq_true rfl) n0) hk.2⟩ rfl (Nat.le_of_ble_eq_true rfl) dL_law_675) (fun r2 u2 hp2 => ?_)
    obtain ⟨hp2, hq2⟩ := hp2
    rcases hp2 with ⟨h3, -⟩ | ⟨c2, h2, h3, hX⟩
    · exact absurd (hcd.symm.trans h3) (by omega)
    · skip
      obtain rfl : c1 = c2 := hcd.symm.trans h3
      refine r_istore (lv' := [(0, .ref b), (1, .ref (g.2.1 0)), (2, .ref (g.2.1 61)), (3, .ref (g.2.1 69)), (4, .int (nI i)), (5, .int (nI c1)), (6, .int r2)]) F (by decide) rfl dL_law_678 ?_
      refine r_aload_n F 2 rfl dL_law_680 ?_
      refine r_calli (g_V (C := RX4) (T := TX4) (N := 14) (nA := 0) (As := []) (rest := []) F 61 (by obtain ⟨Z9, S9, F9, h9, -⟩ := hX; exact h9.1) (by decide) rfl (c_X4_thrown hX) gL_law_X4_thrown rfl (by decide +kernel) rfl ⟨Nat.le_trans (Nat.le_of_ble_eq_true rfl) hf, Nat.le_trans (Nat.le_of_ble_eq_true rfl) hl⟩ ⟨Nat.le_trans (Nat.add_le_add_left (Nat.le_of_ble_eq_true rfl) k) hk.1, Nat.le_trans (Nat.add_le_add_left (Nat.le_of_ble_eq_true rfl) n0) hk.2⟩ rfl (Nat.le_of_ble_eq_true rfl) dL_law_681) (fun r3 u3 hp3 => ?_)
      obtain ⟨rfl, rfl⟩ := hp3
      refine r_iload F 5 rfl dL_law_684 ?_
      refine r_icmp_eq F 691 (by decide) dL_law_686 (fun c_686_4 => ?_) (fun c_686_4 => absurd rfl c_686_4)
      clear c_686_4
      refine r_iload F 5 rfl dL_law_691 ?_
      refine r_if_ne F 708 (by decide) dL_law_693 (fun c_693_5 => ?_) (fun c_693_5 => absurd c_693_5 (fun q => by have z := (nI_eq (b := 0) (by omega) (by decide)).mp q; omega))
      clear c_693_5
      refine r_goto F 1064 (by decide) dL_law_708 ?_
      refine r_lv (lv2 := [(0, .ref b), (1, .ref (g.2.1 0)), (2, .ref (g.2.1 61)), (3, .ref (g.2.1 69)), (4, .int (nI i))]) (by simp) ?_
      exact r_widen (by show _ ≤ k + 4; simp) (by show _ ≤ n0 + 24; simp) (kk _ ⟨_, _, _, _, _, _, _, _, _, _, _, _, _, _, _, hc.keep (fun j hj => hq2 j (by omega)), hX, hwf, hws, hO.keep hq2⟩)
set_option maxHeartbeats 4000000 in
set_option maxRecDepth 100000 in
theorem op_box {g : kG} {X : kX} {ret : Option FieldType} {rm0 : Room} {b L i k n0 : Nat} {xs : Nat → Int32} {u : Nat → va_E} (hfl : X.2.1.stackTraces = false) (F : Fx g X cL_law 9 ret wsL_law RL rm0) (T : Sx g X b L xs) (hi : i + 4 ≤ L) (hL : L ≤ 2048) (hf : 10 ≤ rm0.frames) (hl : 300 ≤ rm0.locals) (hk : k + 4 ≤ rm0.cells ∧ n0 + 24 ≤ rm0.slots) (I : Inv g u) (kk : ∀ u', Inv g u' → VL g X (k + 4) (n0 + 24) u' 1064 [(0, .ref b), (1, .ref (g.2.1 0)), (2, .ref (g.2.1 61)), (3, .ref (g.2.1 69)), (4, .int (nI i))] []) : VL g X k n0 u 711 [(0, .ref b), (1, .ref (g.2.1 0)), (2, .ref (g.2.1 61)), (3, .ref (g.2.1 69)), (4, .int (nI i))] [] := by
  obtain ⟨n, B, m, S, t, C, th, rm, sp, wr, hs, VA, RD, CH, WE, hc, hM, hwf, hws, hO⟩ := I
  have hm6 := hM.m6
  refine r_aload_n F 1 rfl dL_law_711 ?_
  refine r_aload_n F 0 rfl dL_law_712 ?_
  refine r_iload F 4 rfl dL_law_713 ?_
  refine r_iconst (v := 1) F (by decide) dL_law_715 ?_
  refine r_iadd F dL_law_716 ?_
  refine r_sld F T (by rw [nI_1]; exact vp_in_nI (by omega) (by omega)) dL_law_717 ?_
  refine r_eq (st2 := [.int (xs (i + 1)), .ref (g.2.1 0)]) (by rw [nI_1, nI_clamp (by omega)]) rfl ?_
  refine r_aload_n F 0 rfl dL_law_718 ?_
  refine r_iload F 4 rfl dL_law_719 ?_
  refine r_iconst (v := 2) F (by decide) dL_law_721 ?_
  refine r_iadd F dL_law_722 ?_
  refine r_sld F T (by rw [show (2 : Int32) = nI 2 from rfl, nI_add]; exact vp_in_nI (by omega) (by omega)) dL_law_723 ?_
  refine r_eq (st2 := [.int (xs (i + 2)), .int (xs (i + 1)), .ref (g.2.1 0)]) (by rw [show (2 : Int32) = nI 2 from rfl, nI_add, nI_clamp (by omega)]) rfl ?_
  refine r_aload_n F 3 rfl dL_law_724 ?_
  refine r_calli (g_CS (nA := 4) (As := [.ref (g.2.1 0), .int (xs (i + 1)), .int (xs (i + 2)), .ref (g.2.1 69)]) (rest := []) F T (c_L_box hfl hc hO) gL_law_L_box rfl (by decide +kernel) rfl ⟨Nat.le_trans (Nat.le_of_ble_eq_true rfl) hf, Nat.le_trans (Nat.le_of_ble_eq_true rfl) hl⟩ ⟨Nat.le_trans (Nat.add_le_add_left (Nat.le_of_ble_eq_true rfl) k) hk.1, Nat.le_trans (Nat.add_le_add_left (Nat.le_of_ble_eq_true rfl) n0) hk.2⟩ rfl (Nat.le_of_ble_eq_true rfl) dL_law_725) (fun r1 u1 hp1 => ?_)
  rcases hp1 with ⟨hcd, rfl, hC, hV, hq⟩ | ⟨c1, hc0, hcd, rfl, rfl⟩
  · skip
    have hM1 := hM.keep (fun j h1 h2 => hq j h1 h2)
    refine r_istore (lv' := [(0, .ref b), (1, .ref (g.2.1 0)), (2, .ref (g.2.1 61)), (3, .ref (g.2.1 69)), (4, .int (nI i)), (5, .int 0)]) F (by decide) rfl dL_law_728 ?_
    refine r_aload_n F 2 rfl dL_law_730 ?_
    refine r_aload_n F 0 rfl dL_law_731 ?_
    refine r_iload F 4 rfl dL_law_732 ?_
    refine r_iconst (v := 1) F (by decide) dL_law_734 ?_
    refine r_iadd F dL_law_735 ?_
    refine r_sld F T (by rw [nI_1]; exact vp_in_nI (by omega) (by omega)) dL_law_736 ?_
    refine r_eq (st2 := [.int (xs (i + 1)), .ref (g.2.1 61)]) (by rw [nI_1, nI_clamp (by omega)]) rfl ?_
    refine r_aload_n F 0 rfl dL_law_737 ?_
    refine r_iload F 4 rfl dL_law_738 ?_
    refine r_iconst (v := 2) F (by decide) dL_law_740 ?_
    refine r_iadd F dL_law_741 ?_
    refine r_sld F T (by rw [show (2 : Int32) = nI 2 from rfl, nI_add]; exact vp_in_nI (by omega) (by omega)) dL_law_742 ?_
    refine r_eq (st2 := [.int (xs (i + 2)), .int (xs (i + 1)), .ref (g.2.1 61)]) (by rw [show (2 : Int32) = nI 2 from rfl, nI_add, nI_clamp (by omega)]) rfl ?_
    refine r_calli (g_V (C := RX4) (T := TX4) (N := 14) (nA := 2) (As := [.int (xs (i + 1)), .int (xs (i + 2))]) (rest := []) F 61 (by obtain ⟨Z9, S9, F9, h9, -⟩ := hM1; exact h9.1) (by decide) rfl (c_X4_box hM1 hwf) gL_law_X4_box rfl (by decide +kernel) rfl ⟨Nat.le_trans (Nat.le_of_ble_eq_true rfl) hf, Nat.le_trans (Nat.le_of_ble_eq_true rfl) hl⟩ ⟨Nat.le_trans (Nat.add_le_add_left (Nat.le_of_ble_eq_true rfl) k) hk.1, Nat.le_trans (Nat.add_le_add_left (Nat.le_of_ble_eq_true rfl) n0) hk.2⟩ rfl (Nat.le_of_ble_eq_true rfl) dL_law_743) (fun r2 u2 hp2 => ?_)
    obtain ⟨hp2, hq2⟩ := hp2
    rcases hp2 with ⟨-, rfl, hX⟩ | ⟨c2, h2, h3, -⟩
    · skip
      obtain ⟨VA2, hX⟩ := hX
      refine r_istore (lv' := [(0, .ref b), (1, .ref (g.2.1 0)), (2, .ref (g.2.1 61)), (3, .ref (g.2.1 69)), (4, .int (nI i)), (5, .int 0), (6, .int (tB B (opm B n) (xs (i + 1)).toNatClampNeg (xs (i + 2))))]) F (by decide) rfl dL_law_746 ?_
      refine r_aload_n F 2 rfl dL_law_748 ?_
      refine r_calli (g_V (C := RX4) (T := TX4) (N := 14) (nA := 0) (As := []) (rest := []) F 61 (by obtain ⟨Z9, S9, F9, h9, -⟩ := hX; exact h9.1) (by decide) rfl (c_X4_thrown hX) gL_law_X4_thrown rfl (by decide +kernel) rfl ⟨Nat.le_trans (Nat.le_of_ble_eq_true rfl) hf, Nat.le_trans (Nat.le_of_ble_eq_true rfl) hl⟩ ⟨Nat.le_trans (Nat.add_le_add_left (Nat.le_of_ble_eq_true rfl) k) hk.1, Nat.le_trans (Nat.add_le_add_left (Nat.le_of_ble_eq_true rfl) n0) hk.2⟩ rfl (Nat.le_of_ble_eq_true rfl) dL_law_749) (fun r3 u3 hp3 => ?_)
      obtain ⟨rfl, rfl⟩ := hp3
      obtain ⟨fo, hO1, hO2⟩ := hV
      have hO3 : u2 69 = .inl (g.2.2.1 3, 1, .inr (.inl fo)) := (hq2 69 (by omega)).trans hO1
      refine r_iload F 5 rfl dL_law_752 ?_
      refine r_icmp_eq F 759 (by decide) dL_law_754 (fun c_754_1 => ?_) (fun c_754_1 => absurd c_754_1 (by decide))
      clear c_754_1
      refine r_iload F 5 rfl dL_law_759 ?_
      refine r_if_ne F 776 (by decide) dL_law_761 (fun c_761_2 => absurd c_761_2 (by decide)) (fun c_761_2 => ?_)
      clear c_761_2
      refine r_aload_n F 3 rfl dL_law_764 ?_
      refine r_iconst (v := 0) F (by decide) dL_law_765 ?_
      refine r_lald F 69 hO3 (by decide) (vp_in_nI (n := 0) (by decide) (by decide)) dL_law_766 ?_
      refine r_iload F 6 rfl dL_law_767 ?_
      refine r_i2l F rfl dL_law_769 ?_
      refine r_lcmp F dL_law_770 ?_
      refine r_if_eq F 776 (by decide) dL_law_771 (fun c_771_3 => ?_) (fun c_771_3 => absurd (by show lg_cmp (fo ((0 : Int32).toNatClampNeg)) _ = 0; rw [show fo ((0 : Int32).toNatClampNeg) = _ from hO2]; exact lg_cmp0 _) c_771_3)
      clear c_771_3
      refine r_goto F 1064 (by decide) dL_law_776 ?_
      refine r_lv (lv2 := [(0, .ref b), (1, .ref (g.2.1 0)), (2, .ref (g.2.1 61)), (3, .ref (g.2.1 69)), (4, .int (nI i))]) (by simp) ?_
      exact r_widen (by show _ ≤ k + 4; simp) (by show _ ≤ n0 + 24; simp) (kk _ ⟨_, _, _, _, _, _, _, _, _, _, _, _, _, _, _, hC.keep (fun j hj => hq2 j (by omega)), hX, hwf, hws, OutV.r ⟨fo, hO3, hO2⟩⟩)
    · exact absurd (h3.symm.trans hcd) (by omega)
  · skip
    have hM1 := hM
    have hc3 : c1 ≤ 3 := by rw [← hcd]; unfold cdBox; (repeat' split) <;> decide
    refine r_istore (lv' := [(0, .ref b), (1, .ref (g.2.1 0)), (2, .ref (g.2.1 61)), (3, .ref (g.2.1 69)), (4, .int (nI i)), (5, .int (nI c1))]) F (by decide) rfl dL_law_728 ?_
    refine r_aload_n F 2 rfl dL_law_730 ?_
    refine r_aload_n F 0 rfl dL_law_731 ?_
    refine r_iload F 4 rfl dL_law_732 ?_
    refine r_iconst (v := 1) F (by decide) dL_law_734 ?_
    refine r_iadd F dL_law_735 ?_
    refine r_sld F T (by rw [nI_1]; exact vp_in_nI (by omega) (by omega)) dL_law_736 ?_
    refine r_eq (st2 := [.int (xs (i + 1)), .ref (g.2.1 61)]) (by rw [nI_1, nI_clamp (by omega)]) rfl ?_
    refine r_aload_n F 0 rfl dL_law_737 ?_
    refine r_iload F 4 rfl dL_law_738 ?_
    refine r_iconst (v := 2) F (by decide) dL_law_740 ?_
    refine r_iadd F dL_law_741 ?_
    refine r_sld F T (by rw [show (2 : Int32) = nI 2 from rfl, nI_add]; exact vp_in_nI (by omega) (by omega)) dL_law_742 ?_
    refine r_eq (st2 := [.int (xs (i + 2)), .int (xs (i + 1)), .ref (g.2.1 61)]) (by rw [show (2 : Int32) = nI 2 from rfl, nI_add, nI_clamp (by omega)]) rfl ?_
    refine r_calli (g_V (C := RX4) (T := TX4) (N := 14) (nA := 2) (As := [.int (xs (i + 1)), .int (xs (i + 2))]) (rest := []) F 61 (by obtain ⟨Z9, S9, F9, h9, -⟩ := hM1; exact h9.1) (by decide) rfl (c_X4_box hM1 hwf) gL_law_X4_box rfl (by decide +kernel) rfl ⟨Nat.le_trans (Nat.le_of_ble_eq_true rfl) hf, Nat.le_trans (Nat.le_of_ble_eq_true rfl) hl⟩ ⟨Nat.le_trans (Nat.add_le_add_left (Nat.le_of_ble_eq_true rfl) k) hk.1, Nat.le_trans (Nat.add_le_add_left (Nat.le_of_ble_eq_true rfl) n0) hk.2⟩ rfl (Nat.le_of_ble_eq_true rfl) dL_law_743) (fun r2 u2 hp2 => ?_)
    obtain ⟨hp2, hq2⟩ := hp2
    rcases hp2 with ⟨h3, -⟩ | ⟨c2, h2, h3, hX⟩
    · exact absurd (hcd.symm.trans h3) (by omega)
    · skip
      obtain rfl : c1 = c2 := hcd.symm.trans h3
      refine r_istore (lv' := [(0, .ref b), (1, .ref (g.2.1 0)), (2, .ref (g.2.1 61)), (3, .ref (g.2.1 69)), (4, .int (nI i)), (5, .int (nI c1)), (6, .int r2)]) F (by decide) rfl dL_law_746 ?_
      refine r_aload_n F 2 rfl dL_law_748 ?_
      refine r_calli (g_V (C := RX4) (T := TX4) (N := 14) (nA := 0) (As := []) (rest := []) F 61 (by obtain ⟨Z9, S9, F9, h9, -⟩ := hX; exact h9.1) (by decide) rfl (c_X4_thrown hX) gL_law_X4_thrown rfl (by decide +kernel) rfl ⟨Nat.le_trans (Nat.le_of_ble_eq_true rfl) hf, Nat.le_trans (Nat.le_of_ble_eq_true rfl) hl⟩ ⟨Nat.le_trans (Nat.add_le_add_left (Nat.le_of_ble_eq_true rfl) k) hk.1, Nat.le_trans (Nat.add_le_add_left (Nat.le_of_ble_eq_true rfl) n0) hk.2⟩ rfl (Nat.le_of_ble_eq_true rfl) dL_law_749) (fun r3 u3 hp3 => ?_)
      obtain ⟨rfl, rfl⟩ := hp3
      refine r_iload F 5 rfl dL_law_752 ?_
      refine r_icmp_eq F 759 (by decide) dL_law_754 (fun c_754_4 => ?_) (fun c_754_4 => absurd rfl c_754_4)
      clear c_754_4
      refine r_iload F 5 rfl dL_law_759 ?_
      refine r_if_ne F 776 (by decide) dL_law_761 (fun c_761_5 => ?_) (fun c_761_5 => absurd c_761_5 (fun q => by have z := (nI_eq (b := 0) (by omega) (by decide)).mp q; omega))
      clear c_761_5
      refine r_goto F 1064 (by decide) dL_law_776 ?_
      refine r_lv (lv2 := [(0, .ref b), (1, .ref (g.2.1 0)), (2, .ref (g.2.1 61)), (3, .ref (g.2.1 69)), (4, .int (nI i))]) (by simp) ?_
      exact r_widen (by show _ ≤ k + 4; simp) (by show _ ≤ n0 + 24; simp) (kk _ ⟨_, _, _, _, _, _, _, _, _, _, _, _, _, _, _, hc.keep (fun j hj => hq2 j (by omega)), hX, hwf, hws, hO.keep hq2⟩)
set_option maxHeartbeats 4000000 in
set_option maxRecDepth 100000 in
theorem op_part {g : kG} {X : kX} {ret : Option FieldType} {rm0 : Room} {b L i k n0 : Nat} {xs : Nat → Int32} {u : Nat → va_E} (hfl : X.2.1.stackTraces = false) (F : Fx g X cL_law 9 ret wsL_law RL rm0) (T : Sx g X b L xs) (hi : i + 4 ≤ L) (hL : L ≤ 2048) (hf : 10 ≤ rm0.frames) (hl : 300 ≤ rm0.locals) (hk : k + 4 ≤ rm0.cells ∧ n0 + 24 ≤ rm0.slots) (I : Inv g u) (kk : ∀ u', Inv g u' → VL g X (k + 4) (n0 + 24) u' 1064 [(0, .ref b), (1, .ref (g.2.1 0)), (2, .ref (g.2.1 61)), (3, .ref (g.2.1 69)), (4, .int (nI i))] []) : VL g X k n0 u 779 [(0, .ref b), (1, .ref (g.2.1 0)), (2, .ref (g.2.1 61)), (3, .ref (g.2.1 69)), (4, .int (nI i))] [] := by
  obtain ⟨n, B, m, S, t, C, th, rm, sp, wr, hs, VA, RD, CH, WE, hc, hM, hwf, hws, hO⟩ := I
  have hm6 := hM.m6
  refine r_aload_n F 1 rfl dL_law_779 ?_
  refine r_aload_n F 0 rfl dL_law_780 ?_
  refine r_iload F 4 rfl dL_law_781 ?_
  refine r_iconst (v := 1) F (by decide) dL_law_783 ?_
  refine r_iadd F dL_law_784 ?_
  refine r_sld F T (by rw [nI_1]; exact vp_in_nI (by omega) (by omega)) dL_law_785 ?_
  refine r_eq (st2 := [.int (xs (i + 1)), .ref (g.2.1 0)]) (by rw [nI_1, nI_clamp (by omega)]) rfl ?_
  refine r_aload_n F 0 rfl dL_law_786 ?_
  refine r_iload F 4 rfl dL_law_787 ?_
  refine r_iconst (v := 2) F (by decide) dL_law_789 ?_
  refine r_iadd F dL_law_790 ?_
  refine r_sld F T (by rw [show (2 : Int32) = nI 2 from rfl, nI_add]; exact vp_in_nI (by omega) (by omega)) dL_law_791 ?_
  refine r_eq (st2 := [.int (xs (i + 2)), .int (xs (i + 1)), .ref (g.2.1 0)]) (by rw [show (2 : Int32) = nI 2 from rfl, nI_add, nI_clamp (by omega)]) rfl ?_
  refine r_aload_n F 3 rfl dL_law_792 ?_
  refine r_calli (g_CS (nA := 4) (As := [.ref (g.2.1 0), .int (xs (i + 1)), .int (xs (i + 2)), .ref (g.2.1 69)]) (rest := []) F T (c_L_part hfl hc hO) gL_law_L_part rfl (by decide +kernel) rfl ⟨Nat.le_trans (Nat.le_of_ble_eq_true rfl) hf, Nat.le_trans (Nat.le_of_ble_eq_true rfl) hl⟩ ⟨Nat.le_trans (Nat.add_le_add_left (Nat.le_of_ble_eq_true rfl) k) hk.1, Nat.le_trans (Nat.add_le_add_left (Nat.le_of_ble_eq_true rfl) n0) hk.2⟩ rfl (Nat.le_of_ble_eq_true rfl) dL_law_793) (fun r1 u1 hp1 => ?_)
  rcases hp1 with ⟨hcd, rfl, hC, hV, hq⟩ | ⟨c1, hc0, hcd, rfl, rfl⟩
  · skip
    have hM1 := hM.keep (fun j h1 h2 => hq j h1 h2)
    refine r_istore (lv' := [(0, .ref b), (1, .ref (g.2.1 0)), (2, .ref (g.2.1 61)), (3, .ref (g.2.1 69)), (4, .int (nI i)), (5, .int 0)]) F (by decide) rfl dL_law_796 ?_
    refine r_aload_n F 2 rfl dL_law_798 ?_
    refine r_aload_n F 0 rfl dL_law_799 ?_
    refine r_iload F 4 rfl dL_law_800 ?_
    refine r_iconst (v := 1) F (by decide) dL_law_802 ?_
    refine r_iadd F dL_law_803 ?_
    refine r_sld F T (by rw [nI_1]; exact vp_in_nI (by omega) (by omega)) dL_law_804 ?_
    refine r_eq (st2 := [.int (xs (i + 1)), .ref (g.2.1 61)]) (by rw [nI_1, nI_clamp (by omega)]) rfl ?_
    refine r_aload_n F 0 rfl dL_law_805 ?_
    refine r_iload F 4 rfl dL_law_806 ?_
    refine r_iconst (v := 2) F (by decide) dL_law_808 ?_
    refine r_iadd F dL_law_809 ?_
    refine r_sld F T (by rw [show (2 : Int32) = nI 2 from rfl, nI_add]; exact vp_in_nI (by omega) (by omega)) dL_law_810 ?_
    refine r_eq (st2 := [.int (xs (i + 2)), .int (xs (i + 1)), .ref (g.2.1 61)]) (by rw [show (2 : Int32) = nI 2 from rfl, nI_add, nI_clamp (by omega)]) rfl ?_
    refine r_calli (g_V (C := RX4) (T := TX4) (N := 14) (nA := 2) (As := [.int (xs (i + 1)), .int (xs (i + 2))]) (rest := []) F 61 (by obtain ⟨Z9, S9, F9, h9, -⟩ := hM1; exact h9.1) (by decide) rfl (c_X4_part hM1) gL_law_X4_part rfl (by decide +kernel) rfl ⟨Nat.le_trans (Nat.le_of_ble_eq_true rfl) hf, Nat.le_trans (Nat.le_of_ble_eq_true rfl) hl⟩ ⟨Nat.le_trans (Nat.add_le_add_left (Nat.le_of_ble_eq_true rfl) k) hk.1, Nat.le_trans (Nat.add_le_add_left (Nat.le_of_ble_eq_true rfl) n0) hk.2⟩ rfl (Nat.le_of_ble_eq_true rfl) dL_law_811) (fun r2 u2 hp2 => ?_)
    obtain ⟨hp2, hq2⟩ := hp2
    rcases hp2 with ⟨-, rfl, hX⟩ | ⟨c2, h2, h3, -⟩
    · skip
      refine r_istore (lv' := [(0, .ref b), (1, .ref (g.2.1 0)), (2, .ref (g.2.1 61)), (3, .ref (g.2.1 69)), (4, .int (nI i)), (5, .int 0), (6, .int (tP B n (opm B n) (xs (i + 1)) (xs (i + 2))))]) F (by decide) rfl dL_law_814 ?_
      refine r_aload_n F 2 rfl dL_law_816 ?_
      refine r_calli (g_V (C := RX4) (T := TX4) (N := 14) (nA := 0) (As := []) (rest := []) F 61 (by obtain ⟨Z9, S9, F9, h9, -⟩ := hX; exact h9.1) (by decide) rfl (c_X4_thrown hX) gL_law_X4_thrown rfl (by decide +kernel) rfl ⟨Nat.le_trans (Nat.le_of_ble_eq_true rfl) hf, Nat.le_trans (Nat.le_of_ble_eq_true rfl) hl⟩ ⟨Nat.le_trans (Nat.add_le_add_left (Nat.le_of_ble_eq_true rfl) k) hk.1, Nat.le_trans (Nat.add_le_add_left (Nat.le_of_ble_eq_true rfl) n0) hk.2⟩ rfl (Nat.le_of_ble_eq_true rfl) dL_law_817) (fun r3 u3 hp3 => ?_)
      obtain ⟨rfl, rfl⟩ := hp3
      obtain ⟨fo, hO1, hO2⟩ := hV
      have hO3 : u2 69 = .inl (g.2.2.1 3, 1, .inr (.inl fo)) := (hq2 69 (by omega)).trans hO1
      refine r_iload F 5 rfl dL_law_820 ?_
      refine r_icmp_eq F 827 (by decide) dL_law_822 (fun c_822_1 => ?_) (fun c_822_1 => absurd c_822_1 (by decide))
      clear c_822_1
      refine r_iload F 5 rfl dL_law_827 ?_
      refine r_if_ne F 844 (by decide) dL_law_829 (fun c_829_2 => absurd c_829_2 (by decide)) (fun c_829_2 => ?_)
      clear c_829_2
      refine r_aload_n F 3 rfl dL_law_832 ?_
      refine r_iconst (v := 0) F (by decide) dL_law_833 ?_
      refine r_lald F 69 hO3 (by decide) (vp_in_nI (n := 0) (by decide) (by decide)) dL_law_834 ?_
      refine r_iload F 6 rfl dL_law_835 ?_
      refine r_i2l F rfl dL_law_837 ?_
      refine r_lcmp F dL_law_838 ?_
      refine r_if_eq F 844 (by decide) dL_law_839 (fun c_839_3 => ?_) (fun c_839_3 => absurd (by show lg_cmp (fo ((0 : Int32).toNatClampNeg)) _ = 0; rw [show fo ((0 : Int32).toNatClampNeg) = _ from hO2]; exact lg_cmp0 _) c_839_3)
      clear c_839_3
      refine r_goto F 1064 (by decide) dL_law_844 ?_
      refine r_lv (lv2 := [(0, .ref b), (1, .ref (g.2.1 0)), (2, .ref (g.2.1 61)), (3, .ref (g.2.1 69)), (4, .int (nI i))]) (by simp) ?_
      exact r_widen (by show _ ≤ k + 4; simp) (by show _ ≤ n0 + 24; simp) (kk _ ⟨_, _, _, _, _, _, _, _, _, _, _, _, _, _, _, hC.keep (fun j hj => hq2 j (by omega)), hX, hwf, hws, OutV.r ⟨fo, hO3, hO2⟩⟩)
    · exact absurd (h3.symm.trans hcd) (by omega)
  · skip
    have hM1 := hM
    have hc3 : c1 ≤ 3 := by rw [← hcd]; unfold cdPart; (repeat' split) <;> decide
    refine r_istore (lv' := [(0, .ref b), (1, .ref (g.2.1 0)), (2, .ref (g.2.1 61)), (3, .ref (g.2.1 69)), (4, .int (nI i)), (5, .int (nI c1))]) F (by decide) rfl dL_law_796 ?_
    refine r_aload_n F 2 rfl dL_law_798 ?_
    refine r_aload_n F 0 rfl dL_law_799 ?_
    refine r_iload F 4 rfl dL_law_800 ?_
    refine r_iconst (v := 1) F (by decide) dL_law_802 ?_
    refine r_iadd F dL_law_803 ?_
    refine r_sld F T (by rw [nI_1]; exact vp_in_nI (by omega) (by omega)) dL_law_804 ?_
    refine r_eq (st2 := [.int (xs (i + 1)), .ref (g.2.1 61)]) (by rw [nI_1, nI_clamp (by omega)]) rfl ?_
    refine r_aload_n F 0 rfl dL_law_805 ?_
    refine r_iload F 4 rfl dL_law_806 ?_
    refine r_iconst (v := 2) F (by decide) dL_law_808 ?_
    refine r_iadd F dL_law_809 ?_
    refine r_sld F T (by rw [show (2 : Int32) = nI 2 from rfl, nI_add]; exact vp_in_nI (by omega) (by omega)) dL_law_810 ?_
    refine r_eq (st2 := [.int (xs (i + 2)), .int (xs (i + 1)), .ref (g.2.1 61)]) (by rw [show (2 : Int32) = nI 2 from rfl, nI_add, nI_clamp (by omega)]) rfl ?_
    refine r_calli (g_V (C := RX4) (T := TX4) (N := 14) (nA := 2) (As := [.int (xs (i + 1)), .int (xs (i + 2))]) (rest := []) F 61 (by obtain ⟨Z9, S9, F9, h9, -⟩ := hM1; exact h9.1) (by decide) rfl (c_X4_part hM1) gL_law_X4_part rfl (by decide +kernel) rfl ⟨Nat.le_trans (Nat.le_of_ble_eq_true rfl) hf, Nat.le_trans (Nat.le_of_ble_eq_true rfl) hl⟩ ⟨Nat.le_trans (Nat.add_le_add_left (Nat.le_of_ble_eq_true rfl) k) hk.1, Nat.le_trans (Nat.add_le_add_left (Nat.le_of_ble_eq_true rfl) n0) hk.2⟩ rfl (Nat.le_of_ble_eq_true rfl) dL_law_811) (fun r2 u2 hp2 => ?_)
    obtain ⟨hp2, hq2⟩ := hp2
    rcases hp2 with ⟨h3, -⟩ | ⟨c2, h2, h3, hX⟩
    · exact absurd (hcd.symm.trans h3) (by omega)
    · skip
      obtain rfl : c1 = c2 := hcd.symm.trans h3
      refine r_istore (lv' := [(0, .ref b), (1, .ref (g.2.1 0)), (2, .ref (g.2.1 61)), (3, .ref (g.2.1 69)), (4, .int (nI i)), (5, .int (nI c1)), (6, .int r2)]) F (by decide) rfl dL_law_814 ?_
      refine r_aload_n F 2 rfl dL_law_816 ?_
      refine r_calli (g_V (C := RX4) (T := TX4) (N := 14) (nA := 0) (As := []) (rest := []) F 61 (by obtain ⟨Z9, S9, F9, h9, -⟩ := hX; exact h9.1) (by decide) rfl (c_X4_thrown hX) gL_law_X4_thrown rfl (by decide +kernel) rfl ⟨Nat.le_trans (Nat.le_of_ble_eq_true rfl) hf, Nat.le_trans (Nat.le_of_ble_eq_true rfl) hl⟩ ⟨Nat.le_trans (Nat.add_le_add_left (Nat.le_of_ble_eq_true rfl) k) hk.1, Nat.le_trans (Nat.add_le_add_left (Nat.le_of_ble_eq_true rfl) n0) hk.2⟩ rfl (Nat.le_of_ble_eq_true rfl) dL_law_817) (fun r3 u3 hp3 => ?_)
      obtain ⟨rfl, rfl⟩ := hp3
      refine r_iload F 5 rfl dL_law_820 ?_
      refine r_icmp_eq F 827 (by decide) dL_law_822 (fun c_822_4 => ?_) (fun c_822_4 => absurd rfl c_822_4)
      clear c_822_4
      refine r_iload F 5 rfl dL_law_827 ?_
      refine r_if_ne F 844 (by decide) dL_law_829 (fun c_829_5 => ?_) (fun c_829_5 => absurd c_829_5 (fun q => by have z := (nI_eq (b := 0) (by omega) (by decide)).mp q; omega))
      clear c_829_5
      refine r_goto F 1064 (by decide) dL_law_844 ?_
      refine r_lv (lv2 := [(0, .ref b), (1, .ref (g.2.1 0)), (2, .ref (g.2.1 61)), (3, .ref (g.2.1 69)), (4, .int (nI i))]) (by simp) ?_
      exact r_widen (by show _ ≤ k + 4; simp) (by show _ ≤ n0 + 24; simp) (kk _ ⟨_, _, _, _, _, _, _, _, _, _, _, _, _, _, _, hc.keep (fun j hj => hq2 j (by omega)), hX, hwf, hws, hO.keep hq2⟩)
set_option maxHeartbeats 4000000 in
set_option maxRecDepth 100000 in
theorem op_count {g : kG} {X : kX} {ret : Option FieldType} {rm0 : Room} {b L i k n0 : Nat} {xs : Nat → Int32} {u : Nat → va_E} (hfl : X.2.1.stackTraces = false) (F : Fx g X cL_law 9 ret wsL_law RL rm0) (T : Sx g X b L xs) (hi : i + 4 ≤ L) (hL : L ≤ 2048) (hf : 10 ≤ rm0.frames) (hl : 300 ≤ rm0.locals) (hk : k + 4 ≤ rm0.cells ∧ n0 + 24 ≤ rm0.slots) (I : Inv g u) (kk : ∀ u', Inv g u' → VL g X (k + 4) (n0 + 24) u' 1064 [(0, .ref b), (1, .ref (g.2.1 0)), (2, .ref (g.2.1 61)), (3, .ref (g.2.1 69)), (4, .int (nI i))] []) : VL g X k n0 u 847 [(0, .ref b), (1, .ref (g.2.1 0)), (2, .ref (g.2.1 61)), (3, .ref (g.2.1 69)), (4, .int (nI i))] [] := by
  obtain ⟨n, B, m, S, t, C, th, rm, sp, wr, hs, VA, RD, CH, WE, hc, hM, hwf, hws, hO⟩ := I
  have hm6 := hM.m6
  refine r_aload_n F 1 rfl dL_law_847 ?_
  refine r_aload_n F 0 rfl dL_law_848 ?_
  refine r_iload F 4 rfl dL_law_849 ?_
  refine r_iconst (v := 1) F (by decide) dL_law_851 ?_
  refine r_iadd F dL_law_852 ?_
  refine r_sld F T (by rw [nI_1]; exact vp_in_nI (by omega) (by omega)) dL_law_853 ?_
  refine r_eq (st2 := [.int (xs (i + 1)), .ref (g.2.1 0)]) (by rw [nI_1, nI_clamp (by omega)]) rfl ?_
  refine r_aload_n F 3 rfl dL_law_854 ?_
  refine r_calli (g_CS (nA := 3) (As := [.ref (g.2.1 0), .int (xs (i + 1)), .ref (g.2.1 69)]) (rest := []) F T (c_L_count hfl hc hO) gL_law_L_count rfl (by decide +kernel) rfl ⟨Nat.le_trans (Nat.le_of_ble_eq_true rfl) hf, Nat.le_trans (Nat.le_of_ble_eq_true rfl) hl⟩ ⟨Nat.le_trans (Nat.add_le_add_left (Nat.le_of_ble_eq_true rfl) k) hk.1, Nat.le_trans (Nat.add_le_add_left (Nat.le_of_ble_eq_true rfl) n0) hk.2⟩ rfl (Nat.le_of_ble_eq_true rfl) dL_law_855) (fun r1 u1 hp1 => ?_)
  rcases hp1 with ⟨hcd, rfl, hC, hV, hq⟩ | ⟨c1, hc0, hcd, rfl, rfl⟩
  · skip
    have hM1 := hM.keep (fun j h1 h2 => hq j h1 h2)
    refine r_istore (lv' := [(0, .ref b), (1, .ref (g.2.1 0)), (2, .ref (g.2.1 61)), (3, .ref (g.2.1 69)), (4, .int (nI i)), (5, .int 0)]) F (by decide) rfl dL_law_858 ?_
    refine r_aload_n F 2 rfl dL_law_860 ?_
    refine r_aload_n F 0 rfl dL_law_861 ?_
    refine r_iload F 4 rfl dL_law_862 ?_
    refine r_iconst (v := 1) F (by decide) dL_law_864 ?_
    refine r_iadd F dL_law_865 ?_
    refine r_sld F T (by rw [nI_1]; exact vp_in_nI (by omega) (by omega)) dL_law_866 ?_
    refine r_eq (st2 := [.int (xs (i + 1)), .ref (g.2.1 61)]) (by rw [nI_1, nI_clamp (by omega)]) rfl ?_
    refine r_calli (g_V (C := RX4) (T := TX4) (N := 14) (nA := 1) (As := [.int (xs (i + 1))]) (rest := []) F 61 (by obtain ⟨Z9, S9, F9, h9, -⟩ := hM1; exact h9.1) (by decide) rfl (c_X4_count hM1) gL_law_X4_count rfl (by decide +kernel) rfl ⟨Nat.le_trans (Nat.le_of_ble_eq_true rfl) hf, Nat.le_trans (Nat.le_of_ble_eq_true rfl) hl⟩ ⟨Nat.le_trans (Nat.add_le_add_left (Nat.le_of_ble_eq_true rfl) k) hk.1, Nat.le_trans (Nat.add_le_add_left (Nat.le_of_ble_eq_true rfl) n0) hk.2⟩ rfl (Nat.le_of_ble_eq_true rfl) dL_law_867) (fun r2 u2 hp2 => ?_)
    obtain ⟨hp2, hq2⟩ := hp2
    rcases hp2 with ⟨-, rfl, hX⟩ | ⟨c2, h2, h3, -⟩
    · skip
      refine r_istore (lv' := [(0, .ref b), (1, .ref (g.2.1 0)), (2, .ref (g.2.1 61)), (3, .ref (g.2.1 69)), (4, .int (nI i)), (5, .int 0), (6, .int (tF B n m (opm B n) (xs (i + 1))))]) F (by decide) rfl dL_law_870 ?_
      refine r_aload_n F 2 rfl dL_law_872 ?_
      refine r_calli (g_V (C := RX4) (T := TX4) (N := 14) (nA := 0) (As := []) (rest := []) F 61 (by obtain ⟨Z9, S9, F9, h9, -⟩ := hX; exact h9.1) (by decide) rfl (c_X4_thrown hX) gL_law_X4_thrown rfl (by decide +kernel) rfl ⟨Nat.le_trans (Nat.le_of_ble_eq_true rfl) hf, Nat.le_trans (Nat.le_of_ble_eq_true rfl) hl⟩ ⟨Nat.le_trans (Nat.add_le_add_left (Nat.le_of_ble_eq_true rfl) k) hk.1, Nat.le_trans (Nat.add_le_add_left (Nat.le_of_ble_eq_true rfl) n0) hk.2⟩ rfl (Nat.le_of_ble_eq_true rfl) dL_law_873) (fun r3 u3 hp3 => ?_)
      obtain ⟨rfl, rfl⟩ := hp3
      obtain ⟨fo, hO1, hO2⟩ := hV
      have hO3 : u2 69 = .inl (g.2.2.1 3, 1, .inr (.inl fo)) := (hq2 69 (by omega)).trans hO1
      refine r_iload F 5 rfl dL_law_876 ?_
      refine r_icmp_eq F 883 (by decide) dL_law_878 (fun c_878_1 => ?_) (fun c_878_1 => absurd c_878_1 (by decide))
      clear c_878_1
      refine r_iload F 5 rfl dL_law_883 ?_
      refine r_if_ne F 900 (by decide) dL_law_885 (fun c_885_2 => absurd c_885_2 (by decide)) (fun c_885_2 => ?_)
      clear c_885_2
      refine r_aload_n F 3 rfl dL_law_888 ?_
      refine r_iconst (v := 0) F (by decide) dL_law_889 ?_
      refine r_lald F 69 hO3 (by decide) (vp_in_nI (n := 0) (by decide) (by decide)) dL_law_890 ?_
      refine r_iload F 6 rfl dL_law_891 ?_
      refine r_i2l F rfl dL_law_893 ?_
      refine r_lcmp F dL_law_894 ?_
      refine r_if_eq F 900 (by decide) dL_law_895 (fun c_895_3 => ?_) (fun c_895_3 => absurd (by show lg_cmp (fo ((0 : Int32).toNatClampNeg)) _ = 0; rw [show fo ((0 : Int32).toNatClampNeg) = _ from hO2]; exact lg_cmp0 _) c_895_3)
      clear c_895_3
      refine r_goto F 1064 (by decide) dL_law_900 ?_
      refine r_lv (lv2 := [(0, .ref b), (1, .ref (g.2.1 0)), (2, .ref (g.2.1 61)), (3, .ref (g.2.1 69)), (4, .int (nI i))]) (by simp) ?_
      exact r_widen (by show _ ≤ k + 4; simp) (by show _ ≤ n0 + 24; simp) (kk _ ⟨_, _, _, _, _, _, _, _, _, _, _, _, _, _, _, hC.keep (fun j hj => hq2 j (by omega)), hX, hwf, hws, OutV.r ⟨fo, hO3, hO2⟩⟩)
    · exact absurd (h3.symm.trans hcd) (by omega)
  · skip
    have hM1 := hM
    have hc3 : c1 ≤ 3 := by rw [← hcd]; unfold cdCount; (repeat' split) <;> decide
    refine r_istore (lv' := [(0, .ref b), (1, .ref (g.2.1 0)), (2, .ref (g.2.1 61)), (3, .ref (g.2.1 69)), (4, .int (nI i)), (5, .int (nI c1))]) F (by decide) rfl dL_law_858 ?_
    refine r_aload_n F 2 rfl dL_law_860 ?_
    refine r_aload_n F 0 rfl dL_law_861 ?_
    refine r_iload F 4 rfl dL_law_862 ?_
    refine r_iconst (v := 1) F (by decide) dL_law_864 ?_
    refine r_iadd F dL_law_865 ?_
    refine r_sld F T (by rw [nI_1]; exact vp_in_nI (by omega) (by omega)) dL_law_866 ?_
    refine r_eq (st2 := [.int (xs (i + 1)), .ref (g.2.1 61)]) (by rw [nI_1, nI_clamp (by omega)]) rfl ?_
    refine r_calli (g_V (C := RX4) (T := TX4) (N := 14) (nA := 1) (As := [.int (xs (i + 1))]) (rest := []) F 61 (by obtain ⟨Z9, S9, F9, h9, -⟩ := hM1; exact h9.1) (by decide) rfl (c_X4_count hM1) gL_law_X4_count rfl (by decide +kernel) rfl ⟨Nat.le_trans (Nat.le_of_ble_eq_true rfl) hf, Nat.le_trans (Nat.le_of_ble_eq_true rfl) hl⟩ ⟨Nat.le_trans (Nat.add_le_add_left (Nat.le_of_ble_eq_true rfl) k) hk.1, Nat.le_trans (Nat.add_le_add_left (Nat.le_of_ble_eq_true rfl) n0) hk.2⟩ rfl (Nat.le_of_ble_eq_true rfl) dL_law_867) (fun r2 u2 hp2 => ?_)
    obtain ⟨hp2, hq2⟩ := hp2
    rcases hp2 with ⟨h3, -⟩ | ⟨c2, h2, h3, hX⟩
    · exact absurd (hcd.symm.trans h3) (by omega)
    · skip
      obtain rfl : c1 = c2 := hcd.symm.trans h3
      refine r_istore (lv' := [(0, .ref b), (1, .ref (g.2.1 0)), (2, .ref (g.2.1 61)), (3, .ref (g.2.1 69)), (4, .int (nI i)), (5, .int (nI c1)), (6, .int r2)]) F (by decide) rfl dL_law_870 ?_
      refine r_aload_n F 2 rfl dL_law_872 ?_
      refine r_calli (g_V (C := RX4) (T := TX4) (N := 14) (nA := 0) (As := []) (rest := []) F 61 (by obtain ⟨Z9, S9, F9, h9, -⟩ := hX; exact h9.1) (by decide) rfl (c_X4_thrown hX) gL_law_X4_thrown rfl (by decide +kernel) rfl ⟨Nat.le_trans (Nat.le_of_ble_eq_true rfl) hf, Nat.le_trans (Nat.le_of_ble_eq_true rfl) hl⟩ ⟨Nat.le_trans (Nat.add_le_add_left (Nat.le_of_ble_eq_true rfl) k) hk.1, Nat.le_trans (Nat.add_le_add_left (Nat.le_of_ble_eq_true rfl) n0) hk.2⟩ rfl (Nat.le_of_ble_eq_true rfl) dL_law_873) (fun r3 u3 hp3 => ?_)
      obtain ⟨rfl, rfl⟩ := hp3
      refine r_iload F 5 rfl dL_law_876 ?_
      refine r_icmp_eq F 883 (by decide) dL_law_878 (fun c_878_4 => ?_) (fun c_878_4 => absurd rfl c_878_4)
      clear c_878_4
      refine r_iload F 5 rfl dL_law_883 ?_
      refine r_if_ne F 900 (by decide) dL_law_885 (fun c_885_5 => ?_) (fun c_885_5 => absurd c_885_5 (fun q => by have z := (nI_eq (b := 0) (by omega) (by decide)).mp q; omega))
      clear c_885_5
      refine r_goto F 1064 (by decide) dL_law_900 ?_
      refine r_lv (lv2 := [(0, .ref b), (1, .ref (g.2.1 0)), (2, .ref (g.2.1 61)), (3, .ref (g.2.1 69)), (4, .int (nI i))]) (by simp) ?_
      exact r_widen (by show _ ≤ k + 4; simp) (by show _ ≤ n0 + 24; simp) (kk _ ⟨_, _, _, _, _, _, _, _, _, _, _, _, _, _, _, hc.keep (fun j hj => hq2 j (by omega)), hX, hwf, hws, hO.keep hq2⟩)
set_option maxHeartbeats 4000000 in
set_option maxRecDepth 100000 in
theorem op_ifAnswered {g : kG} {X : kX} {ret : Option FieldType} {rm0 : Room} {b L i k n0 : Nat} {xs : Nat → Int32} {u : Nat → va_E} (hfl : X.2.1.stackTraces = false) (F : Fx g X cL_law 9 ret wsL_law RL rm0) (T : Sx g X b L xs) (hi : i + 4 ≤ L) (hL : L ≤ 2048) (hf : 10 ≤ rm0.frames) (hl : 300 ≤ rm0.locals) (hk : k + 4 ≤ rm0.cells ∧ n0 + 24 ≤ rm0.slots) (I : Inv g u) (kk : ∀ u', Inv g u' → VL g X (k + 4) (n0 + 24) u' 1064 [(0, .ref b), (1, .ref (g.2.1 0)), (2, .ref (g.2.1 61)), (3, .ref (g.2.1 69)), (4, .int (nI i))] []) : VL g X k n0 u 903 [(0, .ref b), (1, .ref (g.2.1 0)), (2, .ref (g.2.1 61)), (3, .ref (g.2.1 69)), (4, .int (nI i))] [] := by
  obtain ⟨n, B, m, S, t, C, th, rm, sp, wr, hs, VA, RD, CH, WE, hc, hM, hwf, hws, hO⟩ := I
  have hm6 := hM.m6
  refine r_aload_n F 1 rfl dL_law_903 ?_
  refine r_aload_n F 0 rfl dL_law_904 ?_
  refine r_iload F 4 rfl dL_law_905 ?_
  refine r_iconst (v := 1) F (by decide) dL_law_907 ?_
  refine r_iadd F dL_law_908 ?_
  refine r_sld F T (by rw [nI_1]; exact vp_in_nI (by omega) (by omega)) dL_law_909 ?_
  refine r_eq (st2 := [.int (xs (i + 1)), .ref (g.2.1 0)]) (by rw [nI_1, nI_clamp (by omega)]) rfl ?_
  refine r_aload_n F 0 rfl dL_law_910 ?_
  refine r_iload F 4 rfl dL_law_911 ?_
  refine r_iconst (v := 2) F (by decide) dL_law_913 ?_
  refine r_iadd F dL_law_914 ?_
  refine r_sld F T (by rw [show (2 : Int32) = nI 2 from rfl, nI_add]; exact vp_in_nI (by omega) (by omega)) dL_law_915 ?_
  refine r_eq (st2 := [.int (xs (i + 2)), .int (xs (i + 1)), .ref (g.2.1 0)]) (by rw [show (2 : Int32) = nI 2 from rfl, nI_add, nI_clamp (by omega)]) rfl ?_
  refine r_aload_n F 0 rfl dL_law_916 ?_
  refine r_iload F 4 rfl dL_law_917 ?_
  refine r_iconst (v := 3) F (by decide) dL_law_919 ?_
  refine r_iadd F dL_law_920 ?_
  refine r_sld F T (by rw [show (3 : Int32) = nI 3 from rfl, nI_add]; exact vp_in_nI (by omega) (by omega)) dL_law_921 ?_
  refine r_eq (st2 := [.int (xs (i + 3)), .int (xs (i + 2)), .int (xs (i + 1)), .ref (g.2.1 0)]) (by rw [show (3 : Int32) = nI 3 from rfl, nI_add, nI_clamp (by omega)]) rfl ?_
  refine r_aload_n F 3 rfl dL_law_922 ?_
  refine r_calli (g_CS (nA := 5) (As := [.ref (g.2.1 0), .int (xs (i + 1)), .int (xs (i + 2)), .int (xs (i + 3)), .ref (g.2.1 69)]) (rest := []) F T (c_L_ifAnswered hfl hc hwf.t hO) gL_law_L_ifAnswered rfl (by decide +kernel) rfl ⟨Nat.le_trans (Nat.le_of_ble_eq_true rfl) hf, Nat.le_trans (Nat.le_of_ble_eq_true rfl) hl⟩ ⟨Nat.le_trans (Nat.add_le_add_left (Nat.le_of_ble_eq_true rfl) k) hk.1, Nat.le_trans (Nat.add_le_add_left (Nat.le_of_ble_eq_true rfl) n0) hk.2⟩ rfl (Nat.le_of_ble_eq_true rfl) dL_law_923) (fun r1 u1 hp1 => ?_)
  rcases hp1 with ⟨hcd, rfl, hC, hV, hq⟩ | ⟨c1, hc0, hcd, rfl, rfl⟩
  · skip
    have hM1 := hM.keep (fun j h1 h2 => hq j h1 h2)
    refine r_istore (lv' := [(0, .ref b), (1, .ref (g.2.1 0)), (2, .ref (g.2.1 61)), (3, .ref (g.2.1 69)), (4, .int (nI i)), (5, .int 0)]) F (by decide) rfl dL_law_926 ?_
    refine r_aload_n F 2 rfl dL_law_928 ?_
    refine r_aload_n F 0 rfl dL_law_929 ?_
    refine r_iload F 4 rfl dL_law_930 ?_
    refine r_iconst (v := 1) F (by decide) dL_law_932 ?_
    refine r_iadd F dL_law_933 ?_
    refine r_sld F T (by rw [nI_1]; exact vp_in_nI (by omega) (by omega)) dL_law_934 ?_
    refine r_eq (st2 := [.int (xs (i + 1)), .ref (g.2.1 61)]) (by rw [nI_1, nI_clamp (by omega)]) rfl ?_
    refine r_aload_n F 0 rfl dL_law_935 ?_
    refine r_iload F 4 rfl dL_law_936 ?_
    refine r_iconst (v := 2) F (by decide) dL_law_938 ?_
    refine r_iadd F dL_law_939 ?_
    refine r_sld F T (by rw [show (2 : Int32) = nI 2 from rfl, nI_add]; exact vp_in_nI (by omega) (by omega)) dL_law_940 ?_
    refine r_eq (st2 := [.int (xs (i + 2)), .int (xs (i + 1)), .ref (g.2.1 61)]) (by rw [show (2 : Int32) = nI 2 from rfl, nI_add, nI_clamp (by omega)]) rfl ?_
    refine r_aload_n F 0 rfl dL_law_941 ?_
    refine r_iload F 4 rfl dL_law_942 ?_
    refine r_iconst (v := 3) F (by decide) dL_law_944 ?_
    refine r_iadd F dL_law_945 ?_
    refine r_sld F T (by rw [show (3 : Int32) = nI 3 from rfl, nI_add]; exact vp_in_nI (by omega) (by omega)) dL_law_946 ?_
    refine r_eq (st2 := [.int (xs (i + 3)), .int (xs (i + 2)), .int (xs (i + 1)), .ref (g.2.1 61)]) (by rw [show (3 : Int32) = nI 3 from rfl, nI_add, nI_clamp (by omega)]) rfl ?_
    refine r_calli (g_V (C := RX4) (T := TX4) (N := 14) (nA := 3) (As := [.int (xs (i + 1)), .int (xs (i + 2)), .int (xs (i + 3))]) (rest := []) F 61 (by obtain ⟨Z9, S9, F9, h9, -⟩ := hM1; exact h9.1) (by decide) rfl (c_X4_ifAnswered hM1 hwf) gL_law_X4_ifAnswered rfl (by decide +kernel) rfl ⟨Nat.le_trans (Nat.le_of_ble_eq_true rfl) hf, Nat.le_trans (Nat.le_of_ble_eq_true rfl) hl⟩ ⟨Nat.le_trans (Nat.add_le_add_left (Nat.le_of_ble_eq_true rfl) k) hk.1, Nat.le_trans (Nat.add_le_add_left (Nat.le_of_ble_eq_true rfl) n0) hk.2⟩ rfl (Nat.le_of_ble_eq_true rfl) dL_law_947) (fun r2 u2 hp2 => ?_)
    obtain ⟨hp2, hq2⟩ := hp2
    rcases hp2 with ⟨-, rfl, hX⟩ | ⟨c2, h2, h3, -⟩
    · skip
      obtain ⟨VA2, hX⟩ := hX
      refine r_istore (lv' := [(0, .ref b), (1, .ref (g.2.1 0)), (2, .ref (g.2.1 61)), (3, .ref (g.2.1 69)), (4, .int (nI i)), (5, .int 0), (6, .int (tT B n (xs (i + 1)).toNatClampNeg (xs (i + 2)) (xs (i + 3))))]) F (by decide) rfl dL_law_950 ?_
      refine r_aload_n F 2 rfl dL_law_952 ?_
      refine r_calli (g_V (C := RX4) (T := TX4) (N := 14) (nA := 0) (As := []) (rest := []) F 61 (by obtain ⟨Z9, S9, F9, h9, -⟩ := hX; exact h9.1) (by decide) rfl (c_X4_thrown hX) gL_law_X4_thrown rfl (by decide +kernel) rfl ⟨Nat.le_trans (Nat.le_of_ble_eq_true rfl) hf, Nat.le_trans (Nat.le_of_ble_eq_true rfl) hl⟩ ⟨Nat.le_trans (Nat.add_le_add_left (Nat.le_of_ble_eq_true rfl) k) hk.1, Nat.le_trans (Nat.add_le_add_left (Nat.le_of_ble_eq_true rfl) n0) hk.2⟩ rfl (Nat.le_of_ble_eq_true rfl) dL_law_953) (fun r3 u3 hp3 => ?_)
      obtain ⟨rfl, rfl⟩ := hp3
      obtain ⟨fo, hO1, hO2⟩ := hV
      have hO3 : u2 69 = .inl (g.2.2.1 3, 1, .inr (.inl fo)) := (hq2 69 (by omega)).trans hO1
      refine r_iload F 5 rfl dL_law_956 ?_
      refine r_icmp_eq F 963 (by decide) dL_law_958 (fun c_958_1 => ?_) (fun c_958_1 => absurd c_958_1 (by decide))
      clear c_958_1
      refine r_iload F 5 rfl dL_law_963 ?_
      refine r_if_ne F 980 (by decide) dL_law_965 (fun c_965_2 => absurd c_965_2 (by decide)) (fun c_965_2 => ?_)
      clear c_965_2
      refine r_aload_n F 3 rfl dL_law_968 ?_
      refine r_iconst (v := 0) F (by decide) dL_law_969 ?_
      refine r_lald F 69 hO3 (by decide) (vp_in_nI (n := 0) (by decide) (by decide)) dL_law_970 ?_
      refine r_iload F 6 rfl dL_law_971 ?_
      refine r_i2l F rfl dL_law_973 ?_
      refine r_lcmp F dL_law_974 ?_
      refine r_if_eq F 980 (by decide) dL_law_975 (fun c_975_3 => ?_) (fun c_975_3 => absurd (by show lg_cmp (fo ((0 : Int32).toNatClampNeg)) _ = 0; rw [show fo ((0 : Int32).toNatClampNeg) = _ from hO2]; exact lg_cmp0 _) c_975_3)
      clear c_975_3
      refine r_goto F 1064 (by decide) dL_law_980 ?_
      refine r_lv (lv2 := [(0, .ref b), (1, .ref (g.2.1 0)), (2, .ref (g.2.1 61)), (3, .ref (g.2.1 69)), (4, .int (nI i))]) (by simp) ?_
      exact r_widen (by show _ ≤ k + 4; simp) (by show _ ≤ n0 + 24; simp) (kk _ ⟨_, _, _, _, _, _, _, _, _, _, _, _, _, _, _, hC.keep (fun j hj => hq2 j (by omega)), hX, hwf, hws, OutV.r ⟨fo, hO3, hO2⟩⟩)
    · exact absurd (h3.symm.trans hcd) (by omega)
  · skip
    have hM1 := hM
    have hc3 : c1 ≤ 3 := by rw [← hcd]; unfold cdIf; (repeat' split) <;> decide
    refine r_istore (lv' := [(0, .ref b), (1, .ref (g.2.1 0)), (2, .ref (g.2.1 61)), (3, .ref (g.2.1 69)), (4, .int (nI i)), (5, .int (nI c1))]) F (by decide) rfl dL_law_926 ?_
    refine r_aload_n F 2 rfl dL_law_928 ?_
    refine r_aload_n F 0 rfl dL_law_929 ?_
    refine r_iload F 4 rfl dL_law_930 ?_
    refine r_iconst (v := 1) F (by decide) dL_law_932 ?_
    refine r_iadd F dL_law_933 ?_
    refine r_sld F T (by rw [nI_1]; exact vp_in_nI (by omega) (by omega)) dL_law_934 ?_
    refine r_eq (st2 := [.int (xs (i + 1)), .ref (g.2.1 61)]) (by rw [nI_1, nI_clamp (by omega)]) rfl ?_
    refine r_aload_n F 0 rfl dL_law_935 ?_
    refine r_iload F 4 rfl dL_law_936 ?_
    refine r_iconst (v := 2) F (by decide) dL_law_938 ?_
    refine r_iadd F dL_law_939 ?_
    refine r_sld F T (by rw [show (2 : Int32) = nI 2 from rfl, nI_add]; exact vp_in_nI (by omega) (by omega)) dL_law_940 ?_
    refine r_eq (st2 := [.int (xs (i + 2)), .int (xs (i + 1)), .ref (g.2.1 61)]) (by rw [show (2 : Int32) = nI 2 from rfl, nI_add, nI_clamp (by omega)]) rfl ?_
    refine r_aload_n F 0 rfl dL_law_941 ?_
    refine r_iload F 4 rfl dL_law_942 ?_
    refine r_iconst (v := 3) F (by decide) dL_law_944 ?_
    refine r_iadd F dL_law_945 ?_
    refine r_sld F T (by rw [show (3 : Int32) = nI 3 from rfl, nI_add]; exact vp_in_nI (by omega) (by omega)) dL_law_946 ?_
    refine r_eq (st2 := [.int (xs (i + 3)), .int (xs (i + 2)), .int (xs (i + 1)), .ref (g.2.1 61)]) (by rw [show (3 : Int32) = nI 3 from rfl, nI_add, nI_clamp (by omega)]) rfl ?_
    refine r_calli (g_V (C := RX4) (T := TX4) (N := 14) (nA := 3) (As := [.int (xs (i + 1)), .int (xs (i + 2)), .int (xs (i + 3))]) (rest := []) F 61 (by obtain ⟨Z9, S9, F9, h9, -⟩ := hM1; exact h9.1) (by decide) rfl (c_X4_ifAnswered hM1 hwf) gL_law_X4_ifAnswered rfl (by decide +kernel) rfl ⟨Nat.le_trans (Nat.le_of_ble_eq_true rfl) hf, Nat.le_trans (Nat.le_of_ble_eq_true rfl) hl⟩ ⟨Nat.le_trans (Nat.add_le_add_left (Nat.le_of_ble_eq_true rfl) k) hk.1, Nat.le_trans (Nat.add_le_add_left (Nat.le_of_ble_eq_true rfl) n0) hk.2⟩ rfl (Nat.le_of_ble_eq_true rfl) dL_law_947) (fun r2 u2 hp2 => ?_)
    obtain ⟨hp2, hq2⟩ := hp2
    rcases hp2 with ⟨h3, -⟩ | ⟨c2, h2, h3, hX⟩
    · exact absurd (hcd.symm.trans h3) (by omega)
    · skip
      obtain rfl : c1 = c2 := hcd.symm.trans h3
      refine r_istore (lv' := [(0, .ref b), (1, .ref (g.2.1 0)), (2, .ref (g.2.1 61)), (3, .ref (g.2.1 69)), (4, .int (nI i)), (5, .int (nI c1)), (6, .int r2)]) F (by decide) rfl dL_law_950 ?_
      refine r_aload_n F 2 rfl dL_law_952 ?_
      refine r_calli (g_V (C := RX4) (T := TX4) (N := 14) (nA := 0) (As := []) (rest := []) F 61 (by obtain ⟨Z9, S9, F9, h9, -⟩ := hX; exact h9.1) (by decide) rfl (c_X4_thrown hX) gL_law_X4_thrown rfl (by decide +kernel) rfl ⟨Nat.le_trans (Nat.le_of_ble_eq_true rfl) hf, Nat.le_trans (Nat.le_of_ble_eq_true rfl) hl⟩ ⟨Nat.le_trans (Nat.add_le_add_left (Nat.le_of_ble_eq_true rfl) k) hk.1, Nat.le_trans (Nat.add_le_add_left (Nat.le_of_ble_eq_true rfl) n0) hk.2⟩ rfl (Nat.le_of_ble_eq_true rfl) dL_law_953) (fun r3 u3 hp3 => ?_)
      obtain ⟨rfl, rfl⟩ := hp3
      refine r_iload F 5 rfl dL_law_956 ?_
      refine r_icmp_eq F 963 (by decide) dL_law_958 (fun c_958_4 => ?_) (fun c_958_4 => absurd rfl c_958_4)
      clear c_958_4
      refine r_iload F 5 rfl dL_law_963 ?_
      refine r_if_ne F 980 (by decide) dL_law_965 (fun c_965_5 => ?_) (fun c_965_5 => absurd c_965_5 (fun q => by have z := (nI_eq (b := 0) (by omega) (by decide)).mp q; omega))
      clear c_965_5
      refine r_goto F 1064 (by decide) dL_law_980 ?_
      refine r_lv (lv2 := [(0, .ref b), (1, .ref (g.2.1 0)), (2, .ref (g.2.1 61)), (3, .ref (g.2.1 69)), (4, .int (nI i))]) (by simp) ?_
      exact r_widen (by show _ ≤ k + 4; simp) (by show _ ≤ n0 + 24; simp) (kk _ ⟨_, _, _, _, _, _, _, _, _, _, _, _, _, _, _, hc.keep (fun j hj => hq2 j (by omega)), hX, hwf, hws, hO.keep hq2⟩)
