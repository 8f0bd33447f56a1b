set_option maxHeartbeats 4000000 in
set_option maxRecDepth 100000 in
theorem law_put {p : Program} {e : Env} {s : State} {m : MethodId} {below : List Frame} {meth : Method} {c : Code} (l : Launch) {D : va_G} {K : Nat → ClassId} {bs Ls : Nat} {xs : Nat → Int32} {ad : Nat → Nat} {q ia ta : Nat} (hap : apt ad q ia ta) (E : hm_E p s m #[Value.ref bs] meth c cL_law 4 RL D K (fun z => s.heap.size ≤ z)) (hX : va_X bs Ls xs s s.heap) (hbl : bs < s.heap.size) (hbA : ¬ (fun z => s.heap.size ≤ z) bs) (hL : Ls ≤ 320) {i : Nat} (hi : i + 5 ≤ Ls) {w : hm_M} (h : wI K w ad q ia ta) (k : ∀ w2, wI K w2 ad q ia ta → hm_V p l e room_1 s m #[Value.ref bs] below meth c D (fun z => s.heap.size ≤ z) 4 29 46517 (lw_Z below #[Value.ref bs] s) w2 848 [(3, .int (iI (((i : Nat) : Int)))), (0, .ref (bs)), (1, .ref (ad 0)), (2, .ref (q))] []) : hm_V p l e room_1 s m #[Value.ref bs] below meth c D (fun z => s.heap.size ≤ z) 4 29 46517 (lw_Z below #[Value.ref bs] s) w 136 [(3, .int (iI (((i : Nat) : Int)))), (0, .ref (bs)), (1, .ref (ad 0)), (2, .ref (q))] [] := by
  obtain ⟨F, tf, L, P, df, I, T, md, td, ag, pl, hk, hm, hS, hT⟩ := h
  have hL0 := hk.L0
  have hL1 := hk.L1
  obtain ⟨x1, h1, ex1⟩ := iI_of (xs (i + 1))
  obtain ⟨x2, h2, ex2⟩ := iI_of (xs (i + 2))
  refine hv_aload_n E dL_law_136 rfl 2 rfl rfl ?_
  refine hv_aload_n E dL_law_137 rfl 1 rfl rfl ?_
  refine hv_iload_n E dL_law_138 rfl 0 rfl rfl ?_
  refine hv_iconst E dL_law_139 rfl ?_
  refine hv_iadd E dL_law_140 rfl ?_
  refine hv_sld E hX hbl hbA hL (by omega) (by omega) (show xs ((((i : Nat) : Int)) + 1).toNat = iI x1 by rw [show ((((i : Nat) : Int)) + 1).toNat = i + 1 by omega]; exact ex1) dL_law_141 rfl ?_
  refine hv_aload_n E dL_law_142 rfl 1 rfl rfl ?_
  refine hv_iload_n E dL_law_143 rfl 0 rfl rfl ?_
  refine hv_iconst E dL_law_144 rfl ?_
  refine hv_iadd E dL_law_145 rfl ?_
  refine hv_sld E hX hbl hbA hL (by omega) (by omega) (show xs ((((i : Nat) : Int)) + 2).toNat = iI x2 by rw [show ((((i : Nat) : Int)) + 2).toNat = i + 2 by omega]; exact ex2) dL_law_146 rfl ?_
  refine hv_callVI (na := 2) (As := [.int (iI (x1)), .int (iI (x2))]) (st := []) E (c6_put l D K x1 x2 h1 h2 hk) dL_law_147 hk.1 (show vwCl[5]? = some (RX6, TX6, 4) from rfl) gL_L_13 gV_X6_put gI_X6_put gC_X6_put gZ_X6 (by decide +kernel) rfl ⟨Nat.le_of_ble_eq_true rfl, Nat.le_of_ble_eq_true rfl⟩ (Nat.le_of_ble_eq_true rfl) ⟨Nat.le_of_ble_eq_true rfl, Nat.le_of_ble_eq_true rfl⟩ rfl rfl (fun r1 w2 hp => ?_)
  obtain ⟨hr1, F2, hk2, hfr, hF⟩ := hp
  have hm2 := hm.fr hap hfr
  show hm_V p l e room_1 s m #[Value.ref bs] below meth c D (fun z => s.heap.size ≤ z) 4 29 46517 (lw_Z below #[Value.ref bs] s) w2 150 [(3, .int (iI (((i : Nat) : Int)))), (0, .ref (bs)), (1, .ref (ad 0)), (2, .ref (q))] [.int (r1)]
  refine hv_aload_n E dL_law_150 rfl 3 rfl rfl ?_
  refine hv_aload_n E dL_law_151 rfl 1 rfl rfl ?_
  refine hv_iload_n E dL_law_152 rfl 0 rfl rfl ?_
  refine hv_iconst E dL_law_153 rfl ?_
  refine hv_iadd E dL_law_154 rfl ?_
  refine hv_sld E hX hbl hbA hL (by omega) (by omega) (show xs ((((i : Nat) : Int)) + 1).toNat = iI x1 by rw [show ((((i : Nat) : Int)) + 1).toNat = i + 1 by omega]; exact ex1) dL_law_155 rfl ?_
  refine hv_aload_n E dL_law_156 rfl 1 rfl rfl ?_
  refine hv_iload_n E dL_law_157 rfl 0 rfl rfl ?_
  refine hv_iconst E dL_law_158 rfl ?_
  refine hv_iadd E dL_law_159 rfl ?_
  refine hv_sld E hX hbl hbA hL (by omega) (by omega) (show xs ((((i : Nat) : Int)) + 2).toNat = iI x2 by rw [show ((((i : Nat) : Int)) + 2).toNat = i + 2 by omega]; exact ex2) dL_law_160 rfl ?_
  refine hv_callVI (na := 2) (As := [.int (iI (x1)), .int (iI (x2))]) (st := [.int (r1)]) E (c7_put l D K x1 x2 h1 h2 hm2.i) dL_law_161 hm2.1 (show vwCl[6]? = some (RX7, TX7, 7) from rfl) gL_L_17 gV_X7_put gI_X7_put gC_X7_put gZ_X7 (by decide +kernel) rfl ⟨Nat.le_of_ble_eq_true rfl, Nat.le_of_ble_eq_true rfl⟩ (Nat.le_of_ble_eq_true rfl) ⟨Nat.le_of_ble_eq_true rfl, Nat.le_of_ble_eq_true rfl⟩ rfl rfl (fun r2 w3 hp => ?_)
  obtain ⟨hr2, e3⟩ := hp
  show hm_V p l e room_1 s m #[Value.ref bs] below meth c D (fun z => s.heap.size ≤ z) 4 29 46517 (lw_Z below #[Value.ref bs] s) w3 164 [(3, .int (iI (((i : Nat) : Int)))), (0, .ref (bs)), (1, .ref (ad 0)), (2, .ref (q))] [.int (r2), .int (r1)]
  have hEq : r1 = r2 := by
    rw [hr1, hr2]
    by_cases a : 0 ≤ x1 ∧ x1 < 8
    · rw [if_pos a, if_pos a]
      by_cases b2 : 0 ≤ x2 ∧ x2 < 4096
      · rw [if_pos b2, if_pos b2]
        rw [hS.x a _ (by omega)]
      · rw [if_neg b2, if_neg b2]
    · rw [if_neg a, if_neg a]
  have hW : wI K w3 ad q ia ta := by
    by_cases a : (0 ≤ x1 ∧ x1 < 8) ∧ 0 ≤ x2 ∧ x2 < 4096
    · rw [e3, if_pos a]
      refine wI_set hap hk2 hm2 _ (fun s u hs hu => ?_) hT
      rw [hF s u hs hu]
      show _ = (if 4096 * s + u = (4096 * x1 + x2).toNat then true else I (4096 * s + u))
      by_cases b2 : s = x1.toNat ∧ u = x2.toNat
      · rw [if_pos ⟨a, b2⟩, if_pos (by omega)]
      · rw [if_neg (fun h => b2 h.2), if_neg (by omega)]
        exact hS s u hs hu
    · rw [e3, if_neg a]
      refine wI_mk hk2 hm2 (fun s u hs hu => ?_) hT
      rw [hF s u hs hu, if_neg (fun h => a h.1)]
      exact hS s u hs hu
  refine hv_icmp_eqR E 848 dL_law_164 (by decide) rfl (fun c9 => ?_) (fun c9 => ?_)
  · exact k w3 hW
  · exact absurd hEq c9
set_option maxHeartbeats 4000000 in
set_option maxRecDepth 100000 in
theorem law_fill {p : Program} {e : Env} {s : State} {m : MethodId} {below : List Frame} {meth : Method} {c : Code} (l : Launch) {D : va_G} {K : Nat → ClassId} {bs Ls : Nat} {xs : Nat → Int32} {ad : Nat → Nat} {q ia ta : Nat} (hap : apt ad q ia ta) (E : hm_E p s m #[Value.ref bs] meth c cL_law 4 RL D K (fun z => s.heap.size ≤ z)) (hX : va_X bs Ls xs s s.heap) (hbl : bs < s.heap.size) (hbA : ¬ (fun z => s.heap.size ≤ z) bs) (hL : Ls ≤ 320) {i : Nat} (hi : i + 5 ≤ Ls) {w : hm_M} (h : wI K w ad q ia ta) (k : ∀ w2, wI K w2 ad q ia ta → hm_V p l e room_1 s m #[Value.ref bs] below meth c D (fun z => s.heap.size ≤ z) 4 29 46517 (lw_Z below #[Value.ref bs] s) w2 848 [(3, .int (iI (((i : Nat) : Int)))), (0, .ref (bs)), (1, .ref (ad 0)), (2, .ref (q))] []) : hm_V p l e room_1 s m #[Value.ref bs] below meth c D (fun z => s.heap.size ≤ z) 4 29 46517 (lw_Z below #[Value.ref bs] s) w 169 [(3, .int (iI (((i : Nat) : Int)))), (0, .ref (bs)), (1, .ref (ad 0)), (2, .ref (q))] [] := by
  obtain ⟨F, tf, L, P, df, I, T, md, td, ag, pl, hk, hm, hS, hT⟩ := h
  have hL0 := hk.L0
  have hL1 := hk.L1
  obtain ⟨x1, h1, ex1⟩ := iI_of (xs (i + 1))
  obtain ⟨x2, h2, ex2⟩ := iI_of (xs (i + 2))
  obtain ⟨x3, h3, ex3⟩ := iI_of (xs (i + 3))
  refine hv_aload_n E dL_law_169 rfl 2 rfl rfl ?_
  refine hv_aload_n E dL_law_170 rfl 1 rfl rfl ?_
  refine hv_iload_n E dL_law_171 rfl 0 rfl rfl ?_
  refine hv_iconst E dL_law_172 rfl ?_
  refine hv_iadd E dL_law_173 rfl ?_
  refine hv_sld E hX hbl hbA hL (by omega) (by omega) (show xs ((((i : Nat) : Int)) + 1).toNat = iI x1 by rw [show ((((i : Nat) : Int)) + 1).toNat = i + 1 by omega]; exact ex1) dL_law_174 rfl ?_
  refine hv_aload_n E dL_law_175 rfl 1 rfl rfl ?_
  refine hv_iload_n E dL_law_176 rfl 0 rfl rfl ?_
  refine hv_iconst E dL_law_177 rfl ?_
  refine hv_iadd E dL_law_178 rfl ?_
  refine hv_sld E hX hbl hbA hL (by omega) (by omega) (show xs ((((i : Nat) : Int)) + 2).toNat = iI x2 by rw [show ((((i : Nat) : Int)) + 2).toNat = i + 2 by omega]; exact ex2) dL_law_179 rfl ?_
  refine hv_aload_n E dL_law_180 rfl 1 rfl rfl ?_
  refine hv_iload_n E dL_law_181 rfl 0 rfl rfl ?_
  refine hv_iconst E dL_law_182 rfl ?_
  refine hv_iadd E dL_law_183 rfl ?_
  refine hv_sld E hX hbl hbA hL (by omega) (by omega) (show xs ((((i : Nat) : Int)) + 3).toNat = iI x3 by rw [show ((((i : Nat) : Int)) + 3).toNat = i + 3 by omega]; exact ex3) dL_law_184 rfl ?_
  refine hv_callVI (na := 3) (As := [.int (iI (x1)), .int (iI (x2)), .int (iI (x3))]) (st := []) E (c6_fill l D K x1 x2 x3 h1 h2 h3 hk) dL_law_185 hk.1 (show vwCl[5]? = some (RX6, TX6, 4) from rfl) gL_L_18 gV_X6_fill gI_X6_fill gC_X6_fill gZ_X6 (by decide +kernel) rfl ⟨Nat.le_of_ble_eq_true rfl, Nat.le_of_ble_eq_true rfl⟩ (Nat.le_of_ble_eq_true rfl) ⟨Nat.le_of_ble_eq_true rfl, Nat.le_of_ble_eq_true rfl⟩ rfl rfl (fun r1 w2 hp => ?_)
  obtain ⟨hr1, F2, hk2, hfr, hF⟩ := hp
  have hm2 := hm.fr hap hfr
  show hm_V p l e room_1 s m #[Value.ref bs] below meth c D (fun z => s.heap.size ≤ z) 4 29 46517 (lw_Z below #[Value.ref bs] s) w2 188 [(3, .int (iI (((i : Nat) : Int)))), (0, .ref (bs)), (1, .ref (ad 0)), (2, .ref (q))] [.int (r1)]
  refine hv_aload_n E dL_law_188 rfl 3 rfl rfl ?_
  refine hv_aload_n E dL_law_189 rfl 1 rfl rfl ?_
  refine hv_iload_n E dL_law_190 rfl 0 rfl rfl ?_
  refine hv_iconst E dL_law_191 rfl ?_
  refine hv_iadd E dL_law_192 rfl ?_
  refine hv_sld E hX hbl hbA hL (by omega) (by omega) (show xs ((((i : Nat) : Int)) + 1).toNat = iI x1 by rw [show ((((i : Nat) : Int)) + 1).toNat = i + 1 by omega]; exact ex1) dL_law_193 rfl ?_
  refine hv_aload_n E dL_law_194 rfl 1 rfl rfl ?_
  refine hv_iload_n E dL_law_195 rfl 0 rfl rfl ?_
  refine hv_iconst E dL_law_196 rfl ?_
  refine hv_iadd E dL_law_197 rfl ?_
  refine hv_sld E hX hbl hbA hL (by omega) (by omega) (show xs ((((i : Nat) : Int)) + 2).toNat = iI x2 by rw [show ((((i : Nat) : Int)) + 2).toNat = i + 2 by omega]; exact ex2) dL_law_198 rfl ?_
  refine hv_aload_n E dL_law_199 rfl 1 rfl rfl ?_
  refine hv_iload_n E dL_law_200 rfl 0 rfl rfl ?_
  refine hv_iconst E dL_law_201 rfl ?_
  refine hv_iadd E dL_law_202 rfl ?_
  refine hv_sld E hX hbl hbA hL (by omega) (by omega) (show xs ((((i : Nat) : Int)) + 3).toNat = iI x3 by rw [show ((((i : Nat) : Int)) + 3).toNat = i + 3 by omega]; exact ex3) dL_law_203 rfl ?_
  refine hv_callVI (na := 3) (As := [.int (iI (x1)), .int (iI (x2)), .int (iI (x3))]) (st := [.int (r1)]) E (c7_fill l D K x1 x2 x3 h1 h2 h3 hm2.i) dL_law_204 hm2.1 (show vwCl[6]? = some (RX7, TX7, 7) from rfl) gL_L_22 gV_X7_fill gI_X7_fill gC_X7_fill gZ_X7 (by decide +kernel) rfl ⟨Nat.le_of_ble_eq_true rfl, Nat.le_of_ble_eq_true rfl⟩ (Nat.le_of_ble_eq_true rfl) ⟨Nat.le_of_ble_eq_true rfl, Nat.le_of_ble_eq_true rfl⟩ rfl rfl (fun r2 w3 hp => ?_)
  obtain ⟨hr2, e3⟩ := hp
  show hm_V p l e room_1 s m #[Value.ref bs] below meth c D (fun z => s.heap.size ≤ z) 4 29 46517 (lw_Z below #[Value.ref bs] s) w3 207 [(3, .int (iI (((i : Nat) : Int)))), (0, .ref (bs)), (1, .ref (ad 0)), (2, .ref (q))] [.int (r2), .int (r1)]
  have hEq : r1 = r2 := by
    rw [hr1, hr2]
    by_cases a : 0 ≤ x1 ∧ x1 < 8
    · rw [if_pos a, if_pos a]
      by_cases b2 : 0 ≤ x2 ∧ x2 ≤ x3 ∧ x3 < 4096
      · rw [if_pos b2, if_pos b2]
        have h8 := ct_xt (mS I x1) x2.toNat (x3 - x2 + 1).toNat
        rw [ct_cg (S := mem (F x1.toNat)) (U := mS I x1) (hS.x a) (by omega)]
        congr 1
        omega
      · rw [if_neg b2, if_neg b2]
    · rw [if_neg a, if_neg a]
  have hW : wI K w3 ad q ia ta := by
    by_cases a : (0 ≤ x1 ∧ x1 < 8) ∧ 0 ≤ x2 ∧ x2 ≤ x3 ∧ x3 < 4096
    · rw [e3, if_pos a]
      refine wI_set hap hk2 hm2 _ (fun s u hs hu => ?_) hT
      rw [hF s u hs hu]
      show _ = (if 4096 * x1 + x2 ≤ ((4096 * s + u : Nat) : Int) ∧ ((4096 * s + u : Nat) : Int) ≤ 4096 * x1 + x3 then true else I (4096 * s + u))
      by_cases b2 : s = x1.toNat ∧ x2 ≤ (u : Int) ∧ (u : Int) ≤ x3
      · rw [if_pos ⟨a, b2⟩, if_pos (by omega)]
      · rw [if_neg (fun h => b2 h.2), if_neg (by omega)]
        exact hS s u hs hu
    · rw [e3, if_neg a]
      refine wI_mk hk2 hm2 (fun s u hs hu => ?_) hT
      rw [hF s u hs hu, if_neg (fun h => a h.1)]
      exact hS s u hs hu
  refine hv_icmp_eqR E 848 dL_law_207 (by decide) rfl (fun c9 => ?_) (fun c9 => ?_)
  · exact k w3 hW
  · exact absurd hEq c9
set_option maxHeartbeats 4000000 in
set_option maxRecDepth 100000 in
theorem law_drop {p : Program} {e : Env} {s : State} {m : MethodId} {below : List Frame} {meth : Method} {c : Code} (l : Launch) {D : va_G} {K : Nat → ClassId} {bs Ls : Nat} {xs : Nat → Int32} {ad : Nat → Nat} {q ia ta : Nat} (hap : apt ad q ia ta) (E : hm_E p s m #[Value.ref bs] meth c cL_law 4 RL D K (fun z => s.heap.size ≤ z)) (hX : va_X bs Ls xs s s.heap) (hbl : bs < s.heap.size) (hbA : ¬ (fun z => s.heap.size ≤ z) bs) (hL : Ls ≤ 320) {i : Nat} (hi : i + 5 ≤ Ls) {w : hm_M} (h : wI K w ad q ia ta) (k : ∀ w2, wI K w2 ad q ia ta → hm_V p l e room_1 s m #[Value.ref bs] below meth c D (fun z => s.heap.size ≤ z) 4 29 46517 (lw_Z below #[Value.ref bs] s) w2 848 [(3, .int (iI (((i : Nat) : Int)))), (0, .ref (bs)), (1, .ref (ad 0)), (2, .ref (q))] []) : hm_V p l e room_1 s m #[Value.ref bs] below meth c D (fun z => s.heap.size ≤ z) 4 29 46517 (lw_Z below #[Value.ref bs] s) w 212 [(3, .int (iI (((i : Nat) : Int)))), (0, .ref (bs)), (1, .ref (ad 0)), (2, .ref (q))] [] := by
  obtain ⟨F, tf, L, P, df, I, T, md, td, ag, pl, hk, hm, hS, hT⟩ := h
  have hL0 := hk.L0
  have hL1 := hk.L1
  obtain ⟨x1, h1, ex1⟩ := iI_of (xs (i + 1))
  obtain ⟨x2, h2, ex2⟩ := iI_of (xs (i + 2))
  obtain ⟨x3, h3, ex3⟩ := iI_of (xs (i + 3))
  refine hv_aload_n E dL_law_212 rfl 2 rfl rfl ?_
  refine hv_aload_n E dL_law_213 rfl 1 rfl rfl ?_
  refine hv_iload_n E dL_law_214 rfl 0 rfl rfl ?_
  refine hv_iconst E dL_law_215 rfl ?_
  refine hv_iadd E dL_law_216 rfl ?_
  refine hv_sld E hX hbl hbA hL (by omega) (by omega) (show xs ((((i : Nat) : Int)) + 1).toNat = iI x1 by rw [show ((((i : Nat) : Int)) + 1).toNat = i + 1 by omega]; exact ex1) dL_law_217 rfl ?_
  refine hv_aload_n E dL_law_218 rfl 1 rfl rfl ?_
  refine hv_iload_n E dL_law_219 rfl 0 rfl rfl ?_
  refine hv_iconst E dL_law_220 rfl ?_
  refine hv_iadd E dL_law_221 rfl ?_
  refine hv_sld E hX hbl hbA hL (by omega) (by omega) (show xs ((((i : Nat) : Int)) + 2).toNat = iI x2 by rw [show ((((i : Nat) : Int)) + 2).toNat = i + 2 by omega]; exact ex2) dL_law_222 rfl ?_
  refine hv_aload_n E dL_law_223 rfl 1 rfl rfl ?_
  refine hv_iload_n E dL_law_224 rfl 0 rfl rfl ?_
  refine hv_iconst E dL_law_225 rfl ?_
  refine hv_iadd E dL_law_226 rfl ?_
  refine hv_sld E hX hbl hbA hL (by omega) (by omega) (show xs ((((i : Nat) : Int)) + 3).toNat = iI x3 by rw [show ((((i : Nat) : Int)) + 3).toNat = i + 3 by omega]; exact ex3) dL_law_227 rfl ?_
  refine hv_callVI (na := 3) (As := [.int (iI (x1)), .int (iI (x2)), .int (iI (x3))]) (st := []) E (c6_drop l D K x1 x2 x3 h1 h2 h3 hk) dL_law_228 hk.1 (show vwCl[5]? = some (RX6, TX6, 4) from rfl) gL_L_23 gV_X6_drop gI_X6_drop gC_X6_drop gZ_X6 (by decide +kernel) rfl ⟨Nat.le_of_ble_eq_true rfl, Nat.le_of_ble_eq_true rfl⟩ (Nat.le_of_ble_eq_true rfl) ⟨Nat.le_of_ble_eq_true rfl, Nat.le_of_ble_eq_true rfl⟩ rfl rfl (fun r1 w2 hp => ?_)
  obtain ⟨hr1, F2, hk2, hfr, hF⟩ := hp
  have hm2 := hm.fr hap hfr
  show hm_V p l e room_1 s m #[Value.ref bs] below meth c D (fun z => s.heap.size ≤ z) 4 29 46517 (lw_Z below #[Value.ref bs] s) w2 231 [(3, .int (iI (((i : Nat) : Int)))), (0, .ref (bs)), (1, .ref (ad 0)), (2, .ref (q))] [.int (r1)]
  refine hv_aload_n E dL_law_231 rfl 3 rfl rfl ?_
  refine hv_aload_n E dL_law_232 rfl 1 rfl rfl ?_
  refine hv_iload_n E dL_law_233 rfl 0 rfl rfl ?_
  refine hv_iconst E dL_law_234 rfl ?_
  refine hv_iadd E dL_law_235 rfl ?_
  refine hv_sld E hX hbl hbA hL (by omega) (by omega) (show xs ((((i : Nat) : Int)) + 1).toNat = iI x1 by rw [show ((((i : Nat) : Int)) + 1).toNat = i + 1 by omega]; exact ex1) dL_law_236 rfl ?_
  refine hv_aload_n E dL_law_237 rfl 1 rfl rfl ?_
  refine hv_iload_n E dL_law_238 rfl 0 rfl rfl ?_
  refine hv_iconst E dL_law_239 rfl ?_
  refine hv_iadd E dL_law_240 rfl ?_
  refine hv_sld E hX hbl hbA hL (by omega) (by omega) (show xs ((((i : Nat) : Int)) + 2).toNat = iI x2 by rw [show ((((i : Nat) : Int)) + 2).toNat = i + 2 by omega]; exact ex2) dL_law_241 rfl ?_
  refine hv_aload_n E dL_law_242 rfl 1 rfl rfl ?_
  refine hv_iload_n E dL_law_243 rfl 0 rfl rfl ?_
  refine hv_iconst E dL_law_244 rfl ?_
  refine hv_iadd E dL_law_245 rfl ?_
  refine hv_sld E hX hbl hbA hL (by omega) (by omega) (show xs ((((i : Nat) : Int)) + 3).toNat = iI x3 by rw [show ((((i : Nat) : Int)) + 3).toNat = i + 3 by omega]; exact ex3) dL_law_246 rfl ?_
  refine hv_callVI (na := 3) (As := [.int (iI (x1)), .int (iI (x2)), .int (iI (x3))]) (st := [.int (r1)]) E (c7_drop l D K x1 x2 x3 h1 h2 h3 hm2.i) dL_law_247 hm2.1 (show vwCl[6]? = some (RX7, TX7, 7) from rfl) gL_L_26 gV_X7_drop gI_X7_drop gC_X7_drop gZ_X7 (by decide +kernel) rfl ⟨Nat.le_of_ble_eq_true rfl, Nat.le_of_ble_eq_true rfl⟩ (Nat.le_of_ble_eq_true rfl) ⟨Nat.le_of_ble_eq_true rfl, Nat.le_of_ble_eq_true rfl⟩ rfl rfl (fun r2 w3 hp => ?_)
  obtain ⟨hr2, e3⟩ := hp
  show hm_V p l e room_1 s m #[Value.ref bs] below meth c D (fun z => s.heap.size ≤ z) 4 29 46517 (lw_Z below #[Value.ref bs] s) w3 250 [(3, .int (iI (((i : Nat) : Int)))), (0, .ref (bs)), (1, .ref (ad 0)), (2, .ref (q))] [.int (r2), .int (r1)]
  have hEq : r1 = r2 := by
    rw [hr1, hr2]
    by_cases a : 0 ≤ x1 ∧ x1 < 8
    · rw [if_pos a, if_pos a]
      by_cases b2 : 0 ≤ x2 ∧ x2 ≤ x3 ∧ x3 < 4096
      · rw [if_pos b2, if_pos b2]
        rw [ct_xf, ct_cg (S := mem (F x1.toNat)) (U := mS I x1) (hS.x a) (by omega)]
      · rw [if_neg b2, if_neg b2]
    · rw [if_neg a, if_neg a]
  have hW : wI K w3 ad q ia ta := by
    by_cases a : (0 ≤ x1 ∧ x1 < 8) ∧ 0 ≤ x2 ∧ x2 ≤ x3 ∧ x3 < 4096
    · rw [e3, if_pos a]
      refine wI_set hap hk2 hm2 _ (fun s u hs hu => ?_) hT
      rw [hF s u hs hu]
      show _ = (if 4096 * x1 + x2 ≤ ((4096 * s + u : Nat) : Int) ∧ ((4096 * s + u : Nat) : Int) ≤ 4096 * x1 + x3 then false else I (4096 * s + u))
      by_cases b2 : s = x1.toNat ∧ x2 ≤ (u : Int) ∧ (u : Int) ≤ x3
      · rw [if_pos ⟨a, b2⟩, if_pos (by omega)]
      · rw [if_neg (fun h => b2 h.2), if_neg (by omega)]
        exact hS s u hs hu
    · rw [e3, if_neg a]
      refine wI_mk hk2 hm2 (fun s u hs hu => ?_) hT
      rw [hF s u hs hu, if_neg (fun h => a h.1)]
      exact hS s u hs hu
  refine hv_icmp_eqR E 848 dL_law_250 (by decide) rfl (fun c9 => ?_) (fun c9 => ?_)
  · exact k w3 hW
  · exact absurd hEq c9
set_option maxHeartbeats 4000000 in
set_option maxRecDepth 100000 in
theorem law_join {p : Program} {e : Env} {s : State} {m : MethodId} {below : List Frame} {meth : Method} {c : Code} (l : Launch) {D : va_G} {K : Nat → ClassId} {bs Ls : Nat} {xs : Nat → Int32} {ad : Nat → Nat} {q ia ta : Nat} (hap : apt ad q ia ta) (E : hm_E p s m #[Value.ref bs] meth c cL_law 4 RL D K (fun z => s.heap.size ≤ z)) (hX : va_X bs Ls xs s s.heap) (hbl : bs < s.heap.size) (hbA : ¬ (fun z => s.heap.size ≤ z) bs) (hL : Ls ≤ 320) {i : Nat} (hi : i + 5 ≤ Ls) {w : hm_M} (h : wI K w ad q ia ta) (k : ∀ w2, wI K w2 ad q ia ta → hm_V p l e room_1 s m #[Value.ref bs] below meth c D (fun z => s.heap.size ≤ z) 4 29 46517 (lw_Z below #[Value.ref bs] s) w2 848 [(3, .int (iI (((i : Nat) : Int)))), (0, .ref (bs)), (1, .ref (ad 0)), (2, .ref (q))] []) : hm_V p l e room_1 s m #[Value.ref bs] below meth c D (fun z => s.heap.size ≤ z) 4 29 46517 (lw_Z below #[Value.ref bs] s) w 255 [(3, .int (iI (((i : Nat) : Int)))), (0, .ref (bs)), (1, .ref (ad 0)), (2, .ref (q))] [] := by
  obtain ⟨F, tf, L, P, df, I, T, md, td, ag, pl, hk, hm, hS, hT⟩ := h
  have hL0 := hk.L0
  have hL1 := hk.L1
  obtain ⟨x1, h1, ex1⟩ := iI_of (xs (i + 1))
  obtain ⟨x2, h2, ex2⟩ := iI_of (xs (i + 2))
  obtain ⟨x3, h3, ex3⟩ := iI_of (xs (i + 3))
  obtain ⟨x4, h4, ex4⟩ := iI_of (xs (i + 4))
  refine hv_aload_n E dL_law_255 rfl 2 rfl rfl ?_
  refine hv_aload_n E dL_law_256 rfl 1 rfl rfl ?_
  refine hv_iload_n E dL_law_257 rfl 0 rfl rfl ?_
  refine hv_iconst E dL_law_258 rfl ?_
  refine hv_iadd E dL_law_259 rfl ?_
  refine hv_sld E hX hbl hbA hL (by omega) (by omega) (show xs ((((i : Nat) : Int)) + 1).toNat = iI x1 by rw [show ((((i : Nat) : Int)) + 1).toNat = i + 1 by omega]; exact ex1) dL_law_260 rfl ?_
  refine hv_aload_n E dL_law_261 rfl 1 rfl rfl ?_
  refine hv_iload_n E dL_law_262 rfl 0 rfl rfl ?_
  refine hv_iconst E dL_law_263 rfl ?_
  refine hv_iadd E dL_law_264 rfl ?_
  refine hv_sld E hX hbl hbA hL (by omega) (by omega) (show xs ((((i : Nat) : Int)) + 2).toNat = iI x2 by rw [show ((((i : Nat) : Int)) + 2).toNat = i + 2 by omega]; exact ex2) dL_law_265 rfl ?_
  refine hv_aload_n E dL_law_266 rfl 1 rfl rfl ?_
  refine hv_iload_n E dL_law_267 rfl 0 rfl rfl ?_
  refine hv_iconst E dL_law_268 rfl ?_
  refine hv_iadd E dL_law_269 rfl ?_
  refine hv_sld E hX hbl hbA hL (by omega) (by omega) (show xs ((((i : Nat) : Int)) + 3).toNat = iI x3 by rw [show ((((i : Nat) : Int)) + 3).toNat = i + 3 by omega]; exact ex3) dL_law_270 rfl ?_
  refine hv_aload_n E dL_law_271 rfl 1 rfl rfl ?_
  refine hv_iload_n E dL_law_272 rfl 0 rfl rfl ?_
  refine hv_iconst E dL_law_273 rfl ?_
  refine hv_iadd E dL_law_274 rfl ?_
  refine hv_sld E hX hbl hbA hL (by omega) (by omega) (show xs ((((i : Nat) : Int)) + 4).toNat = iI x4 by rw [show ((((i : Nat) : Int)) + 4).toNat = i + 4 by omega]; exact ex4) dL_law_275 rfl ?_
  refine hv_callVI (na := 4) (As := [.int (iI (x1)), .int (iI (x2)), .int (iI (x3)), .int (iI (x4))]) (st := []) E (c6_join l D K x1 x2 x3 x4 h1 h2 h3 h4 hk) dL_law_276 hk.1 (show vwCl[5]? = some (RX6, TX6, 4) from rfl) gL_L_27 gV_X6_join gI_X6_join gC_X6_join gZ_X6 (by decide +kernel) rfl ⟨Nat.le_of_ble_eq_true rfl, Nat.le_of_ble_eq_true rfl⟩ (Nat.le_of_ble_eq_true rfl) ⟨Nat.le_of_ble_eq_true rfl, Nat.le_of_ble_eq_true rfl⟩ rfl rfl (fun r1 w2 hp => ?_)
  obtain ⟨hr1, F2, hk2, hfr, hF⟩ := hp
  have hm2 := hm.fr hap hfr
  show hm_V p l e room_1 s m #[Value.ref bs] below meth c D (fun z => s.heap.size ≤ z) 4 29 46517 (lw_Z below #[Value.ref bs] s) w2 279 [(3, .int (iI (((i : Nat) : Int)))), (0, .ref (bs)), (1, .ref (ad 0)), (2, .ref (q))] [.int (r1)]
  refine hv_aload_n E dL_law_279 rfl 3 rfl rfl ?_
  refine hv_aload_n E dL_law_280 rfl 1 rfl rfl ?_
  refine hv_iload_n E dL_law_281 rfl 0 rfl rfl ?_
  refine hv_iconst E dL_law_282 rfl ?_
  refine hv_iadd E dL_law_283 rfl ?_
  refine hv_sld E hX hbl hbA hL (by omega) (by omega) (show xs ((((i : Nat) : Int)) + 1).toNat = iI x1 by rw [show ((((i : Nat) : Int)) + 1).toNat = i + 1 by omega]; exact ex1) dL_law_284 rfl ?_
  refine hv_aload_n E dL_law_285 rfl 1 rfl rfl ?_
  refine hv_iload_n E dL_law_286 rfl 0 rfl rfl ?_
  refine hv_iconst E dL_law_287 rfl ?_
  refine hv_iadd E dL_law_288 rfl ?_
  refine hv_sld E hX hbl hbA hL (by omega) (by omega) (show xs ((((i : Nat) : Int)) + 2).toNat = iI x2 by rw [show ((((i : Nat) : Int)) + 2).toNat = i + 2 by omega]; exact ex2) dL_law_289 rfl ?_
  refine hv_aload_n E dL_law_290 rfl 1 rfl rfl ?_
  refine hv_iload_n E dL_law_291 rfl 0 rfl rfl ?_
  refine hv_iconst E dL_law_292 rfl ?_
  refine hv_iadd E dL_law_293 rfl ?_
  refine hv_sld E hX hbl hbA hL (by omega) (by omega) (show xs ((((i : Nat) : Int)) + 3).toNat = iI x3 by rw [show ((((i : Nat) : Int)) + 3).toNat = i + 3 by omega]; exact ex3) dL_law_294 rfl ?_
  refine hv_aload_n E dL_law_295 rfl 1 rfl rfl ?_
  refine hv_iload_n E dL_law_296 rfl 0 rfl rfl ?_
  refine hv_iconst E dL_law_297 rfl ?_
  refine hv_iadd E dL_law_298 rfl ?_
  refine hv_sld E hX hbl hbA hL (by omega) (by omega) (show xs ((((i : Nat) : Int)) + 4).toNat = iI x4 by rw [show ((((i : Nat) : Int)) + 4).toNat = i + 4 by omega]; exact ex4) dL_law_299 rfl ?_
  refine hv_callVI (na := 4) (As := [.int (iI (x1)), .int (iI (x2)), .int (iI (x3)), .int (iI (x4))]) (st := [.int (r1)]) E (c7_join l D K x1 x2 x3 x4 h1 h2 h3 h4 hm2.i) dL_law_300 hm2.1 (show vwCl[6]? = some (RX7, TX7, 7) from rfl) gL_L_31 gV_X7_join gI_X7_join gC_X7_join gZ_X7 (by decide +kernel) rfl ⟨Nat.le_of_ble_eq_true rfl, Nat.le_of_ble_eq_true rfl⟩ (Nat.le_of_ble_eq_true rfl) ⟨Nat.le_of_ble_eq_true rfl, Nat.le_of_ble_eq_true rfl⟩ rfl rfl (fun r2 w3 hp => ?_)
  obtain ⟨hr2, e3⟩ := hp
  show hm_V p l e room_1 s m #[Value.ref bs] below meth c D (fun z => s.heap.size ≤ z) 4 29 46517 (lw_Z below #[Value.ref bs] s) w3 303 [(3, .int (iI (((i : Nat) : Int)))), (0, .ref (bs)), (1, .ref (ad 0)), (2, .ref (q))] [.int (r2), .int (r1)]
  have hEq : r1 = r2 := by
    rw [hr1, hr2]
    by_cases a : ((0 ≤ x1 ∧ x1 < 8) ∧ (0 ≤ x2 ∧ x2 < 8) ∧ 0 ≤ x3 ∧ x3 < 8)
    · rw [if_pos a, if_pos a]
      by_cases b2 : 0 ≤ x4 ∧ x4 < 4
      · rw [if_pos b2, if_pos b2]
        rw [ct_cg (S := fun v => jb x4 (mem (F x2.toNat) v) (mem (F x3.toNat) v)) (U := fun v => jb x4 (mS I x2 v) (mS I x3 v)) (fun u hu => by rw [hS.x a.2.1 u hu, hS.x a.2.2 u hu]) (by omega)]
      · rw [if_neg b2, if_neg b2]
    · rw [if_neg a, if_neg a]
  have hW : wI K w3 ad q ia ta := by
    by_cases a : ((0 ≤ x1 ∧ x1 < 8) ∧ (0 ≤ x2 ∧ x2 < 8) ∧ 0 ≤ x3 ∧ x3 < 8) ∧ 0 ≤ x4 ∧ x4 < 4
    · rw [e3, if_pos a]
      refine wI_set hap hk2 hm2 _ (fun s u hs hu => ?_) hT
      rw [hF s u hs hu]
      by_cases b2 : s = x1.toNat
      · rw [if_pos ⟨a, b2⟩, hS.x a.1.2.1 u hu, hS.x a.1.2.2 u hu, b2]
        exact (jI_at a.1.1.1 hu).symm
      · rw [if_neg (fun h => b2 h.2)]
        show _ = jI I x4 x1 x2 x3 (4096 * s + u)
        unfold jI
        rw [if_neg (by omega)]
        exact hS s u hs hu
    · rw [e3, if_neg a]
      refine wI_mk hk2 hm2 (fun s u hs hu => ?_) hT
      rw [hF s u hs hu, if_neg (fun h => a h.1)]
      exact hS s u hs hu
  refine hv_icmp_eqR E 848 dL_law_303 (by decide) rfl (fun c9 => ?_) (fun c9 => ?_)
  · exact k w3 hW
  · exact absurd hEq c9
set_option maxHeartbeats 4000000 in
set_option maxRecDepth 100000 in
theorem law_has {p : Program} {e : Env} {s : State} {m : MethodId} {below : List Frame} {meth : Method} {c : Code} (l : Launch) {D : va_G} {K : Nat → ClassId} {bs Ls : Nat} {xs : Nat → Int32} {ad : Nat → Nat} {q ia ta : Nat} (hap : apt ad q ia ta) (E : hm_E p s m #[Value.ref bs] meth c cL_law 4 RL D K (fun z => s.heap.size ≤ z)) (hX : va_X bs Ls xs s s.heap) (hbl : bs < s.heap.size) (hbA : ¬ (fun z => s.heap.size ≤ z) bs) (hL : Ls ≤ 320) {i : Nat} (hi : i + 5 ≤ Ls) {w : hm_M} (h : wI K w ad q ia ta) (k : ∀ w2, wI K w2 ad q ia ta → hm_V p l e room_1 s m #[Value.ref bs] below meth c D (fun z => s.heap.size ≤ z) 4 29 46517 (lw_Z below #[Value.ref bs] s) w2 848 [(3, .int (iI (((i : Nat) : Int)))), (0, .ref (bs)), (1, .ref (ad 0)), (2, .ref (q))] []) : hm_V p l e room_1 s m #[Value.ref bs] below meth c D (fun z => s.heap.size ≤ z) 4 29 46517 (lw_Z below #[Value.ref bs] s) w 308 [(3, .int (iI (((i : Nat) : Int)))), (0, .ref (bs)), (1, .ref (ad 0)), (2, .ref (q))] [] := by
  obtain ⟨F, tf, L, P, df, I, T, md, td, ag, pl, hk, hm, hS, hT⟩ := h
  have hL0 := hk.L0
  have hL1 := hk.L1
  obtain ⟨x1, h1, ex1⟩ := iI_of (xs (i + 1))
  obtain ⟨x2, h2, ex2⟩ := iI_of (xs (i + 2))
  refine hv_aload_n E dL_law_308 rfl 2 rfl rfl ?_
  refine hv_aload_n E dL_law_309 rfl 1 rfl rfl ?_
  refine hv_iload_n E dL_law_310 rfl 0 rfl rfl ?_
  refine hv_iconst E dL_law_311 rfl ?_
  refine hv_iadd E dL_law_312 rfl ?_
  refine hv_sld E hX hbl hbA hL (by omega) (by omega) (show xs ((((i : Nat) : Int)) + 1).toNat = iI x1 by rw [show ((((i : Nat) : Int)) + 1).toNat = i + 1 by omega]; exact ex1) dL_law_313 rfl ?_
  refine hv_aload_n E dL_law_314 rfl 1 rfl rfl ?_
  refine hv_iload_n E dL_law_315 rfl 0 rfl rfl ?_
  refine hv_iconst E dL_law_316 rfl ?_
  refine hv_iadd E dL_law_317 rfl ?_
  refine hv_sld E hX hbl hbA hL (by omega) (by omega) (show xs ((((i : Nat) : Int)) + 2).toNat = iI x2 by rw [show ((((i : Nat) : Int)) + 2).toNat = i + 2 by omega]; exact ex2) dL_law_318 rfl ?_
  refine hv_callVI (na := 2) (As := [.int (iI (x1)), .int (iI (x2))]) (st := []) E (c6_has l D K x1 x2 h1 h2 hk) dL_law_319 hk.1 (show vwCl[5]? = some (RX6, TX6, 4) from rfl) gL_L_32 gV_X6_has gI_X6_has gC_X6_has gZ_X6 (by decide +kernel) rfl ⟨Nat.le_of_ble_eq_true rfl, Nat.le_of_ble_eq_true rfl⟩ (Nat.le_of_ble_eq_true rfl) ⟨Nat.le_of_ble_eq_true rfl, Nat.le_of_ble_eq_true rfl⟩ rfl rfl (fun r1 w2 hp => ?_)
  obtain ⟨hr1, e2⟩ := hp
  rw [e2]
  show hm_V p l e room_1 s m #[Value.ref bs] below meth c D (fun z => s.heap.size ≤ z) 4 29 46517 (lw_Z below #[Value.ref bs] s) w 322 [(3, .int (iI (((i : Nat) : Int)))), (0, .ref (bs)), (1, .ref (ad 0)), (2, .ref (q))] [.int (r1)]
  refine hv_aload_n E dL_law_322 rfl 3 rfl rfl ?_
  refine hv_aload_n E dL_law_323 rfl 1 rfl rfl ?_
  refine hv_iload_n E dL_law_324 rfl 0 rfl rfl ?_
  refine hv_iconst E dL_law_325 rfl ?_
  refine hv_iadd E dL_law_326 rfl ?_
  refine hv_sld E hX hbl hbA hL (by omega) (by omega) (show xs ((((i : Nat) : Int)) + 1).toNat = iI x1 by rw [show ((((i : Nat) : Int)) + 1).toNat = i + 1 by omega]; exact ex1) dL_law_327 rfl ?_
  refine hv_aload_n E dL_law_328 rfl 1 rfl rfl ?_
  refine hv_iload_n E dL_law_329 rfl 0 rfl rfl ?_
  refine hv_iconst E dL_law_330 rfl ?_
  refine hv_iadd E dL_law_331 rfl ?_
  refine hv_sld E hX hbl hbA hL (by omega) (by omega) (show xs ((((i : Nat) : Int)) + 2).toNat = iI x2 by rw [show ((((i : Nat) : Int)) + 2).toNat = i + 2 by omega]; exact ex2) dL_law_332 rfl ?_
  refine hv_callVI (na := 2) (As := [.int (iI (x1)), .int (iI (x2))]) (st := [.int (r1)]) E (c7_has l D K x1 x2 h1 h2 hm.i) dL_law_333 hm.1 (show vwCl[6]? = some (RX7, TX7, 7) from rfl) gL_L_35 gV_X7_has gI_X7_has gC_X7_has gZ_X7 (by decide +kernel) rfl ⟨Nat.le_of_ble_eq_true rfl, Nat.le_of_ble_eq_true rfl⟩ (Nat.le_of_ble_eq_true rfl) ⟨Nat.le_of_ble_eq_true rfl, Nat.le_of_ble_eq_true rfl⟩ rfl rfl (fun r2 w3 hp => ?_)
  obtain ⟨hr2, e3⟩ := hp
  show hm_V p l e room_1 s m #[Value.ref bs] below meth c D (fun z => s.heap.size ≤ z) 4 29 46517 (lw_Z below #[Value.ref bs] s) w3 336 [(3, .int (iI (((i : Nat) : Int)))), (0, .ref (bs)), (1, .ref (ad 0)), (2, .ref (q))] [.int (r2), .int (r1)]
  have hEq : r1 = r2 := by
    rw [hr1, hr2]
    by_cases a : 0 ≤ x1 ∧ x1 < 8
    · rw [if_pos a, if_pos a]
      by_cases b2 : 0 ≤ x2 ∧ x2 < 4096
      · rw [if_pos b2, if_pos b2]
        rw [hS.x a _ (by omega)]
      · rw [if_neg b2, if_neg b2]
    · rw [if_neg a, if_neg a]
  have hW : wI K w3 ad q ia ta := by
    rw [e3]; exact wI_mk hk hm hS hT
  refine hv_icmp_eqR E 848 dL_law_336 (by decide) rfl (fun c9 => ?_) (fun c9 => ?_)
  · exact k w3 hW
  · exact absurd hEq c9
set_option maxHeartbeats 4000000 in
set_option maxRecDepth 100000 in
theorem law_count {p : Program} {e : Env} {s : State} {m : MethodId} {below : List Frame} {meth : Method} {c : Code} (l : Launch) {D : va_G} {K : Nat → ClassId} {bs Ls : Nat} {xs : Nat → Int32} {ad : Nat → Nat} {q ia ta : Nat} (hap : apt ad q ia ta) (E : hm_E p s m #[Value.ref bs] meth c cL_law 4 RL D K (fun z => s.heap.size ≤ z)) (hX : va_X bs Ls xs s s.heap) (hbl : bs < s.heap.size) (hbA : ¬ (fun z => s.heap.size ≤ z) bs) (hL : Ls ≤ 320) {i : Nat} (hi : i + 5 ≤ Ls) {w : hm_M} (h : wI K w ad q ia ta) (k : ∀ w2, wI K w2 ad q ia ta → hm_V p l e room_1 s m #[Value.ref bs] below meth c D (fun z => s.heap.size ≤ z) 4 29 46517 (lw_Z below #[Value.ref bs] s) w2 848 [(3, .int (iI (((i : Nat) : Int)))), (0, .ref (bs)), (1, .ref (ad 0)), (2, .ref (q))] []) : hm_V p l e room_1 s m #[Value.ref bs] below meth c D (fun z => s.heap.size ≤ z) 4 29 46517 (lw_Z below #[Value.ref bs] s) w 341 [(3, .int (iI (((i : Nat) : Int)))), (0, .ref (bs)), (1, .ref (ad 0)), (2, .ref (q))] [] := by
  obtain ⟨F, tf, L, P, df, I, T, md, td, ag, pl, hk, hm, hS, hT⟩ := h
  have hL0 := hk.L0
  have hL1 := hk.L1
  obtain ⟨x1, h1, ex1⟩ := iI_of (xs (i + 1))
  refine hv_aload_n E dL_law_341 rfl 2 rfl rfl ?_
  refine hv_aload_n E dL_law_342 rfl 1 rfl rfl ?_
  refine hv_iload_n E dL_law_343 rfl 0 rfl rfl ?_
  refine hv_iconst E dL_law_344 rfl ?_
  refine hv_iadd E dL_law_345 rfl ?_
  refine hv_sld E hX hbl hbA hL (by omega) (by omega) (show xs ((((i : Nat) : Int)) + 1).toNat = iI x1 by rw [show ((((i : Nat) : Int)) + 1).toNat = i + 1 by omega]; exact ex1) dL_law_346 rfl ?_
  refine hv_callVI (na := 1) (As := [.int (iI (x1))]) (st := []) E (c6_count l D K x1 h1 hk) dL_law_347 hk.1 (show vwCl[5]? = some (RX6, TX6, 4) from rfl) gL_L_36 gV_X6_count gI_X6_count gC_X6_count gZ_X6 (by decide +kernel) rfl ⟨Nat.le_of_ble_eq_true rfl, Nat.le_of_ble_eq_true rfl⟩ (Nat.le_of_ble_eq_true rfl) ⟨Nat.le_of_ble_eq_true rfl, Nat.le_of_ble_eq_true rfl⟩ rfl rfl (fun r1 w2 hp => ?_)
  obtain ⟨hr1, e2⟩ := hp
  rw [e2]
  show hm_V p l e room_1 s m #[Value.ref bs] below meth c D (fun z => s.heap.size ≤ z) 4 29 46517 (lw_Z below #[Value.ref bs] s) w 350 [(3, .int (iI (((i : Nat) : Int)))), (0, .ref (bs)), (1, .ref (ad 0)), (2, .ref (q))] [.int (r1)]
  refine hv_aload_n E dL_law_350 rfl 3 rfl rfl ?_
  refine hv_aload_n E dL_law_351 rfl 1 rfl rfl ?_
  refine hv_iload_n E dL_law_352 rfl 0 rfl rfl ?_
  refine hv_iconst E dL_law_353 rfl ?_
  refine hv_iadd E dL_law_354 rfl ?_
  refine hv_sld E hX hbl hbA hL (by omega) (by omega) (show xs ((((i : Nat) : Int)) + 1).toNat = iI x1 by rw [show ((((i : Nat) : Int)) + 1).toNat = i + 1 by omega]; exact ex1) dL_law_355 rfl ?_
  refine hv_callVI (na := 1) (As := [.int (iI (x1))]) (st := [.int (r1)]) E (c7_count l D K x1 h1 hm.i) dL_law_356 hm.1 (show vwCl[6]? = some (RX7, TX7, 7) from rfl) gL_L_40 gV_X7_count gI_X7_count gC_X7_count gZ_X7 (by decide +kernel) rfl ⟨Nat.le_of_ble_eq_true rfl, Nat.le_of_ble_eq_true rfl⟩ (Nat.le_of_ble_eq_true rfl) ⟨Nat.le_of_ble_eq_true rfl, Nat.le_of_ble_eq_true rfl⟩ rfl rfl (fun r2 w3 hp => ?_)
  obtain ⟨hr2, e3⟩ := hp
  show hm_V p l e room_1 s m #[Value.ref bs] below meth c D (fun z => s.heap.size ≤ z) 4 29 46517 (lw_Z below #[Value.ref bs] s) w3 359 [(3, .int (iI (((i : Nat) : Int)))), (0, .ref (bs)), (1, .ref (ad 0)), (2, .ref (q))] [.int (r2), .int (r1)]
  have hEq : r1 = r2 := by
    rw [hr1, hr2]
    by_cases a : 0 ≤ x1 ∧ x1 < 8
    · rw [if_pos a, if_pos a]
      rw [ct_cg (hS.x a) (by omega)]
    · rw [if_neg a, if_neg a]
  have hW : wI K w3 ad q ia ta := by
    rw [e3]; exact wI_mk hk hm hS hT
  refine hv_icmp_eqR E 848 dL_law_359 (by decide) rfl (fun c9 => ?_) (fun c9 => ?_)
  · exact k w3 hW
  · exact absurd hEq c9
set_option maxHeartbeats 4000000 in
set_option maxRecDepth 100000 in
theorem law_rank {p : Program} {e : Env} {s : State} {m : MethodId} {below : List Frame} {meth : Method} {c : Code} (l : Launch) {D : va_G} {K : Nat → ClassId} {bs Ls : Nat} {xs : Nat → Int32} {ad : Nat → Nat} {q ia ta : Nat} (hap : apt ad q ia ta) (E : hm_E p s m #[Value.ref bs] meth c cL_law 4 RL D K (fun z => s.heap.size ≤ z)) (hX : va_X bs Ls xs s s.heap) (hbl : bs < s.heap.size) (hbA : ¬ (fun z => s.heap.size ≤ z) bs) (hL : Ls ≤ 320) {i : Nat} (hi : i + 5 ≤ Ls) {w : hm_M} (h : wI K w ad q ia ta) (k : ∀ w2, wI K w2 ad q ia ta → hm_V p l e room_1 s m #[Value.ref bs] below meth c D (fun z => s.heap.size ≤ z) 4 29 46517 (lw_Z below #[Value.ref bs] s) w2 848 [(3, .int (iI (((i : Nat) : Int)))), (0, .ref (bs)), (1, .ref (ad 0)), (2, .ref (q))] []) : hm_V p l e room_1 s m #[Value.ref bs] below meth c D (fun z => s.heap.size ≤ z) 4 29 46517 (lw_Z below #[Value.ref bs] s) w 364 [(3, .int (iI (((i : Nat) : Int)))), (0, .ref (bs)), (1, .ref (ad 0)), (2, .ref (q))] [] := by
  obtain ⟨F, tf, L, P, df, I, T, md, td, ag, pl, hk, hm, hS, hT⟩ := h
  have hL0 := hk.L0
  have hL1 := hk.L1
  obtain ⟨x1, h1, ex1⟩ := iI_of (xs (i + 1))
  obtain ⟨x2, h2, ex2⟩ := iI_of (xs (i + 2))
  refine hv_aload_n E dL_law_364 rfl 2 rfl rfl ?_
  refine hv_aload_n E dL_law_365 rfl 1 rfl rfl ?_
  refine hv_iload_n E dL_law_366 rfl 0 rfl rfl ?_
  refine hv_iconst E dL_law_367 rfl ?_
  refine hv_iadd E dL_law_368 rfl ?_
  refine hv_sld E hX hbl hbA hL (by omega) (by omega) (show xs ((((i : Nat) : Int)) + 1).toNat = iI x1 by rw [show ((((i : Nat) : Int)) + 1).toNat = i + 1 by omega]; exact ex1) dL_law_369 rfl ?_
  refine hv_aload_n E dL_law_370 rfl 1 rfl rfl ?_
  refine hv_iload_n E dL_law_371 rfl 0 rfl rfl ?_
  refine hv_iconst E dL_law_372 rfl ?_
  refine hv_iadd E dL_law_373 rfl ?_
  refine hv_sld E hX hbl hbA hL (by omega) (by omega) (show xs ((((i : Nat) : Int)) + 2).toNat = iI x2 by rw [show ((((i : Nat) : Int)) + 2).toNat = i + 2 by omega]; exact ex2) dL_law_374 rfl ?_
  refine hv_callVI (na := 2) (As := [.int (iI (x1)), .int (iI (x2))]) (st := []) E (c6_rank l D K x1 x2 h1 h2 hk) dL_law_375 hk.1 (show vwCl[5]? = some (RX6, TX6, 4) from rfl) gL_L_41 gV_X6_rank gI_X6_rank gC_X6_rank gZ_X6 (by decide +kernel) rfl ⟨Nat.le_of_ble_eq_true rfl, Nat.le_of_ble_eq_true rfl⟩ (Nat.le_of_ble_eq_true rfl) ⟨Nat.le_of_ble_eq_true rfl, Nat.le_of_ble_eq_true rfl⟩ rfl rfl (fun r1 w2 hp => ?_)
  obtain ⟨hr1, e2⟩ := hp
  rw [e2]
  show hm_V p l e room_1 s m #[Value.ref bs] below meth c D (fun z => s.heap.size ≤ z) 4 29 46517 (lw_Z below #[Value.ref bs] s) w 378 [(3, .int (iI (((i : Nat) : Int)))), (0, .ref (bs)), (1, .ref (ad 0)), (2, .ref (q))] [.int (r1)]
  refine hv_aload_n E dL_law_378 rfl 3 rfl rfl ?_
  refine hv_aload_n E dL_law_379 rfl 1 rfl rfl ?_
  refine hv_iload_n E dL_law_380 rfl 0 rfl rfl ?_
  refine hv_iconst E dL_law_381 rfl ?_
  refine hv_iadd E dL_law_382 rfl ?_
  refine hv_sld E hX hbl hbA hL (by omega) (by omega) (show xs ((((i : Nat) : Int)) + 1).toNat = iI x1 by rw [show ((((i : Nat) : Int)) + 1).toNat = i + 1 by omega]; exact ex1) dL_law_383 rfl ?_
  refine hv_aload_n E dL_law_384 rfl 1 rfl rfl ?_
  refine hv_iload_n E dL_law_385 rfl 0 rfl rfl ?_
  refine hv_iconst E dL_law_386 rfl ?_
  refine hv_iadd E dL_law_387 rfl ?_
  refine hv_sld E hX hbl hbA hL (by omega) (by omega) (show xs ((((i : Nat) : Int)) + 2).toNat = iI x2 by rw [show ((((i : Nat) : Int)) + 2).toNat = i + 2 by omega]; exact ex2) dL_law_388 rfl ?_
  refine hv_callVI (na := 2) (As := [.int (iI (x1)), .int (iI (x2))]) (st := [.int (r1)]) E (c7_rank l D K x1 x2 h1 h2 hm.i) dL_law_389 hm.1 (show vwCl[6]? = some (RX7, TX7, 7) from rfl) gL_L_44 gV_X7_rank gI_X7_rank gC_X7_rank gZ_X7 (by decide +kernel) rfl ⟨Nat.le_of_ble_eq_true rfl, Nat.le_of_ble_eq_true rfl⟩ (Nat.le_of_ble_eq_true rfl) ⟨Nat.le_of_ble_eq_true rfl, Nat.le_of_ble_eq_true rfl⟩ rfl rfl (fun r2 w3 hp => ?_)
  obtain ⟨hr2, e3⟩ := hp
  show hm_V p l e room_1 s m #[Value.ref bs] below meth c D (fun z => s.heap.size ≤ z) 4 29 46517 (lw_Z below #[Value.ref bs] s) w3 392 [(3, .int (iI (((i : Nat) : Int)))), (0, .ref (bs)), (1, .ref (ad 0)), (2, .ref (q))] [.int (r2), .int (r1)]
  have hEq : r1 = r2 := by
    rw [hr1, hr2]
    by_cases a : 0 ≤ x1 ∧ x1 < 8
    · rw [if_pos a, if_pos a]
      by_cases b2 : 0 ≤ x2 ∧ x2 ≤ 4096
      · rw [if_pos b2, if_pos b2]
        rw [ct_cg (S := mem (F x1.toNat)) (U := mS I x1) (hS.x a) (by omega)]
      · rw [if_neg b2, if_neg b2]
    · rw [if_neg a, if_neg a]
  have hW : wI K w3 ad q ia ta := by
    rw [e3]; exact wI_mk hk hm hS hT
  refine hv_icmp_eqR E 848 dL_law_392 (by decide) rfl (fun c9 => ?_) (fun c9 => ?_)
  · exact k w3 hW
  · exact absurd hEq c9
set_option maxHeartbeats 4000000 in
set_option maxRecDepth 100000 in
theorem law_select {p : Program} {e : Env} {s : State} {m : MethodId} {below : List Frame} {meth : Method} {c : Code} (l : Launch) {D : va_G} {K : Nat → ClassId} {bs Ls : Nat} {xs : Nat → Int32} {ad : Nat → Nat} {q ia ta : Nat} (hap : apt ad q ia ta) (E : hm_E p s m #[Value.ref bs] meth c cL_law 4 RL D K (fun z => s.heap.size ≤ z)) (hX : va_X bs Ls xs s s.heap) (hbl : bs < s.heap.size) (hbA : ¬ (fun z => s.heap.size ≤ z) bs) (hL : Ls ≤ 320) {i : Nat} (hi : i + 5 ≤ Ls) {w : hm_M} (h : wI K w ad q ia ta) (k : ∀ w2, wI K w2 ad q ia ta → hm_V p l e room_1 s m #[Value.ref bs] below meth c D (fun z => s.heap.size ≤ z) 4 29 46517 (lw_Z below #[Value.ref bs] s) w2 848 [(3, .int (iI (((i : Nat) : Int)))), (0, .ref (bs)), (1, .ref (ad 0)), (2, .ref (q))] []) : hm_V p l e room_1 s m #[Value.ref bs] below meth c D (fun z => s.heap.size ≤ z) 4 29 46517 (lw_Z below #[Value.ref bs] s) w 397 [(3, .int (iI (((i : Nat) : Int)))), (0, .ref (bs)), (1, .ref (ad 0)), (2, .ref (q))] [] := by
  obtain ⟨F, tf, L, P, df, I, T, md, td, ag, pl, hk, hm, hS, hT⟩ := h
  have hL0 := hk.L0
  have hL1 := hk.L1
  obtain ⟨x1, h1, ex1⟩ := iI_of (xs (i + 1))
  obtain ⟨x2, h2, ex2⟩ := iI_of (xs (i + 2))
  refine hv_aload_n E dL_law_397 rfl 2 rfl rfl ?_
  refine hv_aload_n E dL_law_398 rfl 1 rfl rfl ?_
  refine hv_iload_n E dL_law_399 rfl 0 rfl rfl ?_
  refine hv_iconst E dL_law_400 rfl ?_
  refine hv_iadd E dL_law_401 rfl ?_
  refine hv_sld E hX hbl hbA hL (by omega) (by omega) (show xs ((((i : Nat) : Int)) + 1).toNat = iI x1 by rw [show ((((i : Nat) : Int)) + 1).toNat = i + 1 by omega]; exact ex1) dL_law_402 rfl ?_
  refine hv_aload_n E dL_law_403 rfl 1 rfl rfl ?_
  refine hv_iload_n E dL_law_404 rfl 0 rfl rfl ?_
  refine hv_iconst E dL_law_405 rfl ?_
  refine hv_iadd E dL_law_406 rfl ?_
  refine hv_sld E hX hbl hbA hL (by omega) (by omega) (show xs ((((i : Nat) : Int)) + 2).toNat = iI x2 by rw [show ((((i : Nat) : Int)) + 2).toNat = i + 2 by omega]; exact ex2) dL_law_407 rfl ?_
  refine hv_callVI (na := 2) (As := [.int (iI (x1)), .int (iI (x2))]) (st := []) E (c6_select l D K x1 x2 h1 h2 hk) dL_law_408 hk.1 (show vwCl[5]? = some (RX6, TX6, 4) from rfl) gL_L_45 gV_X6_select gI_X6_select gC_X6_select gZ_X6 (by decide +kernel) rfl ⟨Nat.le_of_ble_eq_true rfl, Nat.le_of_ble_eq_true rfl⟩ (Nat.le_of_ble_eq_true rfl) ⟨Nat.le_of_ble_eq_true rfl, Nat.le_of_ble_eq_true rfl⟩ rfl rfl (fun r1 w2 hp => ?_)
  obtain ⟨⟨z1, p1, p2, hr1⟩, e2⟩ := hp
  rw [e2]
  show hm_V p l e room_1 s m #[Value.ref bs] below meth c D (fun z => s.heap.size ≤ z) 4 29 46517 (lw_Z below #[Value.ref bs] s) w 411 [(3, .int (iI (((i : Nat) : Int)))), (0, .ref (bs)), (1, .ref (ad 0)), (2, .ref (q))] [.int (r1)]
  refine hv_aload_n E dL_law_411 rfl 3 rfl rfl ?_
  refine hv_aload_n E dL_law_412 rfl 1 rfl rfl ?_
  refine hv_iload_n E dL_law_413 rfl 0 rfl rfl ?_
  refine hv_iconst E dL_law_414 rfl ?_
  refine hv_iadd E dL_law_415 rfl ?_
  refine hv_sld E hX hbl hbA hL (by omega) (by omega) (show xs ((((i : Nat) : Int)) + 1).toNat = iI x1 by rw [show ((((i : Nat) : Int)) + 1).toNat = i + 1 by omega]; exact ex1) dL_law_416 rfl ?_
  refine hv_aload_n E dL_law_417 rfl 1 rfl rfl ?_
  refine hv_iload_n E dL_law_418 rfl 0 rfl rfl ?_
  refine hv_iconst E dL_law_419 rfl ?_
  refine hv_iadd E dL_law_420 rfl ?_
  refine hv_sld E hX hbl hbA hL (by omega) (by omega) (show xs ((((i : Nat) : Int)) + 2).toNat = iI x2 by rw [show ((((i : Nat) : Int)) + 2).toNat = i + 2 by omega]; exact ex2) dL_law_421 rfl ?_
  refine hv_callVI (na := 2) (As := [.int (iI (x1)), .int (iI (x2))]) (st := [.int (r1)]) E (c7_select l D K x1 x2 h1 h2 hm.i) dL_law_422 hm.1 (show vwCl[6]? = some (RX7, TX7, 7) from rfl) gL_L_48 gV_X7_select gI_X7_select gC_X7_select gZ_X7 (by decide +kernel) rfl ⟨Nat.le_of_ble_eq_true rfl, Nat.le_of_ble_eq_true rfl⟩ (Nat.le_of_ble_eq_true rfl) ⟨Nat.le_of_ble_eq_true rfl, Nat.le_of_ble_eq_true rfl⟩ rfl rfl (fun r2 w3 hp => ?_)
  obtain ⟨⟨z2, q1, q2, hr2⟩, e3⟩ := hp
  show hm_V p l e room_1 s m #[Value.ref bs] below meth c D (fun z => s.heap.size ≤ z) 4 29 46517 (lw_Z below #[Value.ref bs] s) w3 425 [(3, .int (iI (((i : Nat) : Int)))), (0, .ref (bs)), (1, .ref (ad 0)), (2, .ref (q))] [.int (r2), .int (r1)]
  have hEq : r1 = r2 := by
    rw [hr1, hr2]
    by_cases a : 0 ≤ x1 ∧ x1 < 8
    · rw [isNth_inj (isNth_cg (hS.x a) (p1 a)) (q1 a)]
    · rw [p2 a, q2 a]
  have hW : wI K w3 ad q ia ta := by
    rw [e3]; exact wI_mk hk hm hS hT
  refine hv_icmp_eqR E 848 dL_law_425 (by decide) rfl (fun c9 => ?_) (fun c9 => ?_)
  · exact k w3 hW
  · exact absurd hEq c9
