def bc1 (x : Int32) : Int32 := x - ((x.toUInt32 >>> ((iI (1)).toUInt32 &&& Int32.toUInt32 31)).toInt32 &&& (1431655765 : Int32))
def bc2 (x : Int32) : Int32 := (x &&& (858993459 : Int32)) + ((x.toUInt32 >>> ((iI (2)).toUInt32 &&& Int32.toUInt32 31)).toInt32 &&& (858993459 : Int32))
def bc3 (x : Int32) : Int32 := (x + (x.toUInt32 >>> ((iI (4)).toUInt32 &&& Int32.toUInt32 31)).toInt32) &&& (252645135 : Int32)
def bc4 (x : Int32) : Int32 := x + (x.toUInt32 >>> ((iI (8)).toUInt32 &&& Int32.toUInt32 31)).toInt32
def bc5 (x : Int32) : Int32 := x + (x.toUInt32 >>> ((iI (16)).toUInt32 &&& Int32.toUInt32 31)).toInt32
def tN (x : Int32) : Nat := x.toBitVec.toNat
theorem tN_lt (x : Int32) : tN x < 4294967296 := x.toBitVec.isLt
theorem tN_sh (x : Int32) (k : Nat) (z : Int) (hz : z = (k : Int)) (hk : k < 32) : tN (x.toUInt32 >>> ((iI z).toUInt32 &&& Int32.toUInt32 31)).toInt32 = tN x / 2 ^ k := by
  rw [hz, iI_nI]
  exact pk_ushr x (nI k) k (s_u k hk)
theorem tN_and (x y : Int32) : tN (x &&& y) = tN x &&& tN y := by unfold tN; rw [Int32.toBitVec_and, BitVec.toNat_and]
theorem tN_add (x y : Int32) (h : tN x + tN y < 4294967296) : tN (x + y) = tN x + tN y := by
  unfold tN at *; rw [Int32.toBitVec_add, BitVec.toNat_add]; exact Nat.mod_eq_of_lt h
theorem tN_sub (x y : Int32) (h : tN y ≤ tN x) : tN (x - y) = tN x - tN y := by
  have := tN_lt x
  unfold tN at *; rw [Int32.toBitVec_sub, BitVec.toNat_sub]; omega
theorem and3 (a c : Nat) (h : a < 4) : (a + 2 ^ 2 * c) &&& 3 = a := by
  rw [show (3 : Nat) = 2 ^ 2 - 1 from rfl, Nat.and_two_pow_sub_one_eq_mod]; omega
theorem and1 (a c : Nat) (h : a < 2) : (a + 2 ^ 1 * c) &&& 1 = a := by
  rw [show (1 : Nat) = 2 ^ 1 - 1 from rfl, Nat.and_two_pow_sub_one_eq_mod]; omega
theorem and15 (a c : Nat) (h : a < 16) : (a + 2 ^ 4 * c) &&& 15 = a := by
  rw [show (15 : Nat) = 2 ^ 4 - 1 from rfl, Nat.and_two_pow_sub_one_eq_mod]; omega
theorem bc1_ok (x : Int32) (b : Nat → Nat) (hb : ∀ i, b i < 2) (h32 : b 32 = 0) (hx : tN x = fld 1 b 32) : tN (bc1 x) = fld 2 (fun i => b (2 * i) + b (2 * i + 1)) 16 := by
  have e1 : tN x = fld 2 (fun i => b (2 * i) + 2 ^ 1 * b (2 * i + 1)) 16 := by rw [hx]; exact fld_two 16
  have e2 : tN x / 2 ^ 1 = fld 2 (fun i => b (2 * i + 1) + 2 ^ 1 * b (2 * i + 1 + 1)) 16 := by
    rw [hx, fld_div 31 (hb 0), ← fld_last (f := fun i => b (i + 1)) 31 h32]; exact fld_two (f := fun i => b (i + 1)) 16
  have e3 : tN ((x.toUInt32 >>> ((iI (1)).toUInt32 &&& Int32.toUInt32 31)).toInt32 &&& (1431655765 : Int32)) = fld 2 (fun i => b (2 * i + 1)) 16 := by
    rw [tN_and, tN_sh x 1 1 rfl (by omega), e2, show tN (1431655765 : Int32) = fld 2 (fun _ => 1) 16 by decide +kernel, fld_and 16 (fun i _ => by have := hb (2 * i + 1); have := hb (2 * i + 1 + 1); omega) (fun i _ => by omega)]
    exact fld_congr 16 (fun i _ => and1 _ _ (hb _))
  have e4 : fld 2 (fun i => b (2 * i) + b (2 * i + 1)) 16 + fld 2 (fun i => b (2 * i + 1)) 16 = tN x := by
    rw [e1, fld_add]; exact fld_congr 16 (fun i _ => by omega)
  unfold bc1
  rw [tN_sub _ _ (by rw [e3]; omega), e3]
  omega
theorem bc2_ok (x : Int32) (c : Nat → Nat) (hc : ∀ i, c i ≤ 2) (h16 : c 16 = 0) (hx : tN x = fld 2 c 16) : tN (bc2 x) = fld 4 (fun i => c (2 * i) + c (2 * i + 1)) 8 := by
  have hc3 : ∀ i, c i < 4 := fun i => by have := hc i; omega
  have e1 : tN x = fld 4 (fun i => c (2 * i) + 2 ^ 2 * c (2 * i + 1)) 8 := by rw [hx]; exact fld_two 8
  have e2 : tN x / 2 ^ 2 = fld 4 (fun i => c (2 * i + 1) + 2 ^ 2 * c (2 * i + 1 + 1)) 8 := by
    rw [hx, fld_div 15 (hc3 0), ← fld_last (f := fun i => c (i + 1)) 15 h16]; exact fld_two (f := fun i => c (i + 1)) 8
  have hm : tN (858993459 : Int32) = fld 4 (fun _ => 3) 8 := by decide +kernel
  have e3 : tN (x &&& (858993459 : Int32)) = fld 4 (fun i => c (2 * i)) 8 := by
    rw [tN_and, e1, hm, fld_and 8 (fun i _ => by have := hc (2 * i); have := hc (2 * i + 1); omega) (fun i _ => by omega)]
    exact fld_congr 8 (fun i _ => and3 _ _ (hc3 _))
  have e4 : tN ((x.toUInt32 >>> ((iI (2)).toUInt32 &&& Int32.toUInt32 31)).toInt32 &&& (858993459 : Int32)) = fld 4 (fun i => c (2 * i + 1)) 8 := by
    rw [tN_and, tN_sh x 2 2 rfl (by omega), e2, hm, fld_and 8 (fun i _ => by have := hc (2 * i + 1); have := hc (2 * i + 1 + 1); omega) (fun i _ => by omega)]
    exact fld_congr 8 (fun i _ => and3 _ _ (hc3 _))
  have e5 := fld_lt (k := 4) (f := fun i => c (2 * i) + c (2 * i + 1)) 8 (fun i _ => by have := hc (2 * i); have := hc (2 * i + 1); omega)
  unfold bc2
  rw [tN_add _ _ (by rw [e3, e4, fld_add]; exact e5), e3, e4, fld_add]
theorem bc3_ok (x : Int32) (d : Nat → Nat) (hd : ∀ i, d i ≤ 4) (h8 : d 8 = 0) (hx : tN x = fld 4 d 8) : tN (bc3 x) = fld 8 (fun i => d (2 * i) + d (2 * i + 1)) 4 := by
  have hd3 : ∀ i, d i < 16 := fun i => by have := hd i; omega
  have e2 : tN (x.toUInt32 >>> ((iI (4)).toUInt32 &&& Int32.toUInt32 31)).toInt32 = fld 4 (fun i => d (i + 1)) 8 := by
    rw [tN_sh x 4 4 rfl (by omega), hx, fld_div 7 (hd3 0), ← fld_last (f := fun i => d (i + 1)) 7 h8]
  have e5 := fld_lt (k := 4) (f := fun i => d i + d (i + 1)) 8 (fun i _ => by have := hd i; have := hd (i + 1); omega)
  have e3 : tN (x + (x.toUInt32 >>> ((iI (4)).toUInt32 &&& Int32.toUInt32 31)).toInt32) = fld 8 (fun i => (d (2 * i) + d (2 * i + 1)) + 2 ^ 4 * (d (2 * i + 1) + d (2 * i + 1 + 1))) 4 := by
    rw [tN_add _ _ (by rw [e2, hx, fld_add]; exact e5), e2, hx, fld_add]; exact fld_two (f := fun i => d i + d (i + 1)) 4
  unfold bc3
  rw [tN_and, e3, show tN (252645135 : Int32) = fld 8 (fun _ => 15) 4 by decide +kernel, fld_and 4 (fun i _ => by have := hd (2 * i); have := hd (2 * i + 1); have := hd (2 * i + 1 + 1); omega) (fun i _ => by omega)]
  exact fld_congr 4 (fun i _ => and15 _ _ (by have := hd (2 * i); have := hd (2 * i + 1); omega))
theorem bc45_ok (x : Int32) (g : Nat → Nat) (hg : ∀ i, g i ≤ 8) (hx : tN x = fld 8 g 4) : tN (bc5 (bc4 x) &&& iI 63) = g 0 + g 1 + g 2 + g 3 := by
  have h0 := hg 0; have h1 := hg 1; have h2 := hg 2; have h3 := hg 3
  have hx : tN x = g 0 + 256 * (g 1 + 256 * (g 2 + 256 * (g 3 + 256 * 0))) := hx
  have e4 : tN (bc4 x) = tN x + tN x / 2 ^ 8 := by
    unfold bc4
    rw [tN_add _ _ (by rw [tN_sh x 8 8 rfl (by omega)]; omega), tN_sh x 8 8 rfl (by omega)]
  have e5 : tN (bc5 (bc4 x)) = tN (bc4 x) + tN (bc4 x) / 2 ^ 16 := by
    unfold bc5
    rw [tN_add _ _ (by rw [tN_sh _ 16 16 rfl (by omega)]; omega), tN_sh _ 16 16 rfl (by omega)]
  rw [tN_and, show tN (iI 63) = 2 ^ 6 - 1 by decide +kernel, Nat.and_two_pow_sub_one_eq_mod, e5, e4]
  have d1 : tN x / 2 ^ 8 = g 1 + 256 * g 2 + 65536 * g 3 := by omega
  rw [d1]
  have d2 : (tN x + (g 1 + 256 * g 2 + 65536 * g 3)) / 2 ^ 16 = g 2 + g 3 + 256 * g 3 := by omega
  rw [d2, hx]
  omega
theorem bc_ok (x : Int32) : bc5 (bc4 (bc3 (bc2 (bc1 x)))) &&& iI 63 = iI ((ct (bt x) 0 32 : Nat) : Int) := by
  generalize hb : (fun i => (bt x i).toNat) = b
  have b2 : ∀ i, b i < 2 := fun i => by rw [← hb]; show (bt x i).toNat < 2; cases bt x i <;> decide
  have b32 : b 32 = 0 := by rw [← hb]; show (bt x 32).toNat = 0; rw [b_big (by omega)]; rfl
  have hx : tN x = fld 1 b 32 := by rw [← hb]; exact fld_one 32 (tN x) (tN_lt x)
  have e1 := bc1_ok x b b2 b32 hx
  have e2 := bc2_ok (bc1 x) _ (fun i => by have := b2 (2 * i); have := b2 (2 * i + 1); show b (2 * i) + b (2 * i + 1) ≤ 2; omega) (by show b 32 + b 33 = 0; rw [b32, ← hb]; show 0 + (bt x 33).toNat = 0; rw [b_big (by omega)]; rfl) e1
  have hz : ∀ i, 32 ≤ i → b i = 0 := fun i hi => by rw [← hb]; show (bt x i).toNat = 0; rw [b_big hi]; rfl
  have e3 := bc3_ok (bc2 (bc1 x)) _ (fun i => by
    have h1 := b2 (2 * (2 * i)); have h2 := b2 (2 * (2 * i) + 1); have h3 := b2 (2 * (2 * i + 1)); have h4 := b2 (2 * (2 * i + 1) + 1)
    show (b (2 * (2 * i)) + b (2 * (2 * i) + 1)) + (b (2 * (2 * i + 1)) + b (2 * (2 * i + 1) + 1)) ≤ 4; omega) (by
    show (b 32 + b 33) + (b 34 + b 35) = 0; rw [hz 32 (by omega), hz 33 (by omega), hz 34 (by omega), hz 35 (by omega)]) e2
  have e4 := bc45_ok (bc3 (bc2 (bc1 x))) _ (fun i => by
    have q : ∀ j, b j ≤ 1 := fun j => by have := b2 j; omega
    show ((b (2 * (2 * (2 * i))) + b (2 * (2 * (2 * i)) + 1)) + (b (2 * (2 * (2 * i) + 1)) + b (2 * (2 * (2 * i) + 1) + 1))) + ((b (2 * (2 * (2 * i + 1))) + b (2 * (2 * (2 * i + 1)) + 1)) + (b (2 * (2 * (2 * i + 1) + 1)) + b (2 * (2 * (2 * i + 1) + 1) + 1))) ≤ 8
    have := q (2 * (2 * (2 * i))); have := q (2 * (2 * (2 * i)) + 1); have := q (2 * (2 * (2 * i) + 1)); have := q (2 * (2 * (2 * i) + 1) + 1); have := q (2 * (2 * (2 * i + 1))); have := q (2 * (2 * (2 * i + 1)) + 1); have := q (2 * (2 * (2 * i + 1) + 1)); have := q (2 * (2 * (2 * i + 1) + 1) + 1)
    omega) e3
  have e5 : ct (bt x) 0 32 = b 0 + b 1 + b 2 + b 3 + b 4 + b 5 + b 6 + b 7 + b 8 + b 9 + b 10 + b 11 + b 12 + b 13 + b 14 + b 15 + b 16 + b 17 + b 18 + b 19 + b 20 + b 21 + b 22 + b 23 + b 24 + b 25 + b 26 + b 27 + b 28 + b 29 + b 30 + b 31 := by
    have q : ∀ j, (if bt x (0 + j) = true then 1 else 0) = b j := fun j => by rw [← hb]; show _ = (bt x j).toNat; rw [Nat.zero_add]; cases bt x j <;> rfl
    simp only [ct, q]
    omega
  rw [iI_nI]
  apply Int32.toBitVec_inj.mp
  apply BitVec.eq_of_toNat_eq
  have e6 := ct_le (bt x) 0 32
  have e7 : (nI (ct (bt x) 0 32)).toBitVec.toNat = ct (bt x) 0 32 := pk_tn (by omega)
  rw [e7, e5]
  show tN _ = _
  rw [e4]
  show ((b 0 + b 1) + (b 2 + b 3)) + ((b 4 + b 5) + (b 6 + b 7)) + (((b 8 + b 9) + (b 10 + b 11)) + ((b 12 + b 13) + (b 14 + b 15))) + (((b 16 + b 17) + (b 18 + b 19)) + ((b 20 + b 21) + (b 22 + b 23))) + (((b 24 + b 25) + (b 26 + b 27)) + ((b 28 + b 29) + (b 30 + b 31))) = _
  omega
set_option maxHeartbeats 4000000 in
set_option maxRecDepth 100000 in
theorem cJ_bitCount (l : Launch) (D : va_G) (K : Nat → ClassId) {w : hm_M} (x : Int32)  : hm_Ci l D K yJ6_bitCount_0f7a4 cJ6_bitCount_0f7a4 1 .int 0 [.int (x)] w 0 0 (fun r w2 => r = iI ((ct (bt x) 0 32 : Nat) : Int) ∧ w2 = w) := by
  refine hm_enterI (by decide) (Nat.le_of_ble_eq_true rfl) ?_
  intro p e s m args below meth c E hr hnm
  show hm_V p l e (hm_rm 0 0 0) s m args below meth c D (hm_A w s.heap.size) 1 0 0 (MQ below (hm_Qi D w s.heap.size (fun r w2 => r = iI ((ct (bt x) 0 32 : Nat) : Int) ∧ w2 = w)) args s 0 0 (hm_A w s.heap.size)) w 0 [(0, .int (x))] []
  refine hv_iload_n E dJ6_bitCount_0f7a4_0 rfl 0 rfl rfl ?_
  refine hv_iload_n E dJ6_bitCount_0f7a4_1 rfl 0 rfl rfl ?_
  refine hv_iconst E dJ6_bitCount_0f7a4_2 rfl ?_
  refine hv_iushrR E dJ6_bitCount_0f7a4_3 rfl rfl ?_
  refine hv_ldcw E dJ6_bitCount_0f7a4_4 gK_J6_265 rfl ?_
  refine hv_iandR E dJ6_bitCount_0f7a4_7 rfl ?_
  refine hv_isubR E dJ6_bitCount_0f7a4_8 rfl ?_
  refine hv_topi (show x - (((x.toUInt32 >>> ((iI (1)).toUInt32 &&& Int32.toUInt32 31)).toInt32) &&& ((1431655765 : Int32))) = bc1 x from rfl) ?_
  refine hv_istore_n (lv2 := [(0, .int (bc1 x))]) E dJ6_bitCount_0f7a4_9 rfl (by decide) rfl rfl ?_
  refine hv_iload_n E dJ6_bitCount_0f7a4_10 rfl 0 rfl rfl ?_
  refine hv_ldcw E dJ6_bitCount_0f7a4_11 gK_J6_266 rfl ?_
  refine hv_iandR E dJ6_bitCount_0f7a4_14 rfl ?_
  refine hv_iload_n E dJ6_bitCount_0f7a4_15 rfl 0 rfl rfl ?_
  refine hv_iconst E dJ6_bitCount_0f7a4_16 rfl ?_
  refine hv_iushrR E dJ6_bitCount_0f7a4_17 rfl rfl ?_
  refine hv_ldcw E dJ6_bitCount_0f7a4_18 gK_J6_266 rfl ?_
  refine hv_iandR E dJ6_bitCount_0f7a4_21 rfl ?_
  refine hv_iaddR E dJ6_bitCount_0f7a4_22 rfl ?_
  refine hv_topi (show ((bc1 x) &&& ((858993459 : Int32))) + ((((bc1 x).toUInt32 >>> ((iI (2)).toUInt32 &&& Int32.toUInt32 31)).toInt32) &&& ((858993459 : Int32))) = bc2 (bc1 x) from rfl) ?_
  refine hv_istore_n (lv2 := [(0, .int (bc2 (bc1 x)))]) E dJ6_bitCount_0f7a4_23 rfl (by decide) rfl rfl ?_
  refine hv_iload_n E dJ6_bitCount_0f7a4_24 rfl 0 rfl rfl ?_
  refine hv_iload_n E dJ6_bitCount_0f7a4_25 rfl 0 rfl rfl ?_
  refine hv_iconst E dJ6_bitCount_0f7a4_26 rfl ?_
  refine hv_iushrR E dJ6_bitCount_0f7a4_27 rfl rfl ?_
  refine hv_iaddR E dJ6_bitCount_0f7a4_28 rfl ?_
  refine hv_ldcw E dJ6_bitCount_0f7a4_29 gK_J6_267 rfl ?_
  refine hv_iandR E dJ6_bitCount_0f7a4_32 rfl ?_
  refine hv_topi (show ((bc2 (bc1 x)) + (((bc2 (bc1 x)).toUInt32 >>> ((iI (4)).toUInt32 &&& Int32.toUInt32 31)).toInt32)) &&& ((252645135 : Int32)) = bc3 (bc2 (bc1 x)) from rfl) ?_
  refine hv_istore_n (lv2 := [(0, .int (bc3 (bc2 (bc1 x))))]) E dJ6_bitCount_0f7a4_33 rfl (by decide) rfl rfl ?_
  refine hv_iload_n E dJ6_bitCount_0f7a4_34 rfl 0 rfl rfl ?_
  refine hv_iload_n E dJ6_bitCount_0f7a4_35 rfl 0 rfl rfl ?_
  refine hv_bipush E dJ6_bitCount_0f7a4_36 (by decide +kernel) rfl ?_
  refine hv_iushrR E dJ6_bitCount_0f7a4_38 rfl rfl ?_
  refine hv_iaddR E dJ6_bitCount_0f7a4_39 rfl ?_
  refine hv_topi (show (bc3 (bc2 (bc1 x))) + (((bc3 (bc2 (bc1 x))).toUInt32 >>> ((iI (8)).toUInt32 &&& Int32.toUInt32 31)).toInt32) = bc4 (bc3 (bc2 (bc1 x))) from rfl) ?_
  refine hv_istore_n (lv2 := [(0, .int (bc4 (bc3 (bc2 (bc1 x)))))]) E dJ6_bitCount_0f7a4_40 rfl (by decide) rfl rfl ?_
  refine hv_iload_n E dJ6_bitCount_0f7a4_41 rfl 0 rfl rfl ?_
  refine hv_iload_n E dJ6_bitCount_0f7a4_42 rfl 0 rfl rfl ?_
  refine hv_bipush E dJ6_bitCount_0f7a4_43 (by decide +kernel) rfl ?_
  refine hv_iushrR E dJ6_bitCount_0f7a4_45 rfl rfl ?_
  refine hv_iaddR E dJ6_bitCount_0f7a4_46 rfl ?_
  refine hv_topi (show (bc4 (bc3 (bc2 (bc1 x)))) + (((bc4 (bc3 (bc2 (bc1 x)))).toUInt32 >>> ((iI (16)).toUInt32 &&& Int32.toUInt32 31)).toInt32) = bc5 (bc4 (bc3 (bc2 (bc1 x)))) from rfl) ?_
  refine hv_istore_n (lv2 := [(0, .int (bc5 (bc4 (bc3 (bc2 (bc1 x))))))]) E dJ6_bitCount_0f7a4_47 rfl (by decide) rfl rfl ?_
  refine hv_iload_n E dJ6_bitCount_0f7a4_48 rfl 0 rfl rfl ?_
  refine hv_bipush E dJ6_bitCount_0f7a4_49 (by decide +kernel) rfl ?_
  refine hv_iandR E dJ6_bitCount_0f7a4_51 rfl ?_
  refine hv_topi (show (bc5 (bc4 (bc3 (bc2 (bc1 x))))) &&& (iI (63)) = iI ((ct (bt x) 0 32 : Nat)) from bc_ok x) ?_
  exact hv_iret E dJ6_bitCount_0f7a4_52 hr ⟨rfl, rfl⟩
