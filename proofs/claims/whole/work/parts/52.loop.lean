set_option maxHeartbeats 4000000 in
set_option maxRecDepth 100000 in
theorem law_loop {p : Program} {e : Env} {s : State} {m : MethodId} {below : List Frame} {meth : Method} {c : Code} (l : Launch) {D : va_G} {K : Nat → ClassId} {bs Ls : Nat} {xs : Nat → Int32} {ad : Nat → Nat} {q ia ta : Nat} (hap : apt ad q ia ta) (E : hm_E p s m #[Value.ref bs] meth c cL_law 4 RL D K (fun z => s.heap.size ≤ z)) (hX : va_X bs Ls xs s s.heap) (hbl : bs < s.heap.size) (hbA : ¬ (fun z => s.heap.size ≤ z) bs) (hL : Ls ≤ 320) (hr : meth.sig.returnType = ret) : ∀ (k i : Nat) (w : hm_M), Ls < i + k → i ≤ Ls → wI K w ad q ia ta → hm_V p l e room_1 s m #[Value.ref bs] below meth c D (fun z => s.heap.size ≤ z) 4 29 46517 (lw_Z below #[Value.ref bs] s) w 18 [(3, .int (iI (((i : Nat) : Int)))), (0, .ref (bs)), (1, .ref (ad 0)), (2, .ref (q))] [] := by
  intro k
  induction k with
  | zero => intro i w h1 h2 h; exact absurd h1 (by omega)
  | succ k ih =>
    intro i w hk hiL h
    refine hv_iload_n E dL_law_18 rfl 0 rfl rfl ?_
    refine hv_aload_n E dL_law_19 rfl 1 rfl rfl ?_
    refine hv_slen E hX hbl hbA dL_law_20 rfl ?_
    show hm_V p l e room_1 s m #[Value.ref bs] below meth c D (fun z => s.heap.size ≤ z) 4 29 46517 (lw_Z below #[Value.ref bs] s) w 21 [(3, .int (iI (((i : Nat) : Int)))), (0, .ref (bs)), (1, .ref (ad 0)), (2, .ref (q))] [.int (iI ((Ls : Int))), .int (iI (((i : Nat) : Int)))]
    refine hv_iconst E dL_law_21 rfl ?_
    refine hv_isub E dL_law_22 rfl ?_
    refine hv_icmp_gt E 854 dL_law_23 (by decide) ⟨by omega, by omega⟩ ⟨by omega, by omega⟩ rfl (fun c1 => ?_) (fun c1 => ?_)
    · refine hv_iconst E dL_law_854 rfl ?_
      exact hv_lret E hr dL_law_855
    · have hi : i + 5 ≤ Ls := by omega
      have kc : ∀ w2, wI K w2 ad q ia ta → hm_V p l e room_1 s m #[Value.ref bs] below meth c D (fun z => s.heap.size ≤ z) 4 29 46517 (lw_Z below #[Value.ref bs] s) w2 848 [(3, .int (iI (((i : Nat) : Int)))), (0, .ref (bs)), (1, .ref (ad 0)), (2, .ref (q))] [] := by
        intro w2 h2
        refine hv_iinc (lv2 := [(3, .int (iI ((((i : Nat) : Int)) + 5))), (0, .ref (bs)), (1, .ref (ad 0)), (2, .ref (q))]) E dL_law_848 0 rfl rfl (by decide) rfl rfl ?_
        refine hv_goto E 18 dL_law_851 (by decide) ?_
        rw [show ((i : Nat) : Int) + 5 = ((i + 5 : Nat) : Int) by omega]
        exact ih (i + 5) w2 (by omega) (by omega) h2
      refine hv_aload_n E dL_law_26 rfl 1 rfl rfl ?_
      refine hv_iload_n E dL_law_27 rfl 0 rfl rfl ?_
      refine hv_sld E hX hbl hbA hL (by omega) (by omega) (show xs ((i : Nat) : Int).toNat = xs i by rw [show ((i : Nat) : Int).toNat = i by omega]) dL_law_28 rfl ?_
      show hm_V p l e room_1 s m #[Value.ref bs] below meth c D (fun z => s.heap.size ≤ z) 4 29 46517 (lw_Z below #[Value.ref bs] s) w 29 [(3, .int (iI (((i : Nat) : Int)))), (0, .ref (bs)), (1, .ref (ad 0)), (2, .ref (q))] [.int (xs i)]
      refine hv_bipush E dL_law_29 (by decide +kernel) rfl ?_
      refine hv_iandR E dL_law_31 rfl ?_
      generalize (xs i) &&& (iI (31)) = sw
      show hm_V p l e room_1 s m #[Value.ref bs] below meth c D (fun z => s.heap.size ≤ z) 4 29 46517 (lw_Z below #[Value.ref bs] s) w 32 [(3, .int (iI (((i : Nat) : Int)))), (0, .ref (bs)), (1, .ref (ad 0)), (2, .ref (q))] [.int (sw)]
      by_cases hsw : sw.toInt < 0 ∨ 21 < sw.toInt
      · exact hv_tabOut E 848 dL_law_32 hsw (by decide) (kc w h)
      · rcases (show sw.toInt = 0 ∨ sw.toInt = 1 ∨ sw.toInt = 2 ∨ sw.toInt = 3 ∨ sw.toInt = 4 ∨ sw.toInt = 5 ∨ sw.toInt = 6 ∨ sw.toInt = 7 ∨ sw.toInt = 8 ∨ sw.toInt = 9 ∨ sw.toInt = 10 ∨ sw.toInt = 11 ∨ sw.toInt = 12 ∨ sw.toInt = 13 ∨ sw.toInt = 14 ∨ sw.toInt = 15 ∨ sw.toInt = 16 ∨ sw.toInt = 17 ∨ sw.toInt = 18 ∨ sw.toInt = 19 ∨ sw.toInt = 20 ∨ sw.toInt = 21 by omega) with hs | hs | hs | hs | hs | hs | hs | hs | hs | hs | hs | hs | hs | hs | hs | hs | hs | hs | hs | hs | hs | hs
        · exact hv_tabIn E 136 dL_law_32 (by omega) (by omega) (by rw [hs]; rfl) (by decide) (law_put l hap E hX hbl hbA hL hi h kc)
        · exact hv_tabIn E 169 dL_law_32 (by omega) (by omega) (by rw [hs]; rfl) (by decide) (law_fill l hap E hX hbl hbA hL hi h kc)
        · exact hv_tabIn E 212 dL_law_32 (by omega) (by omega) (by rw [hs]; rfl) (by decide) (law_drop l hap E hX hbl hbA hL hi h kc)
        · exact hv_tabIn E 255 dL_law_32 (by omega) (by omega) (by rw [hs]; rfl) (by decide) (law_join l hap E hX hbl hbA hL hi h kc)
        · exact hv_tabIn E 308 dL_law_32 (by omega) (by omega) (by rw [hs]; rfl) (by decide) (law_has l hap E hX hbl hbA hL hi h kc)
        · exact hv_tabIn E 341 dL_law_32 (by omega) (by omega) (by rw [hs]; rfl) (by decide) (law_count l hap E hX hbl hbA hL hi h kc)
        · exact hv_tabIn E 364 dL_law_32 (by omega) (by omega) (by rw [hs]; rfl) (by decide) (law_rank l hap E hX hbl hbA hL hi h kc)
        · exact hv_tabIn E 397 dL_law_32 (by omega) (by omega) (by rw [hs]; rfl) (by decide) (law_select l hap E hX hbl hbA hL hi h kc)
        · exact hv_tabIn E 430 dL_law_32 (by omega) (by omega) (by rw [hs]; rfl) (by decide) (law_next l hap E hX hbl hbA hL hi h kc)
        · exact hv_tabIn E 463 dL_law_32 (by omega) (by omega) (by rw [hs]; rfl) (by decide) (law_before l hap E hX hbl hbA hL hi h kc)
        · exact hv_tabIn E 496 dL_law_32 (by omega) (by omega) (by rw [hs]; rfl) (by decide) (law_common l hap E hX hbl hbA hL hi h kc)
        · exact hv_tabIn E 529 dL_law_32 (by omega) (by omega) (by rw [hs]; rfl) (by decide) (law_piece l hap E hX hbl hbA hL hi h kc)
        · exact hv_tabIn E 572 dL_law_32 (by omega) (by omega) (by rw [hs]; rfl) (by decide) (law_cost l hap E hX hbl hbA hL hi h kc)
        · exact hv_tabIn E 595 dL_law_32 (by omega) (by omega) (by rw [hs]; rfl) (by decide) (law_length l hap E hX hbl hbA hL hi h kc)
        · exact hv_tabIn E 628 dL_law_32 (by omega) (by omega) (by rw [hs]; rfl) (by decide) (law_write l hap E hX hbl hbA hL hi h kc)
        · exact hv_tabIn E 661 dL_law_32 (by omega) (by omega) (by rw [hs]; rfl) (by decide) (law_read l hap E hX hbl hbA hL hi h kc)
        · exact hv_tabIn E 694 dL_law_32 (by omega) (by omega) (by rw [hs]; rfl) (by decide) (law_ask l hap E hX hbl hbA hL hi h kc)
        · exact hv_tabIn E 727 dL_law_32 (by omega) (by omega) (by rw [hs]; rfl) (by decide) (law_sign l hap E hX hbl hbA hL hi h kc)
        · exact hv_tabIn E 766 dL_law_32 (by omega) (by omega) (by rw [hs]; rfl) (by decide) (law_cut l hap E hX hbl hbA hL hi h kc)
        · exact hv_tabIn E 789 dL_law_32 (by omega) (by omega) (by rw [hs]; rfl) (by decide) (law_flip l hap E hX hbl hbA hL hi h kc)
        · exact hv_tabIn E 812 dL_law_32 (by omega) (by omega) (by rw [hs]; rfl) (by decide) (law_bit l hap E hX hbl hbA hL hi h kc)
        · exact hv_tabIn E 835 dL_law_32 (by omega) (by omega) (by rw [hs]; rfl) (by decide) (law_size l hap E hX hbl hbA hL hi h kc)
