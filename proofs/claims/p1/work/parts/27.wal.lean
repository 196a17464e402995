def R_law : String := "UphillCartsLaw"
section LWX
variable {p : Program} {l : Launch} {e : Env} {R : Room} {s : State} {m : MethodId} {args : Array Value} {below : List Frame} {meth : Method} {c : Code} {H : Heap} {locs : List Loc} {cells slots : Nat} {Q : State → Prop}
variable {ls : Array Slot} {G : pG} {b : Nat} {xs : Nat → Int32}
/-- the loop's head: the script's end -/
theorem lw_hd {L : Nat} {i : Int32} {lv : List (Nat × Value)} (hx : p.tables.exec = Jvm.exec) (hb : c.code = cL_law) (hX : va_X b L xs s s.heap) (hbl : b < s.heap.size) (hbA : ¬ pA G b) (hS : va_S (pA G) s.heap H locs) (h4 : ls[4]? = some (.val (.int i))) (h0 : ls[0]? = some (.val (.ref b)))
    (kt : Int32.ofNat L - 6 < i → W p l e R s m args below meth c H locs cells slots Q (F0 m 1599 ls [])) (kf : ¬ Int32.ofNat L - 6 < i → W p l e R s m args below meth c H locs cells slots Q (F0 m 33 ls [])) : W p l e R s m args below meth c H locs cells slots Q (F0 m 23 ls []) := by
  refine lv_iload hx hb dL_law_23 h4 (lv_aload_n hx hb dL_law_25 rfl h0 (va_slen hx hb hX hbl hbA hS dL_law_26 (lv_bipush hx hb (v := 6) dL_law_27 rfl (lv_isub hx hb dL_law_29 ?_))))
  exact lv_icmp_gt hx hb dL_law_30 (tgt := 1599) rfl kt kf
theorem lw_and63 (x : Int32) : 0 ≤ (x &&& 63).toInt ∧ (x &&& 63).toInt < 64 := by
  have h : (x &&& 63).toBitVec.toNat < 64 := by
    rw [Int32.toBitVec_and, BitVec.toNat_and]
    exact Nat.and_lt_two_pow _ (n := 6) (by decide)
  have e : (x &&& 63).toInt = ((x &&& 63).toBitVec.toNat : Int) := by
    show BitVec.toInt _ = _
    rw [BitVec.toInt_eq_toNat_of_lt (by omega)]
  omega
set_option maxRecDepth 100000 in
set_option maxHeartbeats 4000000 in
/-- a call of the script on the fresh objects -/
theorem lw_sw (F : lw_Fx G cL_law p R s m args c) (hX : va_X b 6 xs s s.heap) (hbl : b < s.heap.size) (hbA : ¬ pA G b) (hH0 : pH G [] s.heap) (hH : pH G fF H) (hlo : ∀ q ∈ locs, pB G ≤ q.base) (hl : lv_has ls 7 (lw_lv G b)) (hc : cells ≤ 200) (hs : slots ≤ 1000000) (hRc : 200000 ≤ R.cells) (hRs : 5000000 ≤ R.slots)
    {sa : Nat} (hfl : l.stackTraces = false) (hXk : lk_X G sa s) (hRf : 14 ≤ R.frames) (hRl : 2700 ≤ R.locals)
    (kk : ∀ H1 locs1 cells1 slots1 ls1, lv_has ls1 7 (lw_lv G b) → va_S (pA G) s.heap H1 locs1 → cells1 ≤ 200000 → slots1 ≤ 5000000 → W p l e R s m args below meth c H1 locs1 cells1 slots1 Q (F0 m 1593 ls1 [])) : W p l e R s m args below meth c H locs cells slots Q (F0 m 33 ls []) := by
  obtain ⟨hx, hb, -⟩ := id F
  have a0 := lv_at hl 4 rfl
  have a4 := lv_at hl 0 rfl
  have hS := ph_S hH0 hH (Nat.zero_le _) hlo
  refine lv_aload_n hx hb dL_law_33 rfl a0 (lv_iload hx hb dL_law_34 a4 (va_sld hx hb hX hbl hbA hS (by unfold vp_in; decide) dL_law_36 (lv_bipush hx hb (v := 63) dL_law_37 rfl (lv_iand hx hb dL_law_39 ?_))))
  obtain ⟨n0, n1⟩ := lw_and63 (xs (0 : Int32).toNatClampNeg)
  generalize (xs (0 : Int32).toNatClampNeg) &&& 63 = w at n0 n1 ⊢
  have kk1 : ∀ H1 locs1 cells1 slots1, va_S (pA G) s.heap H1 locs1 → cells1 ≤ 200000 → slots1 ≤ 5000000 → W p l e R s m args below meth c H1 locs1 cells1 slots1 Q (F0 m 1593 ls []) := fun H1 locs1 c1 s1 h1 h2 h3 => kk H1 locs1 c1 s1 ls hl h1 h2 h3
  by_cases hbig : 40 < w.toInt
  · exact lv_tableOut hx hb dL_law_40 (tgt := 1593) (Or.inr hbig) rfl (kk1 _ _ _ _ hS (by omega) (by omega))
  obtain ⟨k, hk⟩ : ∃ k : Nat, w.toInt = (k : Int) := ⟨w.toInt.toNat, (Int.toNat_of_nonneg n0).symm⟩
  have hk40 : k ≤ 40 := by omega
  have ho : ∀ (off : Int) (tgt : Nat), (#[180, 253, 278, 303, 340, 408, 445, 482, 531, 568, 605, 667, 720, 757, 782, 807, 832, 857, 894, 907, 932, 969, 994, 1031, 1056, 1105, 1142, 1179, 1204, 1229, 1290, 1315, 1340, 1353, 1390, 1415, 1440, 1489, 1502, 1515, 1528] : Array Int)[k]? = some off → (40 : Int) + off = (tgt : Int) → W p l e R s m args below meth c H locs cells slots Q (F0 m tgt ls []) → W p l e R s m args below meth c H locs cells slots Q (F0 m 40 ls [.int w]) := by
    intro off tgt h1 h2 h3
    exact lv_tableIn hx hb dL_law_40 (by omega) (by omega) (by rw [hk]; exact h1) h2 h3
  match k, hk40 with
  | 0, _ => exact ho _ 220 rfl rfl (lc_0 F hX hbl hbA hH0 hH hlo hl hc hs hRc hRs kk1)
  | 1, _ => exact ho _ 293 rfl rfl (lc_1 F hX hbl hbA hH0 hH hlo hl hc hs hRc hRs kk1)
  | 2, _ => exact ho _ 318 rfl rfl (lc_2 F hX hbl hbA hH0 hH hlo hl hc hs hRc hRs kk1)
  | 3, _ => exact ho _ 343 rfl rfl (lc_3 F hX hbl hbA hH0 hH hlo hl hc hs hRc hRs kk1)
  | 4, _ => exact ho _ 380 rfl rfl (lc_4 F hX hbl hbA hH0 hH hlo hl hc hs hRc hRs hfl hXk hRf hRl kk)
  | 5, _ => exact ho _ 448 rfl rfl (lc_5 F hX hbl hbA hH0 hH hlo hl hc hs hRc hRs kk1)
  | 6, _ => exact ho _ 485 rfl rfl (lc_6 F hX hbl hbA hH0 hH hlo hl hc hs hRc hRs kk1)
  | 7, _ => exact ho _ 522 rfl rfl (lc_7 F hX hbl hbA hH0 hH hlo hl hc hs hRc hRs kk1)
  | 8, _ => exact ho _ 571 rfl rfl (lc_8 F hX hbl hbA hH0 hH hlo hl hc hs hRc hRs kk1)
  | 9, _ => exact ho _ 608 rfl rfl (lc_9 F hX hbl hbA hH0 hH hlo hl hc hs hRc hRs kk1)
  | 10, _ => exact ho _ 645 rfl rfl (lc_10 F hX hbl hbA hH0 hH hlo hl hc hs hRc hRs kk1)
  | 11, _ => exact ho _ 707 rfl rfl (lc_11 F hX hbl hbA hH0 hH hlo hl hc hs hRc hRs kk1)
  | 12, _ => exact ho _ 760 rfl rfl (lc_12 F hX hbl hbA hH0 hH hlo hl hc hs hRc hRs kk1)
  | 13, _ => exact ho _ 797 rfl rfl (lc_13 F hX hbl hbA hH0 hH hlo hl hc hs hRc hRs kk1)
  | 14, _ => exact ho _ 822 rfl rfl (lc_14 F hX hbl hbA hH0 hH hlo hl hc hs hRc hRs kk1)
  | 15, _ => exact ho _ 847 rfl rfl (lc_15 F hX hbl hbA hH0 hH hlo hl hc hs hRc hRs kk1)
  | 16, _ => exact ho _ 872 rfl rfl (lc_16 F hX hbl hbA hH0 hH hlo hl hc hs hRc hRs kk1)
  | 17, _ => exact ho _ 897 rfl rfl (lc_17 F hX hbl hbA hH0 hH hlo hl hc hs hRc hRs kk1)
  | 18, _ => exact ho _ 934 rfl rfl (lc_18 F hX hbl hbA hH0 hH hlo hl hc hs hRc hRs kk1)
  | 19, _ => exact ho _ 947 rfl rfl (lc_19 F hX hbl hbA hH0 hH hlo hl hc hs hRc hRs kk1)
  | 20, _ => exact ho _ 972 rfl rfl (lc_20 F hX hbl hbA hH0 hH hlo hl hc hs hRc hRs kk1)
  | 21, _ => exact ho _ 1009 rfl rfl (lc_21 F hX hbl hbA hH0 hH hlo hl hc hs hRc hRs kk1)
  | 22, _ => exact ho _ 1034 rfl rfl (lc_22 F hX hbl hbA hH0 hH hlo hl hc hs hRc hRs kk1)
  | 23, _ => exact ho _ 1071 rfl rfl (lc_23 F hX hbl hbA hH0 hH hlo hl hc hs hRc hRs kk1)
  | 24, _ => exact ho _ 1096 rfl rfl (lc_24 F hX hbl hbA hH0 hH hlo hl hc hs hRc hRs kk1)
  | 25, _ => exact ho _ 1145 rfl rfl (lc_25 F hX hbl hbA hH0 hH hlo hl hc hs hRc hRs kk1)
  | 26, _ => exact ho _ 1182 rfl rfl (lc_26 F hX hbl hbA hH0 hH hlo hl hc hs hRc hRs kk1)
  | 27, _ => exact ho _ 1219 rfl rfl (lc_27 F hX hbl hbA hH0 hH hlo hl hc hs hRc hRs kk1)
  | 28, _ => exact ho _ 1244 rfl rfl (lc_28 F hX hbl hbA hH0 hH hlo hl hc hs hRc hRs kk1)
  | 29, _ => exact ho _ 1269 rfl rfl (lc_29 F hX hbl hbA hH0 hH hlo hl hc hs hRc hRs kk1)
  | 30, _ => exact ho _ 1330 rfl rfl (lc_30 F hX hbl hbA hH0 hH hlo hl hc hs hRc hRs kk1)
  | 31, _ => exact ho _ 1355 rfl rfl (lc_31 F hX hbl hbA hH0 hH hlo hl hc hs hRc hRs kk1)
  | 32, _ => exact ho _ 1380 rfl rfl (lc_32 F hX hbl hbA hH0 hH hlo hl hc hs hRc hRs kk1)
  | 33, _ => exact ho _ 1393 rfl rfl (lc_33 F hX hbl hbA hH0 hH hlo hl hc hs hRc hRs kk1)
  | 34, _ => exact ho _ 1430 rfl rfl (lc_34 F hX hbl hbA hH0 hH hlo hl hc hs hRc hRs kk1)
  | 35, _ => exact ho _ 1455 rfl rfl (lc_35 F hX hbl hbA hH0 hH hlo hl hc hs hRc hRs kk1)
  | 36, _ => exact ho _ 1480 rfl rfl (lc_36 F hX hbl hbA hH0 hH hlo hl hc hs hRc hRs kk1)
  | 37, _ => exact ho _ 1529 rfl rfl (lc_37 F hX hbl hbA hH0 hH hlo hl hc hs hRc hRs kk1)
  | 38, _ => exact ho _ 1542 rfl rfl (lc_38 F hX hbl hbA hH0 hH hlo hl hc hs hRc hRs kk1)
  | 39, _ => exact ho _ 1555 rfl rfl (lc_39 F hX hbl hbA hH0 hH hlo hl hc hs hRc hRs kk1)
  | 40, _ => exact ho _ 1568 rfl rfl (lc_40 F hX hbl hbA hH0 hH hlo hl hc hs hRc hRs kk1)
  | k + 41, h => exact absurd h (by omega)
end LWX
