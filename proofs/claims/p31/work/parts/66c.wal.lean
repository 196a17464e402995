def R_law : String := "UphillCartsLaw"
section LWX
variable {p : Program} {l : Launch} {e : Env} {R : Room} {s : State} {m : MethodId} {args : Array Value} {below : List Frame} {meth : Method} {c : Code} {H : Heap} {locs : List Loc} {cells slots : Nat} {Q : State → Prop}
variable {ls : Array Slot} {G : pG} {b Ls : Nat} {xs : Nat → Int32}
theorem lw_cmpI {L i : Nat} (hL : L ≤ 3072) (hi : i ≤ 3078) : (Int32.ofNat L - 6 < Int32.ofNat i) ↔ L < i + 6 := by
  have e1 : Int32.ofNat L - 6 = Int32.ofInt ((L : Int) - 6) := by
    rw [Int32.ofInt_sub]
    rfl
  have e2 : Int32.ofNat i = Int32.ofInt (i : Int) := rfl
  rw [e1, e2, inR_lt ⟨by omega, by omega⟩ ⟨by omega, by omega⟩]
  omega
theorem lw_hd {L : Nat} {i : Int32} (hx : p.tables.exec = Jvm.exec) (hb : c.code = cL_law) (hX : va_X b L xs s s.heap) (hbl : b < s.heap.size) (hbA : ¬ pA G b) (hS : va_S (pA G) s.heap H locs) (h4 : ls[4]? = some (.val (.int i))) (h0 : ls[0]? = some (.val (.ref b)))
    (kt : Int32.ofNat L - 6 < i → W p l e R s m args below meth c H locs cells slots Q (F0 m 1570 ls [])) (kf : ¬ Int32.ofNat L - 6 < i → W p l e R s m args below meth c H locs cells slots Q (F0 m 33 ls [])) : W p l e R s m args below meth c H locs cells slots Q (F0 m 23 ls []) := by
  refine lv_iload hx hb dL_law_23 h4 (lv_aload_n hx hb dL_law_25 rfl h0 (va_slen hx hb hX hbl hbA hS dL_law_26 (lv_bipush hx hb (v := 6) dL_law_27 rfl (lv_isub hx hb dL_law_29 ?_))))
  exact lv_icmp_gt hx hb dL_law_30 (tgt := 1570) rfl kt kf
theorem lw_and63 (x : Int32) : 0 ≤ (x &&& 63).toInt ∧ (x &&& 63).toInt < 64 := by
  have h : (x &&& 63).toBitVec.toNat < 64 := by
    rw [Int32.toBitVec_and, BitVec.toNat_and]
    exact Nat.and_lt_two_pow _ (n := 6) (by decide)
  have e : (x &&& 63).toInt = ((x &&& 63).toBitVec.toNat : Int) := by
    show BitVec.toInt _ = _
    rw [BitVec.toInt_eq_toNat_of_lt (by omega)]
  omega
set_option maxRecDepth 100000 in
set_option maxHeartbeats 4000000 in
/-- a call of the script -/
theorem lw_sw (F : lw_Fx G cL_law p R s m args c) (hX : va_X b Ls xs s s.heap) (hbl : b < s.heap.size) (hbA : ¬ pA G b) (hH0 : pH G [] s.heap) {M : sM} {J : pHp} {i : Nat} (hM : uG M) (hH : pH G (sHp sLay M ++ J) H) (hlo : ∀ q ∈ locs, pB G ≤ q.base) (hl : lv_has ls 7 (lw_lvi G b i)) (hi : i + 6 ≤ Ls) (hLs : Ls ≤ 3072) (hrc : cells ≤ R.cells) (hrs : slots ≤ R.slots)
    {sa sb : Nat} (hfl : l.stackTraces = false) (hXk : lk_X G sa sb s) (hRf : 302 ≤ R.frames) (hRl : 60700 ≤ R.locals) (hrc1 : cells + 1 ≤ R.cells) (hrs1 : slots + 6 ≤ R.slots)
    (kk : ∀ H1 locs1 cells1 slots1 ls1 M1 J1, lv_has ls1 7 (lw_lvi G b i) → uG M1 → pH G (sHp sLay M1 ++ J1) H1 → (∀ q ∈ locs1, pB G ≤ q.base) → cells1 ≤ cells + 1 → slots1 ≤ slots + 6 → W p l e R s m args below meth c H1 locs1 cells1 slots1 Q (F0 m 1564 ls1 [])) : W p l e R s m args below meth c H locs cells slots Q (F0 m 33 ls []) := by
  obtain ⟨hx, hb, -⟩ := id F
  have a0 := lv_at hl 4 rfl
  have a4 := lv_at hl 0 rfl
  have hS := ph_S hH0 hH (Nat.zero_le _) hlo
  obtain ⟨i1, i2⟩ := lw_ix (j := i) (by omega)
  refine lv_aload_n hx hb dL_law_33 rfl a0 (lv_iload hx hb dL_law_34 a4 (va_sld hx hb hX hbl hbA hS (by
    rintro (h | h)
    · exact i1 h
    · rw [i2] at h; omega) dL_law_36 (lv_bipush hx hb (v := 63) dL_law_37 rfl (lv_iand hx hb dL_law_39 ?_))))
  obtain ⟨n0, n1⟩ := lw_and63 (xs (Int32.ofNat i).toNatClampNeg)
  generalize (xs (Int32.ofNat i).toNatClampNeg) &&& 63 = w at n0 n1 ⊢
  have kk1 : ∀ H1 locs1 M1, uG M1 → pH G (sHp sLay M1 ++ J) H1 → (∀ q ∈ locs1, pB G ≤ q.base) → W p l e R s m args below meth c H1 locs1 cells slots Q (F0 m 1564 ls []) := fun H1 locs1 M1 h1 h2 h3 => kk H1 locs1 _ _ ls M1 J hl h1 h2 h3 (Nat.le_succ _) (Nat.le_add_right _ _)
  by_cases hbig : 40 < w.toInt
  · exact lv_tableOut hx hb dL_law_40 (tgt := 1564) (Or.inr hbig) rfl (kk1 _ _ _ hM hH hlo)
  obtain ⟨k, hk⟩ : ∃ k : Nat, w.toInt = (k : Int) := ⟨w.toInt.toNat, (Int.toNat_of_nonneg n0).symm⟩
  have hk40 : k ≤ 40 := by omega
  have ho : ∀ (off : Int) (tgt : Nat), (#[180, 253, 278, 303, 340, 380, 417, 454, 503, 540, 577, 638, 691, 728, 753, 778, 803, 828, 865, 878, 903, 940, 965, 1002, 1027, 1076, 1113, 1150, 1175, 1200, 1261, 1286, 1311, 1324, 1361, 1386, 1411, 1460, 1473, 1486, 1499] : Array Int)[k]? = some off → (40 : Int) + off = (tgt : Int) → W p l e R s m args below meth c H locs cells slots Q (F0 m tgt ls []) → W p l e R s m args below meth c H locs cells slots Q (F0 m 40 ls [.int w]) := by
    intro off tgt h1 h2 h3
    exact lv_tableIn hx hb dL_law_40 (by omega) (by omega) (by rw [hk]; exact h1) h2 h3
  match k, hk40 with
  | 0, _ => exact ho _ 220 rfl rfl (lc_0 F hX hbl hbA hH0 hM hH hlo hl hi hLs hrc hrs kk1)
  | 1, _ => exact ho _ 293 rfl rfl (lc_1 F hX hbl hbA hH0 hM hH hlo hl hi hLs hrc hrs kk1)
  | 2, _ => exact ho _ 318 rfl rfl (lc_2 F hX hbl hbA hH0 hM hH hlo hl hi hLs hrc hrs kk1)
  | 3, _ => exact ho _ 343 rfl rfl (lc_3 F hX hbl hbA hH0 hM hH hlo hl hi hLs hrc hrs kk1)
  | 4, _ => exact ho _ 380 rfl rfl (lc_4 F hX hbl hbA hH0 hM hH hlo hl hi hLs hrc hrs hfl hXk hRf hRl hrc1 hrs1 kk)
  | 5, _ => exact ho _ 420 rfl rfl (lc_5 F hX hbl hbA hH0 hM hH hlo hl hi hLs hrc hrs kk1)
  | 6, _ => exact ho _ 457 rfl rfl (lc_6 F hX hbl hbA hH0 hM hH hlo hl hi hLs hrc hrs kk1)
  | 7, _ => exact ho _ 494 rfl rfl (lc_7 F hX hbl hbA hH0 hM hH hlo hl hi hLs hrc hrs kk1)
  | 8, _ => exact ho _ 543 rfl rfl (lc_8 F hX hbl hbA hH0 hM hH hlo hl hi hLs hrc hrs kk1)
  | 9, _ => exact ho _ 580 rfl rfl (lc_9 F hX hbl hbA hH0 hM hH hlo hl hi hLs hrc hrs kk1)
  | 10, _ => exact ho _ 617 rfl rfl (lc_10 F hX hbl hbA hH0 hM hH hlo hl hi hLs hrc hrs kk1)
  | 11, _ => exact ho _ 678 rfl rfl (lc_11 F hX hbl hbA hH0 hM hH hlo hl hi hLs hrc hrs kk1)
  | 12, _ => exact ho _ 731 rfl rfl (lc_12 F hX hbl hbA hH0 hM hH hlo hl hi hLs hrc hrs kk1)
  | 13, _ => exact ho _ 768 rfl rfl (lc_13 F hX hbl hbA hH0 hM hH hlo hl hi hLs hrc hrs kk1)
  | 14, _ => exact ho _ 793 rfl rfl (lc_14 F hX hbl hbA hH0 hM hH hlo hl hi hLs hrc hrs kk1)
  | 15, _ => exact ho _ 818 rfl rfl (lc_15 F hX hbl hbA hH0 hM hH hlo hl hi hLs hrc hrs kk1)
  | 16, _ => exact ho _ 843 rfl rfl (lc_16 F hX hbl hbA hH0 hM hH hlo hl hi hLs hrc hrs kk1)
  | 17, _ => exact ho _ 868 rfl rfl (lc_17 F hX hbl hbA hH0 hM hH hlo hl hi hLs hrc hrs kk1)
  | 18, _ => exact ho _ 905 rfl rfl (lc_18 F hX hbl hbA hH0 hM hH hlo hl hi hLs hrc hrs kk1)
  | 19, _ => exact ho _ 918 rfl rfl (lc_19 F hX hbl hbA hH0 hM hH hlo hl hi hLs hrc hrs kk1)
  | 20, _ => exact ho _ 943 rfl rfl (lc_20 F hX hbl hbA hH0 hM hH hlo hl hi hLs hrc hrs kk1)
  | 21, _ => exact ho _ 980 rfl rfl (lc_21 F hX hbl hbA hH0 hM hH hlo hl hi hLs hrc hrs kk1)
  | 22, _ => exact ho _ 1005 rfl rfl (lc_22 F hX hbl hbA hH0 hM hH hlo hl hi hLs hrc hrs kk1)
  | 23, _ => exact ho _ 1042 rfl rfl (lc_23 F hX hbl hbA hH0 hM hH hlo hl hi hLs hrc hrs kk1)
  | 24, _ => exact ho _ 1067 rfl rfl (lc_24 F hX hbl hbA hH0 hM hH hlo hl hi hLs hrc hrs kk1)
  | 25, _ => exact ho _ 1116 rfl rfl (lc_25 F hX hbl hbA hH0 hM hH hlo hl hi hLs hrc hrs kk1)
  | 26, _ => exact ho _ 1153 rfl rfl (lc_26 F hX hbl hbA hH0 hM hH hlo hl hi hLs hrc hrs kk1)
  | 27, _ => exact ho _ 1190 rfl rfl (lc_27 F hX hbl hbA hH0 hM hH hlo hl hi hLs hrc hrs kk1)
  | 28, _ => exact ho _ 1215 rfl rfl (lc_28 F hX hbl hbA hH0 hM hH hlo hl hi hLs hrc hrs kk1)
  | 29, _ => exact ho _ 1240 rfl rfl (lc_29 F hX hbl hbA hH0 hM hH hlo hl hi hLs hrc hrs kk1)
  | 30, _ => exact ho _ 1301 rfl rfl (lc_30 F hX hbl hbA hH0 hM hH hlo hl hi hLs hrc hrs kk1)
  | 31, _ => exact ho _ 1326 rfl rfl (lc_31 F hX hbl hbA hH0 hM hH hlo hl hi hLs hrc hrs kk1)
  | 32, _ => exact ho _ 1351 rfl rfl (lc_32 F hX hbl hbA hH0 hM hH hlo hl hi hLs hrc hrs kk1)
  | 33, _ => exact ho _ 1364 rfl rfl (lc_33 F hX hbl hbA hH0 hM hH hlo hl hi hLs hrc hrs kk1)
  | 34, _ => exact ho _ 1401 rfl rfl (lc_34 F hX hbl hbA hH0 hM hH hlo hl hi hLs hrc hrs kk1)
  | 35, _ => exact ho _ 1426 rfl rfl (lc_35 F hX hbl hbA hH0 hM hH hlo hl hi hLs hrc hrs kk1)
  | 36, _ => exact ho _ 1451 rfl rfl (lc_36 F hX hbl hbA hH0 hM hH hlo hl hi hLs hrc hrs kk1)
  | 37, _ => exact ho _ 1500 rfl rfl (lc_37 F hX hbl hbA hH0 hM hH hlo hl hi hLs hrc hrs kk1)
  | 38, _ => exact ho _ 1513 rfl rfl (lc_38 F hX hbl hbA hH0 hM hH hlo hl hi hLs hrc hrs kk1)
  | 39, _ => exact ho _ 1526 rfl rfl (lc_39 F hX hbl hbA hH0 hM hH hlo hl hi hLs hrc hrs kk1)
  | 40, _ => exact ho _ 1539 rfl rfl (lc_40 F hX hbl hbA hH0 hM hH hlo hl hi hLs hrc hrs kk1)
  | k + 41, h => exact absurd h (by omega)
theorem lw_loop (F : lw_Fx G cL_law p R s m args c) (hX : va_X b Ls xs s s.heap) (hbl : b < s.heap.size) (hbA : ¬ pA G b) (hH0 : pH G [] s.heap) (hLs : Ls ≤ 3072) {sa sb : Nat} (hfl : l.stackTraces = false) (hXk : lk_X G sa sb s) (hRf : 302 ≤ R.frames) (hRl : 60700 ≤ R.locals) (hRc : 200000 ≤ R.cells) (hRs : 5000000 ≤ R.slots)
    (hend : ∀ (H : Heap) (locs : List Loc) (cells slots : Nat) (ls : Array Slot), (∀ q ∈ locs, pB G ≤ q.base) → cells ≤ 200000 → slots ≤ 5000000 → W p l e R s m args below meth c H locs cells slots Q (F0 m 1570 ls [])) :
    ∀ (k i : Nat) (M : sM) (J : pHp) (H : Heap) (locs : List Loc) (cells slots : Nat) (ls : Array Slot), Ls ≤ i + k → i ≤ Ls + 5 → uG M → pH G (sHp sLay M ++ J) H → (∀ q ∈ locs, pB G ≤ q.base) → lv_has ls 7 (lw_lvi G b i) → cells + k ≤ 200000 → slots + 6 * k ≤ 5000000 → W p l e R s m args below meth c H locs cells slots Q (F0 m 23 ls []) := by
  obtain ⟨hx, hb, -⟩ := id F
  intro k
  induction k using Nat.strongRecOn with
  | _ k ih =>
    intro i M J H locs cells slots ls h1 h2 hM hH hlo hl hc hs
    have hS := ph_S hH0 hH (Nat.zero_le _) hlo
    refine lw_hd hx hb hX hbl hbA hS (lv_at hl 0 rfl) (lv_at hl 4 rfl) (fun _ => hend _ _ _ _ _ hlo (by omega) (by omega)) (fun hn => ?_)
    have h6 : i + 6 ≤ Ls := by
      by_cases hc6 : Ls < i + 6
      · exact absurd ((lw_cmpI hLs (by omega)).mpr hc6) hn
      · omega
    refine lw_sw F hX hbl hbA hH0 hM hH hlo hl h6 hLs (by omega) (by omega) hfl hXk hRf hRl (by omega) (by omega) fun H1 locs1 cells1 slots1 ls1 M1 J1 k1 k2 k3 k4 k5 k6 => ?_
    have hv : Int32.ofNat i + Int32.ofInt 6 = Int32.ofNat (i + 6) := (Int32.ofNat_add i 6).symm
    refine lv_iinc hx hb (k := 0) (v := Int32.ofNat (i + 6)) (lv' := lw_lvi G b (i + 6)) dL_law_1564 k1 rfl hv (by decide) rfl fun ls4 hl4 => ?_
    refine lv_goto hx hb dL_law_1567 (tgt := 23) rfl ?_
    exact ih (k - 6) (by omega) (i + 6) M1 J1 H1 locs1 cells1 slots1 ls4 (by omega) (by omega) k2 k3 k4 hl4 (by omega) (by omega)
end LWX
