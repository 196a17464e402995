section LWX
variable {p : Program} {l : Launch} {e : Env} {R : Room} {s : State} {m : MethodId} {args : Array Value} {below : List Frame} {meth : Method} {c : Code} {H : Heap} {locs : List Loc} {cells slots : Nat} {Q : State → Prop}
variable {ls : Array Slot} {G : pG} {b : Nat} {xs : Nat → Int32}
set_option maxRecDepth 100000 in
set_option maxHeartbeats 4000000 in
theorem lc_16 (F : lw_Fx G cL_law p R s m args c) (hX : va_X b 6 xs s s.heap) (hbl : b < s.heap.size) (hbA : ¬ pA G b) (hH0 : pH G [] s.heap) (hH : pH G fF H) (hlo : ∀ q ∈ locs, pB G ≤ q.base) (hl : lv_has ls 7 (lw_lv G b)) (hc : cells ≤ 200) (hs : slots ≤ 1000000) (hRc : 200000 ≤ R.cells) (hRs : 5000000 ≤ R.slots)
    (kk : ∀ H1 locs1 cells1 slots1, va_S (pA G) s.heap H1 locs1 → cells1 ≤ 200000 → slots1 ≤ 5000000 → W p l e R s m args below meth c H1 locs1 cells1 slots1 Q (F0 m 1593 ls [])) : W p l e R s m args below meth c H locs cells slots Q (F0 m 872 ls []) := by
  obtain ⟨hx, hb, -⟩ := id F
  have a0 := lv_at hl 4 rfl
  have a1 := lv_at hl 3 rfl
  have a2 := lv_at hl 2 rfl
  have a4 := lv_at hl 0 rfl
  obtain ⟨v, L1, L2, e1, e2, z1, z2⟩ := cq_16 (xs 1)
  obtain ⟨x, rfl⟩ := pex_int (ty := .int) rfl nofun e1
  have g1 := pex_mono _ _ _ _ _ _ e1
  have g2 := pex_mono _ _ _ _ _ _ e2
  obtain ⟨q0, hq0, ht0⟩ := lw_q0
  obtain ⟨q9, hq9, ht9⟩ := lw_q91
  obtain ⟨q91, hq91, ht91⟩ := pex_tag _ _ _ _ _ _ e1 91 q9 hq9
  have hS := ph_S hH0 hH (Nat.zero_le _) hlo
  refine lv_aload_n hx hb dL_law_872 rfl a1 ?_
  refine lw_push F hX hbl hbA hS a0 a4 (k := 1) (by decide) (by decide) rfl dL_law_873 dL_law_874 dL_law_876 dL_law_877 dL_law_878 ?_
  refine lw_callV F (K := 105) (o := 0) (as := [.int (xs 1)]) (by decide +kernel) (pt_4 _ (List.mem_of_getElem? (i := 222) rfl)) (pt_4 _ (List.mem_of_getElem? (i := 223) rfl)) (pt_4 _ (List.mem_of_getElem? (i := 221) rfl)) e1 rfl hq0 (ht0.trans rfl) (by decide) hH hlo hl (Nat.le_of_ble_eq_true rfl) dL_law_879 (by omega) (by omega) fun H1 locs1 h1 l1 => ?_
  have hS1 := ph_S hH0 h1 (Nat.zero_le _) l1
  refine lv_aload_n hx hb dL_law_882 rfl a2 ?_
  refine lw_push F hX hbl hbA hS1 a0 a4 (k := 1) (by decide) (by decide) rfl dL_law_883 dL_law_884 dL_law_886 dL_law_887 dL_law_888 ?_
  refine lw_callV F (K := 240) (o := 91) (as := [.int (xs 1)]) (by decide +kernel) (pt_8 _ (List.mem_of_getElem? (i := 148) rfl)) (pt_8 _ (List.mem_of_getElem? (i := 149) rfl)) (pt_8 _ (List.mem_of_getElem? (i := 147) rfl)) e2 rfl hq91 ((ht91.trans ht9).trans rfl) (by decide) h1 l1 hl (Nat.le_of_ble_eq_true rfl) dL_law_889 (by omega) (by omega) fun H2 locs2 h2 l2 => ?_
  refine lv_icmp_eq hx hb dL_law_892 rfl (fun _ => kk _ _ _ _ (ph_S hH0 h2 (Nat.zero_le _) l2) (by omega) (by omega)) (fun h => absurd rfl h)
set_option maxRecDepth 100000 in
set_option maxHeartbeats 4000000 in
theorem lc_17 (F : lw_Fx G cL_law p R s m args c) (hX : va_X b 6 xs s s.heap) (hbl : b < s.heap.size) (hbA : ¬ pA G b) (hH0 : pH G [] s.heap) (hH : pH G fF H) (hlo : ∀ q ∈ locs, pB G ≤ q.base) (hl : lv_has ls 7 (lw_lv G b)) (hc : cells ≤ 200) (hs : slots ≤ 1000000) (hRc : 200000 ≤ R.cells) (hRs : 5000000 ≤ R.slots)
    (kk : ∀ H1 locs1 cells1 slots1, va_S (pA G) s.heap H1 locs1 → cells1 ≤ 200000 → slots1 ≤ 5000000 → W p l e R s m args below meth c H1 locs1 cells1 slots1 Q (F0 m 1593 ls [])) : W p l e R s m args below meth c H locs cells slots Q (F0 m 897 ls []) := by
  obtain ⟨hx, hb, -⟩ := id F
  have a0 := lv_at hl 4 rfl
  have a1 := lv_at hl 3 rfl
  have a2 := lv_at hl 2 rfl
  have a4 := lv_at hl 0 rfl
  obtain ⟨v, L1, L2, e1, e2, z1, z2⟩ := cq_17 (xs 1) (xs 2)
  obtain ⟨x, rfl⟩ := pex_int (ty := .int) rfl nofun e1
  have g1 := pex_mono _ _ _ _ _ _ e1
  have g2 := pex_mono _ _ _ _ _ _ e2
  obtain ⟨q0, hq0, ht0⟩ := lw_q0
  obtain ⟨q9, hq9, ht9⟩ := lw_q91
  obtain ⟨q91, hq91, ht91⟩ := pex_tag _ _ _ _ _ _ e1 91 q9 hq9
  have hS := ph_S hH0 hH (Nat.zero_le _) hlo
  refine lv_aload_n hx hb dL_law_897 rfl a1 ?_
  refine lw_push F hX hbl hbA hS a0 a4 (k := 1) (by decide) (by decide) rfl dL_law_898 dL_law_899 dL_law_901 dL_law_902 dL_law_903 ?_
  refine lw_push F hX hbl hbA hS a0 a4 (k := 2) (by decide) (by decide) rfl dL_law_904 dL_law_905 dL_law_907 dL_law_908 dL_law_909 ?_
  refine lw_callV F (K := 106) (o := 0) (as := [.int (xs 1), .int (xs 2)]) (by decide +kernel) (pt_4 _ (List.mem_of_getElem? (i := 227) rfl)) (pt_4 _ (List.mem_of_getElem? (i := 228) rfl)) (pt_4 _ (List.mem_of_getElem? (i := 226) rfl)) e1 rfl hq0 (ht0.trans rfl) (by decide) hH hlo hl (Nat.le_of_ble_eq_true rfl) dL_law_910 (by omega) (by omega) fun H1 locs1 h1 l1 => ?_
  have hS1 := ph_S hH0 h1 (Nat.zero_le _) l1
  refine lv_aload_n hx hb dL_law_913 rfl a2 ?_
  refine lw_push F hX hbl hbA hS1 a0 a4 (k := 1) (by decide) (by decide) rfl dL_law_914 dL_law_915 dL_law_917 dL_law_918 dL_law_919 ?_
  refine lw_push F hX hbl hbA hS1 a0 a4 (k := 2) (by decide) (by decide) rfl dL_law_920 dL_law_921 dL_law_923 dL_law_924 dL_law_925 ?_
  refine lw_callV F (K := 241) (o := 91) (as := [.int (xs 1), .int (xs 2)]) (by decide +kernel) (pt_8 _ (List.mem_of_getElem? (i := 152) rfl)) (pt_8 _ (List.mem_of_getElem? (i := 153) rfl)) (pt_8 _ (List.mem_of_getElem? (i := 151) rfl)) e2 rfl hq91 ((ht91.trans ht9).trans rfl) (by decide) h1 l1 hl (Nat.le_of_ble_eq_true rfl) dL_law_926 (by omega) (by omega) fun H2 locs2 h2 l2 => ?_
  refine lv_icmp_eq hx hb dL_law_929 rfl (fun _ => kk _ _ _ _ (ph_S hH0 h2 (Nat.zero_le _) l2) (by omega) (by omega)) (fun h => absurd rfl h)
set_option maxRecDepth 100000 in
set_option maxHeartbeats 4000000 in
theorem lc_18 (F : lw_Fx G cL_law p R s m args c) (hX : va_X b 6 xs s s.heap) (hbl : b < s.heap.size) (hbA : ¬ pA G b) (hH0 : pH G [] s.heap) (hH : pH G fF H) (hlo : ∀ q ∈ locs, pB G ≤ q.base) (hl : lv_has ls 7 (lw_lv G b)) (hc : cells ≤ 200) (hs : slots ≤ 1000000) (hRc : 200000 ≤ R.cells) (hRs : 5000000 ≤ R.slots)
    (kk : ∀ H1 locs1 cells1 slots1, va_S (pA G) s.heap H1 locs1 → cells1 ≤ 200000 → slots1 ≤ 5000000 → W p l e R s m args below meth c H1 locs1 cells1 slots1 Q (F0 m 1593 ls [])) : W p l e R s m args below meth c H locs cells slots Q (F0 m 934 ls []) := by
  obtain ⟨hx, hb, -⟩ := id F
  have a0 := lv_at hl 4 rfl
  have a1 := lv_at hl 3 rfl
  have a2 := lv_at hl 2 rfl
  have a4 := lv_at hl 0 rfl
  obtain ⟨v, L1, L2, e1, e2, z1, z2⟩ := cq_18 
  obtain ⟨x, rfl⟩ := pex_int (ty := .int) rfl nofun e1
  have g1 := pex_mono _ _ _ _ _ _ e1
  have g2 := pex_mono _ _ _ _ _ _ e2
  obtain ⟨q0, hq0, ht0⟩ := lw_q0
  obtain ⟨q9, hq9, ht9⟩ := lw_q91
  obtain ⟨q91, hq91, ht91⟩ := pex_tag _ _ _ _ _ _ e1 91 q9 hq9
  have hS := ph_S hH0 hH (Nat.zero_le _) hlo
  refine lv_aload_n hx hb dL_law_934 rfl a1 ?_
  refine lw_callV F (K := 108) (o := 0) (as := []) (by decide +kernel) (pt_4 _ (List.mem_of_getElem? (i := 237) rfl)) (pt_4 _ (List.mem_of_getElem? (i := 238) rfl)) (pt_4 _ (List.mem_of_getElem? (i := 236) rfl)) e1 rfl hq0 (ht0.trans rfl) (by decide) hH hlo hl (Nat.le_of_ble_eq_true rfl) dL_law_935 (by omega) (by omega) fun H1 locs1 h1 l1 => ?_
  have hS1 := ph_S hH0 h1 (Nat.zero_le _) l1
  refine lv_aload_n hx hb dL_law_938 rfl a2 ?_
  refine lw_callV F (K := 245) (o := 91) (as := []) (by decide +kernel) (pt_8 _ (List.mem_of_getElem? (i := 168) rfl)) (pt_8 _ (List.mem_of_getElem? (i := 169) rfl)) (pt_8 _ (List.mem_of_getElem? (i := 167) rfl)) e2 rfl hq91 ((ht91.trans ht9).trans rfl) (by decide) h1 l1 hl (Nat.le_of_ble_eq_true rfl) dL_law_939 (by omega) (by omega) fun H2 locs2 h2 l2 => ?_
  refine lv_icmp_eq hx hb dL_law_942 rfl (fun _ => kk _ _ _ _ (ph_S hH0 h2 (Nat.zero_le _) l2) (by omega) (by omega)) (fun h => absurd rfl h)
set_option maxRecDepth 100000 in
set_option maxHeartbeats 4000000 in
theorem lc_19 (F : lw_Fx G cL_law p R s m args c) (hX : va_X b 6 xs s s.heap) (hbl : b < s.heap.size) (hbA : ¬ pA G b) (hH0 : pH G [] s.heap) (hH : pH G fF H) (hlo : ∀ q ∈ locs, pB G ≤ q.base) (hl : lv_has ls 7 (lw_lv G b)) (hc : cells ≤ 200) (hs : slots ≤ 1000000) (hRc : 200000 ≤ R.cells) (hRs : 5000000 ≤ R.slots)
    (kk : ∀ H1 locs1 cells1 slots1, va_S (pA G) s.heap H1 locs1 → cells1 ≤ 200000 → slots1 ≤ 5000000 → W p l e R s m args below meth c H1 locs1 cells1 slots1 Q (F0 m 1593 ls [])) : W p l e R s m args below meth c H locs cells slots Q (F0 m 947 ls []) := by
  obtain ⟨hx, hb, -⟩ := id F
  have a0 := lv_at hl 4 rfl
  have a1 := lv_at hl 3 rfl
  have a2 := lv_at hl 2 rfl
  have a4 := lv_at hl 0 rfl
  obtain ⟨v, L1, L2, e1, e2, z1, z2⟩ := cq_19 (xs 1)
  obtain ⟨x, rfl⟩ := pex_int (ty := .int) rfl nofun e1
  have g1 := pex_mono _ _ _ _ _ _ e1
  have g2 := pex_mono _ _ _ _ _ _ e2
  obtain ⟨q0, hq0, ht0⟩ := lw_q0
  obtain ⟨q9, hq9, ht9⟩ := lw_q91
  obtain ⟨q91, hq91, ht91⟩ := pex_tag _ _ _ _ _ _ e1 91 q9 hq9
  have hS := ph_S hH0 hH (Nat.zero_le _) hlo
  refine lv_aload_n hx hb dL_law_947 rfl a1 ?_
  refine lw_push F hX hbl hbA hS a0 a4 (k := 1) (by decide) (by decide) rfl dL_law_948 dL_law_949 dL_law_951 dL_law_952 dL_law_953 ?_
  refine lw_callV F (K := 110) (o := 0) (as := [.int (xs 1)]) (by decide +kernel) (pt_5 _ (List.mem_of_getElem? (i := 5) rfl)) (pt_5 _ (List.mem_of_getElem? (i := 6) rfl)) (pt_5 _ (List.mem_of_getElem? (i := 4) rfl)) e1 rfl hq0 (ht0.trans rfl) (by decide) hH hlo hl (Nat.le_of_ble_eq_true rfl) dL_law_954 (by omega) (by omega) fun H1 locs1 h1 l1 => ?_
  have hS1 := ph_S hH0 h1 (Nat.zero_le _) l1
  refine lv_aload_n hx hb dL_law_957 rfl a2 ?_
  refine lw_push F hX hbl hbA hS1 a0 a4 (k := 1) (by decide) (by decide) rfl dL_law_958 dL_law_959 dL_law_961 dL_law_962 dL_law_963 ?_
  refine lw_callV F (K := 247) (o := 91) (as := [.int (xs 1)]) (by decide +kernel) (pt_8 _ (List.mem_of_getElem? (i := 176) rfl)) (pt_8 _ (List.mem_of_getElem? (i := 177) rfl)) (pt_8 _ (List.mem_of_getElem? (i := 175) rfl)) e2 rfl hq91 ((ht91.trans ht9).trans rfl) (by decide) h1 l1 hl (Nat.le_of_ble_eq_true rfl) dL_law_964 (by omega) (by omega) fun H2 locs2 h2 l2 => ?_
  refine lv_icmp_eq hx hb dL_law_967 rfl (fun _ => kk _ _ _ _ (ph_S hH0 h2 (Nat.zero_le _) l2) (by omega) (by omega)) (fun h => absurd rfl h)
set_option maxRecDepth 100000 in
set_option maxHeartbeats 4000000 in
theorem lc_20 (F : lw_Fx G cL_law p R s m args c) (hX : va_X b 6 xs s s.heap) (hbl : b < s.heap.size) (hbA : ¬ pA G b) (hH0 : pH G [] s.heap) (hH : pH G fF H) (hlo : ∀ q ∈ locs, pB G ≤ q.base) (hl : lv_has ls 7 (lw_lv G b)) (hc : cells ≤ 200) (hs : slots ≤ 1000000) (hRc : 200000 ≤ R.cells) (hRs : 5000000 ≤ R.slots)
    (kk : ∀ H1 locs1 cells1 slots1, va_S (pA G) s.heap H1 locs1 → cells1 ≤ 200000 → slots1 ≤ 5000000 → W p l e R s m args below meth c H1 locs1 cells1 slots1 Q (F0 m 1593 ls [])) : W p l e R s m args below meth c H locs cells slots Q (F0 m 972 ls []) := by
  obtain ⟨hx, hb, -⟩ := id F
  have a0 := lv_at hl 4 rfl
  have a1 := lv_at hl 3 rfl
  have a2 := lv_at hl 2 rfl
  have a4 := lv_at hl 0 rfl
  obtain ⟨v, L1, L2, e1, e2, z1, z2⟩ := cq_20 (xs 1) (xs 2)
  obtain ⟨x, rfl⟩ := pex_int (ty := .int) rfl nofun e1
  have g1 := pex_mono _ _ _ _ _ _ e1
  have g2 := pex_mono _ _ _ _ _ _ e2
  obtain ⟨q0, hq0, ht0⟩ := lw_q0
  obtain ⟨q9, hq9, ht9⟩ := lw_q91
  obtain ⟨q91, hq91, ht91⟩ := pex_tag _ _ _ _ _ _ e1 91 q9 hq9
  have hS := ph_S hH0 hH (Nat.zero_le _) hlo
  refine lv_aload_n hx hb dL_law_972 rfl a1 ?_
  refine lw_push F hX hbl hbA hS a0 a4 (k := 1) (by decide) (by decide) rfl dL_law_973 dL_law_974 dL_law_976 dL_law_977 dL_law_978 ?_
  refine lw_push F hX hbl hbA hS a0 a4 (k := 2) (by decide) (by decide) rfl dL_law_979 dL_law_980 dL_law_982 dL_law_983 dL_law_984 ?_
  refine lw_callV F (K := 112) (o := 0) (as := [.int (xs 1), .int (xs 2)]) (by decide +kernel) (pt_5 _ (List.mem_of_getElem? (i := 12) rfl)) (pt_5 _ (List.mem_of_getElem? (i := 13) rfl)) (pt_5 _ (List.mem_of_getElem? (i := 11) rfl)) e1 rfl hq0 (ht0.trans rfl) (by decide) hH hlo hl (Nat.le_of_ble_eq_true rfl) dL_law_985 (by omega) (by omega) fun H1 locs1 h1 l1 => ?_
  have hS1 := ph_S hH0 h1 (Nat.zero_le _) l1
  refine lv_aload_n hx hb dL_law_988 rfl a2 ?_
  refine lw_push F hX hbl hbA hS1 a0 a4 (k := 1) (by decide) (by decide) rfl dL_law_989 dL_law_990 dL_law_992 dL_law_993 dL_law_994 ?_
  refine lw_push F hX hbl hbA hS1 a0 a4 (k := 2) (by decide) (by decide) rfl dL_law_995 dL_law_996 dL_law_998 dL_law_999 dL_law_1000 ?_
  refine lw_callV F (K := 248) (o := 91) (as := [.int (xs 1), .int (xs 2)]) (by decide +kernel) (pt_8 _ (List.mem_of_getElem? (i := 180) rfl)) (pt_8 _ (List.mem_of_getElem? (i := 181) rfl)) (pt_8 _ (List.mem_of_getElem? (i := 179) rfl)) e2 rfl hq91 ((ht91.trans ht9).trans rfl) (by decide) h1 l1 hl (Nat.le_of_ble_eq_true rfl) dL_law_1001 (by omega) (by omega) fun H2 locs2 h2 l2 => ?_
  refine lv_icmp_eq hx hb dL_law_1004 rfl (fun _ => kk _ _ _ _ (ph_S hH0 h2 (Nat.zero_le _) l2) (by omega) (by omega)) (fun h => absurd rfl h)
set_option maxRecDepth 100000 in
set_option maxHeartbeats 4000000 in
theorem lc_21 (F : lw_Fx G cL_law p R s m args c) (hX : va_X b 6 xs s s.heap) (hbl : b < s.heap.size) (hbA : ¬ pA G b) (hH0 : pH G [] s.heap) (hH : pH G fF H) (hlo : ∀ q ∈ locs, pB G ≤ q.base) (hl : lv_has ls 7 (lw_lv G b)) (hc : cells ≤ 200) (hs : slots ≤ 1000000) (hRc : 200000 ≤ R.cells) (hRs : 5000000 ≤ R.slots)
    (kk : ∀ H1 locs1 cells1 slots1, va_S (pA G) s.heap H1 locs1 → cells1 ≤ 200000 → slots1 ≤ 5000000 → W p l e R s m args below meth c H1 locs1 cells1 slots1 Q (F0 m 1593 ls [])) : W p l e R s m args below meth c H locs cells slots Q (F0 m 1009 ls []) := by
  obtain ⟨hx, hb, -⟩ := id F
  have a0 := lv_at hl 4 rfl
  have a1 := lv_at hl 3 rfl
  have a2 := lv_at hl 2 rfl
  have a4 := lv_at hl 0 rfl
  obtain ⟨v, L1, L2, e1, e2, z1, z2⟩ := cq_21 (xs 1)
  obtain ⟨x, rfl⟩ := pex_int (ty := .int) rfl nofun e1
  have g1 := pex_mono _ _ _ _ _ _ e1
  have g2 := pex_mono _ _ _ _ _ _ e2
  obtain ⟨q0, hq0, ht0⟩ := lw_q0
  obtain ⟨q9, hq9, ht9⟩ := lw_q91
  obtain ⟨q91, hq91, ht91⟩ := pex_tag _ _ _ _ _ _ e1 91 q9 hq9
  have hS := ph_S hH0 hH (Nat.zero_le _) hlo
  refine lv_aload_n hx hb dL_law_1009 rfl a1 ?_
  refine lw_push F hX hbl hbA hS a0 a4 (k := 1) (by decide) (by decide) rfl dL_law_1010 dL_law_1011 dL_law_1013 dL_law_1014 dL_law_1015 ?_
  refine lw_callV F (K := 125) (o := 0) (as := [.int (xs 1)]) (by decide +kernel) (pt_5 _ (List.mem_of_getElem? (i := 71) rfl)) (pt_5 _ (List.mem_of_getElem? (i := 72) rfl)) (pt_5 _ (List.mem_of_getElem? (i := 70) rfl)) e1 rfl hq0 (ht0.trans rfl) (by decide) hH hlo hl (Nat.le_of_ble_eq_true rfl) dL_law_1016 (by omega) (by omega) fun H1 locs1 h1 l1 => ?_
  have hS1 := ph_S hH0 h1 (Nat.zero_le _) l1
  refine lv_aload_n hx hb dL_law_1019 rfl a2 ?_
  refine lw_push F hX hbl hbA hS1 a0 a4 (k := 1) (by decide) (by decide) rfl dL_law_1020 dL_law_1021 dL_law_1023 dL_law_1024 dL_law_1025 ?_
  refine lw_callV F (K := 254) (o := 91) (as := [.int (xs 1)]) (by decide +kernel) (pt_8 _ (List.mem_of_getElem? (i := 204) rfl)) (pt_8 _ (List.mem_of_getElem? (i := 205) rfl)) (pt_8 _ (List.mem_of_getElem? (i := 203) rfl)) e2 rfl hq91 ((ht91.trans ht9).trans rfl) (by decide) h1 l1 hl (Nat.le_of_ble_eq_true rfl) dL_law_1026 (by omega) (by omega) fun H2 locs2 h2 l2 => ?_
  refine lv_icmp_eq hx hb dL_law_1029 rfl (fun _ => kk _ _ _ _ (ph_S hH0 h2 (Nat.zero_le _) l2) (by omega) (by omega)) (fun h => absurd rfl h)
set_option maxRecDepth 100000 in
set_option maxHeartbeats 4000000 in
theorem lc_22 (F : lw_Fx G cL_law p R s m args c) (hX : va_X b 6 xs s s.heap) (hbl : b < s.heap.size) (hbA : ¬ pA G b) (hH0 : pH G [] s.heap) (hH : pH G fF H) (hlo : ∀ q ∈ locs, pB G ≤ q.base) (hl : lv_has ls 7 (lw_lv G b)) (hc : cells ≤ 200) (hs : slots ≤ 1000000) (hRc : 200000 ≤ R.cells) (hRs : 5000000 ≤ R.slots)
    (kk : ∀ H1 locs1 cells1 slots1, va_S (pA G) s.heap H1 locs1 → cells1 ≤ 200000 → slots1 ≤ 5000000 → W p l e R s m args below meth c H1 locs1 cells1 slots1 Q (F0 m 1593 ls [])) : W p l e R s m args below meth c H locs cells slots Q (F0 m 1034 ls []) := by
  obtain ⟨hx, hb, -⟩ := id F
  have a0 := lv_at hl 4 rfl
  have a1 := lv_at hl 3 rfl
  have a2 := lv_at hl 2 rfl
  have a4 := lv_at hl 0 rfl
  obtain ⟨v, L1, L2, e1, e2, z1, z2⟩ := cq_22 (xs 1) (xs 2)
  obtain ⟨x, rfl⟩ := pex_int (ty := .int) rfl nofun e1
  have g1 := pex_mono _ _ _ _ _ _ e1
  have g2 := pex_mono _ _ _ _ _ _ e2
  obtain ⟨q0, hq0, ht0⟩ := lw_q0
  obtain ⟨q9, hq9, ht9⟩ := lw_q91
  obtain ⟨q91, hq91, ht91⟩ := pex_tag _ _ _ _ _ _ e1 91 q9 hq9
  have hS := ph_S hH0 hH (Nat.zero_le _) hlo
  refine lv_aload_n hx hb dL_law_1034 rfl a1 ?_
  refine lw_push F hX hbl hbA hS a0 a4 (k := 1) (by decide) (by decide) rfl dL_law_1035 dL_law_1036 dL_law_1038 dL_law_1039 dL_law_1040 ?_
  refine lw_push F hX hbl hbA hS a0 a4 (k := 2) (by decide) (by decide) rfl dL_law_1041 dL_law_1042 dL_law_1044 dL_law_1045 dL_law_1046 ?_
  refine lw_callV F (K := 131) (o := 0) (as := [.int (xs 1), .int (xs 2)]) (by decide +kernel) (pt_5 _ (List.mem_of_getElem? (i := 100) rfl)) (pt_5 _ (List.mem_of_getElem? (i := 101) rfl)) (pt_5 _ (List.mem_of_getElem? (i := 99) rfl)) e1 rfl hq0 (ht0.trans rfl) (by decide) hH hlo hl (Nat.le_of_ble_eq_true rfl) dL_law_1047 (by omega) (by omega) fun H1 locs1 h1 l1 => ?_
  have hS1 := ph_S hH0 h1 (Nat.zero_le _) l1
  refine lv_aload_n hx hb dL_law_1050 rfl a2 ?_
  refine lw_push F hX hbl hbA hS1 a0 a4 (k := 1) (by decide) (by decide) rfl dL_law_1051 dL_law_1052 dL_law_1054 dL_law_1055 dL_law_1056 ?_
  refine lw_push F hX hbl hbA hS1 a0 a4 (k := 2) (by decide) (by decide) rfl dL_law_1057 dL_law_1058 dL_law_1060 dL_law_1061 dL_law_1062 ?_
  refine lw_callV F (K := 259) (o := 91) (as := [.int (xs 1), .int (xs 2)]) (by decide +kernel) (pt_8 _ (List.mem_of_getElem? (i := 225) rfl)) (pt_8 _ (List.mem_of_getElem? (i := 226) rfl)) (pt_8 _ (List.mem_of_getElem? (i := 224) rfl)) e2 rfl hq91 ((ht91.trans ht9).trans rfl) (by decide) h1 l1 hl (Nat.le_of_ble_eq_true rfl) dL_law_1063 (by omega) (by omega) fun H2 locs2 h2 l2 => ?_
  refine lv_icmp_eq hx hb dL_law_1066 rfl (fun _ => kk _ _ _ _ (ph_S hH0 h2 (Nat.zero_le _) l2) (by omega) (by omega)) (fun h => absurd rfl h)
set_option maxRecDepth 100000 in
set_option maxHeartbeats 4000000 in
theorem lc_23 (F : lw_Fx G cL_law p R s m args c) (hX : va_X b 6 xs s s.heap) (hbl : b < s.heap.size) (hbA : ¬ pA G b) (hH0 : pH G [] s.heap) (hH : pH G fF H) (hlo : ∀ q ∈ locs, pB G ≤ q.base) (hl : lv_has ls 7 (lw_lv G b)) (hc : cells ≤ 200) (hs : slots ≤ 1000000) (hRc : 200000 ≤ R.cells) (hRs : 5000000 ≤ R.slots)
    (kk : ∀ H1 locs1 cells1 slots1, va_S (pA G) s.heap H1 locs1 → cells1 ≤ 200000 → slots1 ≤ 5000000 → W p l e R s m args below meth c H1 locs1 cells1 slots1 Q (F0 m 1593 ls [])) : W p l e R s m args below meth c H locs cells slots Q (F0 m 1071 ls []) := by
  obtain ⟨hx, hb, -⟩ := id F
  have a0 := lv_at hl 4 rfl
  have a1 := lv_at hl 3 rfl
  have a2 := lv_at hl 2 rfl
  have a4 := lv_at hl 0 rfl
  obtain ⟨v, L1, L2, e1, e2, z1, z2⟩ := cq_23 (xs 1)
  obtain ⟨x, rfl⟩ := pex_int (ty := .int) rfl nofun e1
  have g1 := pex_mono _ _ _ _ _ _ e1
  have g2 := pex_mono _ _ _ _ _ _ e2
  obtain ⟨q0, hq0, ht0⟩ := lw_q0
  obtain ⟨q9, hq9, ht9⟩ := lw_q91
  obtain ⟨q91, hq91, ht91⟩ := pex_tag _ _ _ _ _ _ e1 91 q9 hq9
  have hS := ph_S hH0 hH (Nat.zero_le _) hlo
  refine lv_aload_n hx hb dL_law_1071 rfl a1 ?_
  refine lw_push F hX hbl hbA hS a0 a4 (k := 1) (by decide) (by decide) rfl dL_law_1072 dL_law_1073 dL_law_1075 dL_law_1076 dL_law_1077 ?_
  refine lw_callV F (K := 132) (o := 0) (as := [.int (xs 1)]) (by decide +kernel) (pt_5 _ (List.mem_of_getElem? (i := 104) rfl)) (pt_5 _ (List.mem_of_getElem? (i := 105) rfl)) (pt_5 _ (List.mem_of_getElem? (i := 103) rfl)) e1 rfl hq0 (ht0.trans rfl) (by decide) hH hlo hl (Nat.le_of_ble_eq_true rfl) dL_law_1078 (by omega) (by omega) fun H1 locs1 h1 l1 => ?_
  have hS1 := ph_S hH0 h1 (Nat.zero_le _) l1
  refine lv_aload_n hx hb dL_law_1081 rfl a2 ?_
  refine lw_push F hX hbl hbA hS1 a0 a4 (k := 1) (by decide) (by decide) rfl dL_law_1082 dL_law_1083 dL_law_1085 dL_law_1086 dL_law_1087 ?_
  refine lw_callV F (K := 260) (o := 91) (as := [.int (xs 1)]) (by decide +kernel) (pt_8 _ (List.mem_of_getElem? (i := 229) rfl)) (pt_8 _ (List.mem_of_getElem? (i := 230) rfl)) (pt_8 _ (List.mem_of_getElem? (i := 228) rfl)) e2 rfl hq91 ((ht91.trans ht9).trans rfl) (by decide) h1 l1 hl (Nat.le_of_ble_eq_true rfl) dL_law_1088 (by omega) (by omega) fun H2 locs2 h2 l2 => ?_
  refine lv_icmp_eq hx hb dL_law_1091 rfl (fun _ => kk _ _ _ _ (ph_S hH0 h2 (Nat.zero_le _) l2) (by omega) (by omega)) (fun h => absurd rfl h)
set_option maxRecDepth 100000 in
set_option maxHeartbeats 4000000 in
theorem lc_24 (F : lw_Fx G cL_law p R s m args c) (hX : va_X b 6 xs s s.heap) (hbl : b < s.heap.size) (hbA : ¬ pA G b) (hH0 : pH G [] s.heap) (hH : pH G fF H) (hlo : ∀ q ∈ locs, pB G ≤ q.base) (hl : lv_has ls 7 (lw_lv G b)) (hc : cells ≤ 200) (hs : slots ≤ 1000000) (hRc : 200000 ≤ R.cells) (hRs : 5000000 ≤ R.slots)
    (kk : ∀ H1 locs1 cells1 slots1, va_S (pA G) s.heap H1 locs1 → cells1 ≤ 200000 → slots1 ≤ 5000000 → W p l e R s m args below meth c H1 locs1 cells1 slots1 Q (F0 m 1593 ls [])) : W p l e R s m args below meth c H locs cells slots Q (F0 m 1096 ls []) := by
  obtain ⟨hx, hb, -⟩ := id F
  have a0 := lv_at hl 4 rfl
  have a1 := lv_at hl 3 rfl
  have a2 := lv_at hl 2 rfl
  have a4 := lv_at hl 0 rfl
  obtain ⟨v, L1, L2, e1, e2, z1, z2⟩ := cq_24 (xs 1) (xs 2) (xs 3)
  obtain ⟨x, rfl⟩ := pex_int (ty := .int) rfl nofun e1
  have g1 := pex_mono _ _ _ _ _ _ e1
  have g2 := pex_mono _ _ _ _ _ _ e2
  obtain ⟨q0, hq0, ht0⟩ := lw_q0
  obtain ⟨q9, hq9, ht9⟩ := lw_q91
  obtain ⟨q91, hq91, ht91⟩ := pex_tag _ _ _ _ _ _ e1 91 q9 hq9
  have hS := ph_S hH0 hH (Nat.zero_le _) hlo
  refine lv_aload_n hx hb dL_law_1096 rfl a1 ?_
  refine lw_push F hX hbl hbA hS a0 a4 (k := 1) (by decide) (by decide) rfl dL_law_1097 dL_law_1098 dL_law_1100 dL_law_1101 dL_law_1102 ?_
  refine lw_push F hX hbl hbA hS a0 a4 (k := 2) (by decide) (by decide) rfl dL_law_1103 dL_law_1104 dL_law_1106 dL_law_1107 dL_law_1108 ?_
  refine lw_push F hX hbl hbA hS a0 a4 (k := 3) (by decide) (by decide) rfl dL_law_1109 dL_law_1110 dL_law_1112 dL_law_1113 dL_law_1114 ?_
  refine lw_callV F (K := 133) (o := 0) (as := [.int (xs 1), .int (xs 2), .int (xs 3)]) (by decide +kernel) (pt_5 _ (List.mem_of_getElem? (i := 108) rfl)) (pt_5 _ (List.mem_of_getElem? (i := 109) rfl)) (pt_5 _ (List.mem_of_getElem? (i := 107) rfl)) e1 rfl hq0 (ht0.trans rfl) (by decide) hH hlo hl (Nat.le_of_ble_eq_true rfl) dL_law_1115 (by omega) (by omega) fun H1 locs1 h1 l1 => ?_
  have hS1 := ph_S hH0 h1 (Nat.zero_le _) l1
  refine lv_aload_n hx hb dL_law_1118 rfl a2 ?_
  refine lw_push F hX hbl hbA hS1 a0 a4 (k := 1) (by decide) (by decide) rfl dL_law_1119 dL_law_1120 dL_law_1122 dL_law_1123 dL_law_1124 ?_
  refine lw_push F hX hbl hbA hS1 a0 a4 (k := 2) (by decide) (by decide) rfl dL_law_1125 dL_law_1126 dL_law_1128 dL_law_1129 dL_law_1130 ?_
  refine lw_push F hX hbl hbA hS1 a0 a4 (k := 3) (by decide) (by decide) rfl dL_law_1131 dL_law_1132 dL_law_1134 dL_law_1135 dL_law_1136 ?_
  refine lw_callV F (K := 261) (o := 91) (as := [.int (xs 1), .int (xs 2), .int (xs 3)]) (by decide +kernel) (pt_8 _ (List.mem_of_getElem? (i := 233) rfl)) (pt_8 _ (List.mem_of_getElem? (i := 234) rfl)) (pt_8 _ (List.mem_of_getElem? (i := 232) rfl)) e2 rfl hq91 ((ht91.trans ht9).trans rfl) (by decide) h1 l1 hl (Nat.le_of_ble_eq_true rfl) dL_law_1137 (by omega) (by omega) fun H2 locs2 h2 l2 => ?_
  refine lv_icmp_eq hx hb dL_law_1140 rfl (fun _ => kk _ _ _ _ (ph_S hH0 h2 (Nat.zero_le _) l2) (by omega) (by omega)) (fun h => absurd rfl h)
set_option maxRecDepth 100000 in
set_option maxHeartbeats 4000000 in
theorem lc_25 (F : lw_Fx G cL_law p R s m args c) (hX : va_X b 6 xs s s.heap) (hbl : b < s.heap.size) (hbA : ¬ pA G b) (hH0 : pH G [] s.heap) (hH : pH G fF H) (hlo : ∀ q ∈ locs, pB G ≤ q.base) (hl : lv_has ls 7 (lw_lv G b)) (hc : cells ≤ 200) (hs : slots ≤ 1000000) (hRc : 200000 ≤ R.cells) (hRs : 5000000 ≤ R.slots)
    (kk : ∀ H1 locs1 cells1 slots1, va_S (pA G) s.heap H1 locs1 → cells1 ≤ 200000 → slots1 ≤ 5000000 → W p l e R s m args below meth c H1 locs1 cells1 slots1 Q (F0 m 1593 ls [])) : W p l e R s m args below meth c H locs cells slots Q (F0 m 1145 ls []) := by
  obtain ⟨hx, hb, -⟩ := id F
  have a0 := lv_at hl 4 rfl
  have a1 := lv_at hl 3 rfl
  have a2 := lv_at hl 2 rfl
  have a4 := lv_at hl 0 rfl
  obtain ⟨v, L1, L2, e1, e2, z1, z2⟩ := cq_25 (xs 1) (xs 2)
  obtain ⟨x, rfl⟩ := pex_int (ty := .int) rfl nofun e1
  have g1 := pex_mono _ _ _ _ _ _ e1
  have g2 := pex_mono _ _ _ _ _ _ e2
  obtain ⟨q0, hq0, ht0⟩ := lw_q0
  obtain ⟨q9, hq9, ht9⟩ := lw_q91
  obtain ⟨q91, hq91, ht91⟩ := pex_tag _ _ _ _ _ _ e1 91 q9 hq9
  have hS := ph_S hH0 hH (Nat.zero_le _) hlo
  refine lv_aload_n hx hb dL_law_1145 rfl a1 ?_
  refine lw_push F hX hbl hbA hS a0 a4 (k := 1) (by decide) (by decide) rfl dL_law_1146 dL_law_1147 dL_law_1149 dL_law_1150 dL_law_1151 ?_
  refine lw_push F hX hbl hbA hS a0 a4 (k := 2) (by decide) (by decide) rfl dL_law_1152 dL_law_1153 dL_law_1155 dL_law_1156 dL_law_1157 ?_
  refine lw_callV F (K := 135) (o := 0) (as := [.int (xs 1), .int (xs 2)]) (by decide +kernel) (pt_5 _ (List.mem_of_getElem? (i := 116) rfl)) (pt_5 _ (List.mem_of_getElem? (i := 117) rfl)) (pt_5 _ (List.mem_of_getElem? (i := 115) rfl)) e1 rfl hq0 (ht0.trans rfl) (by decide) hH hlo hl (Nat.le_of_ble_eq_true rfl) dL_law_1158 (by omega) (by omega) fun H1 locs1 h1 l1 => ?_
  have hS1 := ph_S hH0 h1 (Nat.zero_le _) l1
  refine lv_aload_n hx hb dL_law_1161 rfl a2 ?_
  refine lw_push F hX hbl hbA hS1 a0 a4 (k := 1) (by decide) (by decide) rfl dL_law_1162 dL_law_1163 dL_law_1165 dL_law_1166 dL_law_1167 ?_
  refine lw_push F hX hbl hbA hS1 a0 a4 (k := 2) (by decide) (by decide) rfl dL_law_1168 dL_law_1169 dL_law_1171 dL_law_1172 dL_law_1173 ?_
  refine lw_callV F (K := 264) (o := 91) (as := [.int (xs 1), .int (xs 2)]) (by decide +kernel) (pt_9 _ (List.mem_of_getElem? (i := 5) rfl)) (pt_9 _ (List.mem_of_getElem? (i := 6) rfl)) (pt_9 _ (List.mem_of_getElem? (i := 4) rfl)) e2 rfl hq91 ((ht91.trans ht9).trans rfl) (by decide) h1 l1 hl (Nat.le_of_ble_eq_true rfl) dL_law_1174 (by omega) (by omega) fun H2 locs2 h2 l2 => ?_
  refine lv_icmp_eq hx hb dL_law_1177 rfl (fun _ => kk _ _ _ _ (ph_S hH0 h2 (Nat.zero_le _) l2) (by omega) (by omega)) (fun h => absurd rfl h)
set_option maxRecDepth 100000 in
set_option maxHeartbeats 4000000 in
theorem lc_26 (F : lw_Fx G cL_law p R s m args c) (hX : va_X b 6 xs s s.heap) (hbl : b < s.heap.size) (hbA : ¬ pA G b) (hH0 : pH G [] s.heap) (hH : pH G fF H) (hlo : ∀ q ∈ locs, pB G ≤ q.base) (hl : lv_has ls 7 (lw_lv G b)) (hc : cells ≤ 200) (hs : slots ≤ 1000000) (hRc : 200000 ≤ R.cells) (hRs : 5000000 ≤ R.slots)
    (kk : ∀ H1 locs1 cells1 slots1, va_S (pA G) s.heap H1 locs1 → cells1 ≤ 200000 → slots1 ≤ 5000000 → W p l e R s m args below meth c H1 locs1 cells1 slots1 Q (F0 m 1593 ls [])) : W p l e R s m args below meth c H locs cells slots Q (F0 m 1182 ls []) := by
  obtain ⟨hx, hb, -⟩ := id F
  have a0 := lv_at hl 4 rfl
  have a1 := lv_at hl 3 rfl
  have a2 := lv_at hl 2 rfl
  have a4 := lv_at hl 0 rfl
  obtain ⟨v, L1, L2, e1, e2, z1, z2⟩ := cq_26 (xs 1) (xs 2)
  obtain ⟨x, rfl⟩ := pex_int (ty := .int) rfl nofun e1
  have g1 := pex_mono _ _ _ _ _ _ e1
  have g2 := pex_mono _ _ _ _ _ _ e2
  obtain ⟨q0, hq0, ht0⟩ := lw_q0
  obtain ⟨q9, hq9, ht9⟩ := lw_q91
  obtain ⟨q91, hq91, ht91⟩ := pex_tag _ _ _ _ _ _ e1 91 q9 hq9
  have hS := ph_S hH0 hH (Nat.zero_le _) hlo
  refine lv_aload_n hx hb dL_law_1182 rfl a1 ?_
  refine lw_push F hX hbl hbA hS a0 a4 (k := 1) (by decide) (by decide) rfl dL_law_1183 dL_law_1184 dL_law_1186 dL_law_1187 dL_law_1188 ?_
  refine lw_push F hX hbl hbA hS a0 a4 (k := 2) (by decide) (by decide) rfl dL_law_1189 dL_law_1190 dL_law_1192 dL_law_1193 dL_law_1194 ?_
  refine lw_callV F (K := 136) (o := 0) (as := [.int (xs 1), .int (xs 2)]) (by decide +kernel) (pt_5 _ (List.mem_of_getElem? (i := 120) rfl)) (pt_5 _ (List.mem_of_getElem? (i := 121) rfl)) (pt_5 _ (List.mem_of_getElem? (i := 119) rfl)) e1 rfl hq0 (ht0.trans rfl) (by decide) hH hlo hl (Nat.le_of_ble_eq_true rfl) dL_law_1195 (by omega) (by omega) fun H1 locs1 h1 l1 => ?_
  have hS1 := ph_S hH0 h1 (Nat.zero_le _) l1
  refine lv_aload_n hx hb dL_law_1198 rfl a2 ?_
  refine lw_push F hX hbl hbA hS1 a0 a4 (k := 1) (by decide) (by decide) rfl dL_law_1199 dL_law_1200 dL_law_1202 dL_law_1203 dL_law_1204 ?_
  refine lw_push F hX hbl hbA hS1 a0 a4 (k := 2) (by decide) (by decide) rfl dL_law_1205 dL_law_1206 dL_law_1208 dL_law_1209 dL_law_1210 ?_
  refine lw_callV F (K := 265) (o := 91) (as := [.int (xs 1), .int (xs 2)]) (by decide +kernel) (pt_9 _ (List.mem_of_getElem? (i := 9) rfl)) (pt_9 _ (List.mem_of_getElem? (i := 10) rfl)) (pt_9 _ (List.mem_of_getElem? (i := 8) rfl)) e2 rfl hq91 ((ht91.trans ht9).trans rfl) (by decide) h1 l1 hl (Nat.le_of_ble_eq_true rfl) dL_law_1211 (by omega) (by omega) fun H2 locs2 h2 l2 => ?_
  refine lv_icmp_eq hx hb dL_law_1214 rfl (fun _ => kk _ _ _ _ (ph_S hH0 h2 (Nat.zero_le _) l2) (by omega) (by omega)) (fun h => absurd rfl h)
set_option maxRecDepth 100000 in
set_option maxHeartbeats 4000000 in
theorem lc_27 (F : lw_Fx G cL_law p R s m args c) (hX : va_X b 6 xs s s.heap) (hbl : b < s.heap.size) (hbA : ¬ pA G b) (hH0 : pH G [] s.heap) (hH : pH G fF H) (hlo : ∀ q ∈ locs, pB G ≤ q.base) (hl : lv_has ls 7 (lw_lv G b)) (hc : cells ≤ 200) (hs : slots ≤ 1000000) (hRc : 200000 ≤ R.cells) (hRs : 5000000 ≤ R.slots)
    (kk : ∀ H1 locs1 cells1 slots1, va_S (pA G) s.heap H1 locs1 → cells1 ≤ 200000 → slots1 ≤ 5000000 → W p l e R s m args below meth c H1 locs1 cells1 slots1 Q (F0 m 1593 ls [])) : W p l e R s m args below meth c H locs cells slots Q (F0 m 1219 ls []) := by
  obtain ⟨hx, hb, -⟩ := id F
  have a0 := lv_at hl 4 rfl
  have a1 := lv_at hl 3 rfl
  have a2 := lv_at hl 2 rfl
  have a4 := lv_at hl 0 rfl
  obtain ⟨v, L1, L2, e1, e2, z1, z2⟩ := cq_27 (xs 1)
  obtain ⟨x, rfl⟩ := pex_int (ty := .int) rfl nofun e1
  have g1 := pex_mono _ _ _ _ _ _ e1
  have g2 := pex_mono _ _ _ _ _ _ e2
  obtain ⟨q0, hq0, ht0⟩ := lw_q0
  obtain ⟨q9, hq9, ht9⟩ := lw_q91
  obtain ⟨q91, hq91, ht91⟩ := pex_tag _ _ _ _ _ _ e1 91 q9 hq9
  have hS := ph_S hH0 hH (Nat.zero_le _) hlo
  refine lv_aload_n hx hb dL_law_1219 rfl a1 ?_
  refine lw_push F hX hbl hbA hS a0 a4 (k := 1) (by decide) (by decide) rfl dL_law_1220 dL_law_1221 dL_law_1223 dL_law_1224 dL_law_1225 ?_
  refine lw_callV F (K := 137) (o := 0) (as := [.int (xs 1)]) (by decide +kernel) (pt_5 _ (List.mem_of_getElem? (i := 125) rfl)) (pt_5 _ (List.mem_of_getElem? (i := 126) rfl)) (pt_5 _ (List.mem_of_getElem? (i := 124) rfl)) e1 rfl hq0 (ht0.trans rfl) (by decide) hH hlo hl (Nat.le_of_ble_eq_true rfl) dL_law_1226 (by omega) (by omega) fun H1 locs1 h1 l1 => ?_
  have hS1 := ph_S hH0 h1 (Nat.zero_le _) l1
  refine lv_aload_n hx hb dL_law_1229 rfl a2 ?_
  refine lw_push F hX hbl hbA hS1 a0 a4 (k := 1) (by decide) (by decide) rfl dL_law_1230 dL_law_1231 dL_law_1233 dL_law_1234 dL_law_1235 ?_
  refine lw_callV F (K := 253) (o := 91) (as := [.int (xs 1)]) (by decide +kernel) (pt_8 _ (List.mem_of_getElem? (i := 200) rfl)) (pt_8 _ (List.mem_of_getElem? (i := 201) rfl)) (pt_8 _ (List.mem_of_getElem? (i := 199) rfl)) e2 rfl hq91 ((ht91.trans ht9).trans rfl) (by decide) h1 l1 hl (Nat.le_of_ble_eq_true rfl) dL_law_1236 (by omega) (by omega) fun H2 locs2 h2 l2 => ?_
  refine lv_icmp_eq hx hb dL_law_1239 rfl (fun _ => kk _ _ _ _ (ph_S hH0 h2 (Nat.zero_le _) l2) (by omega) (by omega)) (fun h => absurd rfl h)
set_option maxRecDepth 100000 in
set_option maxHeartbeats 4000000 in
theorem lc_28 (F : lw_Fx G cL_law p R s m args c) (hX : va_X b 6 xs s s.heap) (hbl : b < s.heap.size) (hbA : ¬ pA G b) (hH0 : pH G [] s.heap) (hH : pH G fF H) (hlo : ∀ q ∈ locs, pB G ≤ q.base) (hl : lv_has ls 7 (lw_lv G b)) (hc : cells ≤ 200) (hs : slots ≤ 1000000) (hRc : 200000 ≤ R.cells) (hRs : 5000000 ≤ R.slots)
    (kk : ∀ H1 locs1 cells1 slots1, va_S (pA G) s.heap H1 locs1 → cells1 ≤ 200000 → slots1 ≤ 5000000 → W p l e R s m args below meth c H1 locs1 cells1 slots1 Q (F0 m 1593 ls [])) : W p l e R s m args below meth c H locs cells slots Q (F0 m 1244 ls []) := by
  obtain ⟨hx, hb, -⟩ := id F
  have a0 := lv_at hl 4 rfl
  have a1 := lv_at hl 3 rfl
  have a2 := lv_at hl 2 rfl
  have a4 := lv_at hl 0 rfl
  obtain ⟨v, L1, L2, e1, e2, z1, z2⟩ := cq_28 (xs 1)
  obtain ⟨x, rfl⟩ := pex_int (ty := .int) rfl nofun e1
  have g1 := pex_mono _ _ _ _ _ _ e1
  have g2 := pex_mono _ _ _ _ _ _ e2
  obtain ⟨q0, hq0, ht0⟩ := lw_q0
  obtain ⟨q9, hq9, ht9⟩ := lw_q91
  obtain ⟨q91, hq91, ht91⟩ := pex_tag _ _ _ _ _ _ e1 91 q9 hq9
  have hS := ph_S hH0 hH (Nat.zero_le _) hlo
  refine lv_aload_n hx hb dL_law_1244 rfl a1 ?_
  refine lw_push F hX hbl hbA hS a0 a4 (k := 1) (by decide) (by decide) rfl dL_law_1245 dL_law_1246 dL_law_1248 dL_law_1249 dL_law_1250 ?_
  refine lw_callV F (K := 140) (o := 0) (as := [.int (xs 1)]) (by decide +kernel) (pt_5 _ (List.mem_of_getElem? (i := 137) rfl)) (pt_5 _ (List.mem_of_getElem? (i := 138) rfl)) (pt_5 _ (List.mem_of_getElem? (i := 136) rfl)) e1 rfl hq0 (ht0.trans rfl) (by decide) hH hlo hl (Nat.le_of_ble_eq_true rfl) dL_law_1251 (by omega) (by omega) fun H1 locs1 h1 l1 => ?_
  have hS1 := ph_S hH0 h1 (Nat.zero_le _) l1
  refine lv_aload_n hx hb dL_law_1254 rfl a2 ?_
  refine lw_push F hX hbl hbA hS1 a0 a4 (k := 1) (by decide) (by decide) rfl dL_law_1255 dL_law_1256 dL_law_1258 dL_law_1259 dL_law_1260 ?_
  refine lw_callV F (K := 266) (o := 91) (as := [.int (xs 1)]) (by decide +kernel) (pt_9 _ (List.mem_of_getElem? (i := 13) rfl)) (pt_9 _ (List.mem_of_getElem? (i := 14) rfl)) (pt_9 _ (List.mem_of_getElem? (i := 12) rfl)) e2 rfl hq91 ((ht91.trans ht9).trans rfl) (by decide) h1 l1 hl (Nat.le_of_ble_eq_true rfl) dL_law_1261 (by omega) (by omega) fun H2 locs2 h2 l2 => ?_
  refine lv_icmp_eq hx hb dL_law_1264 rfl (fun _ => kk _ _ _ _ (ph_S hH0 h2 (Nat.zero_le _) l2) (by omega) (by omega)) (fun h => absurd rfl h)
end LWX
