section LWX
variable {p : Program} {l : Launch} {e : Env} {R : Room} {s : State} {m : MethodId} {args : Array Value} {below : List Frame} {meth : Method} {c : Code} {H : Heap} {locs : List Loc} {cells slots : Nat} {Q : State → Prop}
variable {ls : Array Slot} {G : pG} {b Ls : Nat} {xs : Nat → Int32}
set_option maxRecDepth 100000 in
set_option maxHeartbeats 4000000 in
theorem lc_15 (F : lw_Fx G cL_law p R s m args c) (hX : va_X b Ls xs s s.heap) (hbl : b < s.heap.size) (hbA : ¬ pA G b) (hH0 : pH G [] s.heap) {M : sM} {J : pHp} {i : Nat} (hM : uG M) (hH : pH G (sHp sLay M ++ J) H) (hlo : ∀ q ∈ locs, pB G ≤ q.base) (hl : lv_has ls 7 (lw_lvi G b i)) (hi : i + 6 ≤ Ls) (hLs : Ls ≤ 3072) (hrc : cells ≤ R.cells) (hrs : slots ≤ R.slots)
    (kk : ∀ H1 locs1 M1, uG M1 → pH G (sHp sLay M1 ++ J) H1 → (∀ q ∈ locs1, pB G ≤ q.base) → W p l e R s m args below meth c H1 locs1 cells slots Q (F0 m 1564 ls [])) : W p l e R s m args below meth c H locs cells slots Q (F0 m 818 ls []) := by
  obtain ⟨hx, hb, -⟩ := id F
  have a0 := lv_at hl 4 rfl
  have a1 := lv_at hl 3 rfl
  have a2 := lv_at hl 2 rfl
  have a4 := lv_at hl 0 rfl
  have hS := ph_S hH0 hH (Nat.zero_le _) hlo
  obtain ⟨v1, M1, v2, M2, e1, e2, e3⟩ := uo_15 hM J (xs (i + 1))
  refine lv_aload_n hx hb dL_law_818 rfl a1 ?_
  refine lw_push F hX hbl hbA hS a0 a4 (k := 1) (by omega) (by decide) hLs rfl dL_law_819 dL_law_820 dL_law_822 dL_law_823 dL_law_824 ?_
  refine lw_callU F (K := 101) (o := 0) (as := [.int (xs (i + 1))]) (by decide +kernel) (pt_4 _ (List.mem_of_getElem? (i := 198) rfl)) (pt_4 _ (List.mem_of_getElem? (i := 199) rfl)) (pt_4 _ (List.mem_of_getElem? (i := 197) rfl)) e1 rfl (c1 := sLay[0]) rfl rfl (by decide) hH hlo hl (Nat.le_of_ble_eq_true rfl) dL_law_825 hrc hrs fun H1 locs1 h1 l1 => ?_
  have hS1 := ph_S hH0 h1 (Nat.zero_le _) l1
  refine lv_pop hx hb dL_law_828 rfl ?_
  refine lv_aload_n hx hb dL_law_829 rfl a2 ?_
  refine lw_push F hX hbl hbA hS1 a0 a4 (k := 1) (by omega) (by decide) hLs rfl dL_law_830 dL_law_831 dL_law_833 dL_law_834 dL_law_835 ?_
  refine lw_callU F (K := 234) (o := 91) (as := [.int (xs (i + 1))]) (by decide +kernel) (pt_8 _ (List.mem_of_getElem? (i := 122) rfl)) (pt_8 _ (List.mem_of_getElem? (i := 123) rfl)) (pt_8 _ (List.mem_of_getElem? (i := 121) rfl)) e2 rfl (c1 := sLay[91]) rfl rfl (by decide) h1 l1 hl (Nat.le_of_ble_eq_true rfl) dL_law_836 hrc hrs fun H2 locs2 h2 l2 => ?_
  refine lv_pop hx hb dL_law_839 rfl ?_
  exact lv_goto hx hb dL_law_840 (tgt := 1564) rfl (kk _ _ _ e3 h2 l2)
set_option maxRecDepth 100000 in
set_option maxHeartbeats 4000000 in
theorem lc_16 (F : lw_Fx G cL_law p R s m args c) (hX : va_X b Ls xs s s.heap) (hbl : b < s.heap.size) (hbA : ¬ pA G b) (hH0 : pH G [] s.heap) {M : sM} {J : pHp} {i : Nat} (hM : uG M) (hH : pH G (sHp sLay M ++ J) H) (hlo : ∀ q ∈ locs, pB G ≤ q.base) (hl : lv_has ls 7 (lw_lvi G b i)) (hi : i + 6 ≤ Ls) (hLs : Ls ≤ 3072) (hrc : cells ≤ R.cells) (hrs : slots ≤ R.slots)
    (kk : ∀ H1 locs1 M1, uG M1 → pH G (sHp sLay M1 ++ J) H1 → (∀ q ∈ locs1, pB G ≤ q.base) → W p l e R s m args below meth c H1 locs1 cells slots Q (F0 m 1564 ls [])) : W p l e R s m args below meth c H locs cells slots Q (F0 m 843 ls []) := by
  obtain ⟨hx, hb, -⟩ := id F
  have a0 := lv_at hl 4 rfl
  have a1 := lv_at hl 3 rfl
  have a2 := lv_at hl 2 rfl
  have a4 := lv_at hl 0 rfl
  have hS := ph_S hH0 hH (Nat.zero_le _) hlo
  obtain ⟨v1, M1, v2, M2, e1, e2, e3⟩ := uo_16 hM J (xs (i + 1))
  refine lv_aload_n hx hb dL_law_843 rfl a1 ?_
  refine lw_push F hX hbl hbA hS a0 a4 (k := 1) (by omega) (by decide) hLs rfl dL_law_844 dL_law_845 dL_law_847 dL_law_848 dL_law_849 ?_
  refine lw_callU F (K := 105) (o := 0) (as := [.int (xs (i + 1))]) (by decide +kernel) (pt_4 _ (List.mem_of_getElem? (i := 222) rfl)) (pt_4 _ (List.mem_of_getElem? (i := 223) rfl)) (pt_4 _ (List.mem_of_getElem? (i := 221) rfl)) e1 rfl (c1 := sLay[0]) rfl rfl (by decide) hH hlo hl (Nat.le_of_ble_eq_true rfl) dL_law_850 hrc hrs fun H1 locs1 h1 l1 => ?_
  have hS1 := ph_S hH0 h1 (Nat.zero_le _) l1
  refine lv_pop hx hb dL_law_853 rfl ?_
  refine lv_aload_n hx hb dL_law_854 rfl a2 ?_
  refine lw_push F hX hbl hbA hS1 a0 a4 (k := 1) (by omega) (by decide) hLs rfl dL_law_855 dL_law_856 dL_law_858 dL_law_859 dL_law_860 ?_
  refine lw_callU F (K := 239) (o := 91) (as := [.int (xs (i + 1))]) (by decide +kernel) (pt_8 _ (List.mem_of_getElem? (i := 144) rfl)) (pt_8 _ (List.mem_of_getElem? (i := 145) rfl)) (pt_8 _ (List.mem_of_getElem? (i := 143) rfl)) e2 rfl (c1 := sLay[91]) rfl rfl (by decide) h1 l1 hl (Nat.le_of_ble_eq_true rfl) dL_law_861 hrc hrs fun H2 locs2 h2 l2 => ?_
  refine lv_pop hx hb dL_law_864 rfl ?_
  exact lv_goto hx hb dL_law_865 (tgt := 1564) rfl (kk _ _ _ e3 h2 l2)
set_option maxRecDepth 100000 in
set_option maxHeartbeats 4000000 in
theorem lc_17 (F : lw_Fx G cL_law p R s m args c) (hX : va_X b Ls xs s s.heap) (hbl : b < s.heap.size) (hbA : ¬ pA G b) (hH0 : pH G [] s.heap) {M : sM} {J : pHp} {i : Nat} (hM : uG M) (hH : pH G (sHp sLay M ++ J) H) (hlo : ∀ q ∈ locs, pB G ≤ q.base) (hl : lv_has ls 7 (lw_lvi G b i)) (hi : i + 6 ≤ Ls) (hLs : Ls ≤ 3072) (hrc : cells ≤ R.cells) (hrs : slots ≤ R.slots)
    (kk : ∀ H1 locs1 M1, uG M1 → pH G (sHp sLay M1 ++ J) H1 → (∀ q ∈ locs1, pB G ≤ q.base) → W p l e R s m args below meth c H1 locs1 cells slots Q (F0 m 1564 ls [])) : W p l e R s m args below meth c H locs cells slots Q (F0 m 868 ls []) := by
  obtain ⟨hx, hb, -⟩ := id F
  have a0 := lv_at hl 4 rfl
  have a1 := lv_at hl 3 rfl
  have a2 := lv_at hl 2 rfl
  have a4 := lv_at hl 0 rfl
  have hS := ph_S hH0 hH (Nat.zero_le _) hlo
  obtain ⟨v1, M1, v2, M2, e1, e2, e3⟩ := uo_17 hM J (xs (i + 1)) (xs (i + 2))
  refine lv_aload_n hx hb dL_law_868 rfl a1 ?_
  refine lw_push F hX hbl hbA hS a0 a4 (k := 1) (by omega) (by decide) hLs rfl dL_law_869 dL_law_870 dL_law_872 dL_law_873 dL_law_874 ?_
  refine lw_push F hX hbl hbA hS a0 a4 (k := 2) (by omega) (by decide) hLs rfl dL_law_875 dL_law_876 dL_law_878 dL_law_879 dL_law_880 ?_
  refine lw_callU F (K := 106) (o := 0) (as := [.int (xs (i + 1)), .int (xs (i + 2))]) (by decide +kernel) (pt_4 _ (List.mem_of_getElem? (i := 227) rfl)) (pt_4 _ (List.mem_of_getElem? (i := 228) rfl)) (pt_4 _ (List.mem_of_getElem? (i := 226) rfl)) e1 rfl (c1 := sLay[0]) rfl rfl (by decide) hH hlo hl (Nat.le_of_ble_eq_true rfl) dL_law_881 hrc hrs fun H1 locs1 h1 l1 => ?_
  have hS1 := ph_S hH0 h1 (Nat.zero_le _) l1
  refine lv_pop hx hb dL_law_884 rfl ?_
  refine lv_aload_n hx hb dL_law_885 rfl a2 ?_
  refine lw_push F hX hbl hbA hS1 a0 a4 (k := 1) (by omega) (by decide) hLs rfl dL_law_886 dL_law_887 dL_law_889 dL_law_890 dL_law_891 ?_
  refine lw_push F hX hbl hbA hS1 a0 a4 (k := 2) (by omega) (by decide) hLs rfl dL_law_892 dL_law_893 dL_law_895 dL_law_896 dL_law_897 ?_
  refine lw_callU F (K := 240) (o := 91) (as := [.int (xs (i + 1)), .int (xs (i + 2))]) (by decide +kernel) (pt_8 _ (List.mem_of_getElem? (i := 148) rfl)) (pt_8 _ (List.mem_of_getElem? (i := 149) rfl)) (pt_8 _ (List.mem_of_getElem? (i := 147) rfl)) e2 rfl (c1 := sLay[91]) rfl rfl (by decide) h1 l1 hl (Nat.le_of_ble_eq_true rfl) dL_law_898 hrc hrs fun H2 locs2 h2 l2 => ?_
  refine lv_pop hx hb dL_law_901 rfl ?_
  exact lv_goto hx hb dL_law_902 (tgt := 1564) rfl (kk _ _ _ e3 h2 l2)
set_option maxRecDepth 100000 in
set_option maxHeartbeats 4000000 in
theorem lc_18 (F : lw_Fx G cL_law p R s m args c) (hX : va_X b Ls xs s s.heap) (hbl : b < s.heap.size) (hbA : ¬ pA G b) (hH0 : pH G [] s.heap) {M : sM} {J : pHp} {i : Nat} (hM : uG M) (hH : pH G (sHp sLay M ++ J) H) (hlo : ∀ q ∈ locs, pB G ≤ q.base) (hl : lv_has ls 7 (lw_lvi G b i)) (hi : i + 6 ≤ Ls) (hLs : Ls ≤ 3072) (hrc : cells ≤ R.cells) (hrs : slots ≤ R.slots)
    (kk : ∀ H1 locs1 M1, uG M1 → pH G (sHp sLay M1 ++ J) H1 → (∀ q ∈ locs1, pB G ≤ q.base) → W p l e R s m args below meth c H1 locs1 cells slots Q (F0 m 1564 ls [])) : W p l e R s m args below meth c H locs cells slots Q (F0 m 905 ls []) := by
  obtain ⟨hx, hb, -⟩ := id F
  have a0 := lv_at hl 4 rfl
  have a1 := lv_at hl 3 rfl
  have a2 := lv_at hl 2 rfl
  have a4 := lv_at hl 0 rfl
  have hS := ph_S hH0 hH (Nat.zero_le _) hlo
  obtain ⟨v1, M1, v2, M2, e1, e2, e3⟩ := uo_18 hM J 
  refine lv_aload_n hx hb dL_law_905 rfl a1 ?_
  refine lw_callU F (K := 108) (o := 0) (as := []) (by decide +kernel) (pt_4 _ (List.mem_of_getElem? (i := 237) rfl)) (pt_4 _ (List.mem_of_getElem? (i := 238) rfl)) (pt_4 _ (List.mem_of_getElem? (i := 236) rfl)) e1 rfl (c1 := sLay[0]) rfl rfl (by decide) hH hlo hl (Nat.le_of_ble_eq_true rfl) dL_law_906 hrc hrs fun H1 locs1 h1 l1 => ?_
  have hS1 := ph_S hH0 h1 (Nat.zero_le _) l1
  refine lv_pop hx hb dL_law_909 rfl ?_
  refine lv_aload_n hx hb dL_law_910 rfl a2 ?_
  refine lw_callU F (K := 244) (o := 91) (as := []) (by decide +kernel) (pt_8 _ (List.mem_of_getElem? (i := 164) rfl)) (pt_8 _ (List.mem_of_getElem? (i := 165) rfl)) (pt_8 _ (List.mem_of_getElem? (i := 163) rfl)) e2 rfl (c1 := sLay[91]) rfl rfl (by decide) h1 l1 hl (Nat.le_of_ble_eq_true rfl) dL_law_911 hrc hrs fun H2 locs2 h2 l2 => ?_
  refine lv_pop hx hb dL_law_914 rfl ?_
  exact lv_goto hx hb dL_law_915 (tgt := 1564) rfl (kk _ _ _ e3 h2 l2)
set_option maxRecDepth 100000 in
set_option maxHeartbeats 4000000 in
theorem lc_19 (F : lw_Fx G cL_law p R s m args c) (hX : va_X b Ls xs s s.heap) (hbl : b < s.heap.size) (hbA : ¬ pA G b) (hH0 : pH G [] s.heap) {M : sM} {J : pHp} {i : Nat} (hM : uG M) (hH : pH G (sHp sLay M ++ J) H) (hlo : ∀ q ∈ locs, pB G ≤ q.base) (hl : lv_has ls 7 (lw_lvi G b i)) (hi : i + 6 ≤ Ls) (hLs : Ls ≤ 3072) (hrc : cells ≤ R.cells) (hrs : slots ≤ R.slots)
    (kk : ∀ H1 locs1 M1, uG M1 → pH G (sHp sLay M1 ++ J) H1 → (∀ q ∈ locs1, pB G ≤ q.base) → W p l e R s m args below meth c H1 locs1 cells slots Q (F0 m 1564 ls [])) : W p l e R s m args below meth c H locs cells slots Q (F0 m 918 ls []) := by
  obtain ⟨hx, hb, -⟩ := id F
  have a0 := lv_at hl 4 rfl
  have a1 := lv_at hl 3 rfl
  have a2 := lv_at hl 2 rfl
  have a4 := lv_at hl 0 rfl
  have hS := ph_S hH0 hH (Nat.zero_le _) hlo
  obtain ⟨v1, M1, v2, M2, e1, e2, e3⟩ := uo_19 hM J (xs (i + 1))
  refine lv_aload_n hx hb dL_law_918 rfl a1 ?_
  refine lw_push F hX hbl hbA hS a0 a4 (k := 1) (by omega) (by decide) hLs rfl dL_law_919 dL_law_920 dL_law_922 dL_law_923 dL_law_924 ?_
  refine lw_callU F (K := 110) (o := 0) (as := [.int (xs (i + 1))]) (by decide +kernel) (pt_5 _ (List.mem_of_getElem? (i := 5) rfl)) (pt_5 _ (List.mem_of_getElem? (i := 6) rfl)) (pt_5 _ (List.mem_of_getElem? (i := 4) rfl)) e1 rfl (c1 := sLay[0]) rfl rfl (by decide) hH hlo hl (Nat.le_of_ble_eq_true rfl) dL_law_925 hrc hrs fun H1 locs1 h1 l1 => ?_
  have hS1 := ph_S hH0 h1 (Nat.zero_le _) l1
  refine lv_pop hx hb dL_law_928 rfl ?_
  refine lv_aload_n hx hb dL_law_929 rfl a2 ?_
  refine lw_push F hX hbl hbA hS1 a0 a4 (k := 1) (by omega) (by decide) hLs rfl dL_law_930 dL_law_931 dL_law_933 dL_law_934 dL_law_935 ?_
  refine lw_callU F (K := 246) (o := 91) (as := [.int (xs (i + 1))]) (by decide +kernel) (pt_8 _ (List.mem_of_getElem? (i := 172) rfl)) (pt_8 _ (List.mem_of_getElem? (i := 173) rfl)) (pt_8 _ (List.mem_of_getElem? (i := 171) rfl)) e2 rfl (c1 := sLay[91]) rfl rfl (by decide) h1 l1 hl (Nat.le_of_ble_eq_true rfl) dL_law_936 hrc hrs fun H2 locs2 h2 l2 => ?_
  refine lv_pop hx hb dL_law_939 rfl ?_
  exact lv_goto hx hb dL_law_940 (tgt := 1564) rfl (kk _ _ _ e3 h2 l2)
set_option maxRecDepth 100000 in
set_option maxHeartbeats 4000000 in
theorem lc_20 (F : lw_Fx G cL_law p R s m args c) (hX : va_X b Ls xs s s.heap) (hbl : b < s.heap.size) (hbA : ¬ pA G b) (hH0 : pH G [] s.heap) {M : sM} {J : pHp} {i : Nat} (hM : uG M) (hH : pH G (sHp sLay M ++ J) H) (hlo : ∀ q ∈ locs, pB G ≤ q.base) (hl : lv_has ls 7 (lw_lvi G b i)) (hi : i + 6 ≤ Ls) (hLs : Ls ≤ 3072) (hrc : cells ≤ R.cells) (hrs : slots ≤ R.slots)
    (kk : ∀ H1 locs1 M1, uG M1 → pH G (sHp sLay M1 ++ J) H1 → (∀ q ∈ locs1, pB G ≤ q.base) → W p l e R s m args below meth c H1 locs1 cells slots Q (F0 m 1564 ls [])) : W p l e R s m args below meth c H locs cells slots Q (F0 m 943 ls []) := by
  obtain ⟨hx, hb, -⟩ := id F
  have a0 := lv_at hl 4 rfl
  have a1 := lv_at hl 3 rfl
  have a2 := lv_at hl 2 rfl
  have a4 := lv_at hl 0 rfl
  have hS := ph_S hH0 hH (Nat.zero_le _) hlo
  obtain ⟨v1, M1, v2, M2, e1, e2, e3⟩ := uo_20 hM J (xs (i + 1)) (xs (i + 2))
  refine lv_aload_n hx hb dL_law_943 rfl a1 ?_
  refine lw_push F hX hbl hbA hS a0 a4 (k := 1) (by omega) (by decide) hLs rfl dL_law_944 dL_law_945 dL_law_947 dL_law_948 dL_law_949 ?_
  refine lw_push F hX hbl hbA hS a0 a4 (k := 2) (by omega) (by decide) hLs rfl dL_law_950 dL_law_951 dL_law_953 dL_law_954 dL_law_955 ?_
  refine lw_callU F (K := 112) (o := 0) (as := [.int (xs (i + 1)), .int (xs (i + 2))]) (by decide +kernel) (pt_5 _ (List.mem_of_getElem? (i := 12) rfl)) (pt_5 _ (List.mem_of_getElem? (i := 13) rfl)) (pt_5 _ (List.mem_of_getElem? (i := 11) rfl)) e1 rfl (c1 := sLay[0]) rfl rfl (by decide) hH hlo hl (Nat.le_of_ble_eq_true rfl) dL_law_956 hrc hrs fun H1 locs1 h1 l1 => ?_
  have hS1 := ph_S hH0 h1 (Nat.zero_le _) l1
  refine lv_pop hx hb dL_law_959 rfl ?_
  refine lv_aload_n hx hb dL_law_960 rfl a2 ?_
  refine lw_push F hX hbl hbA hS1 a0 a4 (k := 1) (by omega) (by decide) hLs rfl dL_law_961 dL_law_962 dL_law_964 dL_law_965 dL_law_966 ?_
  refine lw_push F hX hbl hbA hS1 a0 a4 (k := 2) (by omega) (by decide) hLs rfl dL_law_967 dL_law_968 dL_law_970 dL_law_971 dL_law_972 ?_
  refine lw_callU F (K := 247) (o := 91) (as := [.int (xs (i + 1)), .int (xs (i + 2))]) (by decide +kernel) (pt_8 _ (List.mem_of_getElem? (i := 176) rfl)) (pt_8 _ (List.mem_of_getElem? (i := 177) rfl)) (pt_8 _ (List.mem_of_getElem? (i := 175) rfl)) e2 rfl (c1 := sLay[91]) rfl rfl (by decide) h1 l1 hl (Nat.le_of_ble_eq_true rfl) dL_law_973 hrc hrs fun H2 locs2 h2 l2 => ?_
  refine lv_pop hx hb dL_law_976 rfl ?_
  exact lv_goto hx hb dL_law_977 (tgt := 1564) rfl (kk _ _ _ e3 h2 l2)
set_option maxRecDepth 100000 in
set_option maxHeartbeats 4000000 in
theorem lc_21 (F : lw_Fx G cL_law p R s m args c) (hX : va_X b Ls xs s s.heap) (hbl : b < s.heap.size) (hbA : ¬ pA G b) (hH0 : pH G [] s.heap) {M : sM} {J : pHp} {i : Nat} (hM : uG M) (hH : pH G (sHp sLay M ++ J) H) (hlo : ∀ q ∈ locs, pB G ≤ q.base) (hl : lv_has ls 7 (lw_lvi G b i)) (hi : i + 6 ≤ Ls) (hLs : Ls ≤ 3072) (hrc : cells ≤ R.cells) (hrs : slots ≤ R.slots)
    (kk : ∀ H1 locs1 M1, uG M1 → pH G (sHp sLay M1 ++ J) H1 → (∀ q ∈ locs1, pB G ≤ q.base) → W p l e R s m args below meth c H1 locs1 cells slots Q (F0 m 1564 ls [])) : W p l e R s m args below meth c H locs cells slots Q (F0 m 980 ls []) := by
  obtain ⟨hx, hb, -⟩ := id F
  have a0 := lv_at hl 4 rfl
  have a1 := lv_at hl 3 rfl
  have a2 := lv_at hl 2 rfl
  have a4 := lv_at hl 0 rfl
  have hS := ph_S hH0 hH (Nat.zero_le _) hlo
  obtain ⟨v1, M1, v2, M2, e1, e2, e3⟩ := uo_21 hM J (xs (i + 1))
  refine lv_aload_n hx hb dL_law_980 rfl a1 ?_
  refine lw_push F hX hbl hbA hS a0 a4 (k := 1) (by omega) (by decide) hLs rfl dL_law_981 dL_law_982 dL_law_984 dL_law_985 dL_law_986 ?_
  refine lw_callU F (K := 125) (o := 0) (as := [.int (xs (i + 1))]) (by decide +kernel) (pt_5 _ (List.mem_of_getElem? (i := 71) rfl)) (pt_5 _ (List.mem_of_getElem? (i := 72) rfl)) (pt_5 _ (List.mem_of_getElem? (i := 70) rfl)) e1 rfl (c1 := sLay[0]) rfl rfl (by decide) hH hlo hl (Nat.le_of_ble_eq_true rfl) dL_law_987 hrc hrs fun H1 locs1 h1 l1 => ?_
  have hS1 := ph_S hH0 h1 (Nat.zero_le _) l1
  refine lv_pop hx hb dL_law_990 rfl ?_
  refine lv_aload_n hx hb dL_law_991 rfl a2 ?_
  refine lw_push F hX hbl hbA hS1 a0 a4 (k := 1) (by omega) (by decide) hLs rfl dL_law_992 dL_law_993 dL_law_995 dL_law_996 dL_law_997 ?_
  refine lw_callU F (K := 253) (o := 91) (as := [.int (xs (i + 1))]) (by decide +kernel) (pt_8 _ (List.mem_of_getElem? (i := 200) rfl)) (pt_8 _ (List.mem_of_getElem? (i := 201) rfl)) (pt_8 _ (List.mem_of_getElem? (i := 199) rfl)) e2 rfl (c1 := sLay[91]) rfl rfl (by decide) h1 l1 hl (Nat.le_of_ble_eq_true rfl) dL_law_998 hrc hrs fun H2 locs2 h2 l2 => ?_
  refine lv_pop hx hb dL_law_1001 rfl ?_
  exact lv_goto hx hb dL_law_1002 (tgt := 1564) rfl (kk _ _ _ e3 h2 l2)
set_option maxRecDepth 100000 in
set_option maxHeartbeats 4000000 in
theorem lc_22 (F : lw_Fx G cL_law p R s m args c) (hX : va_X b Ls xs s s.heap) (hbl : b < s.heap.size) (hbA : ¬ pA G b) (hH0 : pH G [] s.heap) {M : sM} {J : pHp} {i : Nat} (hM : uG M) (hH : pH G (sHp sLay M ++ J) H) (hlo : ∀ q ∈ locs, pB G ≤ q.base) (hl : lv_has ls 7 (lw_lvi G b i)) (hi : i + 6 ≤ Ls) (hLs : Ls ≤ 3072) (hrc : cells ≤ R.cells) (hrs : slots ≤ R.slots)
    (kk : ∀ H1 locs1 M1, uG M1 → pH G (sHp sLay M1 ++ J) H1 → (∀ q ∈ locs1, pB G ≤ q.base) → W p l e R s m args below meth c H1 locs1 cells slots Q (F0 m 1564 ls [])) : W p l e R s m args below meth c H locs cells slots Q (F0 m 1005 ls []) := by
  obtain ⟨hx, hb, -⟩ := id F
  have a0 := lv_at hl 4 rfl
  have a1 := lv_at hl 3 rfl
  have a2 := lv_at hl 2 rfl
  have a4 := lv_at hl 0 rfl
  have hS := ph_S hH0 hH (Nat.zero_le _) hlo
  obtain ⟨v1, M1, v2, M2, e1, e2, e3⟩ := uo_22 hM J (xs (i + 1)) (xs (i + 2))
  refine lv_aload_n hx hb dL_law_1005 rfl a1 ?_
  refine lw_push F hX hbl hbA hS a0 a4 (k := 1) (by omega) (by decide) hLs rfl dL_law_1006 dL_law_1007 dL_law_1009 dL_law_1010 dL_law_1011 ?_
  refine lw_push F hX hbl hbA hS a0 a4 (k := 2) (by omega) (by decide) hLs rfl dL_law_1012 dL_law_1013 dL_law_1015 dL_law_1016 dL_law_1017 ?_
  refine lw_callU F (K := 131) (o := 0) (as := [.int (xs (i + 1)), .int (xs (i + 2))]) (by decide +kernel) (pt_5 _ (List.mem_of_getElem? (i := 100) rfl)) (pt_5 _ (List.mem_of_getElem? (i := 101) rfl)) (pt_5 _ (List.mem_of_getElem? (i := 99) rfl)) e1 rfl (c1 := sLay[0]) rfl rfl (by decide) hH hlo hl (Nat.le_of_ble_eq_true rfl) dL_law_1018 hrc hrs fun H1 locs1 h1 l1 => ?_
  have hS1 := ph_S hH0 h1 (Nat.zero_le _) l1
  refine lv_pop hx hb dL_law_1021 rfl ?_
  refine lv_aload_n hx hb dL_law_1022 rfl a2 ?_
  refine lw_push F hX hbl hbA hS1 a0 a4 (k := 1) (by omega) (by decide) hLs rfl dL_law_1023 dL_law_1024 dL_law_1026 dL_law_1027 dL_law_1028 ?_
  refine lw_push F hX hbl hbA hS1 a0 a4 (k := 2) (by omega) (by decide) hLs rfl dL_law_1029 dL_law_1030 dL_law_1032 dL_law_1033 dL_law_1034 ?_
  refine lw_callU F (K := 258) (o := 91) (as := [.int (xs (i + 1)), .int (xs (i + 2))]) (by decide +kernel) (pt_8 _ (List.mem_of_getElem? (i := 221) rfl)) (pt_8 _ (List.mem_of_getElem? (i := 222) rfl)) (pt_8 _ (List.mem_of_getElem? (i := 220) rfl)) e2 rfl (c1 := sLay[91]) rfl rfl (by decide) h1 l1 hl (Nat.le_of_ble_eq_true rfl) dL_law_1035 hrc hrs fun H2 locs2 h2 l2 => ?_
  refine lv_pop hx hb dL_law_1038 rfl ?_
  exact lv_goto hx hb dL_law_1039 (tgt := 1564) rfl (kk _ _ _ e3 h2 l2)
set_option maxRecDepth 100000 in
set_option maxHeartbeats 4000000 in
theorem lc_23 (F : lw_Fx G cL_law p R s m args c) (hX : va_X b Ls xs s s.heap) (hbl : b < s.heap.size) (hbA : ¬ pA G b) (hH0 : pH G [] s.heap) {M : sM} {J : pHp} {i : Nat} (hM : uG M) (hH : pH G (sHp sLay M ++ J) H) (hlo : ∀ q ∈ locs, pB G ≤ q.base) (hl : lv_has ls 7 (lw_lvi G b i)) (hi : i + 6 ≤ Ls) (hLs : Ls ≤ 3072) (hrc : cells ≤ R.cells) (hrs : slots ≤ R.slots)
    (kk : ∀ H1 locs1 M1, uG M1 → pH G (sHp sLay M1 ++ J) H1 → (∀ q ∈ locs1, pB G ≤ q.base) → W p l e R s m args below meth c H1 locs1 cells slots Q (F0 m 1564 ls [])) : W p l e R s m args below meth c H locs cells slots Q (F0 m 1042 ls []) := by
  obtain ⟨hx, hb, -⟩ := id F
  have a0 := lv_at hl 4 rfl
  have a1 := lv_at hl 3 rfl
  have a2 := lv_at hl 2 rfl
  have a4 := lv_at hl 0 rfl
  have hS := ph_S hH0 hH (Nat.zero_le _) hlo
  obtain ⟨v1, M1, v2, M2, e1, e2, e3⟩ := uo_23 hM J (xs (i + 1))
  refine lv_aload_n hx hb dL_law_1042 rfl a1 ?_
  refine lw_push F hX hbl hbA hS a0 a4 (k := 1) (by omega) (by decide) hLs rfl dL_law_1043 dL_law_1044 dL_law_1046 dL_law_1047 dL_law_1048 ?_
  refine lw_callU F (K := 132) (o := 0) (as := [.int (xs (i + 1))]) (by decide +kernel) (pt_5 _ (List.mem_of_getElem? (i := 104) rfl)) (pt_5 _ (List.mem_of_getElem? (i := 105) rfl)) (pt_5 _ (List.mem_of_getElem? (i := 103) rfl)) e1 rfl (c1 := sLay[0]) rfl rfl (by decide) hH hlo hl (Nat.le_of_ble_eq_true rfl) dL_law_1049 hrc hrs fun H1 locs1 h1 l1 => ?_
  have hS1 := ph_S hH0 h1 (Nat.zero_le _) l1
  refine lv_pop hx hb dL_law_1052 rfl ?_
  refine lv_aload_n hx hb dL_law_1053 rfl a2 ?_
  refine lw_push F hX hbl hbA hS1 a0 a4 (k := 1) (by omega) (by decide) hLs rfl dL_law_1054 dL_law_1055 dL_law_1057 dL_law_1058 dL_law_1059 ?_
  refine lw_callU F (K := 259) (o := 91) (as := [.int (xs (i + 1))]) (by decide +kernel) (pt_8 _ (List.mem_of_getElem? (i := 225) rfl)) (pt_8 _ (List.mem_of_getElem? (i := 226) rfl)) (pt_8 _ (List.mem_of_getElem? (i := 224) rfl)) e2 rfl (c1 := sLay[91]) rfl rfl (by decide) h1 l1 hl (Nat.le_of_ble_eq_true rfl) dL_law_1060 hrc hrs fun H2 locs2 h2 l2 => ?_
  refine lv_pop hx hb dL_law_1063 rfl ?_
  exact lv_goto hx hb dL_law_1064 (tgt := 1564) rfl (kk _ _ _ e3 h2 l2)
set_option maxRecDepth 100000 in
set_option maxHeartbeats 4000000 in
theorem lc_24 (F : lw_Fx G cL_law p R s m args c) (hX : va_X b Ls xs s s.heap) (hbl : b < s.heap.size) (hbA : ¬ pA G b) (hH0 : pH G [] s.heap) {M : sM} {J : pHp} {i : Nat} (hM : uG M) (hH : pH G (sHp sLay M ++ J) H) (hlo : ∀ q ∈ locs, pB G ≤ q.base) (hl : lv_has ls 7 (lw_lvi G b i)) (hi : i + 6 ≤ Ls) (hLs : Ls ≤ 3072) (hrc : cells ≤ R.cells) (hrs : slots ≤ R.slots)
    (kk : ∀ H1 locs1 M1, uG M1 → pH G (sHp sLay M1 ++ J) H1 → (∀ q ∈ locs1, pB G ≤ q.base) → W p l e R s m args below meth c H1 locs1 cells slots Q (F0 m 1564 ls [])) : W p l e R s m args below meth c H locs cells slots Q (F0 m 1067 ls []) := by
  obtain ⟨hx, hb, -⟩ := id F
  have a0 := lv_at hl 4 rfl
  have a1 := lv_at hl 3 rfl
  have a2 := lv_at hl 2 rfl
  have a4 := lv_at hl 0 rfl
  have hS := ph_S hH0 hH (Nat.zero_le _) hlo
  obtain ⟨v1, M1, v2, M2, e1, e2, e3⟩ := uo_24 hM J (xs (i + 1)) (xs (i + 2)) (xs (i + 3))
  refine lv_aload_n hx hb dL_law_1067 rfl a1 ?_
  refine lw_push F hX hbl hbA hS a0 a4 (k := 1) (by omega) (by decide) hLs rfl dL_law_1068 dL_law_1069 dL_law_1071 dL_law_1072 dL_law_1073 ?_
  refine lw_push F hX hbl hbA hS a0 a4 (k := 2) (by omega) (by decide) hLs rfl dL_law_1074 dL_law_1075 dL_law_1077 dL_law_1078 dL_law_1079 ?_
  refine lw_push F hX hbl hbA hS a0 a4 (k := 3) (by omega) (by decide) hLs rfl dL_law_1080 dL_law_1081 dL_law_1083 dL_law_1084 dL_law_1085 ?_
  refine lw_callU F (K := 133) (o := 0) (as := [.int (xs (i + 1)), .int (xs (i + 2)), .int (xs (i + 3))]) (by decide +kernel) (pt_5 _ (List.mem_of_getElem? (i := 108) rfl)) (pt_5 _ (List.mem_of_getElem? (i := 109) rfl)) (pt_5 _ (List.mem_of_getElem? (i := 107) rfl)) e1 rfl (c1 := sLay[0]) rfl rfl (by decide) hH hlo hl (Nat.le_of_ble_eq_true rfl) dL_law_1086 hrc hrs fun H1 locs1 h1 l1 => ?_
  have hS1 := ph_S hH0 h1 (Nat.zero_le _) l1
  refine lv_pop hx hb dL_law_1089 rfl ?_
  refine lv_aload_n hx hb dL_law_1090 rfl a2 ?_
  refine lw_push F hX hbl hbA hS1 a0 a4 (k := 1) (by omega) (by decide) hLs rfl dL_law_1091 dL_law_1092 dL_law_1094 dL_law_1095 dL_law_1096 ?_
  refine lw_push F hX hbl hbA hS1 a0 a4 (k := 2) (by omega) (by decide) hLs rfl dL_law_1097 dL_law_1098 dL_law_1100 dL_law_1101 dL_law_1102 ?_
  refine lw_push F hX hbl hbA hS1 a0 a4 (k := 3) (by omega) (by decide) hLs rfl dL_law_1103 dL_law_1104 dL_law_1106 dL_law_1107 dL_law_1108 ?_
  refine lw_callU F (K := 260) (o := 91) (as := [.int (xs (i + 1)), .int (xs (i + 2)), .int (xs (i + 3))]) (by decide +kernel) (pt_8 _ (List.mem_of_getElem? (i := 229) rfl)) (pt_8 _ (List.mem_of_getElem? (i := 230) rfl)) (pt_8 _ (List.mem_of_getElem? (i := 228) rfl)) e2 rfl (c1 := sLay[91]) rfl rfl (by decide) h1 l1 hl (Nat.le_of_ble_eq_true rfl) dL_law_1109 hrc hrs fun H2 locs2 h2 l2 => ?_
  refine lv_pop hx hb dL_law_1112 rfl ?_
  exact lv_goto hx hb dL_law_1113 (tgt := 1564) rfl (kk _ _ _ e3 h2 l2)
set_option maxRecDepth 100000 in
set_option maxHeartbeats 4000000 in
theorem lc_25 (F : lw_Fx G cL_law p R s m args c) (hX : va_X b Ls xs s s.heap) (hbl : b < s.heap.size) (hbA : ¬ pA G b) (hH0 : pH G [] s.heap) {M : sM} {J : pHp} {i : Nat} (hM : uG M) (hH : pH G (sHp sLay M ++ J) H) (hlo : ∀ q ∈ locs, pB G ≤ q.base) (hl : lv_has ls 7 (lw_lvi G b i)) (hi : i + 6 ≤ Ls) (hLs : Ls ≤ 3072) (hrc : cells ≤ R.cells) (hrs : slots ≤ R.slots)
    (kk : ∀ H1 locs1 M1, uG M1 → pH G (sHp sLay M1 ++ J) H1 → (∀ q ∈ locs1, pB G ≤ q.base) → W p l e R s m args below meth c H1 locs1 cells slots Q (F0 m 1564 ls [])) : W p l e R s m args below meth c H locs cells slots Q (F0 m 1116 ls []) := by
  obtain ⟨hx, hb, -⟩ := id F
  have a0 := lv_at hl 4 rfl
  have a1 := lv_at hl 3 rfl
  have a2 := lv_at hl 2 rfl
  have a4 := lv_at hl 0 rfl
  have hS := ph_S hH0 hH (Nat.zero_le _) hlo
  obtain ⟨v1, M1, v2, M2, e1, e2, e3⟩ := uo_25 hM J (xs (i + 1)) (xs (i + 2))
  refine lv_aload_n hx hb dL_law_1116 rfl a1 ?_
  refine lw_push F hX hbl hbA hS a0 a4 (k := 1) (by omega) (by decide) hLs rfl dL_law_1117 dL_law_1118 dL_law_1120 dL_law_1121 dL_law_1122 ?_
  refine lw_push F hX hbl hbA hS a0 a4 (k := 2) (by omega) (by decide) hLs rfl dL_law_1123 dL_law_1124 dL_law_1126 dL_law_1127 dL_law_1128 ?_
  refine lw_callU F (K := 135) (o := 0) (as := [.int (xs (i + 1)), .int (xs (i + 2))]) (by decide +kernel) (pt_5 _ (List.mem_of_getElem? (i := 116) rfl)) (pt_5 _ (List.mem_of_getElem? (i := 117) rfl)) (pt_5 _ (List.mem_of_getElem? (i := 115) rfl)) e1 rfl (c1 := sLay[0]) rfl rfl (by decide) hH hlo hl (Nat.le_of_ble_eq_true rfl) dL_law_1129 hrc hrs fun H1 locs1 h1 l1 => ?_
  have hS1 := ph_S hH0 h1 (Nat.zero_le _) l1
  refine lv_pop hx hb dL_law_1132 rfl ?_
  refine lv_aload_n hx hb dL_law_1133 rfl a2 ?_
  refine lw_push F hX hbl hbA hS1 a0 a4 (k := 1) (by omega) (by decide) hLs rfl dL_law_1134 dL_law_1135 dL_law_1137 dL_law_1138 dL_law_1139 ?_
  refine lw_push F hX hbl hbA hS1 a0 a4 (k := 2) (by omega) (by decide) hLs rfl dL_law_1140 dL_law_1141 dL_law_1143 dL_law_1144 dL_law_1145 ?_
  refine lw_callU F (K := 263) (o := 91) (as := [.int (xs (i + 1)), .int (xs (i + 2))]) (by decide +kernel) (pt_9 _ (List.mem_of_getElem? (i := 1) rfl)) (pt_9 _ (List.mem_of_getElem? (i := 2) rfl)) (pt_9 _ (List.mem_of_getElem? (i := 0) rfl)) e2 rfl (c1 := sLay[91]) rfl rfl (by decide) h1 l1 hl (Nat.le_of_ble_eq_true rfl) dL_law_1146 hrc hrs fun H2 locs2 h2 l2 => ?_
  refine lv_pop hx hb dL_law_1149 rfl ?_
  exact lv_goto hx hb dL_law_1150 (tgt := 1564) rfl (kk _ _ _ e3 h2 l2)
set_option maxRecDepth 100000 in
set_option maxHeartbeats 4000000 in
theorem lc_26 (F : lw_Fx G cL_law p R s m args c) (hX : va_X b Ls xs s s.heap) (hbl : b < s.heap.size) (hbA : ¬ pA G b) (hH0 : pH G [] s.heap) {M : sM} {J : pHp} {i : Nat} (hM : uG M) (hH : pH G (sHp sLay M ++ J) H) (hlo : ∀ q ∈ locs, pB G ≤ q.base) (hl : lv_has ls 7 (lw_lvi G b i)) (hi : i + 6 ≤ Ls) (hLs : Ls ≤ 3072) (hrc : cells ≤ R.cells) (hrs : slots ≤ R.slots)
    (kk : ∀ H1 locs1 M1, uG M1 → pH G (sHp sLay M1 ++ J) H1 → (∀ q ∈ locs1, pB G ≤ q.base) → W p l e R s m args below meth c H1 locs1 cells slots Q (F0 m 1564 ls [])) : W p l e R s m args below meth c H locs cells slots Q (F0 m 1153 ls []) := by
  obtain ⟨hx, hb, -⟩ := id F
  have a0 := lv_at hl 4 rfl
  have a1 := lv_at hl 3 rfl
  have a2 := lv_at hl 2 rfl
  have a4 := lv_at hl 0 rfl
  have hS := ph_S hH0 hH (Nat.zero_le _) hlo
  obtain ⟨v1, M1, v2, M2, e1, e2, e3⟩ := uo_26 hM J (xs (i + 1)) (xs (i + 2))
  refine lv_aload_n hx hb dL_law_1153 rfl a1 ?_
  refine lw_push F hX hbl hbA hS a0 a4 (k := 1) (by omega) (by decide) hLs rfl dL_law_1154 dL_law_1155 dL_law_1157 dL_law_1158 dL_law_1159 ?_
  refine lw_push F hX hbl hbA hS a0 a4 (k := 2) (by omega) (by decide) hLs rfl dL_law_1160 dL_law_1161 dL_law_1163 dL_law_1164 dL_law_1165 ?_
  refine lw_callU F (K := 136) (o := 0) (as := [.int (xs (i + 1)), .int (xs (i + 2))]) (by decide +kernel) (pt_5 _ (List.mem_of_getElem? (i := 120) rfl)) (pt_5 _ (List.mem_of_getElem? (i := 121) rfl)) (pt_5 _ (List.mem_of_getElem? (i := 119) rfl)) e1 rfl (c1 := sLay[0]) rfl rfl (by decide) hH hlo hl (Nat.le_of_ble_eq_true rfl) dL_law_1166 hrc hrs fun H1 locs1 h1 l1 => ?_
  have hS1 := ph_S hH0 h1 (Nat.zero_le _) l1
  refine lv_pop hx hb dL_law_1169 rfl ?_
  refine lv_aload_n hx hb dL_law_1170 rfl a2 ?_
  refine lw_push F hX hbl hbA hS1 a0 a4 (k := 1) (by omega) (by decide) hLs rfl dL_law_1171 dL_law_1172 dL_law_1174 dL_law_1175 dL_law_1176 ?_
  refine lw_push F hX hbl hbA hS1 a0 a4 (k := 2) (by omega) (by decide) hLs rfl dL_law_1177 dL_law_1178 dL_law_1180 dL_law_1181 dL_law_1182 ?_
  refine lw_callU F (K := 264) (o := 91) (as := [.int (xs (i + 1)), .int (xs (i + 2))]) (by decide +kernel) (pt_9 _ (List.mem_of_getElem? (i := 5) rfl)) (pt_9 _ (List.mem_of_getElem? (i := 6) rfl)) (pt_9 _ (List.mem_of_getElem? (i := 4) rfl)) e2 rfl (c1 := sLay[91]) rfl rfl (by decide) h1 l1 hl (Nat.le_of_ble_eq_true rfl) dL_law_1183 hrc hrs fun H2 locs2 h2 l2 => ?_
  refine lv_pop hx hb dL_law_1186 rfl ?_
  exact lv_goto hx hb dL_law_1187 (tgt := 1564) rfl (kk _ _ _ e3 h2 l2)
set_option maxRecDepth 100000 in
set_option maxHeartbeats 4000000 in
theorem lc_27 (F : lw_Fx G cL_law p R s m args c) (hX : va_X b Ls xs s s.heap) (hbl : b < s.heap.size) (hbA : ¬ pA G b) (hH0 : pH G [] s.heap) {M : sM} {J : pHp} {i : Nat} (hM : uG M) (hH : pH G (sHp sLay M ++ J) H) (hlo : ∀ q ∈ locs, pB G ≤ q.base) (hl : lv_has ls 7 (lw_lvi G b i)) (hi : i + 6 ≤ Ls) (hLs : Ls ≤ 3072) (hrc : cells ≤ R.cells) (hrs : slots ≤ R.slots)
    (kk : ∀ H1 locs1 M1, uG M1 → pH G (sHp sLay M1 ++ J) H1 → (∀ q ∈ locs1, pB G ≤ q.base) → W p l e R s m args below meth c H1 locs1 cells slots Q (F0 m 1564 ls [])) : W p l e R s m args below meth c H locs cells slots Q (F0 m 1190 ls []) := by
  obtain ⟨hx, hb, -⟩ := id F
  have a0 := lv_at hl 4 rfl
  have a1 := lv_at hl 3 rfl
  have a2 := lv_at hl 2 rfl
  have a4 := lv_at hl 0 rfl
  have hS := ph_S hH0 hH (Nat.zero_le _) hlo
  obtain ⟨v1, M1, v2, M2, e1, e2, e3⟩ := uo_27 hM J (xs (i + 1))
  refine lv_aload_n hx hb dL_law_1190 rfl a1 ?_
  refine lw_push F hX hbl hbA hS a0 a4 (k := 1) (by omega) (by decide) hLs rfl dL_law_1191 dL_law_1192 dL_law_1194 dL_law_1195 dL_law_1196 ?_
  refine lw_callU F (K := 137) (o := 0) (as := [.int (xs (i + 1))]) (by decide +kernel) (pt_5 _ (List.mem_of_getElem? (i := 125) rfl)) (pt_5 _ (List.mem_of_getElem? (i := 126) rfl)) (pt_5 _ (List.mem_of_getElem? (i := 124) rfl)) e1 rfl (c1 := sLay[0]) rfl rfl (by decide) hH hlo hl (Nat.le_of_ble_eq_true rfl) dL_law_1197 hrc hrs fun H1 locs1 h1 l1 => ?_
  have hS1 := ph_S hH0 h1 (Nat.zero_le _) l1
  refine lv_pop hx hb dL_law_1200 rfl ?_
  refine lv_aload_n hx hb dL_law_1201 rfl a2 ?_
  refine lw_push F hX hbl hbA hS1 a0 a4 (k := 1) (by omega) (by decide) hLs rfl dL_law_1202 dL_law_1203 dL_law_1205 dL_law_1206 dL_law_1207 ?_
  refine lw_callU F (K := 252) (o := 91) (as := [.int (xs (i + 1))]) (by decide +kernel) (pt_8 _ (List.mem_of_getElem? (i := 196) rfl)) (pt_8 _ (List.mem_of_getElem? (i := 197) rfl)) (pt_8 _ (List.mem_of_getElem? (i := 195) rfl)) e2 rfl (c1 := sLay[91]) rfl rfl (by decide) h1 l1 hl (Nat.le_of_ble_eq_true rfl) dL_law_1208 hrc hrs fun H2 locs2 h2 l2 => ?_
  refine lv_pop hx hb dL_law_1211 rfl ?_
  exact lv_goto hx hb dL_law_1212 (tgt := 1564) rfl (kk _ _ _ e3 h2 l2)
set_option maxRecDepth 100000 in
set_option maxHeartbeats 4000000 in
theorem lc_28 (F : lw_Fx G cL_law p R s m args c) (hX : va_X b Ls xs s s.heap) (hbl : b < s.heap.size) (hbA : ¬ pA G b) (hH0 : pH G [] s.heap) {M : sM} {J : pHp} {i : Nat} (hM : uG M) (hH : pH G (sHp sLay M ++ J) H) (hlo : ∀ q ∈ locs, pB G ≤ q.base) (hl : lv_has ls 7 (lw_lvi G b i)) (hi : i + 6 ≤ Ls) (hLs : Ls ≤ 3072) (hrc : cells ≤ R.cells) (hrs : slots ≤ R.slots)
    (kk : ∀ H1 locs1 M1, uG M1 → pH G (sHp sLay M1 ++ J) H1 → (∀ q ∈ locs1, pB G ≤ q.base) → W p l e R s m args below meth c H1 locs1 cells slots Q (F0 m 1564 ls [])) : W p l e R s m args below meth c H locs cells slots Q (F0 m 1215 ls []) := by
  obtain ⟨hx, hb, -⟩ := id F
  have a0 := lv_at hl 4 rfl
  have a1 := lv_at hl 3 rfl
  have a2 := lv_at hl 2 rfl
  have a4 := lv_at hl 0 rfl
  have hS := ph_S hH0 hH (Nat.zero_le _) hlo
  obtain ⟨v1, M1, v2, M2, e1, e2, e3⟩ := uo_28 hM J (xs (i + 1))
  refine lv_aload_n hx hb dL_law_1215 rfl a1 ?_
  refine lw_push F hX hbl hbA hS a0 a4 (k := 1) (by omega) (by decide) hLs rfl dL_law_1216 dL_law_1217 dL_law_1219 dL_law_1220 dL_law_1221 ?_
  refine lw_callU F (K := 140) (o := 0) (as := [.int (xs (i + 1))]) (by decide +kernel) (pt_5 _ (List.mem_of_getElem? (i := 137) rfl)) (pt_5 _ (List.mem_of_getElem? (i := 138) rfl)) (pt_5 _ (List.mem_of_getElem? (i := 136) rfl)) e1 rfl (c1 := sLay[0]) rfl rfl (by decide) hH hlo hl (Nat.le_of_ble_eq_true rfl) dL_law_1222 hrc hrs fun H1 locs1 h1 l1 => ?_
  have hS1 := ph_S hH0 h1 (Nat.zero_le _) l1
  refine lv_pop hx hb dL_law_1225 rfl ?_
  refine lv_aload_n hx hb dL_law_1226 rfl a2 ?_
  refine lw_push F hX hbl hbA hS1 a0 a4 (k := 1) (by omega) (by decide) hLs rfl dL_law_1227 dL_law_1228 dL_law_1230 dL_law_1231 dL_law_1232 ?_
  refine lw_callU F (K := 265) (o := 91) (as := [.int (xs (i + 1))]) (by decide +kernel) (pt_9 _ (List.mem_of_getElem? (i := 9) rfl)) (pt_9 _ (List.mem_of_getElem? (i := 10) rfl)) (pt_9 _ (List.mem_of_getElem? (i := 8) rfl)) e2 rfl (c1 := sLay[91]) rfl rfl (by decide) h1 l1 hl (Nat.le_of_ble_eq_true rfl) dL_law_1233 hrc hrs fun H2 locs2 h2 l2 => ?_
  refine lv_pop hx hb dL_law_1236 rfl ?_
  exact lv_goto hx hb dL_law_1237 (tgt := 1564) rfl (kk _ _ _ e3 h2 l2)
end LWX
