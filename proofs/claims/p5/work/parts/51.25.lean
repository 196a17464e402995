/-! CONTRACTS (by program, wip/p2). -/
noncomputable def kg_r543 : List (qCt × qCe) := [(kc_r543, ke_r543), (kc_r701, ke_r701), (kc_r718, ke_r718), (kc_r723, ke_r723), (kc_r724, ke_r724), (kc_r726, ke_r726), (kc_r728, ke_r728), (kc_r729, ke_r729), (kc_r730, ke_r730), (kc_r731, ke_r731), (kc_r732, ke_r732), (kc_r733, ke_r733)]
theorem kga_r543 : [kc_r702, kc_r703, kc_r523, kc_r524, kc_r713, kc_r714, kc_r717, kc_r712, kc_r711, kc_r719, kc_r720, kc_r704, kc_r721, kc_r722, kc_r710, kc_r725, kc_r727, kc_r709, kc_r549, kc_r708, kc_r706, kc_r707, kc_r705, kc_r734, kc_r511, kc_r520, kc_r735, kc_r515, kc_r736, kc_r737, kc_r738, kc_r739, kc_r740] ++ kg_r543.map (fun q => q.1) = ka_r543 := rfl
theorem kr_r543 : ∀ q ∈ kg_r543, qCok q.1 := qchk_rec (cs := [kc_r702, kc_r703, kc_r523, kc_r524, kc_r713, kc_r714, kc_r717, kc_r712, kc_r711, kc_r719, kc_r720, kc_r704, kc_r721, kc_r722, kc_r710, kc_r725, kc_r727, kc_r709, kc_r549, kc_r708, kc_r706, kc_r707, kc_r705, kc_r734, kc_r511, kc_r520, kc_r735, kc_r515, kc_r736, kc_r737, kc_r738, kc_r739, kc_r740]) (zc_c ko_r702 (zc_c ko_r703 (zc_c ko_r523 (zc_c ko_r524 (zc_c ko_r713 (zc_c ko_r714 (zc_c ko_r717 (zc_c ko_r712 (zc_c ko_r711 (zc_c ko_r719 (zc_c ko_r720 (zc_c ko_r704 (zc_c ko_r721 (zc_c ko_r722 (zc_c ko_r710 (zc_c ko_r725 (zc_c ko_r727 (zc_c ko_r709 (zc_c ko_r549 (zc_c ko_r708 (zc_c ko_r706 (zc_c ko_r707 (zc_c ko_r705 (zc_c ko_r734 (zc_c ko_r511 (zc_c ko_r520 (zc_c ko_r735 (zc_c ko_r515 (zc_c ko_r736 (zc_c ko_r737 (zc_c ko_r738 (zc_c ko_r739 (zc_c ko_r740 zc_n))))))))))))))))))))))))))))))))) (zh_c (kga_r543 ▸ kh_r543) (zh_c (kga_r543 ▸ kh_r701) (zh_c (kga_r543 ▸ kh_r718) (zh_c (kga_r543 ▸ kh_r723) (zh_c (kga_r543 ▸ kh_r724) (zh_c (kga_r543 ▸ kh_r726) (zh_c (kga_r543 ▸ kh_r728) (zh_c (kga_r543 ▸ kh_r729) (zh_c (kga_r543 ▸ kh_r730) (zh_c (kga_r543 ▸ kh_r731) (zh_c (kga_r543 ▸ kh_r732) (zh_c (kga_r543 ▸ kh_r733) (fun _ h => nomatch h)))))))))))))
theorem ko_r543 : qCok kc_r543 := kr_r543 (kc_r543, ke_r543) (List.mem_of_getElem? (i := 0) rfl)
theorem ko_r701 : qCok kc_r701 := kr_r543 (kc_r701, ke_r701) (List.mem_of_getElem? (i := 1) rfl)
theorem ko_r718 : qCok kc_r718 := kr_r543 (kc_r718, ke_r718) (List.mem_of_getElem? (i := 2) rfl)
theorem ko_r723 : qCok kc_r723 := kr_r543 (kc_r723, ke_r723) (List.mem_of_getElem? (i := 3) rfl)
theorem ko_r724 : qCok kc_r724 := kr_r543 (kc_r724, ke_r724) (List.mem_of_getElem? (i := 4) rfl)
theorem ko_r726 : qCok kc_r726 := kr_r543 (kc_r726, ke_r726) (List.mem_of_getElem? (i := 5) rfl)
theorem ko_r728 : qCok kc_r728 := kr_r543 (kc_r728, ke_r728) (List.mem_of_getElem? (i := 6) rfl)
theorem ko_r729 : qCok kc_r729 := kr_r543 (kc_r729, ke_r729) (List.mem_of_getElem? (i := 7) rfl)
theorem ko_r730 : qCok kc_r730 := kr_r543 (kc_r730, ke_r730) (List.mem_of_getElem? (i := 8) rfl)
theorem ko_r731 : qCok kc_r731 := kr_r543 (kc_r731, ke_r731) (List.mem_of_getElem? (i := 9) rfl)
theorem ko_r732 : qCok kc_r732 := kr_r543 (kc_r732, ke_r732) (List.mem_of_getElem? (i := 10) rfl)
theorem ko_r733 : qCok kc_r733 := kr_r543 (kc_r733, ke_r733) (List.mem_of_getElem? (i := 11) rfl)
