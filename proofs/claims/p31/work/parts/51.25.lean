/-! CONTRACTS (by program, wip/p2). -/
noncomputable def kg_r538 : List (qCt × qCe) := [(kc_r538, ke_r538), (kc_r680, ke_r680), (kc_r695, ke_r695), (kc_r698, ke_r698), (kc_r699, ke_r699), (kc_r701, ke_r701), (kc_r702, ke_r702), (kc_r703, ke_r703), (kc_r704, ke_r704), (kc_r705, ke_r705), (kc_r706, ke_r706), (kc_r707, ke_r707)]
theorem kga_r538 : [kc_r681, kc_r682, kc_r523, kc_r524, kc_r692, kc_r694, kc_r691, kc_r690, kc_r696, kc_r683, kc_r697, kc_r689, kc_r700, kc_r688, kc_r544, kc_r687, kc_r685, kc_r686, kc_r684, kc_r708, kc_r511, kc_r520, kc_r709, kc_r515, kc_r710, kc_r711, kc_r712] ++ kg_r538.map (fun q => q.1) = ka_r538 := rfl
theorem kr_r538 : ∀ q ∈ kg_r538, qCok q.1 := qchk_rec (cs := [kc_r681, kc_r682, kc_r523, kc_r524, kc_r692, kc_r694, kc_r691, kc_r690, kc_r696, kc_r683, kc_r697, kc_r689, kc_r700, kc_r688, kc_r544, kc_r687, kc_r685, kc_r686, kc_r684, kc_r708, kc_r511, kc_r520, kc_r709, kc_r515, kc_r710, kc_r711, kc_r712]) (zc_c ko_r681 (zc_c ko_r682 (zc_c ko_r523 (zc_c ko_r524 (zc_c ko_r692 (zc_c ko_r694 (zc_c ko_r691 (zc_c ko_r690 (zc_c ko_r696 (zc_c ko_r683 (zc_c ko_r697 (zc_c ko_r689 (zc_c ko_r700 (zc_c ko_r688 (zc_c ko_r544 (zc_c ko_r687 (zc_c ko_r685 (zc_c ko_r686 (zc_c ko_r684 (zc_c ko_r708 (zc_c ko_r511 (zc_c ko_r520 (zc_c ko_r709 (zc_c ko_r515 (zc_c ko_r710 (zc_c ko_r711 (zc_c ko_r712 zc_n))))))))))))))))))))))))))) (zh_c (kga_r538 ▸ kh_r538) (zh_c (kga_r538 ▸ kh_r680) (zh_c (kga_r538 ▸ kh_r695) (zh_c (kga_r538 ▸ kh_r698) (zh_c (kga_r538 ▸ kh_r699) (zh_c (kga_r538 ▸ kh_r701) (zh_c (kga_r538 ▸ kh_r702) (zh_c (kga_r538 ▸ kh_r703) (zh_c (kga_r538 ▸ kh_r704) (zh_c (kga_r538 ▸ kh_r705) (zh_c (kga_r538 ▸ kh_r706) (zh_c (kga_r538 ▸ kh_r707) (fun _ h => nomatch h)))))))))))))
theorem ko_r538 : qCok kc_r538 := kr_r538 (kc_r538, ke_r538) (List.mem_of_getElem? (i := 0) rfl)
theorem ko_r680 : qCok kc_r680 := kr_r538 (kc_r680, ke_r680) (List.mem_of_getElem? (i := 1) rfl)
theorem ko_r695 : qCok kc_r695 := kr_r538 (kc_r695, ke_r695) (List.mem_of_getElem? (i := 2) rfl)
theorem ko_r698 : qCok kc_r698 := kr_r538 (kc_r698, ke_r698) (List.mem_of_getElem? (i := 3) rfl)
theorem ko_r699 : qCok kc_r699 := kr_r538 (kc_r699, ke_r699) (List.mem_of_getElem? (i := 4) rfl)
theorem ko_r701 : qCok kc_r701 := kr_r538 (kc_r701, ke_r701) (List.mem_of_getElem? (i := 5) rfl)
theorem ko_r702 : qCok kc_r702 := kr_r538 (kc_r702, ke_r702) (List.mem_of_getElem? (i := 6) rfl)
theorem ko_r703 : qCok kc_r703 := kr_r538 (kc_r703, ke_r703) (List.mem_of_getElem? (i := 7) rfl)
theorem ko_r704 : qCok kc_r704 := kr_r538 (kc_r704, ke_r704) (List.mem_of_getElem? (i := 8) rfl)
theorem ko_r705 : qCok kc_r705 := kr_r538 (kc_r705, ke_r705) (List.mem_of_getElem? (i := 9) rfl)
theorem ko_r706 : qCok kc_r706 := kr_r538 (kc_r706, ke_r706) (List.mem_of_getElem? (i := 10) rfl)
theorem ko_r707 : qCok kc_r707 := kr_r538 (kc_r707, ke_r707) (List.mem_of_getElem? (i := 11) rfl)
