/-! CONTRACTS (by program, wip/p2). -/
def kg_r0 : List (qCt × qCe) := [(kc_r0, ke_r0), (kc_r1, ke_r1), (kc_r520, ke_r520), (kc_r523, ke_r523), (kc_r524, ke_r524), (kc_r526, ke_r526), (kc_r527, ke_r527), (kc_r528, ke_r528), (kc_r529, ke_r529), (kc_r530, ke_r530), (kc_r531, ke_r531), (kc_r532, ke_r532)]
theorem kga_r0 : [kc_r2, kc_r4, kc_r504, kc_r505, kc_r516, kc_r519, kc_r515, kc_r514, kc_r521, kc_r506, kc_r522, kc_r513, kc_r525, kc_r511, kc_r512, kc_r510, kc_r508, kc_r509, kc_r507, kc_r533, kc_r503, kc_r3, kc_r534, kc_r535, kc_r536, kc_r537, kc_r538] ++ kg_r0.map (fun q => q.1) = ka_r0 := rfl
theorem kr_r0 : ∀ q ∈ kg_r0, qCok q.1 := qchk_rec (cs := [kc_r2, kc_r4, kc_r504, kc_r505, kc_r516, kc_r519, kc_r515, kc_r514, kc_r521, kc_r506, kc_r522, kc_r513, kc_r525, kc_r511, kc_r512, kc_r510, kc_r508, kc_r509, kc_r507, kc_r533, kc_r503, kc_r3, kc_r534, kc_r535, kc_r536, kc_r537, kc_r538]) (zc_c ko_r2 (zc_c ko_r4 (zc_c ko_r504 (zc_c ko_r505 (zc_c ko_r516 (zc_c ko_r519 (zc_c ko_r515 (zc_c ko_r514 (zc_c ko_r521 (zc_c ko_r506 (zc_c ko_r522 (zc_c ko_r513 (zc_c ko_r525 (zc_c ko_r511 (zc_c ko_r512 (zc_c ko_r510 (zc_c ko_r508 (zc_c ko_r509 (zc_c ko_r507 (zc_c ko_r533 (zc_c ko_r503 (zc_c ko_r3 (zc_c ko_r534 (zc_c ko_r535 (zc_c ko_r536 (zc_c ko_r537 (zc_c ko_r538 zc_n))))))))))))))))))))))))))) (zh_c (kga_r0 ▸ kh_r0) (zh_c (kga_r0 ▸ kh_r1) (zh_c (kga_r0 ▸ kh_r520) (zh_c (kga_r0 ▸ kh_r523) (zh_c (kga_r0 ▸ kh_r524) (zh_c (kga_r0 ▸ kh_r526) (zh_c (kga_r0 ▸ kh_r527) (zh_c (kga_r0 ▸ kh_r528) (zh_c (kga_r0 ▸ kh_r529) (zh_c (kga_r0 ▸ kh_r530) (zh_c (kga_r0 ▸ kh_r531) (zh_c (kga_r0 ▸ kh_r532) (fun _ h => nomatch h)))))))))))))
theorem ko_r0 : qCok kc_r0 := kr_r0 (kc_r0, ke_r0) (List.mem_of_getElem? (i := 0) rfl)
theorem ko_r1 : qCok kc_r1 := kr_r0 (kc_r1, ke_r1) (List.mem_of_getElem? (i := 1) rfl)
theorem ko_r520 : qCok kc_r520 := kr_r0 (kc_r520, ke_r520) (List.mem_of_getElem? (i := 2) rfl)
theorem ko_r523 : qCok kc_r523 := kr_r0 (kc_r523, ke_r523) (List.mem_of_getElem? (i := 3) rfl)
theorem ko_r524 : qCok kc_r524 := kr_r0 (kc_r524, ke_r524) (List.mem_of_getElem? (i := 4) rfl)
theorem ko_r526 : qCok kc_r526 := kr_r0 (kc_r526, ke_r526) (List.mem_of_getElem? (i := 5) rfl)
theorem ko_r527 : qCok kc_r527 := kr_r0 (kc_r527, ke_r527) (List.mem_of_getElem? (i := 6) rfl)
theorem ko_r528 : qCok kc_r528 := kr_r0 (kc_r528, ke_r528) (List.mem_of_getElem? (i := 7) rfl)
theorem ko_r529 : qCok kc_r529 := kr_r0 (kc_r529, ke_r529) (List.mem_of_getElem? (i := 8) rfl)
theorem ko_r530 : qCok kc_r530 := kr_r0 (kc_r530, ke_r530) (List.mem_of_getElem? (i := 9) rfl)
theorem ko_r531 : qCok kc_r531 := kr_r0 (kc_r531, ke_r531) (List.mem_of_getElem? (i := 10) rfl)
theorem ko_r532 : qCok kc_r532 := kr_r0 (kc_r532, ke_r532) (List.mem_of_getElem? (i := 11) rfl)
