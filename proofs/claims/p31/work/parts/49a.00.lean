theorem zc_n : ∀ c ∈ ([] : List qCt), qCok c := fun _ h => nomatch h
theorem zc_c {c : qCt} {l : List qCt} (h : qCok c) (t : ∀ c ∈ l, qCok c) : ∀ d ∈ c :: l, qCok d := fun d hd => (List.mem_cons.mp hd).elim (fun e => e ▸ h) (t d)
theorem zh_c {cs : List qCt} {q : qCt × qCe} {l : List (qCt × qCe)} (h : qChk cs q.1 q.2 = true) (t : ∀ p ∈ l, qChk cs p.1 p.2 = true) : ∀ p ∈ q :: l, qChk cs p.1 p.2 = true := fun p hp => (List.mem_cons.mp hp).elim (fun e => e ▸ h) (t p)
