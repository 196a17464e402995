theorem zc_n : ∀ c ∈ ([] : List qCt), qCok c := fun _ h => nomatch h
theorem zc_c {c : qCt} {l : List qCt} (h : qCok c) (t : ∀ c ∈ l, qCok c) : ∀ d ∈ c :: l, qCok d := fun d hd => (List.mem_cons.mp hd).elim (fun e => e ▸ h) (t d)
