section AT3
theorem ai_ap3 {P : ai_cert → Prop} {a b : List ai_cert} (h1 : ∀ q ∈ a, P q) (h2 : ∀ q ∈ b, P q) : ∀ q ∈ a ++ b, P q := fun q hq => (List.mem_append.mp hq).elim (h1 q) (h2 q)
theorem at_ok : ∀ mi q, q ∈ at_tab mi → ai_ck ag_G at_tab mi q = true := ai_tr (ai_tr (ai_tr (ai_lf (k := 16) (l := tm_16) (ai_all_ok tk_16_0)) (ai_lf (k := 17) (l := tm_17) (ai_all_ok tk_17_0))) (ai_tr (ai_lf (k := 23) (l := tm_23) (ai_all_ok tk_23_0)) (ai_tr (ai_lf (k := 104) (l := tm_104) (ai_all_ok tk_104_0)) (ai_lf (k := 125) (l := tm_125) (ai_all_ok tk_125_0))))) (ai_tr (ai_tr (ai_lf (k := 140) (l := tm_140) (ai_all_ok tk_140_0)) (ai_tr (ai_lf (k := 171) (l := tm_171) (ai_all_ok tk_171_0)) (ai_lf (k := 172) (l := tm_172) (ai_all_ok tk_172_0)))) (ai_tr (ai_lf (k := 210) (l := tm_210) (ai_all_ok tk_210_0)) (ai_tr (ai_lf (k := 253) (l := tm_253) (ai_all_ok tk_253_0)) (ai_lf (k := 254) (l := tm_254) (ai_all_ok tk_254_0)))))
/-- THE CLASS IS SAFE: its contracts hold of all its calls -/
theorem at_all (d mi : Nat) (q : ai_cert) (hq : q ∈ at_tab mi) (hd : q.1 < d) : ai_cok ag_G (en_u d) mi q.2.1 := ai_tab_ok at_ok d mi q hq hd
end AT3
