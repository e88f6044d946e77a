section ENY
variable {p : Program} {l : Launch} {e : Env} {s : State} {m : MethodId} {below : List Frame} {meth : Method} {c : Code} {b L : Nat} {xs : Nat → Int32} {ex : Nat → Nat} {cA : Nat → ClassId} {D : va_G}
theorem en_law_5 (C0 : en_LC p s m meth c b ex cA D 7 xs) : en_LT p l e s m below meth c b ex cA D (40, en_ls0, [.inl 5], en_t0, 413, 31071) := by
  sorry
theorem en_law_6 (C0 : en_LC p s m meth c b ex cA D 7 xs) : en_LT p l e s m below meth c b ex cA D (40, en_ls0, [.inl 6], en_t0, 413, 31071) := by
  sorry
theorem en_law_21 (C0 : en_LC p s m meth c b ex cA D 7 xs) : en_LT p l e s m below meth c b ex cA D (40, en_ls0, [.inl 21], en_t0, 413, 31071) := by
  sorry
end ENY
