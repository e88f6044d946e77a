section AR0
/-! ### the heap of the reference: the one of both -/
noncomputable def ah_G : ai_G := ag_G
end AR0
