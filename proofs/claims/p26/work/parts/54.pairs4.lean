section ZE
variable {G : zG} {M : zM}
theorem zDid.cg {M N : zM} {σ τ τ' : zS} (h : zDid M σ τ N) (hI : zI τ) (he : ∀ j : Int, 0 ≤ j → j < 538 → τ' j = τ j) : zDid M σ τ' N := ⟨h.1.cg hI he, h.2⟩
end ZE
