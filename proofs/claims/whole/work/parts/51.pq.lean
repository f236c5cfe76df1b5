/-- five addresses in a row -/
def pqO (a b' c d e : Nat) : Nat → Nat := fun j => if j = 0 then a else if j = 1 then b' else if j = 2 then c else if j = 3 then d else e
theorem eS_00 : eS 0 = 0 := eS_t (t := 0) (by decide)
theorem z_tw : (fun j => eS (4 * zN j)) = zN := by funext j; show eS 0 = 0; exact eS_00
theorem z_st : (fun j => eS (zN j)) = zN := by funext j; show eS 0 = 0; exact eS_00
theorem z_px {G : gT} {a b' c d e : Nat} : pX G (pqO a b' c d e) zN zN = [(a, .inr (4, [.ref (gAd G 0), .int (nI 0)])), (b', .inr (4, [.ref (gAd G 0), .int (nI 0)])), (c, .inr (4, [.ref (gAd G 0), .int (nI 0)])), (d, .inr (4, [.ref (gAd G 0), .int (nI 0)])), (e, .inr (4, [.ref (gAd G 0), .int (nI 0)]))] := by
  unfold pX
  rw [z_st]
  rfl
