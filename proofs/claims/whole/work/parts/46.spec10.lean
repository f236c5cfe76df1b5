/-! the digest: what is told of all, folded -/
def mx (h v : Int64) : Int64 := lN 31 * h + v
def vN (n : Nat) : Int64 := (nI n).toInt64
def dgW (f : Nat → Nat) : Nat → Int64 → Int64
  | 0, h => h
  | k + 1, h => mx (dgW f k h) (vN (f k))
def abI (ks sx pr py : Nat → Nat) (p w : Nat) : Nat := aboutV ks sx pr py p (if w < 6 then w else w + 4)
def dgP (tk gv pr py ks sx : Nat → Nat) (p : Nat) (h : Int64) : Int64 := mx (mx (dgW (abI ks sx pr py p) 10 h) (vN (deadN (ks p) tk (sx p) 4))) (vN (opL (mB (ks p) tk gv pr py (sx p))).length)
def dgPP (tk gv pr py ks sx : Nat → Nat) : Nat → Int64 → Int64
  | 0, h => h
  | p + 1, h => dgP tk gv pr py ks sx p (dgPP tk gv pr py ks sx p h)
def dgT (tk gv pr py : Nat → Nat) (pe : Nat) (sx : Nat → Nat) : Nat → Int64 → Int64
  | 0, h => h
  | t + 1, h => dgW (townV tk gv pr py pe sx t) 5 (dgT tk gv pr py pe sx t h)
def dz1 (lr : Nat) (tk gv pr py : Nat → Nat) (pe : Nat) (sx : Nat → Nat) : Int64 := if lr = 0 then lN 677 else dgT tk gv pr py pe sx 4 (lN 677)
def dgR (tg : Nat) (w : Nat → Nat) (h : Int64) : Int64 := if tg = 0 then h else mx (mx h (vN (tot w 64))) (vN (twB w 64))
abbrev dz2 (lr : Nat) (tk gv pr py : Nat → Nat) (pe : Nat) (ks sx : Nat → Nat) : Int64 := dgPP tk gv pr py ks sx pe (dz1 lr tk gv pr py pe sx)
abbrev dz3 (lr : Nat) (tk gv pr py : Nat → Nat) (pe : Nat) (ks sx : Nat → Nat) (tg : Nat) (w : Nat → Nat) : Int64 := dgR tg w (dz2 lr tk gv pr py pe ks sx)
abbrev dz4 (lr : Nat) (tk gv pr py : Nat → Nat) (pe : Nat) (ks sx : Nat → Nat) (tg : Nat) (w : Nat → Nat) (pg : Nat → Nat) (pl : Nat) : Int64 := dgW pg pl (dz3 lr tk gv pr py pe ks sx tg w)
def A_digest (lr : Nat) (tk gv pr py : Nat → Nat) (pe : Nat) (ks sx : Nat → Nat) (tg : Nat) (w : Nat → Nat) (pg : Nat → Nat) (pl ac tm sd : Nat) : Int64 := dgW (countV pe sx ac tm pl lr sd) 8 (dz4 lr tk gv pr py pe ks sx tg w pg pl)
theorem dgW_s (f : Nat → Nat) (k : Nat) (h : Int64) : mx (dgW f k h) (vN (f k)) = dgW f (k + 1) h := rfl
theorem isP_nI {pe t : Nat} (h5 : pe ≤ 5) (ht : t < pe) : isP pe (nI t) := ⟨by rw [← nI_0]; exact nI_le (Nat.zero_le t) (by omega), (nI_ltI (by omega) (by omega)).mpr ht⟩
theorem ab_v {pe : Nat} {ks sx pr py : Nat → Nat} {t w : Nat} (h5 : pe ≤ 5) (ht : t < pe) (hw : w < 6) : A_about pe ks sx pr py (nI t) (nI w) = nI (aboutV ks sx pr py t w) := by
  unfold A_about
  rw [if_pos (isP_nI h5 ht), if_pos (inR_nI (by omega) (by omega) (by omega)), tN_nI (by omega), tN_nI (by omega)]
theorem inR_n9 {w : Nat} (h1 : 6 ≤ w) (h2 : w < 14) : ¬ inR (nI 0) (nI w) (nI 5) := fun z => by
  have := (inR_iff (lo := 0) (hi := 5) (show w < 2 ^ 31 by omega) (by decide) (by decide)).mp z
  omega
theorem ab_v2 {pe : Nat} {ks sx pr py : Nat → Nat} {t w : Nat} (h5 : pe ≤ 5) (ht : t < pe) (h1 : 10 ≤ w) (h2 : w < 14) : A_about pe ks sx pr py (nI t) (nI w) = nI (aboutV ks sx pr py t w) := by
  unfold A_about
  rw [if_pos (isP_nI h5 ht), if_neg (inR_n9 (by omega) h2), if_pos (inR_nI (lo := 10) (hi := 13) (by omega) (by omega) (by omega)), tN_nI (by omega), tN_nI (by omega)]
theorem ab_1 {ks sx pr py : Nat → Nat} {p w : Nat} (h : w < 6) : aboutV ks sx pr py p w = abI ks sx pr py p w := by unfold abI; rw [if_pos h]
theorem ab_2 {ks sx pr py : Nat → Nat} {p w : Nat} (h : 10 ≤ w) : aboutV ks sx pr py p w = abI ks sx pr py p (w - 4) := by
  unfold abI; rw [if_neg (by omega), Nat.sub_add_cancel (by omega)]
theorem ab_3 {ks sx pr py : Nat → Nat} {p w : Nat} (h : 6 ≤ w) : aboutV ks sx pr py p (w + 4) = abI ks sx pr py p w := by
  unfold abI; rw [if_neg (by omega)]
theorem dead_v {pe : Nat} {tk ks sx : Nat → Nat} {t : Nat} (h5 : pe ≤ 5) (ht : t < pe) : A_dead pe tk ks sx (nI t) = nI (deadN (ks t) tk (sx t) 4) := by
  unfold A_dead
  rw [if_pos (isP_nI h5 ht), tN_nI (by omega)]
theorem town_v {lr pe : Nat} {tk gv pr py sx : Nat → Nat} {t w : Nat} (hlr : ¬ lr = 0) (ht : t < 4) (hw : w < 5) : A_town lr tk gv pr py pe sx (nI t) (nI w) = nI (townV tk gv pr py pe sx t w) := by
  unfold A_town
  rw [if_pos (inR_nI (by omega) (by omega) (by omega)), if_pos (inR_nI (by omega) (by omega) (by omega)), if_neg hlr, tN_nI (by omega), tN_nI (by omega)]
theorem count_v {pe : Nat} {sx : Nat → Nat} {ac tm pg lr sd w : Nat} (hw : w < 8) : A_count pe sx ac tm pg lr sd (nI w) = nI (countV pe sx ac tm pg lr sd w) := by
  unfold A_count
  rw [if_pos (inR_nI (by omega) (by omega) (by omega)), tN_nI (by omega)]
theorem ways_v {tg : Nat} {w : Nat → Nat} (h : ¬ tg = 0) : A_ways tg w = nI (tot w 64) := if_neg h
theorem ends_v {tg : Nat} {w : Nat → Nat} (h : ¬ tg = 0) : A_ends tg w = nI (twB w 64) := if_neg h
theorem dgR_y {tg : Nat} {w : Nat → Nat} {h : Int64} (hg : ¬ tg = 0) : mx (mx h (vN (tot w 64))) (vN (twB w 64)) = dgR tg w h := (if_neg hg).symm
theorem dgR_n {tg : Nat} {w : Nat → Nat} {h : Int64} (hg : tg = 0) : h = dgR tg w h := (if_pos hg).symm
theorem dz1_y {lr : Nat} {tk gv pr py : Nat → Nat} {pe : Nat} {sx : Nat → Nat} (h : lr = 0) : lN 677 = dz1 lr tk gv pr py pe sx := (if_pos h).symm
theorem dz1_n {lr : Nat} {tk gv pr py : Nat → Nat} {pe : Nat} {sx : Nat → Nat} (h : ¬ lr = 0) : dgT tk gv pr py pe sx 4 (lN 677) = dz1 lr tk gv pr py pe sx := (if_neg h).symm
