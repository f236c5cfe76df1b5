/-! the numbers: a standing is n < 40000: n % 4 its town, n / 4 % 625 its purse (figures of five), n / 2500 its goods -/
def dg (n c : Nat) : Nat := n / 4 % 625 / 5 ^ c % 5
abbrev gd (n g : Nat) : Prop := n / 2500 / 2 ^ g % 2 = 1
def eP (t g a b c d : Nat) : Nat := t + 4 * g + 64 * a + 512 * b + 4096 * c + 32768 * d
/-- how the system writes a standing: two bits, four bits, three bits a coin -/
def eS (n : Nat) : Nat := eP (n % 4) (n / 2500) (dg n 0) (dg n 1) (dg n 2) (dg n 3)
theorem dg0 (n : Nat) : dg n 0 = n / 4 % 625 % 5 := by simp [dg]
theorem dg1 (n : Nat) : dg n 1 = n / 4 % 625 / 5 % 5 := by simp [dg]
theorem dg2 (n : Nat) : dg n 2 = n / 4 % 625 / 25 % 5 := by simp [dg]
theorem dg3 (n : Nat) : dg n 3 = n / 4 % 625 / 125 % 5 := by simp [dg]
theorem dg_lt (n c : Nat) : dg n c < 5 := Nat.mod_lt _ (by decide)
theorem four {P : Nat → Prop} (h0 : P 0) (h1 : P 1) (h2 : P 2) (h3 : P 3) {c : Nat} (h : c < 4) : P c := by
  match c, h with
  | 0, _ => exact h0
  | 1, _ => exact h1
  | 2, _ => exact h2
  | 3, _ => exact h3
theorem q_parts : ∀ q, q < 625 → q % 5 + 5 * (q / 5 % 5) + 25 * (q / 25 % 5) + 125 * (q / 125 % 5) = q := by decide +kernel
theorem n_parts (n : Nat) : n % 4 + 4 * (dg n 0 + 5 * dg n 1 + 25 * dg n 2 + 125 * dg n 3) + 2500 * (n / 2500) = n := by
  rw [dg0, dg1, dg2, dg3, q_parts (n / 4 % 625) (Nat.mod_lt _ (by decide))]
  omega
theorem q_of {a b c d q : Nat} (ha : a < 5) (hb : b < 5) (hc : c < 5) (hd : d < 5) (hq : q = a + 5 * b + 25 * c + 125 * d) : q < 625 ∧ q % 5 = a ∧ q / 5 % 5 = b ∧ q / 25 % 5 = c ∧ q / 125 % 5 = d := by
  refine ⟨by omega, by omega, ?_, ?_, ?_⟩
  · have : q / 5 = b + 5 * c + 25 * d := by omega
    omega
  · have : q / 25 = c + 5 * d := by omega
    omega
  · have : q / 125 = d := by omega
    omega
theorem n_of {t g a b c d : Nat} (ht : t < 4) (ha : a < 5) (hb : b < 5) (hc : c < 5) (hd : d < 5) {n : Nat} (hn : n = t + 4 * (a + 5 * b + 25 * c + 125 * d) + 2500 * g) : n % 4 = t ∧ n / 2500 = g ∧ dg n 0 = a ∧ dg n 1 = b ∧ dg n 2 = c ∧ dg n 3 = d := by
  obtain ⟨q, hq⟩ : ∃ q, q = a + 5 * b + 25 * c + 125 * d := ⟨_, rfl⟩
  obtain ⟨h0, h1, h2, h3, h4⟩ := q_of ha hb hc hd hq
  rw [← hq] at hn
  have e1 : n / 4 % 625 = q := by
    have : n / 4 = q + 625 * g := by omega
    omega
  rw [dg0, dg1, dg2, dg3, e1]
  exact ⟨by omega, by omega, h1, h2, h3, h4⟩
theorem eS_of {t g a b c d : Nat} (ht : t < 4) (ha : a < 5) (hb : b < 5) (hc : c < 5) (hd : d < 5) {n : Nat} (hn : n = t + 4 * (a + 5 * b + 25 * c + 125 * d) + 2500 * g) : eS n = eP t g a b c d := by
  obtain ⟨h1, h2, h3, h4, h5, h6⟩ := n_of ht ha hb hc hd hn
  rw [eS, h1, h2, h3, h4, h5, h6]
theorem eS_at (n : Nat) : ∃ t g a b c d : Nat, n % 4 = t ∧ n / 2500 = g ∧ dg n 0 = a ∧ dg n 1 = b ∧ dg n 2 = c ∧ dg n 3 = d ∧ t < 4 ∧ a < 5 ∧ b < 5 ∧ c < 5 ∧ d < 5 ∧ n = t + 4 * (a + 5 * b + 25 * c + 125 * d) + 2500 * g ∧ eS n = eP t g a b c d := ⟨_, _, _, _, _, _, rfl, rfl, rfl, rfl, rfl, rfl, Nat.mod_lt _ (by decide), dg_lt n 0, dg_lt n 1, dg_lt n 2, dg_lt n 3, (n_parts n).symm, rfl⟩
theorem eP_lt {t g a b c d : Nat} (ht : t < 4) (hg : g < 16) (ha : a < 5) (hb : b < 5) (hc : c < 5) (hd : d < 5) : eP t g a b c d < 262144 := by unfold eP; omega
theorem eP_t {t g a b c d : Nat} (ht : t < 4) : eP t g a b c d % 4 = t := by unfold eP; omega
theorem eP_g {t g a b c d : Nat} (ht : t < 4) (hg : g < 16) : eP t g a b c d / 4 % 16 = g := by unfold eP; omega
theorem eP_pl {t g a b c d : Nat} (ht : t < 4) (hg : g < 16) : eP t g a b c d % 64 = t + 4 * g := by unfold eP; omega
theorem eP_0 {t g a b c d : Nat} (ht : t < 4) (hg : g < 16) (ha : a < 5) : eP t g a b c d / 64 % 8 = a := by
  have : eP t g a b c d / 64 = a + 8 * (b + 8 * c + 64 * d) := by unfold eP; omega
  omega
theorem eP_1 {t g a b c d : Nat} (ht : t < 4) (hg : g < 16) (ha : a < 5) (hb : b < 5) : eP t g a b c d / 512 % 8 = b := by
  have : eP t g a b c d / 512 = b + 8 * (c + 8 * d) := by unfold eP; omega
  omega
theorem eP_2 {t g a b c d : Nat} (ht : t < 4) (hg : g < 16) (ha : a < 5) (hb : b < 5) (hc : c < 5) : eP t g a b c d / 4096 % 8 = c := by
  have : eP t g a b c d / 4096 = c + 8 * d := by unfold eP; omega
  omega
theorem eP_3 {t g a b c d : Nat} (ht : t < 4) (hg : g < 16) (ha : a < 5) (hb : b < 5) (hc : c < 5) (hd : d < 5) : eP t g a b c d / 32768 % 8 = d := by
  have : eP t g a b c d / 32768 = d := by unfold eP; omega
  omega
theorem eP_bit {t g a b c d : Nat} (ht : t < 4) (hg : g < 16) : eP t g a b c d / 4 % 16 = g := eP_g ht hg
theorem g_lt {n : Nat} (h : n < 40000) : n / 2500 < 16 := by omega
theorem eS_lt {n : Nat} (h : n < 40000) : eS n < 262144 := eP_lt (Nat.mod_lt _ (by decide)) (g_lt h) (dg_lt n 0) (dg_lt n 1) (dg_lt n 2) (dg_lt n 3)
theorem eS_town (n : Nat) : eS n % 4 = n % 4 := eP_t (Nat.mod_lt _ (by decide))
theorem eS_goods {n : Nat} (h : n < 40000) : eS n / 2 ^ 2 % 16 = n / 2500 := eP_g (Nat.mod_lt _ (by decide)) (g_lt h)
theorem eS_place {n : Nat} (h : n < 40000) : eS n % 64 = n % 4 + 4 * (n / 2500) := eP_pl (Nat.mod_lt _ (by decide)) (g_lt h)
theorem eS_coin {n c : Nat} (h : n < 40000) (hc : c < 4) : eS n / 2 ^ (6 + 3 * c) % 8 = dg n c :=
  four (P := fun c => eS n / 2 ^ (6 + 3 * c) % 8 = dg n c) (eP_0 (Nat.mod_lt _ (by decide)) (g_lt h) (dg_lt n 0)) (eP_1 (Nat.mod_lt _ (by decide)) (g_lt h) (dg_lt n 0) (dg_lt n 1)) (eP_2 (Nat.mod_lt _ (by decide)) (g_lt h) (dg_lt n 0) (dg_lt n 1) (dg_lt n 2)) (eP_3 (Nat.mod_lt _ (by decide)) (g_lt h) (dg_lt n 0) (dg_lt n 1) (dg_lt n 2) (dg_lt n 3)) hc
theorem bit_16 {x g k : Nat} (h : x / 4 % 16 = g) (hk : k < 4) : x / 2 ^ (2 + k) % 2 = g / 2 ^ k % 2 := by
  refine four (P := fun k => x / 2 ^ (2 + k) % 2 = g / 2 ^ k % 2) ?_ ?_ ?_ ?_ hk <;> (simp only [Nat.reduceAdd, Nat.reducePow]; omega)
theorem eS_good {n g : Nat} (h : n < 40000) (hg : g < 4) : eS n / 2 ^ (2 + g) % 2 = n / 2500 / 2 ^ g % 2 := bit_16 (eS_goods h) hg
theorem eS_inj {n k : Nat} (hn : n < 40000) (hk : k < 40000) (h : eS n = eS k) : n = k := by
  have e1 : n % 4 = k % 4 := by rw [← eS_town n, ← eS_town k, h]
  have e2 : n / 2500 = k / 2500 := by rw [← eS_goods hn, ← eS_goods hk, h]
  have e3 : ∀ c, c < 4 → dg n c = dg k c := fun c hc => by rw [← eS_coin hn hc, ← eS_coin hk hc, h]
  rw [← n_parts n, ← n_parts k, e1, e2, e3 0 (by decide), e3 1 (by decide), e3 2 (by decide), e3 3 (by decide)]
/-- more coins, or fewer -/
def wC (n c a b : Nat) : Nat := n + 4 * 5 ^ c * a - 4 * 5 ^ c * b
theorem wC_ok {n c a b : Nat} (hn : n < 40000) (hc : c < 4) (h1 : b ≤ dg n c + a) (h2 : dg n c + a ≤ b + 4) : wC n c a b < 40000 ∧ wC n c a b % 4 = n % 4 ∧ wC n c a b / 2500 = n / 2500 ∧ dg (wC n c a b) c = dg n c + a - b ∧ (∀ j, j < 4 → j ≠ c → dg (wC n c a b) j = dg n j) ∧ eS (wC n c a b) = eS n + a * 2 ^ (6 + 3 * c) - b * 2 ^ (6 + 3 * c) ∧ b * 2 ^ (6 + 3 * c) ≤ eS n + a * 2 ^ (6 + 3 * c) := by
  have a0 := dg_lt n 0
  have a1 := dg_lt n 1
  have a2 := dg_lt n 2
  have a3 := dg_lt n 3
  have p := n_parts n
  revert h1 h2
  refine four (P := fun c => b ≤ dg n c + a → dg n c + a ≤ b + 4 → wC n c a b < 40000 ∧ wC n c a b % 4 = n % 4 ∧ wC n c a b / 2500 = n / 2500 ∧ dg (wC n c a b) c = dg n c + a - b ∧ (∀ j, j < 4 → j ≠ c → dg (wC n c a b) j = dg n j) ∧ eS (wC n c a b) = eS n + a * 2 ^ (6 + 3 * c) - b * 2 ^ (6 + 3 * c) ∧ b * 2 ^ (6 + 3 * c) ≤ eS n + a * 2 ^ (6 + 3 * c)) ?_ ?_ ?_ ?_ hc
  · intro h1 h2
    have hw : wC n 0 a b = n % 4 + 4 * ((dg n 0 + a - b) + 5 * dg n 1 + 25 * dg n 2 + 125 * dg n 3) + 2500 * (n / 2500) := by unfold wC; omega
    obtain ⟨g1, g2, g3, g4, g5, g6⟩ := n_of (by omega) (by omega) a1 a2 a3 hw
    have g7 := eS_of (by omega) (by omega) a1 a2 a3 hw
    refine ⟨by omega, g1, g2, g3, fun j hj => ?_, ?_, ?_⟩
    · exact four (P := fun j => j ≠ 0 → dg (wC n 0 a b) j = dg n j) (fun z => absurd rfl z) (fun _ => g4) (fun _ => g5) (fun _ => g6) hj
    · rw [g7]; unfold eS eP; omega
    · unfold eS eP; omega
  · intro h1 h2
    have hw : wC n 1 a b = n % 4 + 4 * (dg n 0 + 5 * (dg n 1 + a - b) + 25 * dg n 2 + 125 * dg n 3) + 2500 * (n / 2500) := by unfold wC; omega
    obtain ⟨g1, g2, g3, g4, g5, g6⟩ := n_of (by omega) a0 (by omega) a2 a3 hw
    have g7 := eS_of (by omega) a0 (by omega) a2 a3 hw
    refine ⟨by omega, g1, g2, g4, fun j hj => ?_, ?_, ?_⟩
    · exact four (P := fun j => j ≠ 1 → dg (wC n 1 a b) j = dg n j) (fun _ => g3) (fun z => absurd rfl z) (fun _ => g5) (fun _ => g6) hj
    · rw [g7]; unfold eS eP; omega
    · unfold eS eP; omega
  · intro h1 h2
    have hw : wC n 2 a b = n % 4 + 4 * (dg n 0 + 5 * dg n 1 + 25 * (dg n 2 + a - b) + 125 * dg n 3) + 2500 * (n / 2500) := by unfold wC; omega
    obtain ⟨g1, g2, g3, g4, g5, g6⟩ := n_of (by omega) a0 a1 (by omega) a3 hw
    have g7 := eS_of (by omega) a0 a1 (by omega) a3 hw
    refine ⟨by omega, g1, g2, g5, fun j hj => ?_, ?_, ?_⟩
    · exact four (P := fun j => j ≠ 2 → dg (wC n 2 a b) j = dg n j) (fun _ => g3) (fun _ => g4) (fun z => absurd rfl z) (fun _ => g6) hj
    · rw [g7]; unfold eS eP; omega
    · unfold eS eP; omega
  · intro h1 h2
    have hw : wC n 3 a b = n % 4 + 4 * (dg n 0 + 5 * dg n 1 + 25 * dg n 2 + 125 * (dg n 3 + a - b)) + 2500 * (n / 2500) := by unfold wC; omega
    obtain ⟨g1, g2, g3, g4, g5, g6⟩ := n_of (by omega) a0 a1 a2 (by omega) hw
    have g7 := eS_of (by omega) a0 a1 a2 (by omega) hw
    refine ⟨by omega, g1, g2, g6, fun j hj => ?_, ?_, ?_⟩
    · exact four (P := fun j => j ≠ 3 → dg (wC n 3 a b) j = dg n j) (fun _ => g3) (fun _ => g4) (fun _ => g5) (fun z => absurd rfl z) hj
    · rw [g7]; unfold eS eP; omega
    · unfold eS eP; omega
theorem wC_raw {n c a b : Nat} (hn : n < 40000) (hc : c < 4) (h1 : b ≤ dg n c + a) (h2 : dg n c + a ≤ b + 4) : nI (eS n) + (nI a - nI b) * nI (1 * 2 ^ (6 + 3 * c)) = nI (eS (wC n c a b)) := by
  obtain ⟨-, -, -, -, -, g, g9⟩ := wC_ok hn hc h1 h2
  rw [Nat.one_mul, g, ← pk_sub g9, ← nI_add, ← pk_mul, ← pk_mul, Int32.sub_mul, Int32.sub_eq_add_neg, Int32.sub_eq_add_neg, ← Int32.add_assoc]
/-- another town -/
def wT (n t : Nat) : Nat := n - n % 4 + t
theorem wT_ok {n t : Nat} (hn : n < 40000) (ht : t < 4) : wT n t < 40000 ∧ wT n t % 4 = t ∧ wT n t / 2500 = n / 2500 ∧ (∀ j, j < 4 → dg (wT n t) j = dg n j) ∧ eS (wT n t) = eS n - eS n % 4 + t := by
  have a0 := dg_lt n 0
  have a1 := dg_lt n 1
  have a2 := dg_lt n 2
  have a3 := dg_lt n 3
  have p := n_parts n
  have hw : wT n t = t + 4 * (dg n 0 + 5 * dg n 1 + 25 * dg n 2 + 125 * dg n 3) + 2500 * (n / 2500) := by unfold wT; omega
  obtain ⟨g1, g2, g3, g4, g5, g6⟩ := n_of ht a0 a1 a2 a3 hw
  have g7 := eS_of ht a0 a1 a2 a3 hw
  refine ⟨by unfold wT; omega, g1, g2, fun j hj => four (P := fun j => dg (wT n t) j = dg n j) g3 g4 g5 g6 hj, ?_⟩
  rw [g7, eS_town]; unfold eS eP; omega
theorem and_mk (j : Nat) (hj : j < 31) (M : Int32) (hM : M.toBitVec.toNat = 2 ^ 32 - 2 ^ j) (hb : ∀ i, i < 32 → (2 ^ 32 - 2 ^ j : Nat).testBit i = decide (j ≤ i)) (x : Nat) (h : x < 2 ^ 31) : nI x &&& M = nI (x - x % 2 ^ j) := by
  have e : x - x % 2 ^ j = x / 2 ^ j * 2 ^ j := by
    have := Nat.div_add_mod x (2 ^ j)
    rw [Nat.mul_comm] at this
    omega
  rw [e]
  apply Int32.toBitVec_inj.mp
  apply BitVec.eq_of_toNat_eq
  have hle : x / 2 ^ j * 2 ^ j ≤ x := Nat.div_mul_le_self x (2 ^ j)
  have h1 : (nI x).toBitVec.toNat = x := pk_tn (by omega)
  have h2 : (nI (x / 2 ^ j * 2 ^ j)).toBitVec.toNat = x / 2 ^ j * 2 ^ j := pk_tn (by omega)
  rw [Int32.toBitVec_and, BitVec.toNat_and, h1, h2, hM]
  apply Nat.eq_of_testBit_eq
  intro i
  rw [Nat.testBit_and, Nat.testBit_mul_two_pow, Nat.testBit_div_two_pow]
  by_cases h32 : i < 32
  · rw [hb i h32]
    by_cases hi : j ≤ i
    · simp [hi]
    · simp [hi]
  · have t1 : x.testBit i = false := Nat.testBit_lt_two_pow (Nat.lt_of_lt_of_le h (Nat.pow_le_pow_right (by decide) (by omega)))
    by_cases hi : j ≤ i
    · simp [hi, t1]
    · simp [hi, t1]
theorem and_m4 (x : Nat) (h : x < 2 ^ 31) : nI x &&& (-4) = nI (x - x % 4) := and_mk 2 (by decide) (-4) (by decide) (by decide +kernel) x h
theorem or_low {x t : Nat} (ht : t < 4) : nI (x / 4 * 4) ||| nI t = nI (x / 4 * 4 + t) := by
  rw [ni_or]
  congr 1
  have h := Nat.two_pow_add_eq_or_of_lt (i := 2) (b := t) (by simpa using ht) (x / 4)
  have e : (2 : Nat) ^ 2 * (x / 4) = x / 4 * 4 := by omega
  rw [e] at h
  exact h.symm
theorem wT_raw {n t : Nat} (hn : n < 40000) (ht : t < 4) : (nI (eS n) &&& (-4)) ||| nI t = nI (eS (wT n t)) := by
  have hl := eS_lt hn
  obtain ⟨-, -, -, -, g⟩ := wT_ok hn ht
  have e : eS n - eS n % 4 = eS n / 4 * 4 := by omega
  rw [and_m4 _ (by omega), g, e, or_low ht]
/-- a good comes, or goes -/
def wG (n g : Nat) : Nat := if n / 2500 / 2 ^ g % 2 = 1 then n - 2500 * 2 ^ g else n + 2500 * 2 ^ g
theorem wG_ok {n g : Nat} (hn : n < 40000) (hg : g < 4) : wG n g < 40000 ∧ wG n g % 4 = n % 4 ∧ (∀ j, j < 4 → dg (wG n g) j = dg n j) ∧ wG n g / 2500 = (if n / 2500 / 2 ^ g % 2 = 1 then n / 2500 - 2 ^ g else n / 2500 + 2 ^ g) ∧ eS (wG n g) = (if n / 2500 / 2 ^ g % 2 = 1 then eS n - 4 * 2 ^ g else eS n + 4 * 2 ^ g) ∧ (n / 2500 / 2 ^ g % 2 = 1 → 2 ^ g ≤ n / 2500) := by
  have a0 := dg_lt n 0
  have a1 := dg_lt n 1
  have a2 := dg_lt n 2
  have a3 := dg_lt n 3
  have p := n_parts n
  have key : ∀ w : Nat, w ≤ n / 2500 + 8 → ∀ q : Nat, q = n % 4 + 4 * (dg n 0 + 5 * dg n 1 + 25 * dg n 2 + 125 * dg n 3) + 2500 * w → q % 4 = n % 4 ∧ (∀ j, j < 4 → dg q j = dg n j) ∧ q / 2500 = w ∧ eS q = eP (n % 4) w (dg n 0) (dg n 1) (dg n 2) (dg n 3) := by
    intro w _ q hq
    obtain ⟨g1, g2, g3, g4, g5, g6⟩ := n_of (by omega) a0 a1 a2 a3 hq
    exact ⟨g1, fun j hj => four (P := fun j => dg q j = dg n j) g3 g4 g5 g6 hj, g2, eS_of (by omega) a0 a1 a2 a3 hq⟩
  have hb : n / 2500 / 2 ^ g % 2 = 1 → 2 ^ g ≤ n / 2500 := by
    refine four (P := fun g => n / 2500 / 2 ^ g % 2 = 1 → 2 ^ g ≤ n / 2500) ?_ ?_ ?_ ?_ hg <;> (simp only [Nat.reducePow]; omega)
  have hb2 : ¬ n / 2500 / 2 ^ g % 2 = 1 → n / 2500 + 2 ^ g < 16 ∧ 2 ^ g ≤ 8 := by
    have : n / 2500 < 16 := by omega
    refine four (P := fun g => ¬ n / 2500 / 2 ^ g % 2 = 1 → n / 2500 + 2 ^ g < 16 ∧ 2 ^ g ≤ 8) ?_ ?_ ?_ ?_ hg <;> (simp only [Nat.reducePow]; omega)
  by_cases h : n / 2500 / 2 ^ g % 2 = 1
  · have h1 := hb h
    have hw : wG n g = n - 2500 * 2 ^ g := by unfold wG; rw [if_pos h]
    obtain ⟨g1, g2, g3, g4⟩ := key (n / 2500 - 2 ^ g) (by omega) (wG n g) (by omega)
    refine ⟨by omega, g1, g2, by rw [if_pos h]; exact g3, ?_, fun _ => h1⟩
    rw [if_pos h, g4]; unfold eS eP; omega
  · have h1 := hb2 h
    have hw : wG n g = n + 2500 * 2 ^ g := by unfold wG; rw [if_neg h]
    obtain ⟨g1, g2, g3, g4⟩ := key (n / 2500 + 2 ^ g) (by omega) (wG n g) (by omega)
    refine ⟨by omega, g1, g2, by rw [if_neg h]; exact g3, ?_, fun z => absurd z h⟩
    rw [if_neg h, g4]; unfold eS eP; omega
theorem xor_bit {x k : Nat} : x ^^^ 2 ^ k = if x / 2 ^ k % 2 = 1 then x - 2 ^ k else x + 2 ^ k := by
  have hx : x = 2 ^ (k + 1) * (x / 2 ^ (k + 1)) + (2 ^ k * (x / 2 ^ k % 2) + x % 2 ^ k) := by
    have h1 := Nat.div_add_mod x (2 ^ k)
    have h2 := Nat.div_add_mod (x / 2 ^ k) 2
    have h3 : x / 2 ^ k / 2 = x / 2 ^ (k + 1) := by rw [Nat.div_div_eq_div_mul, Nat.pow_succ]
    rw [h3] at h2
    have h4 : 2 ^ (k + 1) * (x / 2 ^ (k + 1)) = 2 ^ k * (2 * (x / 2 ^ (k + 1))) := by rw [Nat.pow_succ, Nat.mul_assoc]
    rw [h4, ← Nat.add_assoc, ← Nat.mul_add, h2, h1]
  have tb : x.testBit k = decide (x / 2 ^ k % 2 = 1) := by rw [Nat.testBit_eq_decide_div_mod_eq]
  by_cases h : x / 2 ^ k % 2 = 1
  · rw [if_pos h]
    have hle : 2 ^ k ≤ x := by
      rcases Nat.lt_or_ge x (2 ^ k) with q | q
      · rw [Nat.div_eq_of_lt q] at h; simp at h
      · exact q
    have e : x = (x - 2 ^ k) + 2 ^ k := by omega
    have hb : (x - 2 ^ k) / 2 ^ k % 2 = 0 := by
      have : (x - 2 ^ k) / 2 ^ k = x / 2 ^ k - 1 := by
        have := Nat.sub_mul_div x (2 ^ k) 1
        simpa using this
      omega
    have h5 : (x - 2 ^ k) ^^^ 2 ^ k = x := by
      have hk := @Nat.two_pow_pos k
      apply Nat.eq_of_testBit_eq
      intro i
      rw [Nat.testBit_xor, Nat.testBit_two_pow]
      conv => rhs; rw [e]
      by_cases hik : k = i
      · subst hik
        have t1 : (x - 2 ^ k).testBit k = false := by rw [Nat.testBit_eq_decide_div_mod_eq, hb]; rfl
        have t2 : (x - 2 ^ k + 2 ^ k).testBit k = true := by rw [← e, tb, h]; rfl
        rw [t1, t2]; simp
      · have t1 : (x - 2 ^ k + 2 ^ k).testBit i = (x - 2 ^ k).testBit i := by
          rw [Nat.add_comm]
          rcases Nat.lt_or_ge i k with q | q
          · rw [Nat.testBit_two_pow_add_gt q]
          · have q2 : k < i := by omega
            rw [Nat.testBit_eq_decide_div_mod_eq, Nat.testBit_eq_decide_div_mod_eq]
            have e2 : 2 ^ i = 2 ^ (k + 1) * 2 ^ (i - (k + 1)) := by rw [← Nat.pow_add]; congr 1; omega
            rw [e2, ← Nat.div_div_eq_div_mul, ← Nat.div_div_eq_div_mul]
            congr 3
            have e3 : (2 ^ k + (x - 2 ^ k)) / 2 ^ (k + 1) = (x - 2 ^ k) / 2 ^ (k + 1) := by
              rw [Nat.pow_succ, ← Nat.div_div_eq_div_mul, ← Nat.div_div_eq_div_mul, Nat.add_div_left _ hk]
              omega
            rw [e3]
        rw [t1]; simp [hik]
    conv => lhs; rw [← h5]
    rw [Nat.xor_assoc, Nat.xor_self, Nat.xor_zero]
  · rw [if_neg h]
    have hb : x / 2 ^ k % 2 = 0 := by omega
    have hk := @Nat.two_pow_pos k
    apply Nat.eq_of_testBit_eq
    intro i
    rw [Nat.testBit_xor, Nat.testBit_two_pow]
    by_cases hik : k = i
    · subst hik
      have t2 : (x + 2 ^ k).testBit k = true := by
        rw [Nat.testBit_eq_decide_div_mod_eq, Nat.add_div_right _ hk]
        simp; omega
      rw [t2, tb]; simp [h]
    · have t1 : (x + 2 ^ k).testBit i = x.testBit i := by
        rw [Nat.add_comm]
        rcases Nat.lt_or_ge i k with q | q
        · rw [Nat.testBit_two_pow_add_gt q]
        · have q2 : k < i := by omega
          rw [Nat.testBit_eq_decide_div_mod_eq, Nat.testBit_eq_decide_div_mod_eq]
          have e2 : 2 ^ i = 2 ^ (k + 1) * 2 ^ (i - (k + 1)) := by rw [← Nat.pow_add]; congr 1; omega
          rw [e2, ← Nat.div_div_eq_div_mul, ← Nat.div_div_eq_div_mul]
          congr 3
          have e3 : (2 ^ k + x) / 2 ^ (k + 1) = x / 2 ^ (k + 1) := by
            rw [Nat.pow_succ, ← Nat.div_div_eq_div_mul, ← Nat.div_div_eq_div_mul, Nat.add_div_left _ hk]
            omega
          rw [e3]
      rw [t1]; simp [hik]
theorem wG_raw {n g : Nat} (hn : n < 40000) (hg : g < 4) : eS n ^^^ 1 * 2 ^ (2 + g) = eS (wG n g) := by
  obtain ⟨-, -, -, -, h5, -⟩ := wG_ok hn hg
  rw [h5, Nat.one_mul, xor_bit, eS_good hn hg, Nat.pow_add]
/-- the purse alone -/
def wP (n : Nat) : Nat := 4 * (n / 4 % 625)
theorem wP_ok (n : Nat) : wP n < 40000 ∧ wP n % 4 = 0 ∧ wP n / 2500 = 0 ∧ (∀ j, j < 4 → dg (wP n) j = dg n j) ∧ eS (wP n) = eS n - eS n % 64 ∨ 40000 ≤ n := by
  rcases Nat.lt_or_ge n 40000 with hn | hn
  · have a0 := dg_lt n 0
    have a1 := dg_lt n 1
    have a2 := dg_lt n 2
    have a3 := dg_lt n 3
    have p := n_parts n
    have hw : wP n = 0 + 4 * (dg n 0 + 5 * dg n 1 + 25 * dg n 2 + 125 * dg n 3) + 2500 * 0 := by unfold wP; omega
    obtain ⟨g1, g2, g3, g4, g5, g6⟩ := n_of (by omega) a0 a1 a2 a3 hw
    have g7 := eS_of (by omega) a0 a1 a2 a3 hw
    refine Or.inl ⟨by unfold wP; omega, g1, g2, fun j hj => four (P := fun j => dg (wP n) j = dg n j) g3 g4 g5 g6 hj, ?_⟩
    rw [g7, eS_place hn]; unfold eS eP; omega
  · exact Or.inr hn
theorem wP_eq {n : Nat} (hn : n < 40000) : nI (eS n - eS n % 64) = nI (eS (wP n)) := by
  rcases wP_ok n with h | h
  · rw [h.2.2.2.2]
  · omega
def pl (n : Nat) : Nat := n % 4 + 4 * (n / 2500)
def dT (n : Nat) : Nat := dg n 0 + dg n 1 + dg n 2 + dg n 3
theorem dT_lt (n : Nat) : dT n < 17 := by
  have h0 := dg_lt n 0
  have h1 := dg_lt n 1
  have h2 := dg_lt n 2
  have h3 := dg_lt n 3
  unfold dT; omega
theorem lt_pw {c : Nat} (hc : c < 4) : 1 * 2 ^ (6 + 3 * c) < 2 ^ 32 := four (P := fun c => 1 * 2 ^ (6 + 3 * c) < 2 ^ 32) (by decide) (by decide) (by decide) (by decide) hc
theorem lt_pw2 {c : Nat} (hc : c < 4) : 1 * 2 ^ (2 + c) < 2 ^ 32 := four (P := fun c => 1 * 2 ^ (2 + c) < 2 ^ 32) (by decide) (by decide) (by decide) (by decide) hc
theorem ni_sub0 (k : Nat) : nI k - nI 0 = nI k := by rw [pk_sub (Nat.zero_le k)]; rfl
theorem ni_neg (k : Nat) : -nI k = nI 0 - nI k := by
  rw [show nI 0 = 0 from nI_0, Int32.zero_sub]
theorem and_m64 (x : Nat) (h : x < 2 ^ 31) : nI x &&& (-64) = nI (x - x % 64) := and_mk 6 (by decide) (-64) (by decide) (by decide +kernel) x h
theorem pw5_le {x i : Nat} (hx : x < 625) : x % 5 ^ i < 625 := Nat.lt_of_le_of_lt (Nat.mod_le _ _) hx
theorem pw5_lt {x i : Nat} (hx : x < 625) : 4 * (x % 5 ^ i) < 40000 := by
  have := pw5_le (i := i) hx
  omega
theorem pw5_ok {x i : Nat} (hx : x < 625) : dg (4 * (x % 5 ^ i)) i + x / 5 ^ i % 5 ≤ 0 + 4 := by
  have h1 := pw5_le (i := i) hx
  have h2 : 4 * (x % 5 ^ i) / 4 % 625 = x % 5 ^ i := by omega
  have h3 : dg (4 * (x % 5 ^ i)) i = 0 := by
    unfold dg
    rw [h2, Nat.div_eq_of_lt (Nat.mod_lt _ (Nat.pow_pos (by decide)))]
  have h4 : x / 5 ^ i % 5 < 5 := Nat.mod_lt _ (by decide)
  omega
theorem pw5_step {x i : Nat} : eS (wC (4 * (x % 5 ^ i)) i (x / 5 ^ i % 5) 0) = eS (4 * (x % 5 ^ (i + 1))) := by
  congr 1
  unfold wC
  rw [Nat.mod_pow_succ, Nat.mul_zero, Nat.sub_zero, Nat.mul_add, Nat.mul_assoc]
