/-! the reference: what is told of a shot -/
def heM (my su fi mo : Int → Int) (p w : Int) : Int := if w = 2 then (if my p = 0 then -100009 else fi p) else if w = 0 then my p else if w = 1 then su p else mo p
def heL (my su fi mo : Int → Int) (p w : Int) : Int := if 0 ≤ p ∧ p < 12 ∧ 0 ≤ w ∧ w < 4 then heM my su fi mo p w else -100001
def ecM (ie : Int → Int) : Nat → Int → Int → Int
  | 0, _, _ => -100009
  | n + 1, h, left => if ie h = 0 then ecM ie n (h + 1) left else if left = 0 then h else ecM ie n (h + 1) (left - 1)
theorem ecM_a {ie : Int → Int} {h left : Int} (n : Nat) (q : ie h = 0) : ecM ie (n + 1) h left = ecM ie n (h + 1) left := if_pos q
theorem ecM_b {ie : Int → Int} {h left : Int} (n : Nat) (q : ¬ ie h = 0) (q2 : left = 0) : ecM ie (n + 1) h left = h := by rw [ecM, if_neg q, if_pos q2]
theorem ecM_c {ie : Int → Int} {h left : Int} (n : Nat) (q : ¬ ie h = 0) (q2 : ¬ left = 0) : ecM ie (n + 1) h left = ecM ie n (h + 1) (left - 1) := by rw [ecM, if_neg q, if_neg q2]
/-- how many places, and which: out of the hits, one by one -/
def cvS (N g : Int → Int) : Nat → Int × (Int → Int)
  | 0 => (0, g)
  | k + 1 => ((cvS N g k).1 + (if (cvS N g k).2 (N ((k : Int) * 5 + 1)) = 0 then 1 else 0), zup (cvS N g k).2 (N ((k : Int) * 5 + 1)) 1)
theorem cvS_s {N g : Int → Int} {h : Int} (hh : 0 ≤ h) : cvS N g (h + 1).toNat = ((cvS N g h.toNat).1 + (if (cvS N g h.toNat).2 (N (h * 5 + 1)) = 0 then 1 else 0), zup (cvS N g h.toNat).2 (N (h * 5 + 1)) 1) := by
  rw [show (h + 1).toNat = h.toNat + 1 by omega, cvS, Int.toNat_of_nonneg hh]
theorem cvS_c {N g : Int → Int} : ∀ k : Nat, 0 ≤ (cvS N g k).1 ∧ (cvS N g k).1 ≤ k
  | 0 => ⟨Int.le_refl _, Int.le_refl _⟩
  | k + 1 => by
    have := cvS_c (N := N) (g := g) k
    unfold cvS
    dsimp only
    split <;> omega
theorem cvS_g {N g : Int → Int} (hg : ∀ j, 0 ≤ j → j < 27720 → Z01 (g j)) : ∀ (k : Nat) (j : Int), 0 ≤ j → j < 27720 → Z01 ((cvS N g k).2 j)
  | 0, j, h0, h1 => hg j h0 h1
  | k + 1, j, h0, h1 => by
    have := cvS_g (N := N) hg k j h0 h1
    unfold cvS
    dsimp only
    unfold zup
    split
    · exact Or.inr rfl
    · exact this
theorem clr_Z {g : Int → Int} : ∀ j, 0 ≤ j → j < 27720 → Z01 (clr0 g 27720 j) := fun j h0 h1 => Or.inl (if_pos ⟨h0, h1⟩)
/-- the stretches without a hit, twice around: the last one, the longest -/
def gpM (g : Int → Int) : Nat → Int × Int
  | 0 => (0, 0)
  | k + 1 => ((if g ((k : Int) % 27720) = 0 then (gpM g k).1 + 1 else 0), max (gpM g k).2 (if g ((k : Int) % 27720) = 0 then (gpM g k).1 + 1 else 0))
theorem gpM_s {g : Int → Int} {p : Int} (hp : 0 ≤ p) : gpM g (p + 1).toNat = ((if g (p % 27720) = 0 then (gpM g p.toNat).1 + 1 else 0), max (gpM g p.toNat).2 (if g (p % 27720) = 0 then (gpM g p.toNat).1 + 1 else 0)) := by
  rw [show (p + 1).toNat = p.toNat + 1 by omega, gpM, Int.toNat_of_nonneg hp]
theorem gpM_R {g : Int → Int} : ∀ k : Nat, 0 ≤ (gpM g k).1 ∧ (gpM g k).1 ≤ k ∧ 0 ≤ (gpM g k).2 ∧ (gpM g k).2 ≤ k
  | 0 => by
    unfold gpM
    omega
  | k + 1 => by
    have := gpM_R (g := g) k
    unfold gpM
    dsimp only
    split <;> omega
def sumE (N : Int → Int) : Nat → Int
  | 0 => 0
  | k + 1 => sumE N k + N ((k : Int) * 5 + 3)
theorem sumE_s {N : Int → Int} {h : Int} (hh : 0 ≤ h) : sumE N (h + 1).toNat = sumE N h.toNat + N (h * 5 + 3) := by
  rw [show (h + 1).toNat = h.toNat + 1 by omega, sumE, Int.toNat_of_nonneg hh]
/-- the ends of the first k chords of ray 0 -/
def edS (N en : Int → Int) (k : Int) : Nat → Int × (Int → Int)
  | 0 => (0, en)
  | h + 1 => if (edS N en k h).1 < k ∧ N ((h : Int) * 5) = 0 then ((edS N en k h).1 + 1, zup (edS N en k h).2 ((edS N en k h).1 + 1) (N ((h : Int) * 5 + 1))) else edS N en k h
theorem edS_s {N en : Int → Int} {k h : Int} (hh : 0 ≤ h) : edS N en k (h + 1).toNat = if (edS N en k h.toNat).1 < k ∧ N (h * 5) = 0 then ((edS N en k h.toNat).1 + 1, zup (edS N en k h.toNat).2 ((edS N en k h.toNat).1 + 1) (N (h * 5 + 1))) else edS N en k h.toNat := by
  rw [show (h + 1).toNat = h.toNat + 1 by omega, edS, Int.toNat_of_nonneg hh]
theorem edS_full {N en : Int → Int} {k : Int} {a : Nat} (hq : (edS N en k a).1 = k) : ∀ d : Nat, edS N en k (a + d) = edS N en k a
  | 0 => rfl
  | d + 1 => by
    have e := edS_full hq d
    have e1 : ¬ ((edS N en k (a + d)).1 < k ∧ N (((a + d : Nat) : Int) * 5) = 0) := by rw [e]; omega
    exact (if_neg e1).trans e
/-- what the ends are worth: in range as far as they go -/
def edR (m : Int) (e : Int → Int) : Prop := ∀ j, 0 ≤ j → j ≤ m → 0 ≤ e j ∧ e j < 27720
theorem edR_s {m p : Int} {e : Int → Int} (h : edR m e) (hp : 0 ≤ p ∧ p < 27720) : edR (m + 1) (zup e (m + 1) p) := by
  intro j h0 h1
  by_cases hj : j = m + 1
  · subst hj
    rw [zup_s]
    exact hp
  · rw [zup_n hj]
    exact h j h0 (by omega)
abbrev btwM (a b p : Int) : Prop := (p - a + 27720) % 27720 < (b - a + 27720) % 27720
theorem cross_t {a b c d : Int} (ha : 0 ≤ a ∧ a < 27720) (hb : 0 ≤ b ∧ b < 27720) (hc : 0 ≤ c ∧ c < 27720) (hd : 0 ≤ d ∧ d < 27720) (h1 : ¬ a = c) (h2 : ¬ a = d) (h3 : ¬ b = c) (h4 : ¬ b = d) (h : ¬ (btwM a b c ↔ btwM a b d)) : crossP a b c d := by
  unfold btwM at h
  unfold crossP btwP beyP
  rw [show (c - a + 27720) % 27720 = if c < a then c - a + 27720 else c - a by split <;> omega, show (d - a + 27720) % 27720 = if d < a then d - a + 27720 else d - a by split <;> omega, show (b - a + 27720) % 27720 = if b < a then b - a + 27720 else b - a by split <;> omega] at h
  omega
theorem cross_f {a b c d : Int} (ha : 0 ≤ a ∧ a < 27720) (hb : 0 ≤ b ∧ b < 27720) (hc : 0 ≤ c ∧ c < 27720) (hd : 0 ≤ d ∧ d < 27720) (h1 : ¬ a = c) (h2 : ¬ a = d) (h3 : ¬ b = c) (h4 : ¬ b = d) (h : btwM a b c ↔ btwM a b d) : ¬ crossP a b c d := by
  unfold btwM at h
  unfold crossP btwP beyP
  rw [show (c - a + 27720) % 27720 = if c < a then c - a + 27720 else c - a by split <;> omega, show (d - a + 27720) % 27720 = if d < a then d - a + 27720 else d - a by split <;> omega, show (b - a + 27720) % 27720 = if b < a then b - a + 27720 else b - a by split <;> omega] at h
  omega
theorem bZ_inj {P Q : Prop} [Decidable P] [Decidable Q] : bZ P = bZ Q ↔ (P ↔ Q) := by
  unfold bZ
  by_cases p : P <;> by_cases q : Q <;> simp [p, q]
def fold31 (g : Int → Int) : Nat → Int → Int
  | 0, x => x
  | k + 1, x => 31 * fold31 g k x + g (k : Int)
theorem fold_s {g : Int → Int} {x i : Int} (hi : 0 ≤ i) : fold31 g (i + 1).toNat x = 31 * fold31 g i.toNat x + g i := by
  rw [show (i + 1).toNat = i.toNat + 1 by omega, fold31, Int.toNat_of_nonneg hi]
def fpM (n lo thr nh m cv : Int) (f N : Int → Int) (he : Int → Int) : Int := fold31 he 48 (fold31 N (5 * nh).toNat (31 * (31 * (31 * (31 * (31 * fold31 f (4 * n).toNat (3937 + n) + lo) + thr) + nh) + m) + cv))
