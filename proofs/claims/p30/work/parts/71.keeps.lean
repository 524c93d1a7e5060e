/-! p30: what a shot keeps: hits in their order, the first ray's chain, what is heard -/
/-- where the first ray is, and when it came there, after k hits -/
def ch0 (N : Int → Int) (p0 : Int) : Nat → Int × Int
  | 0 => (p0, 0)
  | k + 1 => if N ((k : Int) * 5) = 0 then (N ((k : Int) * 5 + 1), N ((k : Int) * 5 + 2)) else ch0 N p0 k
theorem ch0_s {N : Int → Int} {p0 h : Int} (hh : 0 ≤ h) : ch0 N p0 (h + 1).toNat = if N (h * 5) = 0 then (N (h * 5 + 1), N (h * 5 + 2)) else ch0 N p0 h.toNat := by
  rw [show (h + 1).toNat = h.toNat + 1 by omega, ch0, Int.toNat_of_nonneg hh]
theorem ch0_congr {N N' : Int → Int} {p0 : Int} : ∀ k : Nat, (∀ j : Int, 0 ≤ j → j < (k : Int) * 5 → N j = N' j) → ch0 N p0 k = ch0 N' p0 k
  | 0, _ => rfl
  | k + 1, h => by
    have e := ch0_congr (p0 := p0) k (fun j a b => h j a (by omega))
    rw [ch0, ch0, e, h ((k : Int) * 5) (by omega) (by omega), h ((k : Int) * 5 + 1) (by omega) (by omega), h ((k : Int) * 5 + 2) (by omega) (by omega)]
def HitOK (N : Int → Int) (m e0 p0 s0 i : Int) : Prop :=
  (0 ≤ N (i * 5) ∧ N (i * 5) < m) ∧ (0 ≤ N (i * 5 + 1) ∧ N (i * 5 + 1) < 27720) ∧ (chordF (N (i * 5 + 4)) ≤ N (i * 5 + 2) ∧ N (i * 5 + 2) ≤ 1202000000) ∧ (0 ≤ N (i * 5 + 3) ∧ N (i * 5 + 3) ≤ e0) ∧ isStepP (N (i * 5 + 4)) ∧
  (1 ≤ i → N ((i - 1) * 5 + 2) ≤ N (i * 5 + 2)) ∧ (N (i * 5) = 0 → N (i * 5 + 2) = (ch0 N p0 i.toNat).2 + chordF (N (i * 5 + 4)) ∧ N (i * 5 + 1) = ((ch0 N p0 i.toNat).1 + N (i * 5 + 4)) % 27720) ∧
  (i = 0 → N (i * 5) = 0 ∧ N (i * 5 + 4) = s0 ∧ N (i * 5 + 3) = e0)
theorem hit_congr {N N' : Int → Int} {m m' e0 p0 s0 i : Int} (h : HitOK N m e0 p0 s0 i) (hi : 0 ≤ i) (hm : m ≤ m') (hN : ∀ j : Int, 0 ≤ j → j < (i + 1) * 5 → N' j = N j) : HitOK N' m' e0 p0 s0 i := by
  unfold HitOK at h ⊢
  rw [hN (i * 5) (by omega) (by omega), hN (i * 5 + 1) (by omega) (by omega), hN (i * 5 + 2) (by omega) (by omega), hN (i * 5 + 3) (by omega) (by omega), hN (i * 5 + 4) (by omega) (by omega), ch0_congr (N := N') (N' := N) i.toNat (fun j a b => hN j a (by omega))]
  obtain ⟨h1, h2, h3, h4, h5, h6, h7, h8⟩ := h
  exact ⟨⟨h1.1, by omega⟩, h2, h3, h4, h5, fun q => by rw [hN _ (by omega) (by omega)]; exact h6 q, h7, h8⟩
/-- a ray under way: it arrives no earlier than its chord takes, than the first chord, than the last hit -/
def RayOK (t0 lt : Int) (S T U : Int → Int) (j : Int) : Prop := U j ≠ 0 → chordF (S j) ≤ T j ∧ t0 ≤ T j ∧ lt ≤ T j
def lastT (N : Int → Int) (h : Int) : Int := if h = 0 then 0 else N ((h - 1) * 5 + 2)
def EarP (n t0 e0 : Int) (f A : Int → Int) (p : Int) : Prop := 0 ≤ A (p * 4) ∧ 0 ≤ A (p * 4 + 1) ∧ (0 ≤ A (p * 4 + 3) ∧ A (p * 4 + 3) ≤ e0) ∧ (A (p * 4) = 0 → A (p * 4 + 1) = 0 ∧ A (p * 4 + 2) = -100009 ∧ A (p * 4 + 3) = 0) ∧
  (A (p * 4) ≠ 0 → A (p * 4 + 3) ≤ A (p * 4 + 1) ∧ A (p * 4 + 1) ≤ A (p * 4) * A (p * 4 + 3) ∧ t0 ≤ A (p * 4 + 2) ∧ p < n ∧ f (p * 4 + 0) = 4)
def sumA (A : Int → Int) : Nat → Int
  | 0 => 0
  | k + 1 => sumA A k + A ((k : Int) * 4)
theorem sumA_s {A : Int → Int} {i : Int} (h : 0 ≤ i) : sumA A (i + 1).toNat = sumA A i.toNat + A (i * 4) := by
  rw [show (i + 1).toNat = i.toNat + 1 by omega, sumA, Int.toNat_of_nonneg h]
theorem sumA_12 (A : Int → Int) : sumA A 12 = A 0 + A 4 + A 8 + A 12 + A 16 + A 20 + A 24 + A 28 + A 32 + A 36 + A 40 + A 44 := by
  simp only [sumA]
  rw [Int.zero_add]
  rfl
theorem sumA_up {A A' : Int → Int} {p : Int} (hp : 0 ≤ p ∧ p < 12) (h1 : A' (p * 4) = A (p * 4) + 1) (ho : ∀ j, 0 ≤ j → j < 12 → j ≠ p → A' (j * 4) = A (j * 4)) : sumA A' 12 = sumA A 12 + 1 := by
  have key : ∀ k : Nat, (k : Int) ≤ 12 → sumA A' k = sumA A k + (if p < (k : Int) then 1 else 0) := by
    intro k
    induction k with
    | zero => intro _; rw [if_neg (by omega)]; rfl
    | succ k ih =>
      intro hk
      have e := ih (by omega)
      rw [sumA, sumA, e]
      by_cases hq : (k : Int) = p
      · rw [hq, h1, if_neg (by omega), if_pos (by omega)]
        omega
      · rw [ho (k : Int) (by omega) (by omega) hq]
        by_cases hl : p < (k : Int)
        · rw [if_pos hl, if_pos (by omega)]
          omega
        · rw [if_neg hl, if_neg (by omega)]
          omega
  have e := key 12 (by decide)
  rw [if_pos (show p < ((12 : Nat) : Int) by omega)] at e
  exact e
theorem sumA_nn {A : Int → Int} (h : ∀ p, 0 ≤ p → p < 12 → 0 ≤ A (p * 4)) : ∀ k : Nat, (k : Int) ≤ 12 → 0 ≤ sumA A k ∧ ∀ p, 0 ≤ p → p < (k : Int) → A (p * 4) ≤ sumA A k
  | 0, _ => ⟨Int.le_refl _, fun p a b => by omega⟩
  | k + 1, hk => by
    obtain ⟨a, b⟩ := sumA_nn h k (by omega)
    have hq := h (k : Int) (by omega) (by omega)
    rw [sumA]
    refine ⟨by omega, fun p h0 h1 => ?_⟩
    by_cases hp : p = (k : Int)
    · rw [hp]; omega
    · have := b p h0 (by omega)
      omega
def EarOK (n t0 e0 : Int) (f : Int → Int) (H B : Int) (y : (Int → Int) × Int × (Int → Int)) : Prop := (∀ p, 0 ≤ p → p < 12 → EarP n t0 e0 f y.1 p) ∧ 0 ≤ y.2.1 ∧ (∀ j, 0 ≤ j → j < y.2.1 → 0 ≤ y.2.2 j ∧ y.2.2 j < H) ∧ (∀ j, 1 ≤ j → j < y.2.1 → y.2.2 (j - 1) < y.2.2 j) ∧ y.2.1 ≤ sumA y.1 12 ∧ (0 < sumA y.1 12 → 0 < y.2.1) ∧ sumA y.1 12 ≤ B
theorem ear_mono {n t0 e0 H B H' B' : Int} {f : Int → Int} {y : (Int → Int) × Int × (Int → Int)} (h : EarOK n t0 e0 f H B y) (hH : H ≤ H') (hB : B ≤ B') : EarOK n t0 e0 f H' B' y :=
  ⟨h.1, h.2.1, fun j a b => by have := h.2.2.1 j a b; omega, h.2.2.2.1, h.2.2.2.2.1, h.2.2.2.2.2.1, by have := h.2.2.2.2.2.2; omega⟩
theorem hear_at {A : Int → Int} {p t e : Int} : hearF A p t e (p * 4) = A (p * 4) + 1 ∧ hearF A p t e (p * 4 + 1) = A (p * 4 + 1) + e ∧ hearF A p t e (p * 4 + 3) = max (A (p * 4 + 3)) e ∧ hearF A p t e (p * 4 + 2) = if A (p * 4) = 0 then t else A (p * 4 + 2) := by
  unfold hearF
  refine ⟨?_, ?_, zup_s, ?_⟩
  · rw [zup_n (by omega), zup_n (by omega), zup_s]
  · rw [zup_n (by omega), zup_s]
  · rw [zup_n (by omega), zup_n (by omega), zup_n (by omega)]
    unfold hear1
    by_cases h : A (p * 4) = 0
    · rw [if_pos h, if_pos h, zup_s]
    · rw [if_neg h, if_neg h]
theorem hear_o {A : Int → Int} {p t e j : Int} (h : j < p * 4 ∨ p * 4 + 3 < j) : hearF A p t e j = A j := by
  unfold hearF
  rw [zup_n (by omega), zup_n (by omega), zup_n (by omega), hear1_n (by omega)]
theorem hear_OK {n t0 e0 H B p t e ec : Int} {f A Ec : Int → Int} (h : EarOK n t0 e0 f H B (A, ec, Ec)) (hp : 0 ≤ p ∧ p < 12) (hpn : p < n) (hf : f (p * 4 + 0) = 4) (he : 0 ≤ e ∧ e ≤ e0) (ht : t0 ≤ t) (hH : 1 ≤ H) :
    EarOK n t0 e0 f H (B + 1) (hearF A p t e, eC ec Ec H, eF ec Ec H) := by
  obtain ⟨a1, a2, a3, a4, a5, a6, a7⟩ := h
  dsimp only at a1 a2 a3 a4 a5 a6 a7
  obtain ⟨q0, q1, q3, q2⟩ := hear_at (A := A) (p := p) (t := t) (e := e)
  have hs : sumA (hearF A p t e) 12 = sumA A 12 + 1 := sumA_up hp q0 (fun j b0 b1 hj => hear_o (by omega))
  have hE : 0 ≤ eC ec Ec H ∧ (∀ j, 0 ≤ j → j < eC ec Ec H → 0 ≤ eF ec Ec H j ∧ eF ec Ec H j < H) ∧ (∀ j, 1 ≤ j → j < eC ec Ec H → eF ec Ec H (j - 1) < eF ec Ec H j) ∧ eC ec Ec H ≤ ec + 1 ∧ 0 < eC ec Ec H := by
    by_cases hn : echoNew ec Ec H
    · rw [(eC_t hn).1, (eC_t hn).2]
      refine ⟨by omega, fun j b0 b1 => ?_, fun j b0 b1 => ?_, Int.le_refl _, by omega⟩
      · by_cases hj : j = ec
        · rw [hj, zup_s]; omega
        · rw [zup_n hj]; exact a3 j b0 (by omega)
      · by_cases hj : j = ec
        · have hl := a3 (ec - 1) (by omega) (by omega)
          have hx := hn.1
          rw [hj, zup_s, zup_n (by omega)]
          by_cases hy : Ec (ec - 1) = H - 1
          · exact absurd ⟨by omega, hy⟩ hx
          · omega
        · rw [zup_n hj, zup_n (by omega)]
          exact a4 j b0 (by omega)
    · rw [(eC_f hn).1, (eC_f hn).2]
      refine ⟨a2, a3, a4, by omega, ?_⟩
      unfold echoNew at hn
      omega
  refine ⟨fun j b0 b1 => ?_, hE.1, hE.2.1, hE.2.2.1, ?_, fun _ => hE.2.2.2.2, ?_⟩
  · dsimp only
    by_cases hj : j = p
    · subst hj
      obtain ⟨c1, c2, c3, c4, c5⟩ := a1 j b0 b1
      unfold EarP
      rw [q0, q1, q3, q2]
      refine ⟨by omega, by omega, by omega, fun z => by omega, fun _ => ⟨by omega, ?_, ?_, hpn, hf⟩⟩
      · have h1 : A (j * 4 + 1) ≤ A (j * 4) * A (j * 4 + 3) := by
          by_cases hz : A (j * 4) = 0
          · rw [hz, (c4 hz).1]; omega
          · exact (c5 hz).2.1
        have h2 : A (j * 4) * A (j * 4 + 3) ≤ A (j * 4) * max (A (j * 4 + 3)) e := Int.mul_le_mul_of_nonneg_left (by omega) c1
        rw [Int.add_mul, Int.one_mul]
        omega
      · split
        · exact ht
        · rename_i hz
          exact (c5 hz).2.2.1
    · have e0' := hear_o (A := A) (p := p) (t := t) (e := e) (j := j * 4) (by omega)
      have e1' := hear_o (A := A) (p := p) (t := t) (e := e) (j := j * 4 + 1) (by omega)
      have e2' := hear_o (A := A) (p := p) (t := t) (e := e) (j := j * 4 + 2) (by omega)
      have e3' := hear_o (A := A) (p := p) (t := t) (e := e) (j := j * 4 + 3) (by omega)
      have := a1 j b0 b1
      unfold EarP at this ⊢
      rw [e0', e1', e2', e3']
      exact this
  · dsimp only
    have := hE.2.2.2.1
    omega
  · dsimp only
    omega
/-- what the acts of a hit of the ray r at the time t keep -/
def MidOK (n t0 e0 H B m0 r t : Int) (f : Int → Int) (z : Int × Int × Int × Int) (y : SX) : Prop :=
  (1 ≤ m0 ∧ m0 ≤ y.1.1) ∧ (∀ j, 0 ≤ j → j < y.1.1 → (0 ≤ y.1.2.2.2.1 j ∧ y.1.2.2.2.1 j ≤ e0) ∧ (j ≠ r → RayOK t0 t y.1.2.2.1 y.1.2.2.2.2.1 y.1.2.2.2.2.2 j)) ∧ (r ≠ 0 → y.1.2.1 0 = z.1 ∧ y.1.2.2.1 0 = z.2.1 ∧ y.1.2.2.2.2.1 0 = z.2.2.1 ∧ y.1.2.2.2.2.2 0 = z.2.2.2) ∧ EarOK n t0 e0 f H B y.2
theorem lose_le {e k : Int} (he : 0 ≤ e) (hk : 0 ≤ k ∧ k ≤ 1000) : 0 ≤ e * (1000 - k) / 1000 ∧ e * (1000 - k) / 1000 ≤ e := by
  have h1 := Int.mul_nonneg (a := e) (b := 1000 - k) he (by omega)
  have h2 := Int.mul_le_mul_of_nonneg_left (a := 1000 - k) (b := 1000) (c := e) (by omega) he
  omega
theorem ray_o {t0 lt : Int} {S T U S' T' U' : Int → Int} {j : Int} (h : RayOK t0 lt S T U j) (h1 : S' j = S j) (h2 : T' j = T j) (h3 : U' j = U j) : RayOK t0 lt S' T' U' j := by
  unfold RayOK at h ⊢
  rw [h1, h2, h3]
  exact h
theorem act_Mid {n t0 e0 H B m0 r t kd k p m ec thr : Int} {f P S E T U A Ec : Int → Int} {z : Int × Int × Int × Int} (hM : MidOK n t0 e0 H B m0 r t f z ((m, P, S, E, T, U), A, ec, Ec)) (hr : 0 ≤ r ∧ r < m) (hT : T r = t) (ht : 0 ≤ t0 ∧ t0 ≤ t) (hk : (kd = 0 → 0 ≤ k ∧ k ≤ 1000)) (hd : 0 ≤ kd ∧ kd ≤ 4) (hm : m ≤ 100) (hp : 0 ≤ p ∧ p < 12) (hpn : p < n) (hf : f (p * 4 + 0) = kd) (hH : 1 ≤ H) :
    MidOK n t0 e0 H (B + 1) m0 r t f z (actX thr H kd k p r ((m, P, S, E, T, U), A, ec, Ec)) := by
  obtain ⟨h1, h2, h3, h4⟩ := hM
  dsimp only at h1 h2 h3 h4
  have hE := (h2 r hr.1 hr.2).1
  have h4' := ear_mono h4 (Int.le_refl H) (show B ≤ B + 1 by omega)
  rcases (show kd = 0 ∨ kd = 1 ∨ kd = 2 ∨ kd = 3 ∨ kd = 4 by omega) with e | e | e | e | e
  · rw [act_0 e]
    refine ⟨h1, fun j a b => ⟨?_, (h2 j a b).2⟩, h3, h4'⟩
    dsimp only
    by_cases hj : j = r
    · rw [hj, zup_s]
      have := lose_le hE.1 (hk e)
      omega
    · rw [zup_n hj]
      exact (h2 j a b).1
  · rw [act_1 e]
    refine ⟨h1, fun j a b => ⟨(h2 j a b).1, fun hj => ray_o ((h2 j a b).2 hj) (zup_n hj) rfl rfl⟩, fun hz => ?_, h4'⟩
    dsimp only
    rw [zup_n (Ne.symm hz)]
    exact h3 hz
  · rw [act_2 e]
    refine ⟨h1, fun j a b => ⟨(h2 j a b).1, fun hj => ray_o ((h2 j a b).2 hj) (zup_n hj) rfl (zup_n hj)⟩, fun hz => ?_, h4'⟩
    dsimp only
    rw [zup_n (Ne.symm hz), zup_n (Ne.symm hz)]
    exact h3 hz
  · rw [act_3 e]
    by_cases hc : ¬ tiltF (S r) k = 0 ∧ thr ≤ E r / 2
    · rw [sp_t hc]
      unfold bgM bgZ
      by_cases hm2 : m < 100
      · simp only [if_pos hm2]
        refine ⟨⟨h1.1, by dsimp only; omega⟩, fun j a b => ?_, fun hz => ?_, h4'⟩
        · dsimp only at b ⊢
          by_cases hj : j = m
          · subst hj
            unfold RayOK
            rw [zup_s, zup_s, zup_s, zup_s]
            have hch := chord_R (tilt_R (S r) k)
            refine ⟨by omega, fun _ _ => by omega⟩
          · have q := h2 j a (by omega)
            refine ⟨?_, fun hj2 => ray_o (q.2 hj2) (zup_n hj) (zup_n hj) (zup_n hj)⟩
            rw [zup_n hj]
            by_cases hj2 : j = r
            · rw [hj2, zup_s]
              omega
            · rw [zup_n hj2]
              exact q.1
        · dsimp only
          rw [zup_n (by omega), zup_n (by omega), zup_n (by omega), zup_n (by omega)]
          exact h3 hz
      · simp only [if_neg hm2]
        refine ⟨h1, fun j a b => ⟨?_, (h2 j a b).2⟩, h3, h4'⟩
        dsimp only
        by_cases hj : j = r
        · rw [hj, zup_s]
          omega
        · rw [zup_n hj]
          exact (h2 j a b).1
    · rw [sp_f hc]
      refine ⟨h1, fun j a b => ⟨?_, (h2 j a b).2⟩, h3, h4'⟩
      dsimp only
      by_cases hj : j = r
      · rw [hj, zup_s]
        omega
      · rw [zup_n hj]
        exact (h2 j a b).1
  · rw [act_4 e]
    exact ⟨h1, h2, h3, hear_OK h4 hp hpn (by rw [hf, e]) hE (by omega) hH⟩
theorem parts_Mid {n t0 e0 h B m0 r t p tb hb thr : Int} {f : Int → Int} {z : Int × Int × Int × Int} (hp : ∀ j, 0 ≤ j → j < n → PartOK f j) (hn : n ≤ 12) (ht : 0 ≤ t0 ∧ t0 ≤ t) (htb : t + 2000000 ≤ tb) (htb2 : tb ≤ hb) (hhb : 1000000 ≤ hb) (hh : 1 ≤ h ∧ h ≤ 600) (hr : 0 ≤ r) :
    ∀ (k : Nat) (x : SX), (k : Int) ≤ n → RI tb x.1 → HI2 hb x.2 → r < x.1.1 → x.1.2.1 r = p → x.1.2.2.2.2.1 r = t → MidOK n t0 e0 h B m0 r t f z x →
      MidOK n t0 e0 h (B + (k : Int)) m0 r t f z (partsX thr h r f k x)
  | 0, x, _, _, _, _, _, _, hM => by
    rw [show B + ((0 : Nat) : Int) = B by omega]
    exact hM
  | k + 1, x, hk, h1, h2, h3, h4, h5, hM => by
    have e := parts_I (thr := thr) hp hn htb htb2 hhb hh hr k x (by omega) h1 h2 h3 h4 h5
    have g := parts_Mid (thr := thr) hp hn ht htb htb2 hhb hh hr k x (by omega) h1 h2 h3 h4 h5 hM
    show MidOK _ _ _ _ _ _ _ _ _ _ (stepX thr h r f (k : Int) (partsX thr h r f k x))
    generalize partsX thr h r f k x = y at e g ⊢
    obtain ⟨⟨m, P, S, E, T, U⟩, A, ec, Ec⟩ := y
    obtain ⟨e1, e2, e3, e4, e5⟩ := e
    have hw : MidOK n t0 e0 h (B + ((k + 1 : Nat) : Int)) m0 r t f z ((m, P, S, E, T, U), A, ec, Ec) := ⟨g.1, g.2.1, g.2.2.1, ear_mono g.2.2.2 (Int.le_refl _) (by omega)⟩
    unfold stepX
    split
    · exact hw
    · split
      · have q := hp (k : Int) (by omega) (by omega)
        have a := act_Mid (thr := thr) (kd := f ((k : Int) * 4 + 0)) (k := f ((k : Int) * 4 + 3)) (p := (k : Int)) g ⟨hr, e3⟩ e5 ht q.k.1 q.1 e1.2.1 ⟨by omega, by omega⟩ (by omega) rfl hh.1
        rw [show B + ((k + 1 : Nat) : Int) = B + (k : Int) + 1 by omega]
        exact a
      · exact hw
