/-! cones in the orthant of eight coordinates: every point is a combination of vertices -/
theorem ratio_trans {a b c p q r : Int} (hq : 0 < q) (hp : 0 < p) (hr : 0 < r) (h1 : a * q ≤ b * p) (h2 : b * r ≤ c * q) : a * r ≤ c * p := by
  have e1 : a * q * r ≤ b * p * r := Int.mul_le_mul_of_nonneg_right h1 (Int.le_of_lt hr)
  have e2 : b * r * p ≤ c * q * p := Int.mul_le_mul_of_nonneg_right h2 (Int.le_of_lt hp)
  have e3 : (a * r) * q ≤ (c * p) * q := by
    have x1 : a * q * r = (a * r) * q := by grind
    have x2 : b * p * r = b * r * p := by grind
    have x3 : c * q * p = (c * p) * q := by grind
    omega
  exact Int.le_of_mul_le_mul_right e3 hq
theorem minratio (P : Nat → Prop) (f g : Nat → Int) : ∀ N : Nat, (∀ c, c < N → P c → 0 < g c) → (∃ c, c < N ∧ P c) → ∃ c, c < N ∧ P c ∧ ∀ d, d < N → P d → f c * g d ≤ f d * g c := by
  intro N
  induction N with
  | zero => rintro - ⟨c, hc, -⟩; omega
  | succ N ih =>
    intro hg hex
    by_cases hN : P N
    · by_cases he : ∃ c, c < N ∧ P c
      · obtain ⟨c, hc, hPc, hm⟩ := ih (fun c hc => hg c (by omega)) he
        rcases Int.le_total (f c * g N) (f N * g c) with h | h
        · refine ⟨c, by omega, hPc, fun d hd hPd => ?_⟩
          by_cases hdN : d = N
          · subst hdN; exact h
          · exact hm d (by omega) hPd
        · refine ⟨N, by omega, hN, fun d hd hPd => ?_⟩
          by_cases hdN : d = N
          · subst hdN; exact Int.le_refl _
          · exact ratio_trans (hg c (by omega) hPc) (hg N (by omega) hN) (hg d (by omega) hPd) h (hm d (by omega) hPd)
      · refine ⟨N, by omega, hN, fun d hd hPd => ?_⟩
        by_cases hdN : d = N
        · subst hdN; exact Int.le_refl _
        · exact absurd ⟨d, by omega, hPd⟩ he
    · obtain ⟨c, hc, hPc⟩ := hex
      have hcN : c ≠ N := fun e => hN (e ▸ hPc)
      obtain ⟨c', hc', hPc', hm⟩ := ih (fun c hc => hg c (by omega)) ⟨c, by omega, hPc⟩
      refine ⟨c', by omega, hPc', fun d hd hPd => hm d ?_ hPd⟩
      have : d ≠ N := fun e => hN (e ▸ hPd)
      omega
def ev (a x : Nat → Int) : Int := sg (fun w => a w * x w) 8
theorem ev_lin (a x y : Nat → Int) (p q : Int) : ev a (fun w => p * x w + q * y w) = p * ev a x + q * ev a y := by
  unfold ev
  rw [← sg_mul, ← sg_mul, ← sg_add]
  exact sg_cong (fun k _ => by grind)
theorem ev_cong {a x y : Nat → Int} (h : ∀ w, w < 8 → x w = y w) : ev a x = ev a y := sg_cong (fun k hk => by rw [h k hk])
/-- the constraints: the first eight are the coordinates -/
def coords (a : Nat → Nat → Int) (N : Nat) : Prop := 8 ≤ N ∧ ∀ c, c < 8 → ∀ x : Nat → Int, ev (a c) x = x c
def inC (a : Nat → Nat → Int) (N : Nat) (x : Nat → Int) : Prop := ∀ c, c < N → 0 ≤ ev (a c) x
def nz (x : Nat → Int) : Prop := ∃ w, w < 8 ∧ x w ≠ 0
/-- y is tight where x is -/
def sub (a : Nat → Nat → Int) (N : Nat) (x y : Nat → Int) : Prop := ∀ c, c < N → ev (a c) x = 0 → ev (a c) y = 0
def prop8 (x y : Nat → Int) : Prop := ∃ p q : Int, p ≠ 0 ∧ ∀ w, w < 8 → p * y w = q * x w
def vtx (a : Nat → Nat → Int) (N : Nat) (x : Nat → Int) : Prop := inC a N x ∧ nz x ∧ ∀ y, sub a N x y → prop8 x y
def ls : List (Int × (Nat → Int)) → Nat → Int
  | [], _ => 0
  | e :: t, w => e.1 * e.2 w + ls t w
theorem ls_app : ∀ (s t : List (Int × (Nat → Int))) (w : Nat), ls (s ++ t) w = ls s w + ls t w
  | [], t, w => by simp [ls]
  | e :: s, t, w => by simp only [List.cons_append, ls, ls_app s t w]; omega
theorem ls_mul (c : Int) : ∀ (s : List (Int × (Nat → Int))) (w : Nat), ls (s.map (fun e => (c * e.1, e.2))) w = c * ls s w
  | [], w => by simp [ls]
  | e :: s, w => by simp only [List.map_cons, ls, ls_mul c s w]; grind
/-- x, times a number above 0, is a combination of vertices that are tight where x is -/
def comb (a : Nat → Nat → Int) (N : Nat) (z x : Nat → Int) : Prop := ∃ (k : Int) (s : List (Int × (Nat → Int))), 0 < k ∧ (∀ e ∈ s, 0 ≤ e.1 ∧ vtx a N e.2 ∧ sub a N z e.2) ∧ ∀ w, w < 8 → k * x w = ls s w
theorem comb_add {a : Nat → Nat → Int} {N : Nat} {z x y u : Nat → Int} {p q r : Int} (hx : comb a N z x) (hy : comb a N z y) (hp : 0 ≤ p) (hq : 0 ≤ q) (hr : 0 < r) (h : ∀ w, w < 8 → r * u w = p * x w + q * y w) : comb a N z u := by
  obtain ⟨k, s, hk, hs, es⟩ := hx
  obtain ⟨l, t, hl, ht, et⟩ := hy
  refine ⟨k * l * r, s.map (fun e => (l * p * e.1, e.2)) ++ t.map (fun e => (k * q * e.1, e.2)), Int.mul_pos (Int.mul_pos hk hl) hr, ?_, ?_⟩
  · intro e he
    rcases List.mem_append.mp he with h1 | h1
    · obtain ⟨e', h2, rfl⟩ := List.mem_map.mp h1
      exact ⟨Int.mul_nonneg (Int.mul_nonneg (Int.le_of_lt hl) hp) (hs e' h2).1, (hs e' h2).2⟩
    · obtain ⟨e', h2, rfl⟩ := List.mem_map.mp h1
      exact ⟨Int.mul_nonneg (Int.mul_nonneg (Int.le_of_lt hk) hq) (ht e' h2).1, (ht e' h2).2⟩
  · intro w hw
    rw [ls_app, ls_mul, ls_mul, ← es w hw, ← et w hw]
    have := h w hw
    grind
