/-! the law from its entry -/
def cn_at0 {α : Type} (a d : α) : Nat → α
  | 0 => a
  | _ + 1 => d
def cn_fb (t : Nat) : Int32 := (1 : Int32) <<< (((8 : Int32) + ((2 : Int32) * nI t)) &&& 31)
def cn_tb (t : Nat) : Int32 := ((1 : Int32) <<< (((8 : Int32) + ((2 : Int32) * nI t)) &&& 31)) <<< ((1 : Int32) &&& 31)
theorem cn_bits : ∀ t, t < 4 → bitsAt t (cn_fb (t + 1)) (cn_tb (t + 1)) := by
  intro t ht
  rcases (show t = 0 ∨ t = 1 ∨ t = 2 ∨ t = 3 by omega) with rfl | rfl | rfl | rfl <;> (unfold bitsAt; decide +kernel)
theorem cn_laC : laC (fun t => 8 * roomOf t) roomOf roomOf roomOf (fun _ => 8) cn_fb cn_tb (fun t => nI (roomOf t)) := ⟨fun t _ => ⟨rfl, rfl, rfl, rfl, rfl, rfl⟩, cn_bits⟩
theorem cn_TD : TD cn_t8 cn_t8 := fun w hw => ⟨rfl, 125, by decide, by rcases (show w = 0 ∨ w = 1 ∨ w = 2 ∨ w = 3 ∨ w = 4 ∨ w = 5 ∨ w = 6 ∨ w = 7 by omega) with rfl | rfl | rfl | rfl | rfl | rfl | rfl | rfl <;> rfl⟩
theorem cn_LI {P0 : Nat → Int64} {L0 : Nat → Int32} (h : ∀ lo hi, xct lo hi 0 8 P0 L0) : LI 0 (cn_at0 (nI 8) 0) (cn_at0 P0 (fun _ => 0)) (cn_at0 L0 (fun _ => 0)) (fun _ => 0) (fun _ => 0) (fun _ => 0) (fun _ => 0) := ⟨Nat.zero_le 4, fun t h1 h2 => absurd h1 (by omega), fun t ht => by
  obtain rfl : t = 0 := by omega
  exact ⟨8, rfl, h _ _⟩⟩
