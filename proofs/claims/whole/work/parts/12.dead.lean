/-! a local that is read no more may hold anything -/
def jle : List Value → List Value → Prop
  | [], [] => True
  | a :: l, b :: l' => (jn a = true ∨ a = b) ∧ jle l l'
  | _, _ => False
theorem jle_lat : ∀ {ls' ls : List Value} {k : Nat} {v : Value}, jle ls' ls → lat ls' k = some v → jn v = false → lat ls k = some v
  | [], [], _, _, _, h, _ => by cases h
  | a :: l, b :: l', 0, v, hj, h, hn => by
    cases h
    rcases hj.1 with z | z
    · rw [hn] at z; cases z
    · rw [z]; rfl
  | a :: l, b :: l', k + 1, v, hj, h, hn => jle_lat (ls' := l) (ls := l') (k := k) hj.2 h hn
  | a :: l, [], _, _, hj, _, _ => by cases hj
  | [], b :: l', _, _, hj, _, _ => by cases hj
theorem LR_jle {b n : Nat} {LS : Array Slot} {ls' ls : List Value} (hj : jle ls' ls) (h : LR b n LS ls) : LR b n LS ls' := ⟨h.1, h.2.1, fun k v h1 h2 => h.2.2 k v (jle_lat hj h1 h2) h2⟩
theorem Rx_dead {M : Mi} {d pc : Nat} {ls st : List Value} {h : Hp} {r : Option Value} {h' : Hp} (ls' : List Value) (hj : jle ls' ls) (K : Rx M d pc ls' st h r h') : Rx M d pc ls st h r h' := K.stepL (fun _ hl k => k _ (LR_jle hj hl))
theorem Rq_dead {M : Mi} {d pc : Nat} {ls st : List Value} {h : Hp} {Q : Option Value → Hp → Prop} (ls' : List Value) (hj : jle ls' ls) (K : Rq M d pc ls' st h Q) : Rq M d pc ls st h Q := by
  obtain ⟨r, h', q, K⟩ := K
  exact ⟨r, h', q, Rx_dead ls' hj K⟩
