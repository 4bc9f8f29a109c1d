/-! Kinds of cells: two cells of different kinds lie at different addresses. -/
def kd : va_E → Nat × Nat
  | .inr (c, _) => (c, 0)
  | .inl (_, n, .inl _) => (21, n)
  | .inl (_, n, .inr (.inl _)) => (22, n)
  | .inl (_, n, .inr (.inr (.inl _))) => (23, n)
  | .inl (_, n, .inr (.inr (.inr (.inl _)))) => (24, n)
  | .inl (_, n, .inr (.inr (.inr (.inr _)))) => (25, n)
theorem hw_kd {g : hG} {a b : Nat} {x y : va_E} (ha : g a = some x) (hb : g b = some y) (h : (Nat.beq (kd x).1 (kd y).1 && Nat.beq (kd x).2 (kd y).2) = false) : a ≠ b := hw_ne ha hb (fun e => by subst e; simp at h)
/-- what lies outside F and was there is as it was -/
def Keep (F : Nat → Prop) (g u : hG) : Prop := ∀ a, ¬ F a → g a ≠ none → u a = g a
theorem Keep.rf {F : Nat → Prop} {g : hG} : Keep F g g := fun _ _ _ => rfl
theorem Keep.up {F : Nat → Prop} {g u : hG} {a : Nat} {o : Option va_E} (h : Keep F g u) (ha : F a ∨ g a = none) : Keep F g (va_up u a o) := fun b hb hn => by
  have hne : b ≠ a := fun e => by
    subst e
    rcases ha with h1 | h1
    · exact hb h1
    · exact hn h1
  rw [va_up_ne u o hne]
  exact h b hb hn
theorem Keep.trans {F : Nat → Prop} {g u v : hG} (h1 : Keep F g u) (h2 : Keep (fun a => F a ∨ g a = none) u v) : Keep F g v := fun b hb hn => by
  have e1 := h1 b hb hn
  rw [h2 b (fun q => q.elim hb hn) (by rw [e1]; exact hn), e1]
