set_option maxHeartbeats 4000000 in
theorem ag_cl {α : Type} [Lean.Grind.CommRing α] (d x1 y1 x2 y2 : α) : ((y1*y2 + x1*x2)*(1 + d*x1*y1*x2*y2))*((y1*y2 + x1*x2)*(1 + d*x1*y1*x2*y2)) - ((x1*y2 + y1*x2)*(1 - d*x1*y1*x2*y2))*((x1*y2 + y1*x2)*(1 - d*x1*y1*x2*y2)) - ((1 + d*x1*y1*x2*y2)*(1 - d*x1*y1*x2*y2))*((1 + d*x1*y1*x2*y2)*(1 - d*x1*y1*x2*y2)) - d*((x1*y2 + y1*x2)*(y1*y2 + x1*x2))*((x1*y2 + y1*x2)*(y1*y2 + x1*x2)) = (x2*x2*x2*x2 + y2*y2*y2*y2 - 4*x2*x2*y2*y2 - 2*x2*x2*x2*x2*y2*y2 + 2*x2*x2*y2*y2*y2*y2 - d*d*x2*x2*x2*x2*y2*y2*y2*y2 - 2*d*x2*x2*y2*y2 - 2*d*x2*x2*x2*x2*y2*y2*y2*y2 + d*x1*x1*x2*x2*y2*y2*y2*y2 + d*x2*x2*x2*x2*y1*y1*y2*y2 + d*d*x2*x2*x2*x2*y1*y1*y2*y2*y2*y2 - d*x1*x1*x2*x2*x2*x2*y2*y2 - d*x2*x2*y1*y1*y2*y2*y2*y2 - d*d*x1*x1*x2*x2*x2*x2*y2*y2*y2*y2 + d*d*d*x1*x1*x2*x2*x2*x2*y1*y1*y2*y2*y2*y2)*(y1*y1 - x1*x1 - 1 - d*(x1*x1)*(y1*y1)) + (1 + y2*y2 - x2*x2 + x1*x1*y2*y2 + x2*x2*y1*y1 - x1*x1*x2*x2 - y1*y1*y2*y2 + 2*x2*x2*y2*y2 + d*x2*x2*y2*y2 - 2*x2*x2*y1*y1*y2*y2 + 2*x1*x1*x2*x2*y2*y2 + d*x1*x1*x1*x1*x2*x2*y2*y2 + d*x2*x2*y1*y1*y1*y1*y2*y2 - 2*d*x2*x2*y1*y1*y2*y2 + 2*d*x1*x1*x2*x2*y2*y2)*(y2*y2 - x2*x2 - 1 - d*(x2*x2)*(y2*y2)) := by grind
set_option maxHeartbeats 4000000 in
theorem ag_ax {α : Type} [Lean.Grind.CommRing α] (d x1 y1 x2 y2 x3 y3 : α) : ((x1*y2 + y1*x2)*(1 - d*x1*y1*x2*y2)*y3 + (y1*y2 + x1*x2)*(1 + d*x1*y1*x2*y2)*x3)*((1 + d*x2*y2*x3*y3)*(1 - d*x2*y2*x3*y3) + d*x1*y1*(x2*y3 + y2*x3)*(y2*y3 + x2*x3)) - (x1*(y2*y3 + x2*x3)*(1 + d*x2*y2*x3*y3) + y1*(x2*y3 + y2*x3)*(1 - d*x2*y2*x3*y3))*((1 + d*x1*y1*x2*y2)*(1 - d*x1*y1*x2*y2) + d*(x1*y2 + y1*x2)*(y1*y2 + x1*x2)*x3*y3) = (d*x1*x2*x2*y2*y2*y2*y3*y3*y3 + d*x2*x2*x2*y1*y2*y2*y3*y3*y3 - d*x1*x2*x2*x2*x3*y2*y2 - d*x1*x2*x2*y2*y2*y2*y3 - d*x1*x2*x2*x2*x3*x3*x3*y2*y2 - d*x2*x2*x3*y1*y2*y2*y2 - d*x2*x2*x2*y1*y2*y2*y3 - d*x2*x2*x3*x3*x3*y1*y2*y2*y2 + d*x1*x2*x3*y2*y2*y2*y2*y3*y3 + d*x2*x2*x2*x2*x3*y1*y2*y3*y3 + d*d*x2*x2*x2*x2*x3*y1*y2*y2*y2*y3*y3 + d*d*x2*x2*x2*x3*x3*y1*y2*y2*y2*y2*y3 - d*x1*x2*x2*x2*x2*x3*x3*y2*y3 - d*x2*x3*x3*y1*y2*y2*y2*y2*y3 - d*d*x1*x2*x2*x2*x3*y2*y2*y2*y2*y3*y3 - d*d*x1*x2*x2*x2*x2*x3*x3*y2*y2*y2*y3)*(y1*y1 - x1*x1 - 1 - d*(x1*x1)*(y1*y1)) + (x1*x2*x3 + x1*x2*x3*x3*x3 + x1*y2*y3 + x1*x1*x1*x2*x3 + x2*y1*y3 + x1*x1*x1*x2*x3*x3*x3 + x2*y1*y1*y1*y3*y3*y3 + x3*y1*y2 + x3*x3*x3*y1*y2 + x1*x1*x1*y2*y3 - x1*y2*y3*y3*y3 - x2*y1*y3*y3*y3 - x2*y1*y1*y1*y3 - x3*y1*y1*y1*y2 - x1*x1*x1*y2*y3*y3*y3 - x3*x3*x3*y1*y1*y1*y2 + x1*x3*x3*y2*y3 + x1*y1*y1*y2*y3*y3*y3 + x1*x1*x2*y1*y3 + x2*x3*x3*y1*y3 + x1*x1*x3*y1*y2 + x3*y1*y1*y1*y2*y3*y3 + x1*x1*x3*x3*x3*y1*y2 + x1*x1*x1*x3*x3*y2*y3 - x1*x2*x3*y1*y1 - x1*x2*x3*y3*y3 - x1*x2*x3*x3*x3*y1*y1 - x1*y1*y1*y2*y3 - x1*x1*x1*x2*x3*y3*y3 - x1*x1*x2*y1*y3*y3*y3 - x2*x3*x3*y1*y1*y1*y3 - x3*y1*y2*y3*y3 + d*x1*x2*x3*x3*x3*y3*y3 + d*x1*x3*x3*y2*y3*y3*y3 + d*x2*x3*x3*y1*y3*y3*y3 + d*x1*x1*x1*x2*x3*x3*x3*y3*y3 + d*x3*x3*x3*y1*y2*y3*y3 + d*x1*x1*x1*x3*x3*y2*y3*y3*y3 + x1*x2*x3*y1*y1*y3*y3 + x1*x1*x2*x3*x3*y1*y3 - d*x2*x3*x3*y1*y1*y1*y3*y3*y3 - d*x3*x3*x3*y1*y1*y1*y2*y3*y3 - x1*x3*x3*y1*y1*y2*y3 - x1*x1*x3*y1*y2*y3*y3 + d*x1*x2*x3*y2*y2*y3*y3 + d*x1*x2*x2*x3*x3*y2*y3 + d*x1*x1*x1*x2*x3*y2*y2*y3*y3 + d*x1*x1*x2*x3*x3*y1*y3*y3*y3 + d*x2*x3*x3*y1*y1*y1*y2*y2*y3 + d*x2*x2*x3*y1*y1*y1*y2*y3*y3 + d*x1*x1*x3*x3*x3*y1*y2*y3*y3 + d*x1*x1*x1*x2*x2*x3*x3*y2*y3 - d*x1*x2*x3*x3*x3*y1*y1*y3*y3 - d*x1*x3*x3*y1*y1*y2*y3*y3*y3 - d*x2*x3*x3*y1*y2*y2*y3 - d*x2*x2*x3*y1*y2*y3*y3 + d*d*x1*x2*x3*x3*x3*y1*y1*y2*y2*y3*y3 + d*d*x1*x1*x2*x2*x3*x3*x3*y1*y2*y3*y3 - d*x1*x2*x3*y1*y1*y2*y2*y3*y3 - d*x1*x2*x2*x3*x3*y1*y1*y2*y3 - d*x1*x1*x2*x3*x3*y1*y2*y2*y3 - d*x1*x1*x2*x2*x3*y1*y2*y3*y3 - d*d*x1*x2*x2*x3*x3*y1*y1*y2*y3*y3*y3 - d*d*x1*x1*x2*x3*x3*y1*y2*y2*y3*y3*y3)*(y2*y2 - x2*x2 - 1 - d*(x2*x2)*(y2*y2)) + (x1*y2*y2*y2*y3 + x2*y1*y1*y1*y3 + x3*y1*y2*y2*y2 + x3*y1*y1*y1*y2 + x1*x1*x1*y2*y2*y2*y3 + x2*x2*x2*y1*y1*y1*y3 - x1*x2*x3 - x1*x2*x2*x2*x3 - x1*y2*y3 - x1*x1*x1*x2*x3 - x2*y1*y3 - x3*y1*y2 - x1*x1*x1*x2*x2*x2*x3 - x3*y1*y1*y1*y2*y2*y2 - x2*x2*x2*y1*y3 - x1*x1*x1*y2*y3 + x1*x2*x3*y1*y1 + x1*x2*x3*y2*y2 + x1*x2*x2*x2*x3*y1*y1 + x1*y1*y1*y2*y3 + x1*x1*x1*x2*x3*y2*y2 + x2*y1*y2*y2*y3 + x1*x1*x3*y1*y2*y2*y2 + x2*x2*x3*y1*y1*y1*y2 - x1*x2*x2*y2*y3 - x1*y1*y1*y2*y2*y2*y3 - x1*x1*x2*y1*y3 - x2*y1*y1*y1*y2*y2*y3 - x1*x1*x3*y1*y2 - x2*x2*x3*y1*y2 - x1*x1*x2*x2*x2*y1*y3 - x1*x1*x1*x2*x2*y2*y3 + x1*x2*x2*y1*y1*y2*y3 + x1*x1*x2*y1*y2*y2*y3 - x1*x2*x3*y1*y1*y2*y2 - x1*x1*x2*x2*x3*y1*y2 + d*x1*x2*x2*y1*y1*y2*y3 + d*x1*x1*x2*y1*y2*y2*y3 - d*x1*x2*x3*y1*y1*y2*y2 - d*x1*x1*x2*x2*x3*y1*y2)*(y3*y3 - x3*x3 - 1 - d*(x3*x3)*(y3*y3)) := by grind
set_option maxHeartbeats 4000000 in
theorem ag_ay {α : Type} [Lean.Grind.CommRing α] (d x1 y1 x2 y2 x3 y3 : α) : ((y1*y2 + x1*x2)*(1 + d*x1*y1*x2*y2)*y3 + (x1*y2 + y1*x2)*(1 - d*x1*y1*x2*y2)*x3)*((1 + d*x2*y2*x3*y3)*(1 - d*x2*y2*x3*y3) - d*x1*y1*(x2*y3 + y2*x3)*(y2*y3 + x2*x3)) - (y1*(y2*y3 + x2*x3)*(1 + d*x2*y2*x3*y3) + x1*(x2*y3 + y2*x3)*(1 - d*x2*y2*x3*y3))*((1 + d*x1*y1*x2*y2)*(1 - d*x1*y1*x2*y2) - d*(x1*y2 + y1*x2)*(y1*y2 + x1*x2)*x3*y3) = (d*x1*x2*x2*x2*y2*y2*y3*y3*y3 + d*x2*x2*y1*y2*y2*y2*y3*y3*y3 - d*x1*x2*x2*x3*y2*y2*y2 - d*x1*x2*x2*x2*y2*y2*y3 - d*x1*x2*x2*x3*x3*x3*y2*y2*y2 - d*x2*x2*x2*x3*y1*y2*y2 - d*x2*x2*y1*y2*y2*y2*y3 - d*x2*x2*x2*x3*x3*x3*y1*y2*y2 + d*x1*x2*x2*x2*x2*x3*y2*y3*y3 + d*x2*x3*y1*y2*y2*y2*y2*y3*y3 + d*d*x1*x2*x2*x2*x2*x3*y2*y2*y2*y3*y3 + d*d*x1*x2*x2*x2*x3*x3*y2*y2*y2*y2*y3 - d*x1*x2*x3*x3*y2*y2*y2*y2*y3 - d*x2*x2*x2*x2*x3*x3*y1*y2*y3 - d*d*x2*x2*x2*x3*y1*y2*y2*y2*y2*y3*y3 - d*d*x2*x2*x2*x2*x3*x3*y1*y2*y2*y2*y3)*(y1*y1 - x1*x1 - 1 - d*(x1*x1)*(y1*y1)) + (x1*x2*y3 + x1*x3*y2 + x1*x3*x3*x3*y2 + x2*x3*y1 + x2*x3*x3*x3*y1 + x1*x1*x1*x2*y3 + x1*x1*x1*x3*y2 + y1*y2*y3 + x1*x1*x1*x3*x3*x3*y2 + y1*y1*y1*y2*y3*y3*y3 - x1*x2*y3*y3*y3 - x2*x3*y1*y1*y1 - x1*x1*x1*x2*y3*y3*y3 - x2*x3*x3*x3*y1*y1*y1 - y1*y2*y3*y3*y3 - y1*y1*y1*y2*y3 + x1*x2*x3*x3*y3 + x1*x2*y1*y1*y3*y3*y3 + x1*x1*x2*x3*y1 + x2*x3*y1*y1*y1*y3*y3 + x1*x1*x2*x3*x3*x3*y1 + x1*x1*x1*x2*x3*x3*y3 + x1*x1*y1*y2*y3 + x3*x3*y1*y2*y3 - x1*x2*y1*y1*y3 - x1*x3*y1*y1*y2 - x1*x3*y2*y3*y3 - x1*x3*x3*x3*y1*y1*y2 - x2*x3*y1*y3*y3 - x1*x1*x1*x3*y2*y3*y3 - x1*x1*y1*y2*y3*y3*y3 - x3*x3*y1*y1*y1*y2*y3 + d*x1*x2*x3*x3*y3*y3*y3 + d*x1*x3*x3*x3*y2*y3*y3 + d*x2*x3*x3*x3*y1*y3*y3 + d*x1*x1*x1*x2*x3*x3*y3*y3*y3 + d*x3*x3*y1*y2*y3*y3*y3 + d*x1*x1*x1*x3*x3*x3*y2*y3*y3 + x1*x3*y1*y1*y2*y3*y3 + x1*x1*x3*x3*y1*y2*y3 - d*x2*x3*x3*x3*y1*y1*y1*y3*y3 - d*x3*x3*y1*y1*y1*y2*y3*y3*y3 - x1*x2*x3*x3*y1*y1*y3 - x1*x1*x2*x3*y1*y3*y3 + d*x2*x3*y1*y2*y2*y3*y3 + d*x1*x1*x2*x3*x3*x3*y1*y3*y3 + d*x2*x2*x3*x3*y1*y2*y3 + d*x1*x1*x3*x3*y1*y2*y3*y3*y3 - d*x1*x2*x3*x3*y2*y2*y3 - d*x1*x2*x3*x3*y1*y1*y3*y3*y3 - d*x1*x2*x2*x3*y2*y3*y3 - d*x1*x3*x3*x3*y1*y1*y2*y3*y3 - d*x2*x3*y1*y1*y1*y2*y2*y3*y3 - d*x1*x1*x1*x2*x3*x3*y2*y2*y3 - d*x1*x1*x1*x2*x2*x3*y2*y3*y3 - d*x2*x2*x3*x3*y1*y1*y1*y2*y3 + d*x1*x2*x3*x3*y1*y1*y2*y2*y3 + d*x1*x2*x2*x3*y1*y1*y2*y3*y3 + d*x1*x1*x2*x3*y1*y2*y2*y3*y3 + d*x1*x1*x2*x2*x3*x3*y1*y2*y3 + d*d*x1*x2*x3*x3*y1*y1*y2*y2*y3*y3*y3 + d*d*x1*x1*x2*x2*x3*x3*y1*y2*y3*y3*y3 - d*d*x1*x2*x2*x3*x3*x3*y1*y1*y2*y3*y3 - d*d*x1*x1*x2*x3*x3*x3*y1*y2*y2*y3*y3)*(y2*y2 - x2*x2 - 1 - d*(x2*x2)*(y2*y2)) + (x1*x3*y2*y2*y2 + x2*x3*y1*y1*y1 + x1*x1*x1*x3*y2*y2*y2 + x2*x2*x2*x3*y1*y1*y1 + y1*y2*y2*y2*y3 + y1*y1*y1*y2*y3 - x1*x2*y3 - x1*x3*y2 - x1*x2*x2*x2*y3 - x2*x3*y1 - x1*x1*x1*x2*y3 - x2*x2*x2*x3*y1 - x1*x1*x1*x3*y2 - y1*y2*y3 - x1*x1*x1*x2*x2*x2*y3 - y1*y1*y1*y2*y2*y2*y3 + x1*x2*y1*y1*y3 + x1*x2*y2*y2*y3 + x1*x3*y1*y1*y2 + x1*x2*x2*x2*y1*y1*y3 + x2*x3*y1*y2*y2 + x1*x1*x1*x2*y2*y2*y3 + x1*x1*y1*y2*y2*y2*y3 + x2*x2*y1*y1*y1*y2*y3 - x1*x2*x2*x3*y2 - x1*x3*y1*y1*y2*y2*y2 - x1*x1*x2*x3*y1 - x2*x3*y1*y1*y1*y2*y2 - x1*x1*x2*x2*x2*x3*y1 - x1*x1*x1*x2*x2*x3*y2 - x1*x1*y1*y2*y3 - x2*x2*y1*y2*y3 + x1*x2*x2*x3*y1*y1*y2 + x1*x1*x2*x3*y1*y2*y2 - x1*x2*y1*y1*y2*y2*y3 - x1*x1*x2*x2*y1*y2*y3 + d*x1*x2*x2*x3*y1*y1*y2 + d*x1*x1*x2*x3*y1*y2*y2 - d*x1*x2*y1*y1*y2*y2*y3 - d*x1*x1*x2*x2*y1*y2*y3)*(y3*y3 - x3*x3 - 1 - d*(x3*x3)*(y3*y3)) := by grind
/-! the field that the curve lives in: iv inverts, i i = -1, d is no square, 2 is not 0 -/
def ag_F {α : Type} [Lean.Grind.CommRing α] (d i : α) (iv : α → α) : Prop := (∀ a : α, a ≠ 0 → a * iv a = 1) ∧ i * i = -1 ∧ (∀ a : α, a * a ≠ d) ∧ (2 : α) ≠ 0
def ag_on {α : Type} [Lean.Grind.CommRing α] (d : α) (p : α × α) : Prop := p.2*p.2 - p.1*p.1 - 1 - d*(p.1*p.1)*(p.2*p.2) = 0
def ag_add {α : Type} [Lean.Grind.CommRing α] (d : α) (iv : α → α) (p q : α × α) : α × α := ((p.1*q.2 + p.2*q.1) * iv (1 + d*p.1*p.2*q.1*q.2), (p.2*q.2 + p.1*q.1) * iv (1 - d*p.1*p.2*q.1*q.2))
theorem ag_can {α : Type} [Lean.Grind.CommRing α] {d i : α} {iv : α → α} (h : ag_F d i iv) {a b c : α} (ha : a ≠ 0) (e : a * b = a * c) : b = c := by
  have h1 := h.1 a ha
  have h2 : iv a * (a * b) = (a * iv a) * b := by grind
  have h3 : iv a * (a * c) = (a * iv a) * c := by grind
  rw [e, h3, h1] at h2
  grind
theorem ag_nz {α : Type} [Lean.Grind.CommRing α] {d i : α} {iv : α → α} (h : ag_F d i iv) {a b : α} (ha : a ≠ 0) (hb : b ≠ 0) : a * b ≠ 0 := by
  intro e
  exact hb (ag_can h ha (by rw [e]; grind))
theorem ag_dv {α : Type} [Lean.Grind.CommRing α] {d i : α} {iv : α → α} (h : ag_F d i iv) {a n : α} (ha : a ≠ 0) : n * iv a * a = n := by
  have h1 := h.1 a ha
  have h2 : n * iv a * a = n * (a * iv a) := by grind
  rw [h2, h1]
  grind
theorem ag_qq {α : Type} [Lean.Grind.CommRing α] {d i : α} {iv : α → α} (h : ag_F d i iv) {a b n m : α} (ha : a ≠ 0) (hb : b ≠ 0) (e : n * b = m * a) : n * iv a = m * iv b := by
  refine ag_can h (ag_nz h ha hb) ?_
  have h1 : (a * b) * (n * iv a) = (n * iv a * a) * b := by grind
  have h2 : (a * b) * (m * iv b) = (m * iv b * b) * a := by grind
  rw [h1, h2, ag_dv h ha, ag_dv h hb, e]
theorem ag_sq {α : Type} [Lean.Grind.CommRing α] {d i : α} {iv : α → α} (h : ag_F d i iv) {w z : α} (e : w * w = d * (z * z)) : z = 0 := by
  refine Classical.byContradiction (fun hz => ?_)
  have h1 := h.1 z hz
  refine h.2.2.1 (w * iv z) ?_
  have h2 : (w * iv z) * (w * iv z) = (w * w) * (iv z * iv z) := by grind
  have h3 : d * (z * z) * (iv z * iv z) = d * ((z * iv z) * (z * iv z)) := by grind
  rw [h2, e, h3, h1]
  grind
theorem ag_id {α : Type} [Lean.Grind.CommRing α] (d i x y u v t : α) (ht : t = d*x*y*u*v) : (i*x + t*y)*(i*x + t*y) - d*((x*y*(i*u + v))*(x*y*(i*u + v))) = (i*i + 1)*(x*x - d*x*x*y*y*u*u) + (t*t - 1)*(y*y - 1) + (y*y - x*x - 1 - d*(x*x)*(y*y)) - d*x*x*y*y*(v*v - u*u - 1 - d*(u*u)*(v*v)) := by
  subst ht
  grind
theorem ag_k {α : Type} [Lean.Grind.CommRing α] {d i : α} {iv : α → α} (h : ag_F d i iv) {x y u v t : α} (ht : t = d*x*y*u*v) (h1 : y*y - x*x - 1 - d*(x*x)*(y*y) = 0) (h2 : v*v - u*u - 1 - d*(u*u)*(v*v) = 0) (e : t * t = 1) : x*y*(i*u + v) = 0 := by
  refine ag_sq h (w := i*x + t*y) ?_
  have hii : i * i + 1 = 0 := by have := h.2.1; grind
  have he : t * t - 1 = 0 := by grind
  have q := ag_id d i x y u v t ht
  rw [hii, he, h1, h2] at q
  grind
theorem ag_ne {α : Type} [Lean.Grind.CommRing α] {d i : α} {iv : α → α} (h : ag_F d i iv) {x y u v : α} (h1 : y*y - x*x - 1 - d*(x*x)*(y*y) = 0) (h2 : v*v - u*u - 1 - d*(u*u)*(v*v) = 0) : (d*x*y*u*v) * (d*x*y*u*v) ≠ 1 := by
  intro e
  have k1 := ag_k h (i := i) (t := d*x*y*u*v) rfl h1 h2 e
  have k2 := ag_k h (i := i) (x := x) (y := y) (u := -u) (v := v) (t := -(d*x*y*u*v)) (by grind) h1 (by grind) (by grind)
  have q : (2 : α) * ((d*x*y*u*v) * (d*x*y*u*v)) = (x*y*(i*u + v) + x*y*(i * -u + v)) * (d*u) * (d*x*y*u*v) := by grind
  rw [k1, k2, e] at q
  refine h.2.2.2 ?_
  grind
theorem ag_np {α : Type} [Lean.Grind.CommRing α] {d i : α} {iv : α → α} (h : ag_F d i iv) {x y u v : α} (h1 : y*y - x*x - 1 - d*(x*x)*(y*y) = 0) (h2 : v*v - u*u - 1 - d*(u*u)*(v*v) = 0) : 1 + d*x*y*u*v ≠ 0 := by
  intro e
  refine ag_ne h h1 h2 ?_
  have q : d*x*y*u*v = -1 := by grind
  rw [q]
  grind
theorem ag_nm {α : Type} [Lean.Grind.CommRing α] {d i : α} {iv : α → α} (h : ag_F d i iv) {x y u v : α} (h1 : y*y - x*x - 1 - d*(x*x)*(y*y) = 0) (h2 : v*v - u*u - 1 - d*(u*u)*(v*v) = 0) : 1 - d*x*y*u*v ≠ 0 := by
  intro e
  refine ag_ne h h1 h2 ?_
  have q : d*x*y*u*v = 1 := by grind
  rw [q]
  grind
theorem ag_cl2 {α : Type} [Lean.Grind.CommRing α] (d A B X Y : α) : ((Y*B)*A)*((Y*B)*A) - ((X*A)*B)*((X*A)*B) - (A*B)*(A*B) - d*((X*A)*(Y*B))*((X*A)*(Y*B)) = ((A*B)*(A*B))*(Y*Y - X*X - 1 - d*(X*X)*(Y*Y)) := by grind
theorem ag_clo {α : Type} [Lean.Grind.CommRing α] {d i : α} {iv : α → α} (h : ag_F d i iv) {p q : α × α} (hp : ag_on d p) (hq : ag_on d q) : ag_on d (ag_add d iv p q) := by
  obtain ⟨x1, y1⟩ := p
  obtain ⟨x2, y2⟩ := q
  have n1 := ag_np h hp hq
  have n2 := ag_nm h hp hq
  dsimp only [ag_on] at hp hq n1 n2 ⊢
  have hX : (ag_add d iv (x1, y1) (x2, y2)).1 * (1 + d*x1*y1*x2*y2) = x1*y2 + y1*x2 := ag_dv h n1
  have hY : (ag_add d iv (x1, y1) (x2, y2)).2 * (1 - d*x1*y1*x2*y2) = y1*y2 + x1*x2 := ag_dv h n2
  generalize (ag_add d iv (x1, y1) (x2, y2)).1 = X at hX ⊢
  generalize (ag_add d iv (x1, y1) (x2, y2)).2 = Y at hY ⊢
  have c := ag_cl d x1 y1 x2 y2
  rw [hp, hq] at c
  rw [← hX, ← hY, ag_cl2] at c
  have nn := ag_nz h (ag_nz h n1 n2) (ag_nz h n1 n2)
  refine ag_can h nn ?_
  rw [c]
  grind
theorem ag_as2 {α : Type} [Lean.Grind.CommRing α] (d A B C F X Y U V x1 y1 x3 y3 : α) : (A*B*C*F) * ((X*y3 + Y*x3)*(1 + d*x1*y1*U*V)) = ((X*A)*B*y3 + (Y*B)*A*x3)*(C*F + d*x1*y1*(U*C)*(V*F)) := by grind
theorem ag_as3 {α : Type} [Lean.Grind.CommRing α] (d A B C F X Y U V x1 y1 x3 y3 : α) : (A*B*C*F) * ((x1*V + y1*U)*(1 + d*X*Y*x3*y3)) = (x1*(V*F)*C + y1*(U*C)*F)*(A*B + d*(X*A)*(Y*B)*x3*y3) := by grind
theorem ag_as4 {α : Type} [Lean.Grind.CommRing α] (d A B C F X Y U V x1 y1 x3 y3 : α) : (A*B*C*F) * ((Y*y3 + X*x3)*(1 - d*x1*y1*U*V)) = ((Y*B)*A*y3 + (X*A)*B*x3)*(C*F - d*x1*y1*(U*C)*(V*F)) := by grind
theorem ag_as5 {α : Type} [Lean.Grind.CommRing α] (d A B C F X Y U V x1 y1 x3 y3 : α) : (A*B*C*F) * ((y1*V + x1*U)*(1 - d*X*Y*x3*y3)) = (y1*(V*F)*C + x1*(U*C)*F)*(A*B - d*(X*A)*(Y*B)*x3*y3) := by grind
theorem ag_fin {α : Type} [Lean.Grind.CommRing α] {a b c1 c2 c3 : α} (h : a - b = c1 * 0 + c2 * 0 + c3 * 0) : a = b := by grind
theorem ag_ass {α : Type} [Lean.Grind.CommRing α] {d i : α} {iv : α → α} (h : ag_F d i iv) {p q r : α × α} (hp : ag_on d p) (hq : ag_on d q) (hr : ag_on d r) : ag_add d iv (ag_add d iv p q) r = ag_add d iv p (ag_add d iv q r) := by
  have hpq := ag_clo h hp hq
  have hqr := ag_clo h hq hr
  obtain ⟨x1, y1⟩ := p
  obtain ⟨x2, y2⟩ := q
  obtain ⟨x3, y3⟩ := r
  have n1 := ag_np h hp hq
  have n2 := ag_nm h hp hq
  have n3 := ag_np h hq hr
  have n4 := ag_nm h hq hr
  have n5 := ag_np h hpq hr
  have n6 := ag_nm h hpq hr
  have n7 := ag_np h hp hqr
  have n8 := ag_nm h hp hqr
  dsimp only [ag_on] at hp hq hr n1 n2 n3 n4 n5 n6 n7 n8
  have hX : (ag_add d iv (x1, y1) (x2, y2)).1 * (1 + d*x1*y1*x2*y2) = x1*y2 + y1*x2 := ag_dv h n1
  have hY : (ag_add d iv (x1, y1) (x2, y2)).2 * (1 - d*x1*y1*x2*y2) = y1*y2 + x1*x2 := ag_dv h n2
  have hU : (ag_add d iv (x2, y2) (x3, y3)).1 * (1 + d*x2*y2*x3*y3) = x2*y3 + y2*x3 := ag_dv h n3
  have hV : (ag_add d iv (x2, y2) (x3, y3)).2 * (1 - d*x2*y2*x3*y3) = y2*y3 + x2*x3 := ag_dv h n4
  generalize ag_add d iv (x1, y1) (x2, y2) = PQ at hX hY n5 n6 ⊢
  generalize ag_add d iv (x2, y2) (x3, y3) = QR at hU hV n7 n8 ⊢
  obtain ⟨X, Y⟩ := PQ
  obtain ⟨U, V⟩ := QR
  dsimp only at hX hY hU hV n5 n6 n7 n8
  have nn := ag_nz h (ag_nz h (ag_nz h n1 n2) n3) n4
  have c1 := ag_ax d x1 y1 x2 y2 x3 y3
  have c2 := ag_ay d x1 y1 x2 y2 x3 y3
  rw [hp, hq, hr] at c1 c2
  rw [← hX, ← hY, ← hU, ← hV] at c1 c2
  rw [← ag_as2, ← ag_as3] at c1
  rw [← ag_as4, ← ag_as5] at c2
  refine Prod.ext ?_ ?_
  · exact ag_qq h n5 n7 (ag_can h nn (ag_fin c1))
  · exact ag_qq h n6 n8 (ag_can h nn (ag_fin c2))
theorem ag_com {α : Type} [Lean.Grind.CommRing α] (d : α) (iv : α → α) (p q : α × α) : ag_add d iv p q = ag_add d iv q p := by
  obtain ⟨x1, y1⟩ := p
  obtain ⟨x2, y2⟩ := q
  have e1 : x1*y2 + y1*x2 = x2*y1 + y2*x1 := by grind
  have e2 : d*x1*y1*x2*y2 = d*x2*y2*x1*y1 := by grind
  have e3 : y1*y2 + x1*x2 = y2*y1 + x2*x1 := by grind
  show (((x1*y2 + y1*x2) * iv (1 + d*x1*y1*x2*y2)), ((y1*y2 + x1*x2) * iv (1 - d*x1*y1*x2*y2))) = (((x2*y1 + y2*x1) * iv (1 + d*x2*y2*x1*y1)), ((y2*y1 + x2*x1) * iv (1 - d*x2*y2*x1*y1)))
  rw [e1, e2, e3]
theorem ag_one {α : Type} [Lean.Grind.CommRing α] {d i : α} {iv : α → α} (h : ag_F d i iv) : iv 1 = 1 := by
  have h0 : (1 : α) ≠ 0 := by
    intro e
    refine h.2.2.2 ?_
    have q : (2 : α) = 1 + 1 := by grind
    rw [q, e]
    grind
  have h1 := h.1 1 h0
  grind
theorem ag_zer {α : Type} [Lean.Grind.CommRing α] {d i : α} {iv : α → α} (h : ag_F d i iv) (p : α × α) : ag_add d iv p (0, 1) = p := by
  obtain ⟨x1, y1⟩ := p
  have e1 : (1 : α) + d*x1*y1*0*1 = 1 := by grind
  have e2 : (1 : α) - d*x1*y1*0*1 = 1 := by grind
  show (((x1*1 + y1*0) * iv (1 + d*x1*y1*0*1)), ((y1*1 + x1*0) * iv (1 - d*x1*y1*0*1))) = (x1, y1)
  rw [e1, e2, ag_one h]
  refine Prod.ext ?_ ?_
  · show (x1*1 + y1*0) * 1 = x1
    grind
  · show (y1*1 + x1*0) * 1 = y1
    grind
theorem ag_neg {α : Type} [Lean.Grind.CommRing α] {d i : α} {iv : α → α} (h : ag_F d i iv) {p : α × α} (hp : ag_on d p) : ag_on d (-p.1, p.2) ∧ ag_add d iv p (-p.1, p.2) = (0, 1) := by
  obtain ⟨x1, y1⟩ := p
  have hn : ag_on d (-x1, y1) := by
    have hp' : y1*y1 - x1*x1 - 1 - d*(x1*x1)*(y1*y1) = 0 := hp
    show y1*y1 - -x1 * -x1 - 1 - d*(-x1 * -x1)*(y1*y1) = 0
    grind
  refine ⟨hn, ?_⟩
  have n2 := ag_nm h hp hn
  have n1 := ag_np h hp hn
  dsimp only at n1 n2
  show (((x1*y1 + y1 * -x1) * iv (1 + d*x1*y1 * -x1 * y1)), ((y1*y1 + x1 * -x1) * iv (1 - d*x1*y1 * -x1 * y1))) = (0, 1)
  have hp' : y1*y1 - x1*x1 - 1 - d*(x1*x1)*(y1*y1) = 0 := hp
  refine Prod.ext ?_ ?_
  · show (x1*y1 + y1 * -x1) * iv (1 + d*x1*y1 * -x1 * y1) = 0
    have e : x1*y1 + y1 * -x1 = 0 := by grind
    rw [e]
    grind
  · show (y1*y1 + x1 * -x1) * iv (1 - d*x1*y1 * -x1 * y1) = 1
    have e : y1*y1 + x1 * -x1 = 1 - d*x1*y1 * -x1 * y1 := by grind
    rw [e]
    exact h.1 _ n2
