section
variable {L d nc ns k i g : Nat} {I : eb_A → Nat → Int32} {J : eb_A → Nat → Int64} {C : Nat → Nat → Nat} {mt mk : Option Nat} {M : eb_M} {R : eb_A → Nat → Option eb_A}
theorem x_within {v a b : Int32} : eb_ev L (d + 1) 127 [zi v, zi a, zi b] M = some (zi (if a ≤ v ∧ v ≤ b then 1 else 0), M) := by
  rw [h127]
  simp only [e127_0, e127_1, e127_2, e127_5, e127_6, e127_7, e127_10, e127_11, e127_14, e127_15]
  trace_state
  sorry
theorem x_isFull : eb_ev L (d + 1) 12 [zr (6, k, i)] (nc, ns, I, J, R) = some (zi (if I (6, k, i) 7 < I (6, k, i) 2 then 0 else 1), (nc, ns, I, J, R)) := by
  rw [h12]
  simp only [e12_0, e12_1, e12_4, e12_5, e12_8, e12_11, e12_12, e12_15, e12_16, tyX, if_true, if_pos]
  split <;> simp
theorem x_joyOfHead : eb_ev L (d + 2) 13 [zr (6, k, i)] (nc, ns, I, J, R) = some (zi (I (6, k, i) 0 - I (6, k, i) 3 - (if I (6, k, i) 7 < I (6, k, i) 2 then 0 else 20)), (nc, ns, I, J, R)) := by
  rw [h13]
  simp only [e13_0, e13_1, e13_4, e13_5, e13_8, e13_9, e13_10, e13_13, e13_16, e13_18, e13_21, e13_22, e13_23, tyX, if_true, x_isFull, Option.bind_some]
  split <;> simp
end
