/-! positions in a list without repeats -/
def ixo : List Nat → Nat → Nat
  | [], _ => 0
  | b :: l, a => if a = b then 0 else ixo l a + 1
theorem ixo_get : ∀ (l : List Nat), l.Nodup → ∀ i (h : i < l.length), ixo l (l[i]'h) = i
  | [], _, i, h => absurd h (Nat.not_lt_zero _)
  | b :: l, hn, 0, h => if_pos rfl
  | b :: l, hn, i + 1, h => by
    have hn' := List.nodup_cons.mp hn
    have hi : i < l.length := by simpa using h
    have e : (b :: l)[i + 1]'h = l[i]'hi := rfl
    rw [e]
    unfold ixo
    rw [if_neg (fun q => hn'.1 (by rw [← q]; exact List.getElem_mem hi)), ixo_get l hn'.2 i hi]
theorem nodup_push {l : List Nat} {a : Nat} (h : l.Nodup) (ha : a ∉ l) : (l ++ [a]).Nodup := by
  rw [List.nodup_append]
  refine ⟨h, by simp, ?_⟩
  intro x hx y hy e
  rw [List.mem_singleton] at hy
  subst hy; subst e
  exact ha hx
