/-! a loop over the heap, by a number that falls -/
theorem jn_loopH {p : Program} {l : Launch} {e : Env} {R : Room} {s : State} {m : MethodId} {args : Array Value} {below : List Frame} {meth : Method} {c : Code} {cells slots : Nat} {Q : State → Prop} {α : Type} {I : Nat → Heap → List Loc → α → Prop} {P : α → JFrame} (step : ∀ (n : Nat) (H : Heap) (locs : List Loc) (a : α), I n H locs a → (∀ (n' : Nat) (H' : Heap) (locs' : List Loc) (a' : α), n = n' + 1 → I n' H' locs' a' → W p l e R s m args below meth c H' locs' cells slots Q (P a')) → W p l e R s m args below meth c H locs cells slots Q (P a)) : ∀ (n : Nat) (H : Heap) (locs : List Loc) (a : α), I n H locs a → W p l e R s m args below meth c H locs cells slots Q (P a) := by
  intro n
  induction n with
  | zero => intro H locs a h; exact step 0 H locs a h (fun n' _ _ _ e => absurd e (by omega))
  | succ n ih => intro H locs a h; exact step (n + 1) H locs a h (fun n' H' locs' a' e hi => by cases e; exact ih H' locs' a' hi)
