/-! cells that are made: a new one stands behind the others -/
theorem ty_uniq {D : va_G} {cl : List vw_C} {tys : List (ClassId × FieldType)} {s : State} {i j : Nat} {c1 c2 : ClassId} {ty : FieldType} (hK : va_K D cl tys s) (h1 : tys[i]? = some (c1, ty)) (h2 : tys[j]? = some (c2, ty)) : c1 = c2 := by
  have a := (hK.2 i _ h1).2
  have b := (hK.2 j _ h2).2
  cases ty with
  | object C =>
    obtain ⟨_, _, _, _, _, a4⟩ := a
    obtain ⟨_, _, _, _, _, b4⟩ := b
    exact Option.some.inj (a4.symm.trans b4)
  | _ => exact Option.some.inj (Eq.trans (Eq.symm a) b)
theorem w_last {ws : va_W} {q : Nat} {e : va_E} : (ws ++ [(q, e)])[ws.length]? = some (q, e) := by
  rw [List.getElem?_append_right (Nat.le_refl _), Nat.sub_self]; rfl
theorem w_ne {A : Nat → Prop} {ws : va_W} {q : Nat} {e : va_E} (hD : va_D A (ws ++ [(q, e)])) {k : Nat} {p : Nat × va_E} (hk : ws[k]? = some p) : p.1 ≠ q := by
  intro h
  have h1 : (ws ++ [(q, e)])[k]? = some p := ap_getl hk
  have h3 := hD.1 k ws.length p (q, e) h1 w_last h
  have hl := (List.getElem?_eq_some_iff.mp hk).1
  omega
theorem w_tail {D : va_G} {ws : va_W} {q : Nat} {e e' : va_E} {A : Nat → Prop} {H H1 : Heap} (hP : va_P D vwCl (ws ++ [(q, e)]) H) (hD : va_D A (ws ++ [(q, e)])) (hk1 : ∀ a : Nat, a < H.size → ¬ va_A [(q, e)] H.size a → H1[a]? = H[a]?) (hP1 : va_P D vwCl [(q, e')] H1) : va_P D vwCl (ws ++ [(q, e')]) H1 ∧ va_D A (ws ++ [(q, e')]) := by
  have hPw : va_P D vwCl ws H := fun k p hk => hP k p (ap_getl hk)
  constructor
  · refine va_P.app (hPw.kept (fun k p hk => hk1 p.1 ((hPw k p hk).lt) (fun h => ?_))) hP1
    rcases h with ⟨i, e2, hi⟩ | h
    · have hi0 : i = 0 := by
        have := (List.getElem?_eq_some_iff.mp hi).1
        simp at this
        exact this
      subst hi0
      exact w_ne hD hk (Prod.mk.inj (Option.some.inj hi)).1.symm
    · exact absurd ((hPw k p hk).lt) (Nat.not_lt.mpr h)
  · have h2 := hD.set (e := e') w_last
    have e3 : (ws ++ [(q, e)]).set ws.length (q, e') = ws ++ [(q, e')] := by
      rw [List.set_append_right _ _ (Nat.le_refl _), Nat.sub_self]; rfl
    rw [e3] at h2
    exact h2
section CLN
variable {p : Program} {l : Launch} {e0 : Env} {R : Room} {s : State} {m : MethodId} {args : Array Value} {below : List Frame} {meth : Method} {c : Code} {H H0 : Heap} {locs : List Loc} {cells slots mc ms pc : Nat} {Q : State → Prop} {ls : Array Slot} {rest st0 : List Value} {a : Array Value} {A : Nat → Prop} {D : va_G} {tys : List (ClassId × FieldType)} {ws : va_W} {q : Nat} {e e' : va_E}
/-- a constructor on the cell just made -/
theorem cl_tail (hr : va_Run p l e0 R s m args below meth c H locs cells slots mc ms (F0 m pc ls st0) rest (va_Qv (fun _ : Unit => True) (fun _ t => wO D tys (va_A [(q, e)] H.size) [(q, e')] t) (va_A [(q, e)] H.size) a) (va_A [(q, e)] H.size)) (hP : va_P D vwCl (ws ++ [(q, e)]) H) (hD : va_D A (ws ++ [(q, e)])) (hS : va_S A H0 H locs) (hA : ∀ q, H0.size ≤ q → A q)
    (kk : ∀ (H1 : Heap) (locs1 : List Loc), va_P D vwCl (ws ++ [(q, e')]) H1 → va_D A (ws ++ [(q, e')]) → va_S A H0 H1 locs1 → W p l e0 R s m args below meth c H1 locs1 (cells + mc) (slots + ms) Q (F0 m (pc + 3) ls rest)) : W p l e0 R s m args below meth c H locs cells slots Q (F0 m pc ls st0) := by
  have hF : ∀ b, va_A [(q, e)] H.size b → A b := by
    intro b h
    rcases h with ⟨i, e2, hi⟩ | h
    · have hi0 : i = 0 := by
        have := (List.getElem?_eq_some_iff.mp hi).1
        simp at this
        exact this
      subst hi0
      rw [← (Prod.mk.inj (Option.some.inj hi)).1]
      exact hD.2 _ _ w_last
    · exact hA b (Nat.le_trans hS.1 h)
  refine va_callv hr hS (fun b _ h => hF b h) hF (fun u t H1 locs1 ht hvm hw hB hz1 hk1 hS => ?_)
  obtain ⟨hP1, -, -⟩ := hB
  rw [ht] at hP1
  obtain ⟨a1, a2⟩ := w_tail hP hD hk1 hP1
  exact kk H1 locs1 a1 a2 hS
/-- a method that makes one object out of nothing -/
theorem cl_new (hr : va_Run p l e0 R s m args below meth c H locs cells slots mc ms (F0 m pc ls st0) rest (va_Qr (fun _ : Unit => True) (fun _ b t => wO D tys (va_A [] H.size) [(b, e)] t) (va_A [] H.size) a) (va_A [] H.size)) (hP : va_P D vwCl ws H) (hD : va_D A ws) (hS : va_S A H0 H locs) (hA : ∀ q, H0.size ≤ q → A q)
    (kk : ∀ (b : Nat) (H1 : Heap) (locs1 : List Loc), va_P D vwCl (ws ++ [(b, e)]) H1 → va_D A (ws ++ [(b, e)]) → va_S A H0 H1 locs1 → W p l e0 R s m args below meth c H1 locs1 (cells + mc) (slots + ms) Q (F0 m (pc + 3) ls (.ref b :: rest))) : W p l e0 R s m args below meth c H locs cells slots Q (F0 m pc ls st0) := by
  have hF : ∀ b, va_A [] H.size b → A b := by
    intro b h
    rcases h with ⟨i, e2, hi⟩ | h
    · simp at hi
    · exact hA b (Nat.le_trans hS.1 h)
  refine va_callr hr hS (fun b _ h => hF b h) hF (fun u b t H1 locs1 ht hvm hw hB hz1 hk1 hS => ?_)
  obtain ⟨hP1, -, hD1⟩ := hB
  rw [ht] at hP1
  have hb : H.size ≤ b := by
    rcases hD1.2 0 _ rfl with ⟨i, e2, hi⟩ | h
    · simp at hi
    · exact h
  refine kk b H1 locs1 (va_P.app (hP.kept (fun k z hk => hk1 z.1 ((hP k z hk).lt) (fun h => ?_))) hP1) (va_D.app hD (hD1.weaken (fun _ _ _ h => hF _ h)) (fun i j z w hi hj => ?_)) hS
  · rcases h with ⟨i, e2, hi⟩ | h
    · simp at hi
    · exact absurd ((hP k z hk).lt) (Nat.not_lt.mpr h)
  · have hj0 : j = 0 := by
      have := (List.getElem?_eq_some_iff.mp hj).1
      simp at this
      exact this
    subst hj0
    have := (hP i z hi).lt
    have hw : (b, e) = w := Option.some.inj hj
    rw [← hw]
    exact Nat.ne_of_lt (Nat.lt_of_lt_of_le this hb)
end CLN
theorem va_P_perm {D : va_G} {ws ws' : va_W} {H : Heap} (hp : ws.Perm ws') (h : va_P D vwCl ws H) : va_P D vwCl ws' H := by
  intro k q hk
  obtain ⟨i, hi⟩ := List.getElem?_of_mem (hp.mem_iff.mpr (List.mem_of_getElem? hk))
  exact h i q hi
theorem va_D_pair {A : Nat → Prop} {ws : va_W} : va_D A ws ↔ ws.Pairwise (fun p q => p.1 ≠ q.1) ∧ ∀ q ∈ ws, A q.1 := by
  constructor
  · intro h
    refine ⟨?_, fun q hq => ?_⟩
    · rw [List.pairwise_iff_getElem]
      intro i j hi hj hij hne
      have := h.1 i j _ _ (List.getElem?_eq_getElem hi) (List.getElem?_eq_getElem hj) hne
      omega
    · obtain ⟨i, hi⟩ := List.getElem?_of_mem hq
      exact h.2 i q hi
  · rintro ⟨h1, h2⟩
    refine ⟨fun i j p q hi hj e => ?_, fun k q hk => h2 q (List.mem_of_getElem? hk)⟩
    rw [List.pairwise_iff_getElem] at h1
    obtain ⟨hi', hi2⟩ := List.getElem?_eq_some_iff.mp hi
    obtain ⟨hj', hj2⟩ := List.getElem?_eq_some_iff.mp hj
    rcases Nat.lt_trichotomy i j with g | g | g
    · exact absurd (by rw [hi2, hj2]; exact e) (h1 i j hi' hj' g)
    · exact g
    · exact absurd (by rw [hi2, hj2]; exact e.symm) (h1 j i hj' hi' g)
theorem va_D_perm {A : Nat → Prop} {ws ws' : va_W} (hp : ws.Perm ws') (h : va_D A ws) : va_D A ws' := by
  rw [va_D_pair] at h ⊢
  exact ⟨(hp.pairwise_iff (fun {_ _} q e => q e.symm)).mp h.1, fun q hq => h.2 q (hp.mem_iff.mpr hq)⟩
