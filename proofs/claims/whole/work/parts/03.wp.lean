/-! What a run comes to, as a condition on its end. -/
section WPS
variable {V : Nat → Option AE} {cd : Nat → Nat → Option Op} {mx : Nat → Nat}
def WP (V : Nat → Option AE) (cd : Nat → Nat → Option Op) (mx : Nat → Nat) (d y : Nat) (as : List Value) (h : HS) (Q : Option Value → HS → Prop) : Prop := ∃ F r h', ev V cd mx F d y as h = some (r, h') ∧ Q r h'
def wp (V : Nat → Option AE) (cd : Nat → Nat → Option Op) (mx : Nat → Nat) (d y pc : Nat) (ls : Lc) (st : List Value) (h : HS) (Q : Option Value → HS → Prop) : Prop := ∃ F n r h', run V cd (ev V cd mx F d) y n pc ls st h = some (r, h') ∧ Q r h'
def wpo (V : Nat → Option AE) (cd : Nat → Nat → Option Op) (mx : Nat → Nat) (d y pc : Nat) (ls : Lc) (h : HS) (Q : Option Value → HS → Prop) : Option Rs → Prop
  | none => False
  | some (.inl (pc', ls', st', h')) => wp V cd mx d y pc' ls' st' h' Q
  | some (.inr (.inl v)) => Q v h
  | some (.inr (.inr (y', as, rest))) => WP V cd mx d y' as h (fun r h' => wp V cd mx d y (pc + 3) ls (r.toList ++ rest) h' Q)
theorem wp_step {d y pc : Nat} {ls : Lc} {st : List Value} {h : HS} {Q : Option Value → HS → Prop} {op : Op} (hop : cd y pc = some op) : wp V cd mx d y pc ls st h Q ↔ wpo V cd mx d y pc ls h Q (op V pc ls st h) := by
  constructor
  · rintro ⟨F, n, r, h', e, q⟩
    cases n with
    | zero => simp [run] at e
    | succ n =>
      simp only [run, hop] at e
      cases hr : op V pc ls st h with
      | none => rw [hr] at e; cases e
      | some x =>
        rw [hr] at e
        rcases x with ⟨pc', ls', st', h1⟩ | v | ⟨y', as, rest⟩
        · exact ⟨F, n, r, h', e, q⟩
        · simp only at e
          cases e
          exact q
        · simp only at e
          cases hc : ev V cd mx F d y' as h with
          | none => rw [hc] at e; cases e
          | some o =>
            rw [hc] at e
            obtain ⟨r1, h1⟩ := o
            exact ⟨F, r1, h1, hc, F, n, r, h', e, q⟩
  · intro w
    cases hr : op V pc ls st h with
    | none => rw [hr] at w; exact w.elim
    | some x =>
      rw [hr] at w
      rcases x with ⟨pc', ls', st', h1⟩ | v | ⟨y', as, rest⟩
      · obtain ⟨F, n, r, h', e, q⟩ := w
        exact ⟨F, n + 1, r, h', by simp only [run, hop, hr]; exact e, q⟩
      · exact ⟨0, 1, v, h, by simp only [run, hop, hr], w⟩
      · obtain ⟨F1, r1, h1, e1, F2, n, r, h', e, q⟩ := w
        have e1' : ev V cd mx (max F1 F2) d y' as h = some (r1, h1) := ev_mono (Nat.le_max_left _ _) d d (Nat.le_refl _) _ _ _ _ e1
        have e' := run_mono (c2 := ev V cd mx (max F1 F2) d) (fun y as h o => ev_mono (Nat.le_max_right _ _) d d (Nat.le_refl _) y as h o) n n (Nat.le_refl _) _ _ _ _ _ e
        exact ⟨max F1 F2, n + 1, r, h', by simp only [run, hop, hr, e1']; exact e', q⟩
theorem WP_eq {d y : Nat} {as : List Value} {h : HS} {Q : Option Value → HS → Prop} (hl : (lay as).length ≤ mx y) : WP V cd mx (d + 1) y as h Q ↔ wp V cd mx d y 0 (entry (mx y) as) [] h Q := by
  constructor
  · rintro ⟨F, r, h', e, q⟩
    simp only [ev, if_pos hl] at e
    exact ⟨F, F, r, h', e, q⟩
  · rintro ⟨F, n, r, h', e, q⟩
    refine ⟨max F n, r, h', ?_, q⟩
    simp only [ev, if_pos hl]
    exact run_mono (fun y as h o => ev_mono (Nat.le_max_left _ _) d d (Nat.le_refl _) y as h o) n _ (Nat.le_max_right _ _) _ _ _ _ _ e
theorem WP.mono {d d' y : Nat} (hd : d ≤ d') {as : List Value} {h : HS} {Q Q' : Option Value → HS → Prop} (hw : WP V cd mx d y as h Q) (hq : ∀ r h', Q r h' → Q' r h') : WP V cd mx d' y as h Q' := by
  obtain ⟨F, r, h', e, q⟩ := hw
  exact ⟨F, r, h', ev_mono (Nat.le_refl _) d d' hd _ _ _ _ e, hq _ _ q⟩
theorem wp.mono {d y pc : Nat} {ls : Lc} {st : List Value} {h : HS} {Q Q' : Option Value → HS → Prop} (hw : wp V cd mx d y pc ls st h Q) (hq : ∀ r h', Q r h' → Q' r h') : wp V cd mx d y pc ls st h Q' := by
  obtain ⟨F, n, r, h', e, q⟩ := hw
  exact ⟨F, n, r, h', e, hq _ _ q⟩
end WPS
