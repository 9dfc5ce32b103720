/-! What leaves the other's cells alone. -/
theorem RWd_m {W : Wld} {D E : KK} (h : RWd W D) (g : ∀ x k, 479 ≤ x → E x k = D x k) : RWd W E := by
  have h479 : E 479 = D 479 := funext (fun k => g 479 k (by omega))
  have h480 : E 480 = D 480 := funext (fun k => g 480 k (by omega))
  have h481 : E 481 = D 481 := funext (fun k => g 481 k (by omega))
  have h483 : E 483 = D 483 := funext (fun k => g 483 k (by omega))
  have h484 : E 484 = D 484 := funext (fun k => g 484 k (by omega))
  have h485 : E 485 = D 485 := funext (fun k => g 485 k (by omega))
  have h486 : E 486 = D 486 := funext (fun k => g 486 k (by omega))
  have h487 : E 487 = D 487 := funext (fun k => g 487 k (by omega))
  have h488 : E 488 = D 488 := funext (fun k => g 488 k (by omega))
  have h489 : E 489 = D 489 := funext (fun k => g 489 k (by omega))
  have h490 : E 490 = D 490 := funext (fun k => g 490 k (by omega))
  have h491 : E 491 = D 491 := funext (fun k => g 491 k (by omega))
  have h492 : E 492 = D 492 := funext (fun k => g 492 k (by omega))
  have h493 : E 493 = D 493 := funext (fun k => g 493 k (by omega))
  have h494 : E 494 = D 494 := funext (fun k => g 494 k (by omega))
  have h495 : E 495 = D 495 := funext (fun k => g 495 k (by omega))
  have h496 : E 496 = D 496 := funext (fun k => g 496 k (by omega))
  have h497 : E 497 = D 497 := funext (fun k => g 497 k (by omega))
  have h498 : E 498 = D 498 := funext (fun k => g 498 k (by omega))
  have h499 : E 499 = D 499 := funext (fun k => g 499 k (by omega))
  have h500 : E 500 = D 500 := funext (fun k => g 500 k (by omega))
  have h501 : E 501 = D 501 := funext (fun k => g 501 k (by omega))
  have h502 : E 502 = D 502 := funext (fun k => g 502 k (by omega))
  have h503 : E 503 = D 503 := funext (fun k => g 503 k (by omega))
  have h504 : E 504 = D 504 := funext (fun k => g 504 k (by omega))
  have h505 : E 505 = D 505 := funext (fun k => g 505 k (by omega))
  have h507 : E 507 = D 507 := funext (fun k => g 507 k (by omega))
  have h515 : E 515 = D 515 := funext (fun k => g 515 k (by omega))
  obtain ⟨a1, a2, a3, a4, a5, a6, a7⟩ := h
  refine ⟨?_, ?_, a3.fr (fun x k q => g x k (by omega)), fun j hj => (g 498 j (by omega)).trans (a4 j hj), (g 479 44 (by omega)).trans a5, (g 479 45 (by omega)).trans a6, ?_⟩
  · obtain ⟨b1, b2, b3, b4, b5, b6, b7⟩ := a1
    refine ⟨by rw [h480]; exact b1, ?_, by rw [h479]; exact b3, b4, by rw [h496]; exact b5, ?_, ?_⟩
    · unfold RCf at b2 ⊢
      simp only [h479, h480, h481, h483, h484, h485, h486, h487, h488, h489, h490, h491, h492, h493, h494, h495, h496, h497, h498, h499, h500, h501, h502, h503, h504, h505, h507, h515]
      exact b2
    · unfold RU at b6 ⊢
      simp only [h479, h480, h481, h483, h484, h485, h486, h487, h488, h489, h490, h491, h492, h493, h494, h495, h496, h497, h498, h499, h500, h501, h502, h503, h504, h505, h507, h515]
      exact b6
    · intro x k
      intros
      rfl
  · obtain ⟨b1, b2, b3, b4, b5, b6, b7, b8⟩ := a2
    refine ⟨by rw [h480]; exact b1, ?_, by rw [h496]; exact b3, ?_, by rw [h494, h495]; exact b5, b6.fr (fun x k q1 _ => g x k (by omega)), b7.fr (fun x k q1 _ => g x k (by omega)), ?_⟩
    · unfold RCf at b2 ⊢
      simp only [h479, h480, h481, h483, h484, h485, h486, h487, h488, h489, h490, h491, h492, h493, h494, h495, h496, h497, h498, h499, h500, h501, h502, h503, h504, h505, h507, h515]
      exact b2
    · unfold YR at b4 ⊢
      simp only [h479, h480, h481, h483, h484, h485, h486, h487, h488, h489, h490, h491, h492, h493, h494, h495, h496, h497, h498, h499, h500, h501, h502, h503, h504, h505, h507, h515]
      exact b4
    · unfold PlR StR at b8 ⊢
      simp only [h479, h480, h481, h483, h484, h485, h486, h487, h488, h489, h490, h491, h492, h493, h494, h495, h496, h497, h498, h499, h500, h501, h502, h503, h504, h505, h507, h515]
      exact b8
  · cases hm : W.im with
    | none =>
      rw [hm] at a7
      exact (g 479 63 (by omega)).trans a7
    | some s =>
      rw [hm] at a7
      obtain ⟨c1, Dm, c2, c3⟩ := a7
      exact ⟨(g 479 63 (by omega)).trans c1, Dm, c2, fun j hj => (g 515 j (by omega)).trans (c3 j hj)⟩
