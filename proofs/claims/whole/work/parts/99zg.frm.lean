section RUG
variable {n : Nat} {tx : Nat → Int}
/-- an instruction's fields as its form gives them -/
def prF (tx : Nat → Int) (n o : Nat) (x : MD) : PS := prI tx n (wfm (o + 5)) (x, dfl, 0, 0) (wfm (o + 5)).length
def V10 (F : Nat → Int) (z1 z2 z3 z4 z5 z6 z7 z8 z9 : Int) : Prop := F 1 = z1 ∧ F 2 = z2 ∧ F 3 = z3 ∧ F 4 = z4 ∧ F 5 = z5 ∧ F 6 = z6 ∧ F 7 = z7 ∧ F 8 = z8 ∧ F 9 = z9 ∧ F 10 = -1
theorem wfm_9 : ∀ i : Fin 3, wfm (i.val + 14) = [112, 120, 58, 76, 113, 121, 61] := by decide +kernel
theorem wfm_12 : ∀ i : Fin 2, wfm (i.val + 17) = [112, 120, 58, 76, 113, 121] := by decide +kernel
theorem wfm_x : wfm 19 = [112, 120, 58, 108, 115, 100] ∧ wfm 20 = [112, 120, 58, 108] ∧ wfm 21 = [37, 114, 112, 120, 56] ∧ wfm 22 = [37, 114, 112, 120, 56] ∧ wfm 23 = [37, 114, 112, 120] ∧ wfm 24 = [37, 114, 43] ∧ wfm 25 = [37, 114, 110] ∧ wfm 26 = [111, 110] ∧ wfm 27 = [103, 78] ∧ wfm 28 = [] ∧ wfm 29 = [] := by decide +kernel
theorem prF_2 {x : MD} {o : Nat} (ho : o ≤ 8) : (prF tx n o x).1 = (fdM tx n (fdM tx n x 16).1 16).1 ∧ ∀ T, (prF tx n o x).1 = .inr T → V10 (prF tx n o x).2.1 (fdM tx n x 16).2.1 (fdM tx n x 16).2.2.1 (fdM tx n x 16).2.2.2 (fdM tx n (fdM tx n x 16).1 16).2.1 (fdM tx n (fdM tx n x 16).1 16).2.2.1 (fdM tx n (fdM tx n x 16).1 16).2.2.2 0 0 0 ∧ (prF tx n o x).2.2.1 = 0 := by
  unfold prF
  rw [prI_two (by omega) (by omega)]
  obtain ⟨a1, a2, a3⟩ := pcM_fd (tx := tx) (n := n) (c := 112) (d := 120) (e := 108) (j := 1) (jl := 3) (hi := 16) (s := (x, dfl, 0, 0)) (fun _ _ _ _ => rfl) (fun _ _ _ _ => rfl) (fun _ _ _ _ => rfl)
  obtain ⟨u, hu⟩ : ∃ u, u = pcM tx n (pcM tx n (pcM tx n (pcM tx n (x, dfl, 0, 0) 112) 120) 58) 108 := ⟨_, rfl⟩
  rw [← hu] at a1 a2 a3 ⊢
  obtain ⟨b1, b2', b3⟩ := pcM_fd (tx := tx) (n := n) (c := 113) (d := 121) (e := 109) (j := 4) (jl := 6) (hi := 16) (s := u) (fun _ _ _ _ => rfl) (fun _ _ _ _ => rfl) (fun _ _ _ _ => rfl)
  obtain ⟨w, hw⟩ : ∃ w, w = pcM tx n (pcM tx n (pcM tx n (pcM tx n u 113) 121) 58) 109 := ⟨_, rfl⟩
  rw [← hw] at b1 b2' b3 ⊢
  have a1 : u.1 = (fdM tx n x 16).1 := a1
  rw [a1] at b1 b3
  refine ⟨b1, fun T h => ⟨?_, by rw [b2', a2]⟩⟩
  obtain ⟨T1, h1⟩ := (fdM_r (b1.symm.trans h)).2
  rw [b3 T h, a3 T1 (a1.trans h1)]
  exact ⟨rfl, rfl, rfl, rfl, rfl, rfl, rfl, rfl, rfl, rfl⟩
theorem prF_12a {x : MD} : (pcM tx n (pcM tx n (pcM tx n (pcM tx n (pcM tx n (pcM tx n (x, dfl, 0, 0) 112) 120) 58) 76) 113) 121).1 = (adM tx n (fdM tx n x 64).1).1 ∧ ∀ T, (pcM tx n (pcM tx n (pcM tx n (pcM tx n (pcM tx n (pcM tx n (x, dfl, 0, 0) 112) 120) 58) 76) 113) 121).1 = .inr T → (pcM tx n (pcM tx n (pcM tx n (pcM tx n (pcM tx n (pcM tx n (x, dfl, 0, 0) 112) 120) 58) 76) 113) 121).2.1 = va_up (va_up (va_up (va_up (va_up dfl 1 (fdM tx n x 64).2.1) 2 (fdM tx n x 64).2.2.1) 3 (fdM tx n x 64).2.2.2) 4 (adM tx n (fdM tx n x 64).1).2.1) 5 (adM tx n (fdM tx n x 64).1).2.2 ∧ (pcM tx n (pcM tx n (pcM tx n (pcM tx n (pcM tx n (pcM tx n (x, dfl, 0, 0) 112) 120) 58) 76) 113) 121).2.2.1 = 0 := by
  obtain ⟨a1, a2, a3⟩ := pcM_fd (tx := tx) (n := n) (c := 112) (d := 120) (e := 76) (j := 1) (jl := 3) (hi := 64) (s := (x, dfl, 0, 0)) (fun _ _ _ _ => rfl) (fun _ _ _ _ => rfl) (fun _ _ _ _ => rfl)
  obtain ⟨u, hu⟩ : ∃ u, u = pcM tx n (pcM tx n (pcM tx n (pcM tx n (x, dfl, 0, 0) 112) 120) 58) 76 := ⟨_, rfl⟩
  rw [← hu] at a1 a2 a3 ⊢
  obtain ⟨b1, b2', b3⟩ := pcM_ad (tx := tx) (n := n) (c := 113) (d := 121) (j := 4) (s := u) (fun _ _ _ _ => rfl) (fun _ _ _ _ => rfl)
  obtain ⟨w, hw⟩ : ∃ w, w = pcM tx n (pcM tx n u 113) 121 := ⟨_, rfl⟩
  rw [← hw] at b1 b2' b3 ⊢
  have a1 : u.1 = (fdM tx n x 64).1 := a1
  rw [a1] at b1 b3
  refine ⟨b1, fun T h => ⟨?_, by rw [b2', a2]⟩⟩
  obtain ⟨T1, h1⟩ := (adM_r (b1.symm.trans h)).2
  rw [b3 T h, a3 T1 (a1.trans h1)]
theorem prF_9 {x : MD} {o : Nat} (h9 : 9 ≤ o) (ho : o ≤ 11) : (prF tx n o x).1 = (adM tx n (fdM tx n x 64).1).1 ∧ ∀ T, (prF tx n o x).1 = .inr T → V10 (prF tx n o x).2.1 (fdM tx n x 64).2.1 (fdM tx n x 64).2.2.1 (fdM tx n x 64).2.2.2 (adM tx n (fdM tx n x 64).1).2.1 (adM tx n (fdM tx n x 64).1).2.2 (fdM tx n x 64).2.2.2 0 0 0 ∧ (prF tx n o x).2.2.1 = 0 := by
  have e := wfm_9 ⟨o - 9, by omega⟩
  have e : wfm (o - 9 + 14) = [112, 120, 58, 76, 113, 121, 61] := e
  rw [show o - 9 + 14 = o + 5 by omega] at e
  unfold prF
  rw [e]
  obtain ⟨a1, a3⟩ := prF_12a (tx := tx) (n := n) (x := x)
  show (pcM tx n (pcM tx n (pcM tx n (pcM tx n (pcM tx n (pcM tx n (pcM tx n (x, dfl, 0, 0) 112) 120) 58) 76) 113) 121) 61).1 = _ ∧ ∀ T, (pcM tx n (pcM tx n (pcM tx n (pcM tx n (pcM tx n (pcM tx n (pcM tx n (x, dfl, 0, 0) 112) 120) 58) 76) 113) 121) 61).1 = .inr T → V10 (pcM tx n (pcM tx n (pcM tx n (pcM tx n (pcM tx n (pcM tx n (pcM tx n (x, dfl, 0, 0) 112) 120) 58) 76) 113) 121) 61).2.1 _ _ _ _ _ _ _ _ _ ∧ (pcM tx n (pcM tx n (pcM tx n (pcM tx n (pcM tx n (pcM tx n (pcM tx n (x, dfl, 0, 0) 112) 120) 58) 76) 113) 121) 61).2.2.1 = 0
  obtain ⟨u, hu⟩ : ∃ u, u = pcM tx n (pcM tx n (pcM tx n (pcM tx n (pcM tx n (pcM tx n (x, dfl, 0, 0) 112) 120) 58) 76) 113) 121 := ⟨_, rfl⟩
  rw [← hu] at a1 a3 ⊢
  obtain ⟨b1, b2', b3⟩ := pcM_61 (tx := tx) (n := n) (s := u)
  refine ⟨b1.trans a1, fun T h => ?_⟩
  obtain ⟨c1, c2⟩ := a3 T (b1.symm.trans h)
  (rw [b3 T (b1.symm.trans h)]; (try rw [c1]); rw [b2']; (try rw [c2]))
  exact ⟨⟨rfl, rfl, rfl, rfl, rfl, rfl, rfl, rfl, rfl, rfl⟩, rfl⟩
theorem prF_12 {x : MD} {o : Nat} (h12 : 12 ≤ o) (ho : o ≤ 13) : (prF tx n o x).1 = (adM tx n (fdM tx n x 64).1).1 ∧ ∀ T, (prF tx n o x).1 = .inr T → V10 (prF tx n o x).2.1 (fdM tx n x 64).2.1 (fdM tx n x 64).2.2.1 (fdM tx n x 64).2.2.2 (adM tx n (fdM tx n x 64).1).2.1 (adM tx n (fdM tx n x 64).1).2.2 0 0 0 0 ∧ (prF tx n o x).2.2.1 = 0 := by
  have e := wfm_12 ⟨o - 12, by omega⟩
  have e : wfm (o - 12 + 17) = [112, 120, 58, 76, 113, 121] := e
  rw [show o - 12 + 17 = o + 5 by omega] at e
  unfold prF
  rw [e]
  obtain ⟨a1, a3⟩ := prF_12a (tx := tx) (n := n) (x := x)
  refine ⟨a1, fun T h => ?_⟩
  obtain ⟨c1, c2⟩ := a3 T h
  refine ⟨?_, c2⟩
  show V10 (pcM tx n (pcM tx n (pcM tx n (pcM tx n (pcM tx n (pcM tx n (x, dfl, 0, 0) 112) 120) 58) 76) 113) 121).2.1 _ _ _ _ _ _ _ _ _
  rw [c1]
  exact ⟨rfl, rfl, rfl, rfl, rfl, rfl, rfl, rfl, rfl, rfl⟩
theorem prF_14 {x : MD} : (prF tx n 14 x).1 = (numR tx n (sgM tx n (fdM tx n x 16).1 31 32).1 0 9).1 ∧ ∀ T, (prF tx n 14 x).1 = .inr T → V10 (prF tx n 14 x).2.1 (fdM tx n x 16).2.1 (fdM tx n x 16).2.2.1 (fdM tx n x 16).2.2.2 0 (-1) 0 0 (sgM tx n (fdM tx n x 16).1 31 32).2 (numR tx n (sgM tx n (fdM tx n x 16).1 31 32).1 0 9).2 ∧ (prF tx n 14 x).2.2.1 = 0 := by
  unfold prF
  rw [show wfm (14 + 5) = _ from wfm_x.1]
  obtain ⟨a1, a2, a3⟩ := pcM_fd (tx := tx) (n := n) (c := 112) (d := 120) (e := 108) (j := 1) (jl := 3) (hi := 16) (s := (x, dfl, 0, 0)) (fun _ _ _ _ => rfl) (fun _ _ _ _ => rfl) (fun _ _ _ _ => rfl)
  obtain ⟨u, hu⟩ : ∃ u, u = pcM tx n (pcM tx n (pcM tx n (pcM tx n (x, dfl, 0, 0) 112) 120) 58) 108 := ⟨_, rfl⟩
  show (pcM tx n (pcM tx n (pcM tx n (pcM tx n (pcM tx n (pcM tx n (x, dfl, 0, 0) 112) 120) 58) 108) 115) 100).1 = _ ∧ ∀ T, (pcM tx n (pcM tx n (pcM tx n (pcM tx n (pcM tx n (pcM tx n (x, dfl, 0, 0) 112) 120) 58) 108) 115) 100).1 = .inr T → V10 (pcM tx n (pcM tx n (pcM tx n (pcM tx n (pcM tx n (pcM tx n (x, dfl, 0, 0) 112) 120) 58) 108) 115) 100).2.1 _ _ _ _ _ _ _ _ _ ∧ (pcM tx n (pcM tx n (pcM tx n (pcM tx n (pcM tx n (pcM tx n (x, dfl, 0, 0) 112) 120) 58) 108) 115) 100).2.2.1 = 0
  rw [← hu] at a1 a2 a3 ⊢
  have a1 : u.1 = (fdM tx n x 16).1 := a1
  obtain ⟨b1, b2', b3⟩ := pcM_sg (tx := tx) (n := n) (c := 115) (hi := 31) (hi2 := 32) (s := u) (fun _ _ _ _ => rfl)
  obtain ⟨w, hw⟩ : ∃ w, w = pcM tx n u 115 := ⟨_, rfl⟩
  rw [← hw] at b1 b2' b3 ⊢
  rw [a1] at b1 b3
  obtain ⟨d1, d2, d3⟩ := pcM_num (tx := tx) (n := n) (c := 100) (j := 9) (lo := 0) (hi := 9) (s := w) (fun _ _ _ _ => rfl)
  rw [b1] at d1 d3
  refine ⟨d1, fun T h => ⟨?_, by ((try rw [d2]); rw [b2']; (try rw [a2]))⟩⟩
  obtain ⟨T1, h1⟩ := numR_live (d1.symm.trans h)
  obtain ⟨T2, h2⟩ := (sgM_r h1 (by omega) (by omega)).2
  rw [d3 T1 h1, b3 T2 h2, a3 T2 (a1.trans h2)]
  exact ⟨rfl, rfl, rfl, rfl, rfl, rfl, rfl, rfl, rfl, rfl⟩
theorem prF_15 {x : MD} : (prF tx n 15 x).1 = (fdM tx n x 16).1 ∧ ∀ T, (prF tx n 15 x).1 = .inr T → V10 (prF tx n 15 x).2.1 (fdM tx n x 16).2.1 (fdM tx n x 16).2.2.1 (fdM tx n x 16).2.2.2 0 (-1) 0 0 0 0 ∧ (prF tx n 15 x).2.2.1 = 0 := by
  unfold prF
  rw [show wfm (15 + 5) = _ from wfm_x.2.1]
  obtain ⟨a1, a2, a3⟩ := pcM_fd (tx := tx) (n := n) (c := 112) (d := 120) (e := 108) (j := 1) (jl := 3) (hi := 16) (s := (x, dfl, 0, 0)) (fun _ _ _ _ => rfl) (fun _ _ _ _ => rfl) (fun _ _ _ _ => rfl)
  refine ⟨a1, fun T h => ?_⟩
  show V10 (pcM tx n (pcM tx n (pcM tx n (pcM tx n (x, dfl, 0, 0) 112) 120) 58) 108).2.1 _ _ _ _ _ _ _ _ _ ∧ (pcM tx n (pcM tx n (pcM tx n (pcM tx n (x, dfl, 0, 0) 112) 120) 58) 108).2.2.1 = 0
  rw [a3 T h, a2]
  exact ⟨⟨rfl, rfl, rfl, rfl, rfl, rfl, rfl, rfl, rfl, rfl⟩, rfl⟩
theorem prF_18a {x : MD} : (pcM tx n (pcM tx n (pcM tx n (pcM tx n (x, dfl, 0, 0) 37) 114) 112) 120).1 = (adM tx n (rgM tx n x).1).1 ∧ ∀ T, (pcM tx n (pcM tx n (pcM tx n (pcM tx n (x, dfl, 0, 0) 37) 114) 112) 120).1 = .inr T → (pcM tx n (pcM tx n (pcM tx n (pcM tx n (x, dfl, 0, 0) 37) 114) 112) 120).2.1 = va_up (va_up (va_up dfl 7 (rgM tx n x).2) 1 (adM tx n (rgM tx n x).1).2.1) 2 (adM tx n (rgM tx n x).1).2.2 ∧ (pcM tx n (pcM tx n (pcM tx n (pcM tx n (x, dfl, 0, 0) 37) 114) 112) 120).2.2.1 = 0 := by
  obtain ⟨a1, a2, a3⟩ := pcM_rg (tx := tx) (n := n) (s := (x, dfl, 0, 0))
  obtain ⟨u, hu⟩ : ∃ u, u = pcM tx n (pcM tx n (x, dfl, 0, 0) 37) 114 := ⟨_, rfl⟩
  rw [← hu] at a1 a2 a3 ⊢
  have a1 : u.1 = (rgM tx n x).1 := a1
  obtain ⟨b1, b2', b3⟩ := pcM_ad (tx := tx) (n := n) (c := 112) (d := 120) (j := 1) (s := u) (fun _ _ _ _ => rfl) (fun _ _ _ _ => rfl)
  rw [a1] at b1 b3
  refine ⟨b1, fun T h => ⟨?_, by rw [b2', a2]⟩⟩
  obtain ⟨T1, h1⟩ := (adM_r (b1.symm.trans h)).2
  rw [b3 T h, a3 T1 (a1.trans h1)]
theorem prF_16 {x : MD} {o : Nat} (ho : o = 16 ∨ o = 17) : (prF tx n o x).1 = (adM tx n (rgM tx n x).1).1 ∧ ∀ T, (prF tx n o x).1 = .inr T → V10 (prF tx n o x).2.1 (adM tx n (rgM tx n x).1).2.1 (adM tx n (rgM tx n x).1).2.2 8 0 (-1) 0 (rgM tx n x).2 0 0 ∧ (prF tx n o x).2.2.1 = 0 := by
  have e : wfm (o + 5) = [37, 114, 112, 120, 56] := by
    rcases ho with rfl | rfl
    · exact wfm_x.2.2.1
    · exact wfm_x.2.2.2.1
  unfold prF
  rw [e]
  obtain ⟨a1, a3⟩ := prF_18a (tx := tx) (n := n) (x := x)
  show (pcM tx n (pcM tx n (pcM tx n (pcM tx n (pcM tx n (x, dfl, 0, 0) 37) 114) 112) 120) 56).1 = _ ∧ ∀ T, (pcM tx n (pcM tx n (pcM tx n (pcM tx n (pcM tx n (x, dfl, 0, 0) 37) 114) 112) 120) 56).1 = .inr T → V10 (pcM tx n (pcM tx n (pcM tx n (pcM tx n (pcM tx n (x, dfl, 0, 0) 37) 114) 112) 120) 56).2.1 _ _ _ _ _ _ _ _ _ ∧ (pcM tx n (pcM tx n (pcM tx n (pcM tx n (pcM tx n (x, dfl, 0, 0) 37) 114) 112) 120) 56).2.2.1 = 0
  obtain ⟨u, hu⟩ : ∃ u, u = pcM tx n (pcM tx n (pcM tx n (pcM tx n (x, dfl, 0, 0) 37) 114) 112) 120 := ⟨_, rfl⟩
  rw [← hu] at a1 a3 ⊢
  obtain ⟨b1, b2', b3⟩ := pcM_56 (tx := tx) (n := n) (s := u)
  refine ⟨b1.trans a1, fun T h => ?_⟩
  obtain ⟨c1, c2⟩ := a3 T (b1.symm.trans h)
  (rw [b3 T (b1.symm.trans h)]; (try rw [c1]); rw [b2']; (try rw [c2]))
  exact ⟨⟨rfl, rfl, rfl, rfl, rfl, rfl, rfl, rfl, rfl, rfl⟩, rfl⟩
theorem prF_18 {x : MD} : (prF tx n 18 x).1 = (adM tx n (rgM tx n x).1).1 ∧ ∀ T, (prF tx n 18 x).1 = .inr T → V10 (prF tx n 18 x).2.1 (adM tx n (rgM tx n x).1).2.1 (adM tx n (rgM tx n x).1).2.2 0 0 (-1) 0 (rgM tx n x).2 0 0 ∧ (prF tx n 18 x).2.2.1 = 0 := by
  unfold prF
  rw [show wfm (18 + 5) = _ from wfm_x.2.2.2.2.1]
  obtain ⟨a1, a3⟩ := prF_18a (tx := tx) (n := n) (x := x)
  refine ⟨a1, fun T h => ?_⟩
  obtain ⟨c1, c2⟩ := a3 T h
  refine ⟨?_, c2⟩
  show V10 (pcM tx n (pcM tx n (pcM tx n (pcM tx n (x, dfl, 0, 0) 37) 114) 112) 120).2.1 _ _ _ _ _ _ _ _ _
  rw [c1]
  exact ⟨rfl, rfl, rfl, rfl, rfl, rfl, rfl, rfl, rfl, rfl⟩
theorem prF_19 {x : MD} : (prF tx n 19 x).1 = (sgM tx n (rgM tx n x).1 9999 9999).1 ∧ ∀ T, (prF tx n 19 x).1 = .inr T → V10 (prF tx n 19 x).2.1 0 (-1) 0 0 (-1) 0 (rgM tx n x).2 (sgM tx n (rgM tx n x).1 9999 9999).2 0 ∧ (prF tx n 19 x).2.2.1 = 0 := by
  unfold prF
  rw [show wfm (19 + 5) = _ from wfm_x.2.2.2.2.2.1]
  obtain ⟨a1, a2, a3⟩ := pcM_rg (tx := tx) (n := n) (s := (x, dfl, 0, 0))
  obtain ⟨u, hu⟩ : ∃ u, u = pcM tx n (pcM tx n (x, dfl, 0, 0) 37) 114 := ⟨_, rfl⟩
  show (pcM tx n (pcM tx n (pcM tx n (x, dfl, 0, 0) 37) 114) 43).1 = _ ∧ ∀ T, (pcM tx n (pcM tx n (pcM tx n (x, dfl, 0, 0) 37) 114) 43).1 = .inr T → V10 (pcM tx n (pcM tx n (pcM tx n (x, dfl, 0, 0) 37) 114) 43).2.1 _ _ _ _ _ _ _ _ _ ∧ (pcM tx n (pcM tx n (pcM tx n (x, dfl, 0, 0) 37) 114) 43).2.2.1 = 0
  rw [← hu] at a1 a2 a3 ⊢
  have a1 : u.1 = (rgM tx n x).1 := a1
  obtain ⟨b1, b2', b3⟩ := pcM_sg (tx := tx) (n := n) (c := 43) (hi := 9999) (hi2 := 9999) (s := u) (fun _ _ _ _ => rfl)
  rw [a1] at b1 b3
  refine ⟨b1, fun T h => ⟨?_, by rw [b2', a2]⟩⟩
  obtain ⟨T2, h2⟩ := (sgM_r (b1.symm.trans h) (by omega) (by omega)).2
  rw [b3 T2 h2, a3 T2 (a1.trans h2)]
  exact ⟨rfl, rfl, rfl, rfl, rfl, rfl, rfl, rfl, rfl, rfl⟩
theorem prF_20 {x : MD} : (prF tx n 20 x).1 = (tgM tx n (rgM tx n x).1).1 ∧ ∀ T, (prF tx n 20 x).1 = .inr T → V10 (prF tx n 20 x).2.1 0 (-1) 0 0 (-1) 0 (rgM tx n x).2 0 0 ∧ (prF tx n 20 x).2.2.1 = (tgM tx n (rgM tx n x).1).2 ∧ ∃ T0, (rgM tx n x).1 = .inr T0 ∧ (prF tx n 20 x).2.2.2 = (T0.2.1 : Nat) := by
  unfold prF
  rw [show wfm (20 + 5) = _ from wfm_x.2.2.2.2.2.2.1]
  obtain ⟨a1, a2, a3⟩ := pcM_rg (tx := tx) (n := n) (s := (x, dfl, 0, 0))
  obtain ⟨u, hu⟩ : ∃ u, u = pcM tx n (pcM tx n (x, dfl, 0, 0) 37) 114 := ⟨_, rfl⟩
  show (pcM tx n (pcM tx n (pcM tx n (x, dfl, 0, 0) 37) 114) 110).1 = _ ∧ ∀ T, (pcM tx n (pcM tx n (pcM tx n (x, dfl, 0, 0) 37) 114) 110).1 = .inr T → V10 (pcM tx n (pcM tx n (pcM tx n (x, dfl, 0, 0) 37) 114) 110).2.1 _ _ _ _ _ _ _ _ _ ∧ (pcM tx n (pcM tx n (pcM tx n (x, dfl, 0, 0) 37) 114) 110).2.2.1 = _ ∧ ∃ T0, (rgM tx n x).1 = .inr T0 ∧ (pcM tx n (pcM tx n (pcM tx n (x, dfl, 0, 0) 37) 114) 110).2.2.2 = (T0.2.1 : Nat)
  rw [← hu] at a1 a2 a3 ⊢
  have a1 : u.1 = (rgM tx n x).1 := a1
  obtain ⟨b1, b3⟩ := pcM_tg (tx := tx) (n := n) (s := u)
  rw [a1] at b1 b3
  refine ⟨b1, fun T h => ?_⟩
  obtain ⟨d1, d2, T0, d3, d4⟩ := b3 T h
  rw [d1, a3 T0 (a1.trans d3)]
  exact ⟨⟨rfl, rfl, rfl, rfl, rfl, rfl, rfl, rfl, rfl, rfl⟩, d2, T0, d3, d4⟩
theorem prF_21 {x : MD} : (prF tx n 21 x).1 = (tgM tx n (numR tx n x 0 15).1).1 ∧ ∀ T, (prF tx n 21 x).1 = .inr T → V10 (prF tx n 21 x).2.1 0 (-1) 0 0 (-1) 0 0 (numR tx n x 0 15).2 0 ∧ (prF tx n 21 x).2.2.1 = (tgM tx n (numR tx n x 0 15).1).2 ∧ ∃ T0, (numR tx n x 0 15).1 = .inr T0 ∧ (prF tx n 21 x).2.2.2 = (T0.2.1 : Nat) := by
  unfold prF
  rw [show wfm (21 + 5) = _ from wfm_x.2.2.2.2.2.2.2.1]
  obtain ⟨a1, a2, a3⟩ := pcM_num (tx := tx) (n := n) (c := 111) (j := 8) (lo := 0) (hi := 15) (s := (x, dfl, 0, 0)) (fun _ _ _ _ => rfl)
  obtain ⟨u, hu⟩ : ∃ u, u = pcM tx n (x, dfl, 0, 0) 111 := ⟨_, rfl⟩
  show (pcM tx n (pcM tx n (x, dfl, 0, 0) 111) 110).1 = _ ∧ ∀ T, (pcM tx n (pcM tx n (x, dfl, 0, 0) 111) 110).1 = .inr T → V10 (pcM tx n (pcM tx n (x, dfl, 0, 0) 111) 110).2.1 _ _ _ _ _ _ _ _ _ ∧ (pcM tx n (pcM tx n (x, dfl, 0, 0) 111) 110).2.2.1 = _ ∧ ∃ T0, (numR tx n x 0 15).1 = .inr T0 ∧ (pcM tx n (pcM tx n (x, dfl, 0, 0) 111) 110).2.2.2 = (T0.2.1 : Nat)
  rw [← hu] at a1 a2 a3 ⊢
  have a1 : u.1 = (numR tx n x 0 15).1 := a1
  obtain ⟨b1, b3⟩ := pcM_tg (tx := tx) (n := n) (s := u)
  rw [a1] at b1 b3
  refine ⟨b1, fun T h => ?_⟩
  obtain ⟨d1, d2, T0, d3, d4⟩ := b3 T h
  obtain ⟨T1, h1⟩ := numR_live d3
  rw [d1, a3 T1 h1]
  exact ⟨⟨rfl, rfl, rfl, rfl, rfl, rfl, rfl, rfl, rfl, rfl⟩, d2, T0, d3, d4⟩
theorem prF_22 {x : MD} : msg tx n (prF tx n 22 x).1 59 = msg tx n (gdM tx n (numR tx n x 1 8).1).1 59 ∧ ∀ T, msg tx n (prF tx n 22 x).1 59 = .inr T → V10 (prF tx n 22 x).2.1 0 (-1) 0 0 (-1) 0 0 (numR tx n x 1 8).2 0 ∧ (prF tx n 22 x).2.2.1 = (gdM tx n (numR tx n x 1 8).1).2 ∧ ((gdM tx n (numR tx n x 1 8).1).2 ≠ 0 → ∃ T0, (numR tx n x 1 8).1 = .inr T0 ∧ (prF tx n 22 x).2.2.2 = (T0.2.1 : Nat)) ∧ ∃ T0, (numR tx n x 1 8).1 = .inr T0 := by
  unfold prF
  rw [show wfm (22 + 5) = _ from wfm_x.2.2.2.2.2.2.2.2.1]
  obtain ⟨a1, a2, a3⟩ := pcM_num (tx := tx) (n := n) (c := 103) (j := 8) (lo := 1) (hi := 8) (s := (x, dfl, 0, 0)) (fun _ _ _ _ => rfl)
  obtain ⟨u, hu⟩ : ∃ u, u = pcM tx n (x, dfl, 0, 0) 103 := ⟨_, rfl⟩
  show msg tx n (pcM tx n (pcM tx n (x, dfl, 0, 0) 103) 78).1 59 = _ ∧ ∀ T, msg tx n (pcM tx n (pcM tx n (x, dfl, 0, 0) 103) 78).1 59 = .inr T → V10 (pcM tx n (pcM tx n (x, dfl, 0, 0) 103) 78).2.1 _ _ _ _ _ _ _ _ _ ∧ (pcM tx n (pcM tx n (x, dfl, 0, 0) 103) 78).2.2.1 = _ ∧ (_ → ∃ T0, (numR tx n x 1 8).1 = .inr T0 ∧ (pcM tx n (pcM tx n (x, dfl, 0, 0) 103) 78).2.2.2 = (T0.2.1 : Nat)) ∧ ∃ T0, (numR tx n x 1 8).1 = .inr T0
  rw [← hu] at a1 a2 a3 ⊢
  have a1 : u.1 = (numR tx n x 1 8).1 := a1
  obtain ⟨b1, b3⟩ := pcM_gd (tx := tx) (n := n) (s := u) (by rw [a2])
  rw [a1] at b1 b3
  refine ⟨b1, fun T h => ?_⟩
  obtain ⟨d1, d2, d3⟩ := b3 T h
  have lv : ∃ T0, (numR tx n x 1 8).1 = .inr T0 := by
    rw [b1] at h
    obtain ⟨T5, h5⟩ := msg_live h
    cases e : (numR tx n x 1 8).1 with
    | inr T0 => exact ⟨T0, rfl⟩
    | inl e' =>
      rw [e] at h5
      have : (gdM tx n (.inl e')).1 = .inl e' := rfl
      rw [this] at h5
      exact absurd h5 (by simp)
  obtain ⟨T0, h0⟩ := lv
  obtain ⟨T1, h1⟩ := numR_live h0
  rw [d1, a3 T1 h1]
  exact ⟨⟨rfl, rfl, rfl, rfl, rfl, rfl, rfl, rfl, rfl, rfl⟩, d2, d3, T0, h0⟩
theorem prF_23 {x : MD} {o : Nat} (ho : o = 23 ∨ o = 24) : prF tx n o x = (x, dfl, 0, 0) := by
  unfold prF
  rcases ho with rfl | rfl
  · rw [show wfm (23 + 5) = _ from wfm_x.2.2.2.2.2.2.2.2.2.1]; rfl
  · rw [show wfm (24 + 5) = _ from wfm_x.2.2.2.2.2.2.2.2.2.2]; rfl
end RUG
