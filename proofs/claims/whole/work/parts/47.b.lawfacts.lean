theorem cst_iconst5 : Int32.ofInt 5 = 5 := by decide
set_option maxRecDepth 100000 in
theorem sw_0_45 (x : Int32) : (x.toInt < 0 ∨ 45 < x.toInt) ∨ x = 0 ∨ x = 1 ∨ x = 2 ∨ x = 3 ∨ x = 4 ∨ x = 5 ∨ x = 6 ∨ x = 7 ∨ x = 8 ∨ x = 9 ∨ x = 10 ∨ x = 11 ∨ x = 12 ∨ x = 13 ∨ x = 14 ∨ x = 15 ∨ x = 16 ∨ x = 17 ∨ x = 18 ∨ x = 19 ∨ x = 20 ∨ x = 21 ∨ x = 22 ∨ x = 23 ∨ x = 24 ∨ x = 25 ∨ x = 26 ∨ x = 27 ∨ x = 28 ∨ x = 29 ∨ x = 30 ∨ x = 31 ∨ x = 32 ∨ x = 33 ∨ x = 34 ∨ x = 35 ∨ x = 36 ∨ x = 37 ∨ x = 38 ∨ x = 39 ∨ x = 40 ∨ x = 41 ∨ x = 42 ∨ x = 43 ∨ x = 44 ∨ x = 45 := by
  have h : ∀ v : Int32, x.toInt = v.toInt → x = v := fun v h => Int32.toInt_inj.mp h
  rcases Int.lt_or_le x.toInt 0 with h1 | h1
  · exact Or.inl (Or.inl h1)
  rcases Int.lt_or_le 45 x.toInt with h2 | h2
  · exact Or.inl (Or.inr h2)
  refine Or.inr ?_
  have h3 : x.toInt = 0 ∨ x.toInt = 1 ∨ x.toInt = 2 ∨ x.toInt = 3 ∨ x.toInt = 4 ∨ x.toInt = 5 ∨ x.toInt = 6 ∨ x.toInt = 7 ∨ x.toInt = 8 ∨ x.toInt = 9 ∨ x.toInt = 10 ∨ x.toInt = 11 ∨ x.toInt = 12 ∨ x.toInt = 13 ∨ x.toInt = 14 ∨ x.toInt = 15 ∨ x.toInt = 16 ∨ x.toInt = 17 ∨ x.toInt = 18 ∨ x.toInt = 19 ∨ x.toInt = 20 ∨ x.toInt = 21 ∨ x.toInt = 22 ∨ x.toInt = 23 ∨ x.toInt = 24 ∨ x.toInt = 25 ∨ x.toInt = 26 ∨ x.toInt = 27 ∨ x.toInt = 28 ∨ x.toInt = 29 ∨ x.toInt = 30 ∨ x.toInt = 31 ∨ x.toInt = 32 ∨ x.toInt = 33 ∨ x.toInt = 34 ∨ x.toInt = 35 ∨ x.toInt = 36 ∨ x.toInt = 37 ∨ x.toInt = 38 ∨ x.toInt = 39 ∨ x.toInt = 40 ∨ x.toInt = 41 ∨ x.toInt = 42 ∨ x.toInt = 43 ∨ x.toInt = 44 ∨ x.toInt = 45 := by omega
  rcases h3 with h3 | h3 | h3 | h3 | h3 | h3 | h3 | h3 | h3 | h3 | h3 | h3 | h3 | h3 | h3 | h3 | h3 | h3 | h3 | h3 | h3 | h3 | h3 | h3 | h3 | h3 | h3 | h3 | h3 | h3 | h3 | h3 | h3 | h3 | h3 | h3 | h3 | h3 | h3 | h3 | h3 | h3 | h3 | h3 | h3 | h3
  · exact Or.inl (h 0 (by rw [h3]; rfl))
  · exact Or.inr (Or.inl (h 1 (by rw [h3]; rfl)))
  · exact Or.inr (Or.inr (Or.inl (h 2 (by rw [h3]; rfl))))
  · exact Or.inr (Or.inr (Or.inr (Or.inl (h 3 (by rw [h3]; rfl)))))
  · exact Or.inr (Or.inr (Or.inr (Or.inr (Or.inl (h 4 (by rw [h3]; rfl))))))
  · exact Or.inr (Or.inr (Or.inr (Or.inr (Or.inr (Or.inl (h 5 (by rw [h3]; rfl)))))))
  · exact Or.inr (Or.inr (Or.inr (Or.inr (Or.inr (Or.inr (Or.inl (h 6 (by rw [h3]; rfl))))))))
  · exact Or.inr (Or.inr (Or.inr (Or.inr (Or.inr (Or.inr (Or.inr (Or.inl (h 7 (by rw [h3]; rfl)))))))))
  · exact Or.inr (Or.inr (Or.inr (Or.inr (Or.inr (Or.inr (Or.inr (Or.inr (Or.inl (h 8 (by rw [h3]; rfl))))))))))
  · exact Or.inr (Or.inr (Or.inr (Or.inr (Or.inr (Or.inr (Or.inr (Or.inr (Or.inr (Or.inl (h 9 (by rw [h3]; rfl)))))))))))
  · exact Or.inr (Or.inr (Or.inr (Or.inr (Or.inr (Or.inr (Or.inr (Or.inr (Or.inr (Or.inr (Or.inl (h 10 (by rw [h3]; rfl))))))))))))
  · exact Or.inr (Or.inr (Or.inr (Or.inr (Or.inr (Or.inr (Or.inr (Or.inr (Or.inr (Or.inr (Or.inr (Or.inl (h 11 (by rw [h3]; rfl)))))))))))))
  · exact Or.inr (Or.inr (Or.inr (Or.inr (Or.inr (Or.inr (Or.inr (Or.inr (Or.inr (Or.inr (Or.inr (Or.inr (Or.inl (h 12 (by rw [h3]; rfl))))))))))))))
  · exact Or.inr (Or.inr (Or.inr (Or.inr (Or.inr (Or.inr (Or.inr (Or.inr (Or.inr (Or.inr (Or.inr (Or.inr (Or.inr (Or.inl (h 13 (by rw [h3]; rfl)))))))))))))))
  · exact Or.inr (Or.inr (Or.inr (Or.inr (Or.inr (Or.inr (Or.inr (Or.inr (Or.inr (Or.inr (Or.inr (Or.inr (Or.inr (Or.inr (Or.inl (h 14 (by rw [h3]; rfl))))))))))))))))
  · exact Or.inr (Or.inr (Or.inr (Or.inr (Or.inr (Or.inr (Or.inr (Or.inr (Or.inr (Or.inr (Or.inr (Or.inr (Or.inr (Or.inr (Or.inr (Or.inl (h 15 (by rw [h3]; rfl)))))))))))))))))
  · exact Or.inr (Or.inr (Or.inr (Or.inr (Or.inr (Or.inr (Or.inr (Or.inr (Or.inr (Or.inr (Or.inr (Or.inr (Or.inr (Or.inr (Or.inr (Or.inr (Or.inl (h 16 (by rw [h3]; rfl))))))))))))))))))
  · exact Or.inr (Or.inr (Or.inr (Or.inr (Or.inr (Or.inr (Or.inr (Or.inr (Or.inr (Or.inr (Or.inr (Or.inr (Or.inr (Or.inr (Or.inr (Or.inr (Or.inr (Or.inl (h 17 (by rw [h3]; rfl)))))))))))))))))))
  · exact Or.inr (Or.inr (Or.inr (Or.inr (Or.inr (Or.inr (Or.inr (Or.inr (Or.inr (Or.inr (Or.inr (Or.inr (Or.inr (Or.inr (Or.inr (Or.inr (Or.inr (Or.inr (Or.inl (h 18 (by rw [h3]; rfl))))))))))))))))))))
  · exact Or.inr (Or.inr (Or.inr (Or.inr (Or.inr (Or.inr (Or.inr (Or.inr (Or.inr (Or.inr (Or.inr (Or.inr (Or.inr (Or.inr (Or.inr (Or.inr (Or.inr (Or.inr (Or.inr (Or.inl (h 19 (by rw [h3]; rfl)))))))))))))))))))))
  · exact Or.inr (Or.inr (Or.inr (Or.inr (Or.inr (Or.inr (Or.inr (Or.inr (Or.inr (Or.inr (Or.inr (Or.inr (Or.inr (Or.inr (Or.inr (Or.inr (Or.inr (Or.inr (Or.inr (Or.inr (Or.inl (h 20 (by rw [h3]; rfl))))))))))))))))))))))
  · exact Or.inr (Or.inr (Or.inr (Or.inr (Or.inr (Or.inr (Or.inr (Or.inr (Or.inr (Or.inr (Or.inr (Or.inr (Or.inr (Or.inr (Or.inr (Or.inr (Or.inr (Or.inr (Or.inr (Or.inr (Or.inr (Or.inl (h 21 (by rw [h3]; rfl)))))))))))))))))))))))
  · exact Or.inr (Or.inr (Or.inr (Or.inr (Or.inr (Or.inr (Or.inr (Or.inr (Or.inr (Or.inr (Or.inr (Or.inr (Or.inr (Or.inr (Or.inr (Or.inr (Or.inr (Or.inr (Or.inr (Or.inr (Or.inr (Or.inr (Or.inl (h 22 (by rw [h3]; rfl))))))))))))))))))))))))
  · exact Or.inr (Or.inr (Or.inr (Or.inr (Or.inr (Or.inr (Or.inr (Or.inr (Or.inr (Or.inr (Or.inr (Or.inr (Or.inr (Or.inr (Or.inr (Or.inr (Or.inr (Or.inr (Or.inr (Or.inr (Or.inr (Or.inr (Or.inr (Or.inl (h 23 (by rw [h3]; rfl)))))))))))))))))))))))))
  · exact Or.inr (Or.inr (Or.inr (Or.inr (Or.inr (Or.inr (Or.inr (Or.inr (Or.inr (Or.inr (Or.inr (Or.inr (Or.inr (Or.inr (Or.inr (Or.inr (Or.inr (Or.inr (Or.inr (Or.inr (Or.inr (Or.inr (Or.inr (Or.inr (Or.inl (h 24 (by rw [h3]; rfl))))))))))))))))))))))))))
  · exact Or.inr (Or.inr (Or.inr (Or.inr (Or.inr (Or.inr (Or.inr (Or.inr (Or.inr (Or.inr (Or.inr (Or.inr (Or.inr (Or.inr (Or.inr (Or.inr (Or.inr (Or.inr (Or.inr (Or.inr (Or.inr (Or.inr (Or.inr (Or.inr (Or.inr (Or.inl (h 25 (by rw [h3]; rfl)))))))))))))))))))))))))))
  · exact Or.inr (Or.inr (Or.inr (Or.inr (Or.inr (Or.inr (Or.inr (Or.inr (Or.inr (Or.inr (Or.inr (Or.inr (Or.inr (Or.inr (Or.inr (Or.inr (Or.inr (Or.inr (Or.inr (Or.inr (Or.inr (Or.inr (Or.inr (Or.inr (Or.inr (Or.inr (Or.inl (h 26 (by rw [h3]; rfl))))))))))))))))))))))))))))
  · exact Or.inr (Or.inr (Or.inr (Or.inr (Or.inr (Or.inr (Or.inr (Or.inr (Or.inr (Or.inr (Or.inr (Or.inr (Or.inr (Or.inr (Or.inr (Or.inr (Or.inr (Or.inr (Or.inr (Or.inr (Or.inr (Or.inr (Or.inr (Or.inr (Or.inr (Or.inr (Or.inr (Or.inl (h 27 (by rw [h3]; rfl)))))))))))))))))))))))))))))
  · exact Or.inr (Or.inr (Or.inr (Or.inr (Or.inr (Or.inr (Or.inr (Or.inr (Or.inr (Or.inr (Or.inr (Or.inr (Or.inr (Or.inr (Or.inr (Or.inr (Or.inr (Or.inr (Or.inr (Or.inr (Or.inr (Or.inr (Or.inr (Or.inr (Or.inr (Or.inr (Or.inr (Or.inr (Or.inl (h 28 (by rw [h3]; rfl))))))))))))))))))))))))))))))
  · exact Or.inr (Or.inr (Or.inr (Or.inr (Or.inr (Or.inr (Or.inr (Or.inr (Or.inr (Or.inr (Or.inr (Or.inr (Or.inr (Or.inr (Or.inr (Or.inr (Or.inr (Or.inr (Or.inr (Or.inr (Or.inr (Or.inr (Or.inr (Or.inr (Or.inr (Or.inr (Or.inr (Or.inr (Or.inr (Or.inl (h 29 (by rw [h3]; rfl)))))))))))))))))))))))))))))))
  · exact Or.inr (Or.inr (Or.inr (Or.inr (Or.inr (Or.inr (Or.inr (Or.inr (Or.inr (Or.inr (Or.inr (Or.inr (Or.inr (Or.inr (Or.inr (Or.inr (Or.inr (Or.inr (Or.inr (Or.inr (Or.inr (Or.inr (Or.inr (Or.inr (Or.inr (Or.inr (Or.inr (Or.inr (Or.inr (Or.inr (Or.inl (h 30 (by rw [h3]; rfl))))))))))))))))))))))))))))))))
  · exact Or.inr (Or.inr (Or.inr (Or.inr (Or.inr (Or.inr (Or.inr (Or.inr (Or.inr (Or.inr (Or.inr (Or.inr (Or.inr (Or.inr (Or.inr (Or.inr (Or.inr (Or.inr (Or.inr (Or.inr (Or.inr (Or.inr (Or.inr (Or.inr (Or.inr (Or.inr (Or.inr (Or.inr (Or.inr (Or.inr (Or.inr (Or.inl (h 31 (by rw [h3]; rfl)))))))))))))))))))))))))))))))))
  · exact Or.inr (Or.inr (Or.inr (Or.inr (Or.inr (Or.inr (Or.inr (Or.inr (Or.inr (Or.inr (Or.inr (Or.inr (Or.inr (Or.inr (Or.inr (Or.inr (Or.inr (Or.inr (Or.inr (Or.inr (Or.inr (Or.inr (Or.inr (Or.inr (Or.inr (Or.inr (Or.inr (Or.inr (Or.inr (Or.inr (Or.inr (Or.inr (Or.inl (h 32 (by rw [h3]; rfl))))))))))))))))))))))))))))))))))
  · exact Or.inr (Or.inr (Or.inr (Or.inr (Or.inr (Or.inr (Or.inr (Or.inr (Or.inr (Or.inr (Or.inr (Or.inr (Or.inr (Or.inr (Or.inr (Or.inr (Or.inr (Or.inr (Or.inr (Or.inr (Or.inr (Or.inr (Or.inr (Or.inr (Or.inr (Or.inr (Or.inr (Or.inr (Or.inr (Or.inr (Or.inr (Or.inr (Or.inr (Or.inl (h 33 (by rw [h3]; rfl)))))))))))))))))))))))))))))))))))
  · exact Or.inr (Or.inr (Or.inr (Or.inr (Or.inr (Or.inr (Or.inr (Or.inr (Or.inr (Or.inr (Or.inr (Or.inr (Or.inr (Or.inr (Or.inr (Or.inr (Or.inr (Or.inr (Or.inr (Or.inr (Or.inr (Or.inr (Or.inr (Or.inr (Or.inr (Or.inr (Or.inr (Or.inr (Or.inr (Or.inr (Or.inr (Or.inr (Or.inr (Or.inr (Or.inl (h 34 (by rw [h3]; rfl))))))))))))))))))))))))))))))))))))
  · exact Or.inr (Or.inr (Or.inr (Or.inr (Or.inr (Or.inr (Or.inr (Or.inr (Or.inr (Or.inr (Or.inr (Or.inr (Or.inr (Or.inr (Or.inr (Or.inr (Or.inr (Or.inr (Or.inr (Or.inr (Or.inr (Or.inr (Or.inr (Or.inr (Or.inr (Or.inr (Or.inr (Or.inr (Or.inr (Or.inr (Or.inr (Or.inr (Or.inr (Or.inr (Or.inr (Or.inl (h 35 (by rw [h3]; rfl)))))))))))))))))))))))))))))))))))))
  · exact Or.inr (Or.inr (Or.inr (Or.inr (Or.inr (Or.inr (Or.inr (Or.inr (Or.inr (Or.inr (Or.inr (Or.inr (Or.inr (Or.inr (Or.inr (Or.inr (Or.inr (Or.inr (Or.inr (Or.inr (Or.inr (Or.inr (Or.inr (Or.inr (Or.inr (Or.inr (Or.inr (Or.inr (Or.inr (Or.inr (Or.inr (Or.inr (Or.inr (Or.inr (Or.inr (Or.inr (Or.inl (h 36 (by rw [h3]; rfl))))))))))))))))))))))))))))))))))))))
  · exact Or.inr (Or.inr (Or.inr (Or.inr (Or.inr (Or.inr (Or.inr (Or.inr (Or.inr (Or.inr (Or.inr (Or.inr (Or.inr (Or.inr (Or.inr (Or.inr (Or.inr (Or.inr (Or.inr (Or.inr (Or.inr (Or.inr (Or.inr (Or.inr (Or.inr (Or.inr (Or.inr (Or.inr (Or.inr (Or.inr (Or.inr (Or.inr (Or.inr (Or.inr (Or.inr (Or.inr (Or.inr (Or.inl (h 37 (by rw [h3]; rfl)))))))))))))))))))))))))))))))))))))))
  · exact Or.inr (Or.inr (Or.inr (Or.inr (Or.inr (Or.inr (Or.inr (Or.inr (Or.inr (Or.inr (Or.inr (Or.inr (Or.inr (Or.inr (Or.inr (Or.inr (Or.inr (Or.inr (Or.inr (Or.inr (Or.inr (Or.inr (Or.inr (Or.inr (Or.inr (Or.inr (Or.inr (Or.inr (Or.inr (Or.inr (Or.inr (Or.inr (Or.inr (Or.inr (Or.inr (Or.inr (Or.inr (Or.inr (Or.inl (h 38 (by rw [h3]; rfl))))))))))))))))))))))))))))))))))))))))
  · exact Or.inr (Or.inr (Or.inr (Or.inr (Or.inr (Or.inr (Or.inr (Or.inr (Or.inr (Or.inr (Or.inr (Or.inr (Or.inr (Or.inr (Or.inr (Or.inr (Or.inr (Or.inr (Or.inr (Or.inr (Or.inr (Or.inr (Or.inr (Or.inr (Or.inr (Or.inr (Or.inr (Or.inr (Or.inr (Or.inr (Or.inr (Or.inr (Or.inr (Or.inr (Or.inr (Or.inr (Or.inr (Or.inr (Or.inr (Or.inl (h 39 (by rw [h3]; rfl)))))))))))))))))))))))))))))))))))))))))
  · exact Or.inr (Or.inr (Or.inr (Or.inr (Or.inr (Or.inr (Or.inr (Or.inr (Or.inr (Or.inr (Or.inr (Or.inr (Or.inr (Or.inr (Or.inr (Or.inr (Or.inr (Or.inr (Or.inr (Or.inr (Or.inr (Or.inr (Or.inr (Or.inr (Or.inr (Or.inr (Or.inr (Or.inr (Or.inr (Or.inr (Or.inr (Or.inr (Or.inr (Or.inr (Or.inr (Or.inr (Or.inr (Or.inr (Or.inr (Or.inr (Or.inl (h 40 (by rw [h3]; rfl))))))))))))))))))))))))))))))))))))))))))
  · exact Or.inr (Or.inr (Or.inr (Or.inr (Or.inr (Or.inr (Or.inr (Or.inr (Or.inr (Or.inr (Or.inr (Or.inr (Or.inr (Or.inr (Or.inr (Or.inr (Or.inr (Or.inr (Or.inr (Or.inr (Or.inr (Or.inr (Or.inr (Or.inr (Or.inr (Or.inr (Or.inr (Or.inr (Or.inr (Or.inr (Or.inr (Or.inr (Or.inr (Or.inr (Or.inr (Or.inr (Or.inr (Or.inr (Or.inr (Or.inr (Or.inr (Or.inl (h 41 (by rw [h3]; rfl)))))))))))))))))))))))))))))))))))))))))))
  · exact Or.inr (Or.inr (Or.inr (Or.inr (Or.inr (Or.inr (Or.inr (Or.inr (Or.inr (Or.inr (Or.inr (Or.inr (Or.inr (Or.inr (Or.inr (Or.inr (Or.inr (Or.inr (Or.inr (Or.inr (Or.inr (Or.inr (Or.inr (Or.inr (Or.inr (Or.inr (Or.inr (Or.inr (Or.inr (Or.inr (Or.inr (Or.inr (Or.inr (Or.inr (Or.inr (Or.inr (Or.inr (Or.inr (Or.inr (Or.inr (Or.inr (Or.inr (Or.inl (h 42 (by rw [h3]; rfl))))))))))))))))))))))))))))))))))))))))))))
  · exact Or.inr (Or.inr (Or.inr (Or.inr (Or.inr (Or.inr (Or.inr (Or.inr (Or.inr (Or.inr (Or.inr (Or.inr (Or.inr (Or.inr (Or.inr (Or.inr (Or.inr (Or.inr (Or.inr (Or.inr (Or.inr (Or.inr (Or.inr (Or.inr (Or.inr (Or.inr (Or.inr (Or.inr (Or.inr (Or.inr (Or.inr (Or.inr (Or.inr (Or.inr (Or.inr (Or.inr (Or.inr (Or.inr (Or.inr (Or.inr (Or.inr (Or.inr (Or.inr (Or.inl (h 43 (by rw [h3]; rfl)))))))))))))))))))))))))))))))))))))))))))))
  · exact Or.inr (Or.inr (Or.inr (Or.inr (Or.inr (Or.inr (Or.inr (Or.inr (Or.inr (Or.inr (Or.inr (Or.inr (Or.inr (Or.inr (Or.inr (Or.inr (Or.inr (Or.inr (Or.inr (Or.inr (Or.inr (Or.inr (Or.inr (Or.inr (Or.inr (Or.inr (Or.inr (Or.inr (Or.inr (Or.inr (Or.inr (Or.inr (Or.inr (Or.inr (Or.inr (Or.inr (Or.inr (Or.inr (Or.inr (Or.inr (Or.inr (Or.inr (Or.inr (Or.inr (Or.inl (h 44 (by rw [h3]; rfl))))))))))))))))))))))))))))))))))))))))))))))
  · exact Or.inr (Or.inr (Or.inr (Or.inr (Or.inr (Or.inr (Or.inr (Or.inr (Or.inr (Or.inr (Or.inr (Or.inr (Or.inr (Or.inr (Or.inr (Or.inr (Or.inr (Or.inr (Or.inr (Or.inr (Or.inr (Or.inr (Or.inr (Or.inr (Or.inr (Or.inr (Or.inr (Or.inr (Or.inr (Or.inr (Or.inr (Or.inr (Or.inr (Or.inr (Or.inr (Or.inr (Or.inr (Or.inr (Or.inr (Or.inr (Or.inr (Or.inr (Or.inr (Or.inr (Or.inr (h 45 (by rw [h3]; rfl))))))))))))))))))))))))))))))))))))))))))))))
set_option maxRecDepth 100000 in
theorem kc_L_open : Cond.codeWith yL_open cL_open 4 (some .int) [(0, 9, 12, 13), (0, 9, 15, 15)] ∈ big := big_t2 77 (by decide +kernel)
set_option maxRecDepth 100000 in
theorem ki_L : Cond.initialized RL ∈ big := big_t1 0 (by decide +kernel)
set_option maxRecDepth 100000 in
theorem ks_L_open : Cond.static yL_open ∈ big := big_t2 76 (by decide +kernel)
set_option maxRecDepth 100000 in
theorem my_L_open : MyH z_L_open yL_open 3 := ⟨⟨kc_L_open, ki_L, ⟨by decide +kernel, by decide +kernel⟩, by decide +kernel⟩, rfl, ks_L_open⟩
set_option maxRecDepth 100000 in
theorem kl_L_157 : Cond.methodLink RL 157 yL_open ∈ big := big_t2 75 (by decide +kernel)
set_option maxRecDepth 100000 in
theorem kc_X8_open : Cond.code yX8_open cX8_open 2 (some .int) ∈ big := big_t5 185 (by decide +kernel)
set_option maxRecDepth 100000 in
theorem kn_X8_open : Cond.instanceMethod yX8_open ∈ big := big_t5 183 (by decide +kernel)
set_option maxRecDepth 100000 in
theorem kv_X8_open : Cond.selects RX8 yX8_open yX8_open ∈ big := big_t5 184 (by decide +kernel)
set_option maxRecDepth 100000 in
theorem my_X8_open : MyV z_X8_open yX8_open 1 := ⟨⟨kc_X8_open, ki_X8, ⟨by decide +kernel, by decide +kernel⟩, by decide +kernel⟩, rfl, kn_X8_open, kv_X8_open⟩
set_option maxRecDepth 100000 in
theorem kl_L_162 : Cond.methodLink RL 162 yX8_open ∈ big := big_t5 182 (by decide +kernel)
set_option maxRecDepth 100000 in
theorem kc_X8_thrown : Cond.code yX8_thrown cX8_thrown 1 (some .int) ∈ big := big_t5 181 (by decide +kernel)
set_option maxRecDepth 100000 in
theorem kn_X8_thrown : Cond.instanceMethod yX8_thrown ∈ big := big_t5 179 (by decide +kernel)
set_option maxRecDepth 100000 in
theorem kv_X8_thrown : Cond.selects RX8 yX8_thrown yX8_thrown ∈ big := big_t5 180 (by decide +kernel)
set_option maxRecDepth 100000 in
theorem my_X8_thrown : MyV z_X8_thrown yX8_thrown 0 := ⟨⟨kc_X8_thrown, ki_X8, ⟨by decide +kernel, by decide +kernel⟩, by decide +kernel⟩, rfl, kn_X8_thrown, kv_X8_thrown⟩
set_option maxRecDepth 100000 in
theorem kl_L_163 : Cond.methodLink RL 163 yX8_thrown ∈ big := big_t5 178 (by decide +kernel)
set_option maxRecDepth 100000 in
theorem kc_L_setMarked : Cond.codeWith yL_setMarked cL_setMarked 5 (some .int) [(0, 17, 20, 21)] ∈ big := big_t2 178 (by decide +kernel)
set_option maxRecDepth 100000 in
theorem ks_L_setMarked : Cond.static yL_setMarked ∈ big := big_t2 177 (by decide +kernel)
set_option maxRecDepth 100000 in
theorem my_L_setMarked : MyH z_L_setMarked yL_setMarked 4 := ⟨⟨kc_L_setMarked, ki_L, ⟨by decide +kernel, by decide +kernel⟩, by decide +kernel⟩, rfl, ks_L_setMarked⟩
set_option maxRecDepth 100000 in
theorem kl_L_166 : Cond.methodLink RL 166 yL_setMarked ∈ big := big_t2 176 (by decide +kernel)
set_option maxRecDepth 100000 in
theorem kc_X8_setMarked : Cond.code yX8_setMarked cX8_setMarked 4 (some .boolean) ∈ big := big_t5 196 (by decide +kernel)
set_option maxRecDepth 100000 in
theorem kn_X8_setMarked : Cond.instanceMethod yX8_setMarked ∈ big := big_t5 194 (by decide +kernel)
set_option maxRecDepth 100000 in
theorem kv_X8_setMarked : Cond.selects RX8 yX8_setMarked yX8_setMarked ∈ big := big_t5 195 (by decide +kernel)
set_option maxRecDepth 100000 in
theorem my_X8_setMarked : MyV z_X8_setMarked yX8_setMarked 2 := ⟨⟨kc_X8_setMarked, ki_X8, ⟨by decide +kernel, by decide +kernel⟩, by decide +kernel⟩, rfl, kn_X8_setMarked, kv_X8_setMarked⟩
set_option maxRecDepth 100000 in
theorem kl_L_169 : Cond.methodLink RL 169 yX8_setMarked ∈ big := big_t5 193 (by decide +kernel)
set_option maxRecDepth 100000 in
theorem kc_L_setBlocked : Cond.codeWith yL_setBlocked cL_setBlocked 5 (some .int) [(0, 17, 20, 21)] ∈ big := big_t2 230 (by decide +kernel)
set_option maxRecDepth 100000 in
theorem ks_L_setBlocked : Cond.static yL_setBlocked ∈ big := big_t2 229 (by decide +kernel)
set_option maxRecDepth 100000 in
theorem my_L_setBlocked : MyH z_L_setBlocked yL_setBlocked 4 := ⟨⟨kc_L_setBlocked, ki_L, ⟨by decide +kernel, by decide +kernel⟩, by decide +kernel⟩, rfl, ks_L_setBlocked⟩
set_option maxRecDepth 100000 in
theorem kl_L_170 : Cond.methodLink RL 170 yL_setBlocked ∈ big := big_t2 228 (by decide +kernel)
set_option maxRecDepth 100000 in
theorem kc_X8_setBlocked : Cond.code yX8_setBlocked cX8_setBlocked 4 (some .boolean) ∈ big := big_t5 214 (by decide +kernel)
set_option maxRecDepth 100000 in
theorem kn_X8_setBlocked : Cond.instanceMethod yX8_setBlocked ∈ big := big_t5 212 (by decide +kernel)
set_option maxRecDepth 100000 in
theorem kv_X8_setBlocked : Cond.selects RX8 yX8_setBlocked yX8_setBlocked ∈ big := big_t5 213 (by decide +kernel)
set_option maxRecDepth 100000 in
theorem my_X8_setBlocked : MyV z_X8_setBlocked yX8_setBlocked 2 := ⟨⟨kc_X8_setBlocked, ki_X8, ⟨by decide +kernel, by decide +kernel⟩, by decide +kernel⟩, rfl, kn_X8_setBlocked, kv_X8_setBlocked⟩
set_option maxRecDepth 100000 in
theorem kl_L_172 : Cond.methodLink RL 172 yX8_setBlocked ∈ big := big_t5 211 (by decide +kernel)
set_option maxRecDepth 100000 in
theorem kc_L_isMarked : Cond.codeWith yL_isMarked cL_isMarked 4 (some .int) [(0, 16, 19, 21)] ∈ big := big_t2 237 (by decide +kernel)
set_option maxRecDepth 100000 in
theorem ks_L_isMarked : Cond.static yL_isMarked ∈ big := big_t2 236 (by decide +kernel)
set_option maxRecDepth 100000 in
theorem my_L_isMarked : MyH z_L_isMarked yL_isMarked 3 := ⟨⟨kc_L_isMarked, ki_L, ⟨by decide +kernel, by decide +kernel⟩, by decide +kernel⟩, rfl, ks_L_isMarked⟩
set_option maxRecDepth 100000 in
theorem kl_L_173 : Cond.methodLink RL 173 yL_isMarked ∈ big := big_t2 235 (by decide +kernel)
set_option maxRecDepth 100000 in
theorem kc_X8_isMarked : Cond.code yX8_isMarked cX8_isMarked 2 (some .boolean) ∈ big := big_t5 218 (by decide +kernel)
set_option maxRecDepth 100000 in
theorem kn_X8_isMarked : Cond.instanceMethod yX8_isMarked ∈ big := big_t5 216 (by decide +kernel)
set_option maxRecDepth 100000 in
theorem kv_X8_isMarked : Cond.selects RX8 yX8_isMarked yX8_isMarked ∈ big := big_t5 217 (by decide +kernel)
set_option maxRecDepth 100000 in
theorem my_X8_isMarked : MyV z_X8_isMarked yX8_isMarked 1 := ⟨⟨kc_X8_isMarked, ki_X8, ⟨by decide +kernel, by decide +kernel⟩, by decide +kernel⟩, rfl, kn_X8_isMarked, kv_X8_isMarked⟩
set_option maxRecDepth 100000 in
theorem kl_L_176 : Cond.methodLink RL 176 yX8_isMarked ∈ big := big_t5 215 (by decide +kernel)
set_option maxRecDepth 100000 in
theorem kc_L_countryOf : Cond.codeWith yL_countryOf cL_countryOf 4 (some .int) [(0, 9, 12, 21)] ∈ big := big_t3 4 (by decide +kernel)
set_option maxRecDepth 100000 in
theorem ks_L_countryOf : Cond.static yL_countryOf ∈ big := big_t3 3 (by decide +kernel)
set_option maxRecDepth 100000 in
theorem my_L_countryOf : MyH z_L_countryOf yL_countryOf 3 := ⟨⟨kc_L_countryOf, ki_L, ⟨by decide +kernel, by decide +kernel⟩, by decide +kernel⟩, rfl, ks_L_countryOf⟩
set_option maxRecDepth 100000 in
theorem kl_L_177 : Cond.methodLink RL 177 yL_countryOf ∈ big := big_t3 2 (by decide +kernel)
set_option maxRecDepth 100000 in
theorem kc_X8_countryOf : Cond.code yX8_countryOf cX8_countryOf 2 (some .char) ∈ big := big_t5 222 (by decide +kernel)
set_option maxRecDepth 100000 in
theorem kn_X8_countryOf : Cond.instanceMethod yX8_countryOf ∈ big := big_t5 220 (by decide +kernel)
set_option maxRecDepth 100000 in
theorem kv_X8_countryOf : Cond.selects RX8 yX8_countryOf yX8_countryOf ∈ big := big_t5 221 (by decide +kernel)
set_option maxRecDepth 100000 in
theorem my_X8_countryOf : MyV z_X8_countryOf yX8_countryOf 1 := ⟨⟨kc_X8_countryOf, ki_X8, ⟨by decide +kernel, by decide +kernel⟩, by decide +kernel⟩, rfl, kn_X8_countryOf, kv_X8_countryOf⟩
set_option maxRecDepth 100000 in
theorem kl_L_179 : Cond.methodLink RL 179 yX8_countryOf ∈ big := big_t5 219 (by decide +kernel)
set_option maxRecDepth 100000 in
theorem kc_X7_accounts : Cond.code yX7_accounts cX7_accounts 1 (some .int) ∈ big := big_t2 19 (by decide +kernel)
set_option maxRecDepth 100000 in
theorem kn_X7_accounts : Cond.instanceMethod yX7_accounts ∈ big := big_t2 17 (by decide +kernel)
set_option maxRecDepth 100000 in
theorem kv_X7_accounts : Cond.selects RX7 yX7_accounts yX7_accounts ∈ big := big_t2 18 (by decide +kernel)
set_option maxRecDepth 100000 in
theorem my_X7_accounts : MyV z_X7_accounts yX7_accounts 0 := ⟨⟨kc_X7_accounts, ki_X7, ⟨by decide +kernel, by decide +kernel⟩, by decide +kernel⟩, rfl, kn_X7_accounts, kv_X7_accounts⟩
set_option maxRecDepth 100000 in
theorem kl_L_180 : Cond.methodLink RL 180 yX7_accounts ∈ big := big_t2 16 (by decide +kernel)
set_option maxRecDepth 100000 in
theorem kc_X8_accounts : Cond.code yX8_accounts cX8_accounts 1 (some .int) ∈ big := big_t5 226 (by decide +kernel)
set_option maxRecDepth 100000 in
theorem kn_X8_accounts : Cond.instanceMethod yX8_accounts ∈ big := big_t5 224 (by decide +kernel)
set_option maxRecDepth 100000 in
theorem kv_X8_accounts : Cond.selects RX8 yX8_accounts yX8_accounts ∈ big := big_t5 225 (by decide +kernel)
set_option maxRecDepth 100000 in
theorem my_X8_accounts : MyV z_X8_accounts yX8_accounts 0 := ⟨⟨kc_X8_accounts, ki_X8, ⟨by decide +kernel, by decide +kernel⟩, by decide +kernel⟩, rfl, kn_X8_accounts, kv_X8_accounts⟩
set_option maxRecDepth 100000 in
theorem kl_L_183 : Cond.methodLink RL 183 yX8_accounts ∈ big := big_t5 223 (by decide +kernel)
set_option maxRecDepth 100000 in
theorem kc_L_pass : Cond.codeWith yL_pass cL_pass 4 (some .int) [(0, 9, 12, 13)] ∈ big := big_t3 11 (by decide +kernel)
set_option maxRecDepth 100000 in
theorem ks_L_pass : Cond.static yL_pass ∈ big := big_t3 10 (by decide +kernel)
set_option maxRecDepth 100000 in
theorem my_L_pass : MyH z_L_pass yL_pass 3 := ⟨⟨kc_L_pass, ki_L, ⟨by decide +kernel, by decide +kernel⟩, by decide +kernel⟩, rfl, ks_L_pass⟩
set_option maxRecDepth 100000 in
theorem kl_L_184 : Cond.methodLink RL 184 yL_pass ∈ big := big_t3 9 (by decide +kernel)
set_option maxRecDepth 100000 in
theorem kc_X8_pass : Cond.code yX8_pass cX8_pass 2 (some .int) ∈ big := big_t5 230 (by decide +kernel)
set_option maxRecDepth 100000 in
theorem kn_X8_pass : Cond.instanceMethod yX8_pass ∈ big := big_t5 228 (by decide +kernel)
set_option maxRecDepth 100000 in
theorem kv_X8_pass : Cond.selects RX8 yX8_pass yX8_pass ∈ big := big_t5 229 (by decide +kernel)
set_option maxRecDepth 100000 in
theorem my_X8_pass : MyV z_X8_pass yX8_pass 1 := ⟨⟨kc_X8_pass, ki_X8, ⟨by decide +kernel, by decide +kernel⟩, by decide +kernel⟩, rfl, kn_X8_pass, kv_X8_pass⟩
set_option maxRecDepth 100000 in
theorem kl_L_186 : Cond.methodLink RL 186 yX8_pass ∈ big := big_t5 227 (by decide +kernel)
set_option maxRecDepth 100000 in
theorem kc_X7_time : Cond.code yX7_time cX7_time 1 (some .int) ∈ big := big_t2 23 (by decide +kernel)
set_option maxRecDepth 100000 in
theorem kn_X7_time : Cond.instanceMethod yX7_time ∈ big := big_t2 21 (by decide +kernel)
set_option maxRecDepth 100000 in
theorem kv_X7_time : Cond.selects RX7 yX7_time yX7_time ∈ big := big_t2 22 (by decide +kernel)
set_option maxRecDepth 100000 in
theorem my_X7_time : MyV z_X7_time yX7_time 0 := ⟨⟨kc_X7_time, ki_X7, ⟨by decide +kernel, by decide +kernel⟩, by decide +kernel⟩, rfl, kn_X7_time, kv_X7_time⟩
set_option maxRecDepth 100000 in
theorem kl_L_187 : Cond.methodLink RL 187 yX7_time ∈ big := big_t2 20 (by decide +kernel)
set_option maxRecDepth 100000 in
theorem kc_X8_time : Cond.code yX8_time cX8_time 1 (some .int) ∈ big := big_t5 234 (by decide +kernel)
set_option maxRecDepth 100000 in
theorem kn_X8_time : Cond.instanceMethod yX8_time ∈ big := big_t5 232 (by decide +kernel)
set_option maxRecDepth 100000 in
theorem kv_X8_time : Cond.selects RX8 yX8_time yX8_time ∈ big := big_t5 233 (by decide +kernel)
set_option maxRecDepth 100000 in
theorem my_X8_time : MyV z_X8_time yX8_time 0 := ⟨⟨kc_X8_time, ki_X8, ⟨by decide +kernel, by decide +kernel⟩, by decide +kernel⟩, rfl, kn_X8_time, kv_X8_time⟩
set_option maxRecDepth 100000 in
theorem kl_L_190 : Cond.methodLink RL 190 yX8_time ∈ big := big_t5 231 (by decide +kernel)
set_option maxRecDepth 100000 in
theorem kc_L_pay : Cond.codeWith yL_pay cL_pay 6 (some .int) [(0, 12, 15, 21), (0, 12, 19, 13), (0, 12, 23, 42), (0, 12, 27, 15)] ∈ big := big_t3 23 (by decide +kernel)
set_option maxRecDepth 100000 in
theorem ks_L_pay : Cond.static yL_pay ∈ big := big_t3 22 (by decide +kernel)
set_option maxRecDepth 100000 in
theorem my_L_pay : MyH z_L_pay yL_pay 5 := ⟨⟨kc_L_pay, ki_L, ⟨by decide +kernel, by decide +kernel⟩, by decide +kernel⟩, rfl, ks_L_pay⟩
set_option maxRecDepth 100000 in
theorem kl_L_191 : Cond.methodLink RL 191 yL_pay ∈ big := big_t3 21 (by decide +kernel)
set_option maxRecDepth 100000 in
theorem kc_X8_pay : Cond.code yX8_pay cX8_pay 4 (some .int) ∈ big := big_t5 238 (by decide +kernel)
set_option maxRecDepth 100000 in
theorem kn_X8_pay : Cond.instanceMethod yX8_pay ∈ big := big_t5 236 (by decide +kernel)
set_option maxRecDepth 100000 in
theorem kv_X8_pay : Cond.selects RX8 yX8_pay yX8_pay ∈ big := big_t5 237 (by decide +kernel)
set_option maxRecDepth 100000 in
theorem my_X8_pay : MyV z_X8_pay yX8_pay 3 := ⟨⟨kc_X8_pay, ki_X8, ⟨by decide +kernel, by decide +kernel⟩, by decide +kernel⟩, rfl, kn_X8_pay, kv_X8_pay⟩
set_option maxRecDepth 100000 in
theorem kl_L_194 : Cond.methodLink RL 194 yX8_pay ∈ big := big_t5 235 (by decide +kernel)
set_option maxRecDepth 100000 in
theorem kc_X7_payments : Cond.code yX7_payments cX7_payments 1 (some .int) ∈ big := big_t2 27 (by decide +kernel)
set_option maxRecDepth 100000 in
theorem kn_X7_payments : Cond.instanceMethod yX7_payments ∈ big := big_t2 25 (by decide +kernel)
set_option maxRecDepth 100000 in
theorem kv_X7_payments : Cond.selects RX7 yX7_payments yX7_payments ∈ big := big_t2 26 (by decide +kernel)
set_option maxRecDepth 100000 in
theorem my_X7_payments : MyV z_X7_payments yX7_payments 0 := ⟨⟨kc_X7_payments, ki_X7, ⟨by decide +kernel, by decide +kernel⟩, by decide +kernel⟩, rfl, kn_X7_payments, kv_X7_payments⟩
set_option maxRecDepth 100000 in
theorem kl_L_195 : Cond.methodLink RL 195 yX7_payments ∈ big := big_t2 24 (by decide +kernel)
set_option maxRecDepth 100000 in
theorem kc_X8_payments : Cond.code yX8_payments cX8_payments 1 (some .int) ∈ big := big_t6 49 (by decide +kernel)
set_option maxRecDepth 100000 in
theorem kn_X8_payments : Cond.instanceMethod yX8_payments ∈ big := big_t6 47 (by decide +kernel)
set_option maxRecDepth 100000 in
theorem kv_X8_payments : Cond.selects RX8 yX8_payments yX8_payments ∈ big := big_t6 48 (by decide +kernel)
set_option maxRecDepth 100000 in
theorem my_X8_payments : MyV z_X8_payments yX8_payments 0 := ⟨⟨kc_X8_payments, ki_X8, ⟨by decide +kernel, by decide +kernel⟩, by decide +kernel⟩, rfl, kn_X8_payments, kv_X8_payments⟩
set_option maxRecDepth 100000 in
theorem kl_L_198 : Cond.methodLink RL 198 yX8_payments ∈ big := big_t6 46 (by decide +kernel)
set_option maxRecDepth 100000 in
theorem kc_L_minuteOf : Cond.codeWith yL_minuteOf cL_minuteOf 4 (some .int) [(0, 9, 12, 47)] ∈ big := big_t3 140 (by decide +kernel)
set_option maxRecDepth 100000 in
theorem ks_L_minuteOf : Cond.static yL_minuteOf ∈ big := big_t3 139 (by decide +kernel)
set_option maxRecDepth 100000 in
theorem my_L_minuteOf : MyH z_L_minuteOf yL_minuteOf 3 := ⟨⟨kc_L_minuteOf, ki_L, ⟨by decide +kernel, by decide +kernel⟩, by decide +kernel⟩, rfl, ks_L_minuteOf⟩
set_option maxRecDepth 100000 in
theorem kl_L_199 : Cond.methodLink RL 199 yL_minuteOf ∈ big := big_t3 138 (by decide +kernel)
set_option maxRecDepth 100000 in
theorem kc_X8_minuteOf : Cond.code yX8_minuteOf cX8_minuteOf 2 (some .int) ∈ big := big_t6 53 (by decide +kernel)
set_option maxRecDepth 100000 in
theorem kn_X8_minuteOf : Cond.instanceMethod yX8_minuteOf ∈ big := big_t6 51 (by decide +kernel)
set_option maxRecDepth 100000 in
theorem kv_X8_minuteOf : Cond.selects RX8 yX8_minuteOf yX8_minuteOf ∈ big := big_t6 52 (by decide +kernel)
set_option maxRecDepth 100000 in
theorem my_X8_minuteOf : MyV z_X8_minuteOf yX8_minuteOf 1 := ⟨⟨kc_X8_minuteOf, ki_X8, ⟨by decide +kernel, by decide +kernel⟩, by decide +kernel⟩, rfl, kn_X8_minuteOf, kv_X8_minuteOf⟩
set_option maxRecDepth 100000 in
theorem kl_L_201 : Cond.methodLink RL 201 yX8_minuteOf ∈ big := big_t6 50 (by decide +kernel)
set_option maxRecDepth 100000 in
theorem kc_L_sentBy : Cond.codeWith yL_sentBy cL_sentBy 5 (some .int) [(0, 10, 13, 21), (0, 10, 17, 13)] ∈ big := big_t3 168 (by decide +kernel)
set_option maxRecDepth 100000 in
theorem ks_L_sentBy : Cond.static yL_sentBy ∈ big := big_t3 167 (by decide +kernel)
set_option maxRecDepth 100000 in
theorem my_L_sentBy : MyH z_L_sentBy yL_sentBy 4 := ⟨⟨kc_L_sentBy, ki_L, ⟨by decide +kernel, by decide +kernel⟩, by decide +kernel⟩, rfl, ks_L_sentBy⟩
set_option maxRecDepth 100000 in
theorem kl_L_202 : Cond.methodLink RL 202 yL_sentBy ∈ big := big_t3 166 (by decide +kernel)
set_option maxRecDepth 100000 in
theorem kl_L_205 : Cond.methodLink RL 205 yX8_sentBy ∈ big := big_t6 58 (by decide +kernel)
set_option maxRecDepth 100000 in
theorem kc_L_sentByAnew : Cond.codeWith yL_sentByAnew cL_sentByAnew 5 (some .int) [(0, 10, 13, 21), (0, 10, 17, 13)] ∈ big := big_t3 179 (by decide +kernel)
set_option maxRecDepth 100000 in
theorem ks_L_sentByAnew : Cond.static yL_sentByAnew ∈ big := big_t3 178 (by decide +kernel)
set_option maxRecDepth 100000 in
theorem my_L_sentByAnew : MyH z_L_sentByAnew yL_sentByAnew 4 := ⟨⟨kc_L_sentByAnew, ki_L, ⟨by decide +kernel, by decide +kernel⟩, by decide +kernel⟩, rfl, ks_L_sentByAnew⟩
set_option maxRecDepth 100000 in
theorem kl_L_206 : Cond.methodLink RL 206 yL_sentByAnew ∈ big := big_t3 177 (by decide +kernel)
set_option maxRecDepth 100000 in
theorem kc_X8_sentByAnew : Cond.code yX8_sentByAnew cX8_sentByAnew 3 (some .int) ∈ big := big_t6 68 (by decide +kernel)
set_option maxRecDepth 100000 in
theorem kn_X8_sentByAnew : Cond.instanceMethod yX8_sentByAnew ∈ big := big_t6 66 (by decide +kernel)
set_option maxRecDepth 100000 in
theorem kv_X8_sentByAnew : Cond.selects RX8 yX8_sentByAnew yX8_sentByAnew ∈ big := big_t6 67 (by decide +kernel)
set_option maxRecDepth 100000 in
theorem my_X8_sentByAnew : MyV z_X8_sentByAnew yX8_sentByAnew 2 := ⟨⟨kc_X8_sentByAnew, ki_X8, ⟨by decide +kernel, by decide +kernel⟩, by decide +kernel⟩, rfl, kn_X8_sentByAnew, kv_X8_sentByAnew⟩
set_option maxRecDepth 100000 in
theorem kl_L_208 : Cond.methodLink RL 208 yX8_sentByAnew ∈ big := big_t6 65 (by decide +kernel)
set_option maxRecDepth 100000 in
theorem kc_X7_kept : Cond.code yX7_kept cX7_kept 1 (some .int) ∈ big := big_t2 31 (by decide +kernel)
set_option maxRecDepth 100000 in
theorem kn_X7_kept : Cond.instanceMethod yX7_kept ∈ big := big_t2 29 (by decide +kernel)
set_option maxRecDepth 100000 in
theorem kv_X7_kept : Cond.selects RX7 yX7_kept yX7_kept ∈ big := big_t2 30 (by decide +kernel)
set_option maxRecDepth 100000 in
theorem my_X7_kept : MyV z_X7_kept yX7_kept 0 := ⟨⟨kc_X7_kept, ki_X7, ⟨by decide +kernel, by decide +kernel⟩, by decide +kernel⟩, rfl, kn_X7_kept, kv_X7_kept⟩
set_option maxRecDepth 100000 in
theorem kl_L_209 : Cond.methodLink RL 209 yX7_kept ∈ big := big_t2 28 (by decide +kernel)
set_option maxRecDepth 100000 in
theorem kc_X8_kept : Cond.code yX8_kept cX8_kept 3 (some .int) ∈ big := big_t6 73 (by decide +kernel)
set_option maxRecDepth 100000 in
theorem kn_X8_kept : Cond.instanceMethod yX8_kept ∈ big := big_t6 71 (by decide +kernel)
set_option maxRecDepth 100000 in
theorem kv_X8_kept : Cond.selects RX8 yX8_kept yX8_kept ∈ big := big_t6 72 (by decide +kernel)
set_option maxRecDepth 100000 in
theorem my_X8_kept : MyV z_X8_kept yX8_kept 0 := ⟨⟨kc_X8_kept, ki_X8, ⟨by decide +kernel, by decide +kernel⟩, by decide +kernel⟩, rfl, kn_X8_kept, kv_X8_kept⟩
set_option maxRecDepth 100000 in
theorem kl_L_212 : Cond.methodLink RL 212 yX8_kept ∈ big := big_t6 70 (by decide +kernel)
set_option maxRecDepth 100000 in
theorem kc_L_valueOf : Cond.codeWith yL_valueOf cL_valueOf 6 (some .int) [(0, 12, 15, 47), (0, 12, 19, 13)] ∈ big := big_t3 186 (by decide +kernel)
set_option maxRecDepth 100000 in
theorem ks_L_valueOf : Cond.static yL_valueOf ∈ big := big_t3 185 (by decide +kernel)
set_option maxRecDepth 100000 in
theorem my_L_valueOf : MyH z_L_valueOf yL_valueOf 5 := ⟨⟨kc_L_valueOf, ki_L, ⟨by decide +kernel, by decide +kernel⟩, by decide +kernel⟩, rfl, ks_L_valueOf⟩
set_option maxRecDepth 100000 in
theorem kl_L_213 : Cond.methodLink RL 213 yL_valueOf ∈ big := big_t3 184 (by decide +kernel)
set_option maxRecDepth 100000 in
theorem kc_X8_valueOf : Cond.code yX8_valueOf cX8_valueOf 4 (some .int) ∈ big := big_t6 77 (by decide +kernel)
set_option maxRecDepth 100000 in
theorem kn_X8_valueOf : Cond.instanceMethod yX8_valueOf ∈ big := big_t6 75 (by decide +kernel)
set_option maxRecDepth 100000 in
theorem kv_X8_valueOf : Cond.selects RX8 yX8_valueOf yX8_valueOf ∈ big := big_t6 76 (by decide +kernel)
set_option maxRecDepth 100000 in
theorem my_X8_valueOf : MyV z_X8_valueOf yX8_valueOf 3 := ⟨⟨kc_X8_valueOf, ki_X8, ⟨by decide +kernel, by decide +kernel⟩, by decide +kernel⟩, rfl, kn_X8_valueOf, kv_X8_valueOf⟩
set_option maxRecDepth 100000 in
theorem kl_L_216 : Cond.methodLink RL 216 yX8_valueOf ∈ big := big_t6 74 (by decide +kernel)
set_option maxRecDepth 100000 in
theorem kc_L_addTest : Cond.codeWith yL_addTest cL_addTest 7 (some .int) [(0, 14, 17, 13), (0, 14, 21, 15)] ∈ big := big_t3 203 (by decide +kernel)
set_option maxRecDepth 100000 in
theorem ks_L_addTest : Cond.static yL_addTest ∈ big := big_t3 202 (by decide +kernel)
set_option maxRecDepth 100000 in
theorem my_L_addTest : MyH z_L_addTest yL_addTest 6 := ⟨⟨kc_L_addTest, ki_L, ⟨by decide +kernel, by decide +kernel⟩, by decide +kernel⟩, rfl, ks_L_addTest⟩
set_option maxRecDepth 100000 in
theorem kl_L_217 : Cond.methodLink RL 217 yL_addTest ∈ big := big_t3 201 (by decide +kernel)
set_option maxRecDepth 100000 in
theorem kc_X8_addTest : Cond.code yX8_addTest cX8_addTest 5 (some .int) ∈ big := big_t6 84 (by decide +kernel)
set_option maxRecDepth 100000 in
theorem kn_X8_addTest : Cond.instanceMethod yX8_addTest ∈ big := big_t6 82 (by decide +kernel)
set_option maxRecDepth 100000 in
theorem kv_X8_addTest : Cond.selects RX8 yX8_addTest yX8_addTest ∈ big := big_t6 83 (by decide +kernel)
set_option maxRecDepth 100000 in
theorem my_X8_addTest : MyV z_X8_addTest yX8_addTest 4 := ⟨⟨kc_X8_addTest, ki_X8, ⟨by decide +kernel, by decide +kernel⟩, by decide +kernel⟩, rfl, kn_X8_addTest, kv_X8_addTest⟩
set_option maxRecDepth 100000 in
theorem kl_L_220 : Cond.methodLink RL 220 yX8_addTest ∈ big := big_t6 81 (by decide +kernel)
set_option maxRecDepth 100000 in
theorem kc_L_addBoth : Cond.codeWith yL_addBoth cL_addBoth 5 (some .int) [(0, 10, 13, 21), (0, 10, 17, 42), (0, 10, 21, 15)] ∈ big := big_t3 229 (by decide +kernel)
set_option maxRecDepth 100000 in
theorem ks_L_addBoth : Cond.static yL_addBoth ∈ big := big_t3 228 (by decide +kernel)
set_option maxRecDepth 100000 in
theorem my_L_addBoth : MyH z_L_addBoth yL_addBoth 4 := ⟨⟨kc_L_addBoth, ki_L, ⟨by decide +kernel, by decide +kernel⟩, by decide +kernel⟩, rfl, ks_L_addBoth⟩
set_option maxRecDepth 100000 in
theorem kl_L_221 : Cond.methodLink RL 221 yL_addBoth ∈ big := big_t3 227 (by decide +kernel)
set_option maxRecDepth 100000 in
theorem kc_X8_addBoth : Cond.code yX8_addBoth cX8_addBoth 3 (some .int) ∈ big := big_t6 88 (by decide +kernel)
set_option maxRecDepth 100000 in
theorem kn_X8_addBoth : Cond.instanceMethod yX8_addBoth ∈ big := big_t6 86 (by decide +kernel)
set_option maxRecDepth 100000 in
theorem kv_X8_addBoth : Cond.selects RX8 yX8_addBoth yX8_addBoth ∈ big := big_t6 87 (by decide +kernel)
set_option maxRecDepth 100000 in
theorem my_X8_addBoth : MyV z_X8_addBoth yX8_addBoth 2 := ⟨⟨kc_X8_addBoth, ki_X8, ⟨by decide +kernel, by decide +kernel⟩, by decide +kernel⟩, rfl, kn_X8_addBoth, kv_X8_addBoth⟩
set_option maxRecDepth 100000 in
theorem kl_L_223 : Cond.methodLink RL 223 yX8_addBoth ∈ big := big_t6 85 (by decide +kernel)
set_option maxRecDepth 100000 in
theorem kc_L_addEither : Cond.codeWith yL_addEither cL_addEither 5 (some .int) [(0, 10, 13, 21), (0, 10, 17, 42), (0, 10, 21, 15)] ∈ big := big_t4 17 (by decide +kernel)
set_option maxRecDepth 100000 in
theorem ks_L_addEither : Cond.static yL_addEither ∈ big := big_t4 16 (by decide +kernel)
set_option maxRecDepth 100000 in
theorem my_L_addEither : MyH z_L_addEither yL_addEither 4 := ⟨⟨kc_L_addEither, ki_L, ⟨by decide +kernel, by decide +kernel⟩, by decide +kernel⟩, rfl, ks_L_addEither⟩
set_option maxRecDepth 100000 in
theorem kl_L_224 : Cond.methodLink RL 224 yL_addEither ∈ big := big_t4 15 (by decide +kernel)
set_option maxRecDepth 100000 in
theorem kc_X8_addEither : Cond.code yX8_addEither cX8_addEither 3 (some .int) ∈ big := big_t6 100 (by decide +kernel)
set_option maxRecDepth 100000 in
theorem kn_X8_addEither : Cond.instanceMethod yX8_addEither ∈ big := big_t6 98 (by decide +kernel)
set_option maxRecDepth 100000 in
theorem kv_X8_addEither : Cond.selects RX8 yX8_addEither yX8_addEither ∈ big := big_t6 99 (by decide +kernel)
set_option maxRecDepth 100000 in
theorem my_X8_addEither : MyV z_X8_addEither yX8_addEither 2 := ⟨⟨kc_X8_addEither, ki_X8, ⟨by decide +kernel, by decide +kernel⟩, by decide +kernel⟩, rfl, kn_X8_addEither, kv_X8_addEither⟩
set_option maxRecDepth 100000 in
theorem kl_L_226 : Cond.methodLink RL 226 yX8_addEither ∈ big := big_t6 97 (by decide +kernel)
set_option maxRecDepth 100000 in
theorem kc_L_addNot : Cond.codeWith yL_addNot cL_addNot 4 (some .int) [(0, 9, 12, 21), (0, 9, 15, 42), (0, 9, 18, 15)] ∈ big := big_t4 24 (by decide +kernel)
set_option maxRecDepth 100000 in
theorem ks_L_addNot : Cond.static yL_addNot ∈ big := big_t4 23 (by decide +kernel)
set_option maxRecDepth 100000 in
theorem my_L_addNot : MyH z_L_addNot yL_addNot 3 := ⟨⟨kc_L_addNot, ki_L, ⟨by decide +kernel, by decide +kernel⟩, by decide +kernel⟩, rfl, ks_L_addNot⟩
set_option maxRecDepth 100000 in
theorem kl_L_227 : Cond.methodLink RL 227 yL_addNot ∈ big := big_t4 22 (by decide +kernel)
set_option maxRecDepth 100000 in
theorem kc_X8_addNot : Cond.code yX8_addNot cX8_addNot 2 (some .int) ∈ big := big_t6 104 (by decide +kernel)
set_option maxRecDepth 100000 in
theorem kn_X8_addNot : Cond.instanceMethod yX8_addNot ∈ big := big_t6 102 (by decide +kernel)
set_option maxRecDepth 100000 in
theorem kv_X8_addNot : Cond.selects RX8 yX8_addNot yX8_addNot ∈ big := big_t6 103 (by decide +kernel)
set_option maxRecDepth 100000 in
theorem my_X8_addNot : MyV z_X8_addNot yX8_addNot 1 := ⟨⟨kc_X8_addNot, ki_X8, ⟨by decide +kernel, by decide +kernel⟩, by decide +kernel⟩, rfl, kn_X8_addNot, kv_X8_addNot⟩
set_option maxRecDepth 100000 in
theorem kl_L_229 : Cond.methodLink RL 229 yX8_addNot ∈ big := big_t6 101 (by decide +kernel)
set_option maxRecDepth 100000 in
theorem kc_L_holds : Cond.codeWith yL_holds cL_holds 5 (some .int) [(0, 17, 20, 21), (0, 17, 24, 47)] ∈ big := big_t4 35 (by decide +kernel)
set_option maxRecDepth 100000 in
theorem ks_L_holds : Cond.static yL_holds ∈ big := big_t4 34 (by decide +kernel)
set_option maxRecDepth 100000 in
theorem my_L_holds : MyH z_L_holds yL_holds 4 := ⟨⟨kc_L_holds, ki_L, ⟨by decide +kernel, by decide +kernel⟩, by decide +kernel⟩, rfl, ks_L_holds⟩
set_option maxRecDepth 100000 in
theorem kl_L_230 : Cond.methodLink RL 230 yL_holds ∈ big := big_t4 33 (by decide +kernel)
set_option maxRecDepth 100000 in
theorem kc_X8_holds : Cond.code yX8_holds cX8_holds 3 (some .boolean) ∈ big := big_t6 108 (by decide +kernel)
set_option maxRecDepth 100000 in
theorem kn_X8_holds : Cond.instanceMethod yX8_holds ∈ big := big_t6 106 (by decide +kernel)
set_option maxRecDepth 100000 in
theorem kv_X8_holds : Cond.selects RX8 yX8_holds yX8_holds ∈ big := big_t6 107 (by decide +kernel)
set_option maxRecDepth 100000 in
theorem my_X8_holds : MyV z_X8_holds yX8_holds 2 := ⟨⟨kc_X8_holds, ki_X8, ⟨by decide +kernel, by decide +kernel⟩, by decide +kernel⟩, rfl, kn_X8_holds, kv_X8_holds⟩
set_option maxRecDepth 100000 in
theorem kl_L_232 : Cond.methodLink RL 232 yX8_holds ∈ big := big_t6 105 (by decide +kernel)
set_option maxRecDepth 100000 in
theorem kc_L_sizeOf : Cond.codeWith yL_sizeOf cL_sizeOf 4 (some .int) [(0, 9, 12, 21)] ∈ big := big_t4 42 (by decide +kernel)
set_option maxRecDepth 100000 in
theorem ks_L_sizeOf : Cond.static yL_sizeOf ∈ big := big_t4 41 (by decide +kernel)
set_option maxRecDepth 100000 in
theorem my_L_sizeOf : MyH z_L_sizeOf yL_sizeOf 3 := ⟨⟨kc_L_sizeOf, ki_L, ⟨by decide +kernel, by decide +kernel⟩, by decide +kernel⟩, rfl, ks_L_sizeOf⟩
set_option maxRecDepth 100000 in
theorem kl_L_233 : Cond.methodLink RL 233 yL_sizeOf ∈ big := big_t4 40 (by decide +kernel)
set_option maxRecDepth 100000 in
theorem kc_X8_sizeOf : Cond.code yX8_sizeOf cX8_sizeOf 2 (some .int) ∈ big := big_t6 112 (by decide +kernel)
set_option maxRecDepth 100000 in
theorem kn_X8_sizeOf : Cond.instanceMethod yX8_sizeOf ∈ big := big_t6 110 (by decide +kernel)
set_option maxRecDepth 100000 in
theorem kv_X8_sizeOf : Cond.selects RX8 yX8_sizeOf yX8_sizeOf ∈ big := big_t6 111 (by decide +kernel)
set_option maxRecDepth 100000 in
theorem my_X8_sizeOf : MyV z_X8_sizeOf yX8_sizeOf 1 := ⟨⟨kc_X8_sizeOf, ki_X8, ⟨by decide +kernel, by decide +kernel⟩, by decide +kernel⟩, rfl, kn_X8_sizeOf, kv_X8_sizeOf⟩
set_option maxRecDepth 100000 in
theorem kl_L_235 : Cond.methodLink RL 235 yX8_sizeOf ∈ big := big_t6 109 (by decide +kernel)
set_option maxRecDepth 100000 in
theorem kc_L_addRule : Cond.codeWith yL_addRule cL_addRule 5 (some .int) [(0, 10, 13, 21), (0, 10, 17, 13), (0, 10, 21, 15)] ∈ big := big_t4 49 (by decide +kernel)
set_option maxRecDepth 100000 in
theorem ks_L_addRule : Cond.static yL_addRule ∈ big := big_t4 48 (by decide +kernel)
set_option maxRecDepth 100000 in
theorem my_L_addRule : MyH z_L_addRule yL_addRule 4 := ⟨⟨kc_L_addRule, ki_L, ⟨by decide +kernel, by decide +kernel⟩, by decide +kernel⟩, rfl, ks_L_addRule⟩
set_option maxRecDepth 100000 in
theorem kl_L_236 : Cond.methodLink RL 236 yL_addRule ∈ big := big_t4 47 (by decide +kernel)
set_option maxRecDepth 100000 in
theorem kc_X8_addRule : Cond.code yX8_addRule cX8_addRule 3 (some .int) ∈ big := big_t6 116 (by decide +kernel)
set_option maxRecDepth 100000 in
theorem kn_X8_addRule : Cond.instanceMethod yX8_addRule ∈ big := big_t6 114 (by decide +kernel)
set_option maxRecDepth 100000 in
theorem kv_X8_addRule : Cond.selects RX8 yX8_addRule yX8_addRule ∈ big := big_t6 115 (by decide +kernel)
set_option maxRecDepth 100000 in
theorem my_X8_addRule : MyV z_X8_addRule yX8_addRule 2 := ⟨⟨kc_X8_addRule, ki_X8, ⟨by decide +kernel, by decide +kernel⟩, by decide +kernel⟩, rfl, kn_X8_addRule, kv_X8_addRule⟩
set_option maxRecDepth 100000 in
theorem kl_L_238 : Cond.methodLink RL 238 yX8_addRule ∈ big := big_t6 113 (by decide +kernel)
set_option maxRecDepth 100000 in
theorem kc_L_setRule : Cond.codeWith yL_setRule cL_setRule 5 (some .int) [(0, 17, 20, 21)] ∈ big := big_t4 62 (by decide +kernel)
set_option maxRecDepth 100000 in
theorem ks_L_setRule : Cond.static yL_setRule ∈ big := big_t4 61 (by decide +kernel)
set_option maxRecDepth 100000 in
theorem my_L_setRule : MyH z_L_setRule yL_setRule 4 := ⟨⟨kc_L_setRule, ki_L, ⟨by decide +kernel, by decide +kernel⟩, by decide +kernel⟩, rfl, ks_L_setRule⟩
set_option maxRecDepth 100000 in
theorem kl_L_239 : Cond.methodLink RL 239 yL_setRule ∈ big := big_t4 60 (by decide +kernel)
set_option maxRecDepth 100000 in
theorem kc_X8_setRule : Cond.code yX8_setRule cX8_setRule 4 (some .boolean) ∈ big := big_t6 120 (by decide +kernel)
set_option maxRecDepth 100000 in
theorem kn_X8_setRule : Cond.instanceMethod yX8_setRule ∈ big := big_t6 118 (by decide +kernel)
set_option maxRecDepth 100000 in
theorem kv_X8_setRule : Cond.selects RX8 yX8_setRule yX8_setRule ∈ big := big_t6 119 (by decide +kernel)
set_option maxRecDepth 100000 in
theorem my_X8_setRule : MyV z_X8_setRule yX8_setRule 2 := ⟨⟨kc_X8_setRule, ki_X8, ⟨by decide +kernel, by decide +kernel⟩, by decide +kernel⟩, rfl, kn_X8_setRule, kv_X8_setRule⟩
set_option maxRecDepth 100000 in
theorem kl_L_241 : Cond.methodLink RL 241 yX8_setRule ∈ big := big_t6 117 (by decide +kernel)
set_option maxRecDepth 100000 in
theorem kc_L_setThreshold : Cond.codeWith yL_setThreshold cL_setThreshold 4 (some .int) [(0, 9, 12, 13)] ∈ big := big_t4 74 (by decide +kernel)
set_option maxRecDepth 100000 in
theorem ks_L_setThreshold : Cond.static yL_setThreshold ∈ big := big_t4 73 (by decide +kernel)
set_option maxRecDepth 100000 in
theorem my_L_setThreshold : MyH z_L_setThreshold yL_setThreshold 3 := ⟨⟨kc_L_setThreshold, ki_L, ⟨by decide +kernel, by decide +kernel⟩, by decide +kernel⟩, rfl, ks_L_setThreshold⟩
set_option maxRecDepth 100000 in
theorem kl_L_242 : Cond.methodLink RL 242 yL_setThreshold ∈ big := big_t4 72 (by decide +kernel)
set_option maxRecDepth 100000 in
theorem kc_X8_setThreshold : Cond.code yX8_setThreshold cX8_setThreshold 3 (some .int) ∈ big := big_t6 128 (by decide +kernel)
set_option maxRecDepth 100000 in
theorem kn_X8_setThreshold : Cond.instanceMethod yX8_setThreshold ∈ big := big_t6 126 (by decide +kernel)
set_option maxRecDepth 100000 in
theorem kv_X8_setThreshold : Cond.selects RX8 yX8_setThreshold yX8_setThreshold ∈ big := big_t6 127 (by decide +kernel)
set_option maxRecDepth 100000 in
theorem my_X8_setThreshold : MyV z_X8_setThreshold yX8_setThreshold 1 := ⟨⟨kc_X8_setThreshold, ki_X8, ⟨by decide +kernel, by decide +kernel⟩, by decide +kernel⟩, rfl, kn_X8_setThreshold, kv_X8_setThreshold⟩
set_option maxRecDepth 100000 in
theorem kl_L_244 : Cond.methodLink RL 244 yX8_setThreshold ∈ big := big_t6 125 (by decide +kernel)
set_option maxRecDepth 100000 in
theorem kc_L_score : Cond.codeWith yL_score cL_score 4 (some .int) [(0, 9, 12, 47)] ∈ big := big_t4 85 (by decide +kernel)
set_option maxRecDepth 100000 in
theorem ks_L_score : Cond.static yL_score ∈ big := big_t4 84 (by decide +kernel)
set_option maxRecDepth 100000 in
theorem my_L_score : MyH z_L_score yL_score 3 := ⟨⟨kc_L_score, ki_L, ⟨by decide +kernel, by decide +kernel⟩, by decide +kernel⟩, rfl, ks_L_score⟩
set_option maxRecDepth 100000 in
theorem kl_L_245 : Cond.methodLink RL 245 yL_score ∈ big := big_t4 83 (by decide +kernel)
set_option maxRecDepth 100000 in
theorem kc_X8_score : Cond.code yX8_score cX8_score 2 (some .int) ∈ big := big_t6 132 (by decide +kernel)
set_option maxRecDepth 100000 in
theorem kn_X8_score : Cond.instanceMethod yX8_score ∈ big := big_t6 130 (by decide +kernel)
set_option maxRecDepth 100000 in
theorem kv_X8_score : Cond.selects RX8 yX8_score yX8_score ∈ big := big_t6 131 (by decide +kernel)
set_option maxRecDepth 100000 in
theorem my_X8_score : MyV z_X8_score yX8_score 1 := ⟨⟨kc_X8_score, ki_X8, ⟨by decide +kernel, by decide +kernel⟩, by decide +kernel⟩, rfl, kn_X8_score, kv_X8_score⟩
set_option maxRecDepth 100000 in
theorem kl_L_247 : Cond.methodLink RL 247 yX8_score ∈ big := big_t6 129 (by decide +kernel)
set_option maxRecDepth 100000 in
theorem kc_L_scoreNow : Cond.codeWith yL_scoreNow cL_scoreNow 4 (some .int) [(0, 9, 12, 47)] ∈ big := big_t4 92 (by decide +kernel)
set_option maxRecDepth 100000 in
theorem ks_L_scoreNow : Cond.static yL_scoreNow ∈ big := big_t4 91 (by decide +kernel)
set_option maxRecDepth 100000 in
theorem my_L_scoreNow : MyH z_L_scoreNow yL_scoreNow 3 := ⟨⟨kc_L_scoreNow, ki_L, ⟨by decide +kernel, by decide +kernel⟩, by decide +kernel⟩, rfl, ks_L_scoreNow⟩
set_option maxRecDepth 100000 in
theorem kl_L_248 : Cond.methodLink RL 248 yL_scoreNow ∈ big := big_t4 90 (by decide +kernel)
set_option maxRecDepth 100000 in
theorem kc_X8_scoreNow : Cond.code yX8_scoreNow cX8_scoreNow 2 (some .int) ∈ big := big_t6 136 (by decide +kernel)
set_option maxRecDepth 100000 in
theorem kn_X8_scoreNow : Cond.instanceMethod yX8_scoreNow ∈ big := big_t6 134 (by decide +kernel)
set_option maxRecDepth 100000 in
theorem kv_X8_scoreNow : Cond.selects RX8 yX8_scoreNow yX8_scoreNow ∈ big := big_t6 135 (by decide +kernel)
set_option maxRecDepth 100000 in
theorem my_X8_scoreNow : MyV z_X8_scoreNow yX8_scoreNow 1 := ⟨⟨kc_X8_scoreNow, ki_X8, ⟨by decide +kernel, by decide +kernel⟩, by decide +kernel⟩, rfl, kn_X8_scoreNow, kv_X8_scoreNow⟩
set_option maxRecDepth 100000 in
theorem kl_L_250 : Cond.methodLink RL 250 yX8_scoreNow ∈ big := big_t6 133 (by decide +kernel)
set_option maxRecDepth 100000 in
theorem kc_L_reasons : Cond.codeWith yL_reasons cL_reasons 4 (some .int) [(0, 9, 12, 47)] ∈ big := big_t4 99 (by decide +kernel)
set_option maxRecDepth 100000 in
theorem ks_L_reasons : Cond.static yL_reasons ∈ big := big_t4 98 (by decide +kernel)
set_option maxRecDepth 100000 in
theorem my_L_reasons : MyH z_L_reasons yL_reasons 3 := ⟨⟨kc_L_reasons, ki_L, ⟨by decide +kernel, by decide +kernel⟩, by decide +kernel⟩, rfl, ks_L_reasons⟩
set_option maxRecDepth 100000 in
theorem kl_L_251 : Cond.methodLink RL 251 yL_reasons ∈ big := big_t4 97 (by decide +kernel)
set_option maxRecDepth 100000 in
theorem kc_X8_reasons : Cond.code yX8_reasons cX8_reasons 2 (some .int) ∈ big := big_t6 140 (by decide +kernel)
set_option maxRecDepth 100000 in
theorem kn_X8_reasons : Cond.instanceMethod yX8_reasons ∈ big := big_t6 138 (by decide +kernel)
set_option maxRecDepth 100000 in
theorem kv_X8_reasons : Cond.selects RX8 yX8_reasons yX8_reasons ∈ big := big_t6 139 (by decide +kernel)
set_option maxRecDepth 100000 in
theorem my_X8_reasons : MyV z_X8_reasons yX8_reasons 1 := ⟨⟨kc_X8_reasons, ki_X8, ⟨by decide +kernel, by decide +kernel⟩, by decide +kernel⟩, rfl, kn_X8_reasons, kv_X8_reasons⟩
set_option maxRecDepth 100000 in
theorem kl_L_253 : Cond.methodLink RL 253 yX8_reasons ∈ big := big_t6 137 (by decide +kernel)
set_option maxRecDepth 100000 in
theorem kc_L_reasonRule : Cond.codeWith yL_reasonRule cL_reasonRule 5 (some .int) [(0, 10, 13, 47), (0, 10, 17, 21)] ∈ big := big_t4 107 (by decide +kernel)
set_option maxRecDepth 100000 in
theorem ks_L_reasonRule : Cond.static yL_reasonRule ∈ big := big_t4 106 (by decide +kernel)
set_option maxRecDepth 100000 in
theorem my_L_reasonRule : MyH z_L_reasonRule yL_reasonRule 4 := ⟨⟨kc_L_reasonRule, ki_L, ⟨by decide +kernel, by decide +kernel⟩, by decide +kernel⟩, rfl, ks_L_reasonRule⟩
set_option maxRecDepth 100000 in
theorem kl_L_254 : Cond.methodLink RL 254 yL_reasonRule ∈ big := big_t4 105 (by decide +kernel)
set_option maxRecDepth 100000 in
theorem kc_X8_reasonRule : Cond.code yX8_reasonRule cX8_reasonRule 4 (some .int) ∈ big := big_t6 152 (by decide +kernel)
set_option maxRecDepth 100000 in
theorem kn_X8_reasonRule : Cond.instanceMethod yX8_reasonRule ∈ big := big_t6 150 (by decide +kernel)
set_option maxRecDepth 100000 in
theorem kv_X8_reasonRule : Cond.selects RX8 yX8_reasonRule yX8_reasonRule ∈ big := big_t6 151 (by decide +kernel)
set_option maxRecDepth 100000 in
theorem my_X8_reasonRule : MyV z_X8_reasonRule yX8_reasonRule 2 := ⟨⟨kc_X8_reasonRule, ki_X8, ⟨by decide +kernel, by decide +kernel⟩, by decide +kernel⟩, rfl, kn_X8_reasonRule, kv_X8_reasonRule⟩
set_option maxRecDepth 100000 in
theorem kl_L_256 : Cond.methodLink RL 256 yX8_reasonRule ∈ big := big_t6 149 (by decide +kernel)
set_option maxRecDepth 100000 in
theorem kc_L_reasonTests : Cond.codeWith yL_reasonTests cL_reasonTests 5 (some .int) [(0, 10, 13, 47), (0, 10, 17, 21)] ∈ big := big_t4 123 (by decide +kernel)
set_option maxRecDepth 100000 in
theorem ks_L_reasonTests : Cond.static yL_reasonTests ∈ big := big_t4 122 (by decide +kernel)
set_option maxRecDepth 100000 in
theorem my_L_reasonTests : MyH z_L_reasonTests yL_reasonTests 4 := ⟨⟨kc_L_reasonTests, ki_L, ⟨by decide +kernel, by decide +kernel⟩, by decide +kernel⟩, rfl, ks_L_reasonTests⟩
set_option maxRecDepth 100000 in
theorem kl_L_257 : Cond.methodLink RL 257 yL_reasonTests ∈ big := big_t4 121 (by decide +kernel)
set_option maxRecDepth 100000 in
theorem kc_X8_reasonTests : Cond.code yX8_reasonTests cX8_reasonTests 3 (some .int) ∈ big := big_t6 160 (by decide +kernel)
set_option maxRecDepth 100000 in
theorem kn_X8_reasonTests : Cond.instanceMethod yX8_reasonTests ∈ big := big_t6 158 (by decide +kernel)
set_option maxRecDepth 100000 in
theorem kv_X8_reasonTests : Cond.selects RX8 yX8_reasonTests yX8_reasonTests ∈ big := big_t6 159 (by decide +kernel)
set_option maxRecDepth 100000 in
theorem my_X8_reasonTests : MyV z_X8_reasonTests yX8_reasonTests 2 := ⟨⟨kc_X8_reasonTests, ki_X8, ⟨by decide +kernel, by decide +kernel⟩, by decide +kernel⟩, rfl, kn_X8_reasonTests, kv_X8_reasonTests⟩
set_option maxRecDepth 100000 in
theorem kl_L_259 : Cond.methodLink RL 259 yX8_reasonTests ∈ big := big_t6 157 (by decide +kernel)
set_option maxRecDepth 100000 in
theorem kc_L_reasonFeature : Cond.codeWith yL_reasonFeature cL_reasonFeature 6 (some .int) [(0, 12, 15, 47), (0, 12, 19, 21)] ∈ big := big_t4 135 (by decide +kernel)
set_option maxRecDepth 100000 in
theorem ks_L_reasonFeature : Cond.static yL_reasonFeature ∈ big := big_t4 134 (by decide +kernel)
set_option maxRecDepth 100000 in
theorem my_L_reasonFeature : MyH z_L_reasonFeature yL_reasonFeature 5 := ⟨⟨kc_L_reasonFeature, ki_L, ⟨by decide +kernel, by decide +kernel⟩, by decide +kernel⟩, rfl, ks_L_reasonFeature⟩
set_option maxRecDepth 100000 in
theorem kl_L_260 : Cond.methodLink RL 260 yL_reasonFeature ∈ big := big_t4 133 (by decide +kernel)
set_option maxRecDepth 100000 in
theorem kc_X8_reasonFeature : Cond.code yX8_reasonFeature cX8_reasonFeature 4 (some .char) ∈ big := big_t6 172 (by decide +kernel)
set_option maxRecDepth 100000 in
theorem kn_X8_reasonFeature : Cond.instanceMethod yX8_reasonFeature ∈ big := big_t6 170 (by decide +kernel)
set_option maxRecDepth 100000 in
theorem kv_X8_reasonFeature : Cond.selects RX8 yX8_reasonFeature yX8_reasonFeature ∈ big := big_t6 171 (by decide +kernel)
set_option maxRecDepth 100000 in
theorem my_X8_reasonFeature : MyV z_X8_reasonFeature yX8_reasonFeature 3 := ⟨⟨kc_X8_reasonFeature, ki_X8, ⟨by decide +kernel, by decide +kernel⟩, by decide +kernel⟩, rfl, kn_X8_reasonFeature, kv_X8_reasonFeature⟩
set_option maxRecDepth 100000 in
theorem kl_L_262 : Cond.methodLink RL 262 yX8_reasonFeature ∈ big := big_t6 169 (by decide +kernel)
set_option maxRecDepth 100000 in
theorem kc_L_reasonValue : Cond.codeWith yL_reasonValue cL_reasonValue 6 (some .int) [(0, 12, 15, 47), (0, 12, 19, 21)] ∈ big := big_t4 151 (by decide +kernel)
set_option maxRecDepth 100000 in
theorem ks_L_reasonValue : Cond.static yL_reasonValue ∈ big := big_t4 150 (by decide +kernel)
set_option maxRecDepth 100000 in
theorem my_L_reasonValue : MyH z_L_reasonValue yL_reasonValue 5 := ⟨⟨kc_L_reasonValue, ki_L, ⟨by decide +kernel, by decide +kernel⟩, by decide +kernel⟩, rfl, ks_L_reasonValue⟩
set_option maxRecDepth 100000 in
theorem kl_L_263 : Cond.methodLink RL 263 yL_reasonValue ∈ big := big_t4 149 (by decide +kernel)
set_option maxRecDepth 100000 in
theorem kc_X8_reasonValue : Cond.code yX8_reasonValue cX8_reasonValue 4 (some .int) ∈ big := big_t6 180 (by decide +kernel)
set_option maxRecDepth 100000 in
theorem kn_X8_reasonValue : Cond.instanceMethod yX8_reasonValue ∈ big := big_t6 178 (by decide +kernel)
set_option maxRecDepth 100000 in
theorem kv_X8_reasonValue : Cond.selects RX8 yX8_reasonValue yX8_reasonValue ∈ big := big_t6 179 (by decide +kernel)
set_option maxRecDepth 100000 in
theorem my_X8_reasonValue : MyV z_X8_reasonValue yX8_reasonValue 3 := ⟨⟨kc_X8_reasonValue, ki_X8, ⟨by decide +kernel, by decide +kernel⟩, by decide +kernel⟩, rfl, kn_X8_reasonValue, kv_X8_reasonValue⟩
set_option maxRecDepth 100000 in
theorem kl_L_265 : Cond.methodLink RL 265 yX8_reasonValue ∈ big := big_t6 177 (by decide +kernel)
set_option maxRecDepth 100000 in
theorem kc_L_nextAlert : Cond.codeWith yL_nextAlert cL_nextAlert 3 (some .int) [(0, 8, 11, 47)] ∈ big := big_t4 162 (by decide +kernel)
set_option maxRecDepth 100000 in
theorem ks_L_nextAlert : Cond.static yL_nextAlert ∈ big := big_t4 161 (by decide +kernel)
set_option maxRecDepth 100000 in
theorem my_L_nextAlert : MyH z_L_nextAlert yL_nextAlert 2 := ⟨⟨kc_L_nextAlert, ki_L, ⟨by decide +kernel, by decide +kernel⟩, by decide +kernel⟩, rfl, ks_L_nextAlert⟩
set_option maxRecDepth 100000 in
theorem kl_L_266 : Cond.methodLink RL 266 yL_nextAlert ∈ big := big_t4 160 (by decide +kernel)
set_option maxRecDepth 100000 in
theorem kc_X8_nextAlert : Cond.code yX8_nextAlert cX8_nextAlert 1 (some .int) ∈ big := big_t6 184 (by decide +kernel)
set_option maxRecDepth 100000 in
theorem kn_X8_nextAlert : Cond.instanceMethod yX8_nextAlert ∈ big := big_t6 182 (by decide +kernel)
set_option maxRecDepth 100000 in
theorem kv_X8_nextAlert : Cond.selects RX8 yX8_nextAlert yX8_nextAlert ∈ big := big_t6 183 (by decide +kernel)
set_option maxRecDepth 100000 in
theorem my_X8_nextAlert : MyV z_X8_nextAlert yX8_nextAlert 0 := ⟨⟨kc_X8_nextAlert, ki_X8, ⟨by decide +kernel, by decide +kernel⟩, by decide +kernel⟩, rfl, kn_X8_nextAlert, kv_X8_nextAlert⟩
set_option maxRecDepth 100000 in
theorem kl_L_269 : Cond.methodLink RL 269 yX8_nextAlert ∈ big := big_t6 181 (by decide +kernel)
set_option maxRecDepth 100000 in
theorem kc_L_alertAt : Cond.codeWith yL_alertAt cL_alertAt 4 (some .int) [(0, 9, 12, 21)] ∈ big := big_t4 178 (by decide +kernel)
set_option maxRecDepth 100000 in
theorem ks_L_alertAt : Cond.static yL_alertAt ∈ big := big_t4 177 (by decide +kernel)
set_option maxRecDepth 100000 in
theorem my_L_alertAt : MyH z_L_alertAt yL_alertAt 3 := ⟨⟨kc_L_alertAt, ki_L, ⟨by decide +kernel, by decide +kernel⟩, by decide +kernel⟩, rfl, ks_L_alertAt⟩
set_option maxRecDepth 100000 in
theorem kl_L_270 : Cond.methodLink RL 270 yL_alertAt ∈ big := big_t4 176 (by decide +kernel)
set_option maxRecDepth 100000 in
theorem kl_L_272 : Cond.methodLink RL 272 yX8_alertAt ∈ big := big_t6 193 (by decide +kernel)
set_option maxRecDepth 100000 in
theorem kc_X7_openAlerts : Cond.code yX7_openAlerts cX7_openAlerts 1 (some .int) ∈ big := big_t2 35 (by decide +kernel)
set_option maxRecDepth 100000 in
theorem kn_X7_openAlerts : Cond.instanceMethod yX7_openAlerts ∈ big := big_t2 33 (by decide +kernel)
set_option maxRecDepth 100000 in
theorem kv_X7_openAlerts : Cond.selects RX7 yX7_openAlerts yX7_openAlerts ∈ big := big_t2 34 (by decide +kernel)
set_option maxRecDepth 100000 in
theorem my_X7_openAlerts : MyV z_X7_openAlerts yX7_openAlerts 0 := ⟨⟨kc_X7_openAlerts, ki_X7, ⟨by decide +kernel, by decide +kernel⟩, by decide +kernel⟩, rfl, kn_X7_openAlerts, kv_X7_openAlerts⟩
set_option maxRecDepth 100000 in
theorem kl_L_273 : Cond.methodLink RL 273 yX7_openAlerts ∈ big := big_t2 32 (by decide +kernel)
set_option maxRecDepth 100000 in
theorem kc_X8_openAlerts : Cond.code yX8_openAlerts cX8_openAlerts 1 (some .int) ∈ big := big_t6 197 (by decide +kernel)
set_option maxRecDepth 100000 in
theorem kn_X8_openAlerts : Cond.instanceMethod yX8_openAlerts ∈ big := big_t6 195 (by decide +kernel)
set_option maxRecDepth 100000 in
theorem kv_X8_openAlerts : Cond.selects RX8 yX8_openAlerts yX8_openAlerts ∈ big := big_t6 196 (by decide +kernel)
set_option maxRecDepth 100000 in
theorem my_X8_openAlerts : MyV z_X8_openAlerts yX8_openAlerts 0 := ⟨⟨kc_X8_openAlerts, ki_X8, ⟨by decide +kernel, by decide +kernel⟩, by decide +kernel⟩, rfl, kn_X8_openAlerts, kv_X8_openAlerts⟩
set_option maxRecDepth 100000 in
theorem kl_L_276 : Cond.methodLink RL 276 yX8_openAlerts ∈ big := big_t6 194 (by decide +kernel)
set_option maxRecDepth 100000 in
theorem kc_L_decide : Cond.codeWith yL_decide cL_decide 5 (some .int) [(0, 10, 13, 47), (0, 10, 17, 15)] ∈ big := big_t4 194 (by decide +kernel)
set_option maxRecDepth 100000 in
theorem ks_L_decide : Cond.static yL_decide ∈ big := big_t4 193 (by decide +kernel)
set_option maxRecDepth 100000 in
theorem my_L_decide : MyH z_L_decide yL_decide 4 := ⟨⟨kc_L_decide, ki_L, ⟨by decide +kernel, by decide +kernel⟩, by decide +kernel⟩, rfl, ks_L_decide⟩
set_option maxRecDepth 100000 in
theorem kl_L_277 : Cond.methodLink RL 277 yL_decide ∈ big := big_t4 192 (by decide +kernel)
set_option maxRecDepth 100000 in
theorem kc_X8_decide : Cond.code yX8_decide cX8_decide 3 (some .int) ∈ big := big_t6 205 (by decide +kernel)
set_option maxRecDepth 100000 in
theorem kn_X8_decide : Cond.instanceMethod yX8_decide ∈ big := big_t6 203 (by decide +kernel)
set_option maxRecDepth 100000 in
theorem kv_X8_decide : Cond.selects RX8 yX8_decide yX8_decide ∈ big := big_t6 204 (by decide +kernel)
set_option maxRecDepth 100000 in
theorem my_X8_decide : MyV z_X8_decide yX8_decide 2 := ⟨⟨kc_X8_decide, ki_X8, ⟨by decide +kernel, by decide +kernel⟩, by decide +kernel⟩, rfl, kn_X8_decide, kv_X8_decide⟩
set_option maxRecDepth 100000 in
theorem kl_L_279 : Cond.methodLink RL 279 yX8_decide ∈ big := big_t6 202 (by decide +kernel)
set_option maxRecDepth 100000 in
theorem kc_L_alertOf : Cond.codeWith yL_alertOf cL_alertOf 4 (some .int) [(0, 9, 12, 47)] ∈ big := big_t4 206 (by decide +kernel)
set_option maxRecDepth 100000 in
theorem ks_L_alertOf : Cond.static yL_alertOf ∈ big := big_t4 205 (by decide +kernel)
set_option maxRecDepth 100000 in
theorem my_L_alertOf : MyH z_L_alertOf yL_alertOf 3 := ⟨⟨kc_L_alertOf, ki_L, ⟨by decide +kernel, by decide +kernel⟩, by decide +kernel⟩, rfl, ks_L_alertOf⟩
set_option maxRecDepth 100000 in
theorem kl_L_280 : Cond.methodLink RL 280 yL_alertOf ∈ big := big_t4 204 (by decide +kernel)
set_option maxRecDepth 100000 in
theorem kc_X8_alertOf : Cond.code yX8_alertOf cX8_alertOf 2 (some .char) ∈ big := big_t6 209 (by decide +kernel)
set_option maxRecDepth 100000 in
theorem kn_X8_alertOf : Cond.instanceMethod yX8_alertOf ∈ big := big_t6 207 (by decide +kernel)
set_option maxRecDepth 100000 in
theorem kv_X8_alertOf : Cond.selects RX8 yX8_alertOf yX8_alertOf ∈ big := big_t6 208 (by decide +kernel)
set_option maxRecDepth 100000 in
theorem my_X8_alertOf : MyV z_X8_alertOf yX8_alertOf 1 := ⟨⟨kc_X8_alertOf, ki_X8, ⟨by decide +kernel, by decide +kernel⟩, by decide +kernel⟩, rfl, kn_X8_alertOf, kv_X8_alertOf⟩
set_option maxRecDepth 100000 in
theorem kl_L_282 : Cond.methodLink RL 282 yX8_alertOf ∈ big := big_t6 206 (by decide +kernel)
set_option maxRecDepth 100000 in
theorem kc_L_ring : Cond.codeWith yL_ring cL_ring 5 (some .int) [(0, 10, 13, 21), (0, 10, 17, 13), (0, 10, 21, 47)] ∈ big := big_t4 213 (by decide +kernel)
set_option maxRecDepth 100000 in
theorem ks_L_ring : Cond.static yL_ring ∈ big := big_t4 212 (by decide +kernel)
set_option maxRecDepth 100000 in
theorem my_L_ring : MyH z_L_ring yL_ring 4 := ⟨⟨kc_L_ring, ki_L, ⟨by decide +kernel, by decide +kernel⟩, by decide +kernel⟩, rfl, ks_L_ring⟩
set_option maxRecDepth 100000 in
theorem kl_L_283 : Cond.methodLink RL 283 yL_ring ∈ big := big_t4 211 (by decide +kernel)
set_option maxRecDepth 100000 in
theorem kl_L_285 : Cond.methodLink RL 285 yX8_ring ∈ big := big_t6 210 (by decide +kernel)
set_option maxRecDepth 100000 in
theorem kc_L_ringByTrying : Cond.codeWith yL_ringByTrying cL_ringByTrying 5 (some .int) [(0, 10, 13, 21), (0, 10, 17, 13), (0, 10, 21, 47)] ∈ big := big_t4 229 (by decide +kernel)
set_option maxRecDepth 100000 in
theorem ks_L_ringByTrying : Cond.static yL_ringByTrying ∈ big := big_t4 228 (by decide +kernel)
set_option maxRecDepth 100000 in
theorem my_L_ringByTrying : MyH z_L_ringByTrying yL_ringByTrying 4 := ⟨⟨kc_L_ringByTrying, ki_L, ⟨by decide +kernel, by decide +kernel⟩, by decide +kernel⟩, rfl, ks_L_ringByTrying⟩
set_option maxRecDepth 100000 in
theorem kl_L_286 : Cond.methodLink RL 286 yL_ringByTrying ∈ big := big_t4 227 (by decide +kernel)
set_option maxRecDepth 100000 in
theorem kc_X8_ringByTrying : Cond.code yX8_ringByTrying cX8_ringByTrying 3 (some .int) ∈ big := big_t6 221 (by decide +kernel)
set_option maxRecDepth 100000 in
theorem kn_X8_ringByTrying : Cond.instanceMethod yX8_ringByTrying ∈ big := big_t6 219 (by decide +kernel)
set_option maxRecDepth 100000 in
theorem kv_X8_ringByTrying : Cond.selects RX8 yX8_ringByTrying yX8_ringByTrying ∈ big := big_t6 220 (by decide +kernel)
set_option maxRecDepth 100000 in
theorem my_X8_ringByTrying : MyV z_X8_ringByTrying yX8_ringByTrying 2 := ⟨⟨kc_X8_ringByTrying, ki_X8, ⟨by decide +kernel, by decide +kernel⟩, by decide +kernel⟩, rfl, kn_X8_ringByTrying, kv_X8_ringByTrying⟩
set_option maxRecDepth 100000 in
theorem kl_L_288 : Cond.methodLink RL 288 yX8_ringByTrying ∈ big := big_t6 218 (by decide +kernel)
set_option maxRecDepth 100000 in
theorem kc_L_group : Cond.codeWith yL_group cL_group 5 (some .int) [(0, 10, 13, 21), (0, 10, 17, 13)] ∈ big := big_t5 0 (by decide +kernel)
set_option maxRecDepth 100000 in
theorem ks_L_group : Cond.static yL_group ∈ big := big_t4 239 (by decide +kernel)
set_option maxRecDepth 100000 in
theorem my_L_group : MyH z_L_group yL_group 4 := ⟨⟨kc_L_group, ki_L, ⟨by decide +kernel, by decide +kernel⟩, by decide +kernel⟩, rfl, ks_L_group⟩
set_option maxRecDepth 100000 in
theorem kl_L_289 : Cond.methodLink RL 289 yL_group ∈ big := big_t4 238 (by decide +kernel)
set_option maxRecDepth 100000 in
theorem kc_X8_group : Cond.code yX8_group cX8_group 3 (some .int) ∈ big := big_t6 226 (by decide +kernel)
set_option maxRecDepth 100000 in
theorem kn_X8_group : Cond.instanceMethod yX8_group ∈ big := big_t6 224 (by decide +kernel)
set_option maxRecDepth 100000 in
theorem kv_X8_group : Cond.selects RX8 yX8_group yX8_group ∈ big := big_t6 225 (by decide +kernel)
set_option maxRecDepth 100000 in
theorem my_X8_group : MyV z_X8_group yX8_group 2 := ⟨⟨kc_X8_group, ki_X8, ⟨by decide +kernel, by decide +kernel⟩, by decide +kernel⟩, rfl, kn_X8_group, kv_X8_group⟩
set_option maxRecDepth 100000 in
theorem kl_L_291 : Cond.methodLink RL 291 yX8_group ∈ big := big_t6 223 (by decide +kernel)
set_option maxRecDepth 100000 in
theorem kc_L_caught : Cond.codeWith yL_caught cL_caught 4 (some .int) [(0, 9, 12, 13)] ∈ big := big_t5 8 (by decide +kernel)
set_option maxRecDepth 100000 in
theorem ks_L_caught : Cond.static yL_caught ∈ big := big_t5 7 (by decide +kernel)
set_option maxRecDepth 100000 in
theorem my_L_caught : MyH z_L_caught yL_caught 3 := ⟨⟨kc_L_caught, ki_L, ⟨by decide +kernel, by decide +kernel⟩, by decide +kernel⟩, rfl, ks_L_caught⟩
set_option maxRecDepth 100000 in
theorem kl_L_292 : Cond.methodLink RL 292 yL_caught ∈ big := big_t5 6 (by decide +kernel)
set_option maxRecDepth 100000 in
theorem kc_X8_caught : Cond.code yX8_caught cX8_caught 2 (some .int) ∈ big := big_t6 230 (by decide +kernel)
set_option maxRecDepth 100000 in
theorem kn_X8_caught : Cond.instanceMethod yX8_caught ∈ big := big_t6 228 (by decide +kernel)
set_option maxRecDepth 100000 in
theorem kv_X8_caught : Cond.selects RX8 yX8_caught yX8_caught ∈ big := big_t6 229 (by decide +kernel)
set_option maxRecDepth 100000 in
theorem my_X8_caught : MyV z_X8_caught yX8_caught 1 := ⟨⟨kc_X8_caught, ki_X8, ⟨by decide +kernel, by decide +kernel⟩, by decide +kernel⟩, rfl, kn_X8_caught, kv_X8_caught⟩
set_option maxRecDepth 100000 in
theorem kl_L_294 : Cond.methodLink RL 294 yX8_caught ∈ big := big_t6 227 (by decide +kernel)
set_option maxRecDepth 100000 in
theorem kc_L_bestThreshold : Cond.codeWith yL_bestThreshold cL_bestThreshold 4 (some .int) [(0, 9, 12, 13)] ∈ big := big_t5 19 (by decide +kernel)
set_option maxRecDepth 100000 in
theorem ks_L_bestThreshold : Cond.static yL_bestThreshold ∈ big := big_t5 18 (by decide +kernel)
set_option maxRecDepth 100000 in
theorem my_L_bestThreshold : MyH z_L_bestThreshold yL_bestThreshold 3 := ⟨⟨kc_L_bestThreshold, ki_L, ⟨by decide +kernel, by decide +kernel⟩, by decide +kernel⟩, rfl, ks_L_bestThreshold⟩
set_option maxRecDepth 100000 in
theorem kl_L_295 : Cond.methodLink RL 295 yL_bestThreshold ∈ big := big_t5 17 (by decide +kernel)
set_option maxRecDepth 100000 in
theorem kl_L_297 : Cond.methodLink RL 297 yX8_bestThreshold ∈ big := big_t6 235 (by decide +kernel)
set_option maxRecDepth 100000 in
theorem kc_L_bestThresholdByTrying : Cond.codeWith yL_bestThresholdByTrying cL_bestThresholdByTrying 4 (some .int) [(0, 9, 12, 13)] ∈ big := big_t5 30 (by decide +kernel)
set_option maxRecDepth 100000 in
theorem ks_L_bestThresholdByTrying : Cond.static yL_bestThresholdByTrying ∈ big := big_t5 29 (by decide +kernel)
set_option maxRecDepth 100000 in
theorem my_L_bestThresholdByTrying : MyH z_L_bestThresholdByTrying yL_bestThresholdByTrying 3 := ⟨⟨kc_L_bestThresholdByTrying, ki_L, ⟨by decide +kernel, by decide +kernel⟩, by decide +kernel⟩, rfl, ks_L_bestThresholdByTrying⟩
set_option maxRecDepth 100000 in
theorem kl_L_298 : Cond.methodLink RL 298 yL_bestThresholdByTrying ∈ big := big_t5 28 (by decide +kernel)
set_option maxRecDepth 100000 in
theorem kc_X8_bestThresholdByTrying : Cond.code yX8_bestThresholdByTrying cX8_bestThresholdByTrying 2 (some .int) ∈ big := big_t7 2 (by decide +kernel)
set_option maxRecDepth 100000 in
theorem kn_X8_bestThresholdByTrying : Cond.instanceMethod yX8_bestThresholdByTrying ∈ big := big_t7 0 (by decide +kernel)
set_option maxRecDepth 100000 in
theorem kv_X8_bestThresholdByTrying : Cond.selects RX8 yX8_bestThresholdByTrying yX8_bestThresholdByTrying ∈ big := big_t7 1 (by decide +kernel)
set_option maxRecDepth 100000 in
theorem my_X8_bestThresholdByTrying : MyV z_X8_bestThresholdByTrying yX8_bestThresholdByTrying 1 := ⟨⟨kc_X8_bestThresholdByTrying, ki_X8, ⟨by decide +kernel, by decide +kernel⟩, by decide +kernel⟩, rfl, kn_X8_bestThresholdByTrying, kv_X8_bestThresholdByTrying⟩
set_option maxRecDepth 100000 in
theorem kl_L_300 : Cond.methodLink RL 300 yX8_bestThresholdByTrying ∈ big := big_t6 239 (by decide +kernel)
set_option maxRecDepth 100000 in
theorem kc_L_precision : Cond.codeWith yL_precision cL_precision 4 (some .int) [(0, 9, 12, 21), (0, 9, 15, 147)] ∈ big := big_t5 37 (by decide +kernel)
set_option maxRecDepth 100000 in
theorem ks_L_precision : Cond.static yL_precision ∈ big := big_t5 36 (by decide +kernel)
set_option maxRecDepth 100000 in
theorem my_L_precision : MyH z_L_precision yL_precision 3 := ⟨⟨kc_L_precision, ki_L, ⟨by decide +kernel, by decide +kernel⟩, by decide +kernel⟩, rfl, ks_L_precision⟩
set_option maxRecDepth 100000 in
theorem kl_L_301 : Cond.methodLink RL 301 yL_precision ∈ big := big_t5 35 (by decide +kernel)
set_option maxRecDepth 100000 in
theorem kc_X8_precision : Cond.code yX8_precision cX8_precision 5 (some .float) ∈ big := big_t7 7 (by decide +kernel)
set_option maxRecDepth 100000 in
theorem kn_X8_precision : Cond.instanceMethod yX8_precision ∈ big := big_t7 5 (by decide +kernel)
set_option maxRecDepth 100000 in
theorem kv_X8_precision : Cond.selects RX8 yX8_precision yX8_precision ∈ big := big_t7 6 (by decide +kernel)
set_option maxRecDepth 100000 in
theorem my_X8_precision : MyV z_X8_precision yX8_precision 1 := ⟨⟨kc_X8_precision, ki_X8, ⟨by decide +kernel, by decide +kernel⟩, by decide +kernel⟩, rfl, kn_X8_precision, kv_X8_precision⟩
set_option maxRecDepth 100000 in
theorem kl_L_304 : Cond.methodLink RL 304 yX8_precision ∈ big := big_t7 4 (by decide +kernel)
set_option maxRecDepth 100000 in
theorem kc_L_meanScore : Cond.codeWith yL_meanScore cL_meanScore 3 (some .int) [(0, 7, 10, 147)] ∈ big := big_t5 66 (by decide +kernel)
set_option maxRecDepth 100000 in
theorem ks_L_meanScore : Cond.static yL_meanScore ∈ big := big_t5 65 (by decide +kernel)
set_option maxRecDepth 100000 in
theorem my_L_meanScore : MyH z_L_meanScore yL_meanScore 2 := ⟨⟨kc_L_meanScore, ki_L, ⟨by decide +kernel, by decide +kernel⟩, by decide +kernel⟩, rfl, ks_L_meanScore⟩
set_option maxRecDepth 100000 in
theorem kl_L_305 : Cond.methodLink RL 305 yL_meanScore ∈ big := big_t5 64 (by decide +kernel)
set_option maxRecDepth 100000 in
theorem kc_X8_meanScore : Cond.code yX8_meanScore cX8_meanScore 3 (some .double) ∈ big := big_t7 11 (by decide +kernel)
set_option maxRecDepth 100000 in
theorem kn_X8_meanScore : Cond.instanceMethod yX8_meanScore ∈ big := big_t7 9 (by decide +kernel)
set_option maxRecDepth 100000 in
theorem kv_X8_meanScore : Cond.selects RX8 yX8_meanScore yX8_meanScore ∈ big := big_t7 10 (by decide +kernel)
set_option maxRecDepth 100000 in
theorem my_X8_meanScore : MyV z_X8_meanScore yX8_meanScore 0 := ⟨⟨kc_X8_meanScore, ki_X8, ⟨by decide +kernel, by decide +kernel⟩, by decide +kernel⟩, rfl, kn_X8_meanScore, kv_X8_meanScore⟩
set_option maxRecDepth 100000 in
theorem kl_L_308 : Cond.methodLink RL 308 yX8_meanScore ∈ big := big_t7 8 (by decide +kernel)
set_option maxRecDepth 100000 in
theorem kc_X7_turnover : Cond.code yX7_turnover cX7_turnover 4 (some .long) ∈ big := big_t2 39 (by decide +kernel)
set_option maxRecDepth 100000 in
theorem kn_X7_turnover : Cond.instanceMethod yX7_turnover ∈ big := big_t2 37 (by decide +kernel)
set_option maxRecDepth 100000 in
theorem kv_X7_turnover : Cond.selects RX7 yX7_turnover yX7_turnover ∈ big := big_t2 38 (by decide +kernel)
set_option maxRecDepth 100000 in
theorem my_X7_turnover : MyV z_X7_turnover yX7_turnover 0 := ⟨⟨kc_X7_turnover, ki_X7, ⟨by decide +kernel, by decide +kernel⟩, by decide +kernel⟩, rfl, kn_X7_turnover, kv_X7_turnover⟩
set_option maxRecDepth 100000 in
theorem kl_L_309 : Cond.methodLink RL 309 yX7_turnover ∈ big := big_t2 36 (by decide +kernel)
set_option maxRecDepth 100000 in
theorem kc_X8_turnover : Cond.code yX8_turnover cX8_turnover 4 (some .long) ∈ big := big_t7 15 (by decide +kernel)
set_option maxRecDepth 100000 in
theorem kn_X8_turnover : Cond.instanceMethod yX8_turnover ∈ big := big_t7 13 (by decide +kernel)
set_option maxRecDepth 100000 in
theorem kv_X8_turnover : Cond.selects RX8 yX8_turnover yX8_turnover ∈ big := big_t7 14 (by decide +kernel)
set_option maxRecDepth 100000 in
theorem my_X8_turnover : MyV z_X8_turnover yX8_turnover 0 := ⟨⟨kc_X8_turnover, ki_X8, ⟨by decide +kernel, by decide +kernel⟩, by decide +kernel⟩, rfl, kn_X8_turnover, kv_X8_turnover⟩
set_option maxRecDepth 100000 in
theorem kl_L_313 : Cond.methodLink RL 313 yX8_turnover ∈ big := big_t7 12 (by decide +kernel)
set_option maxRecDepth 100000 in
theorem kc_X7_isSound : Cond.code yX7_isSound cX7_isSound 1 (some .boolean) ∈ big := big_t2 43 (by decide +kernel)
set_option maxRecDepth 100000 in
theorem kn_X7_isSound : Cond.instanceMethod yX7_isSound ∈ big := big_t2 41 (by decide +kernel)
set_option maxRecDepth 100000 in
theorem kv_X7_isSound : Cond.selects RX7 yX7_isSound yX7_isSound ∈ big := big_t2 42 (by decide +kernel)
set_option maxRecDepth 100000 in
theorem my_X7_isSound : MyV z_X7_isSound yX7_isSound 0 := ⟨⟨kc_X7_isSound, ki_X7, ⟨by decide +kernel, by decide +kernel⟩, by decide +kernel⟩, rfl, kn_X7_isSound, kv_X7_isSound⟩
set_option maxRecDepth 100000 in
theorem kl_L_314 : Cond.methodLink RL 314 yX7_isSound ∈ big := big_t2 40 (by decide +kernel)
set_option maxRecDepth 100000 in
theorem kc_X8_isSound : Cond.code yX8_isSound cX8_isSound 1 (some .boolean) ∈ big := big_t7 19 (by decide +kernel)
set_option maxRecDepth 100000 in
theorem kn_X8_isSound : Cond.instanceMethod yX8_isSound ∈ big := big_t7 17 (by decide +kernel)
set_option maxRecDepth 100000 in
theorem kv_X8_isSound : Cond.selects RX8 yX8_isSound yX8_isSound ∈ big := big_t7 18 (by decide +kernel)
set_option maxRecDepth 100000 in
theorem my_X8_isSound : MyV z_X8_isSound yX8_isSound 0 := ⟨⟨kc_X8_isSound, ki_X8, ⟨by decide +kernel, by decide +kernel⟩, by decide +kernel⟩, rfl, kn_X8_isSound, kv_X8_isSound⟩
set_option maxRecDepth 100000 in
theorem kl_L_318 : Cond.methodLink RL 318 yX8_isSound ∈ big := big_t7 16 (by decide +kernel)
