/-! the law's loop -/
theorem pm_stR {X : pm_X} {j pc : Nat} {L : pm_L} {S : List Value} {u : Nat × Nat} {H : pm_H} {v : Value} (h : pm_step X j pc L S u H = some (.inr (.inr (some v)))) : ((∃ x, v = .int x) ∧ pm_rt j ≠ some .long) ∨ ((∃ x, v = .long x) ∧ pm_rt j = some .long) := by
  unfold pm_step at h
  split at h
  next i n hd =>
    by_cases hk : pm_kd i = 2
    · unfold pm_ins at h
      cases i
      all_goals first
        | (simp [pm_kd] at hk; done)
        | skip
      case ireturn =>
        dsimp only at h
        split at h
        · split at h
          · split at h
            next hr =>
              cases h
              refine Or.inl ⟨⟨_, rfl⟩, ?_⟩
              rcases hr with hr | ⟨hr, -⟩ <;> rw [hr] <;> simp
            next => cases h
          · cases h
        · cases h
      case lreturn =>
        dsimp only at h
        split at h
        · split at h
          · split at h
            next hr =>
              cases h
              exact Or.inr ⟨⟨_, rfl⟩, hr⟩
            next => cases h
          · cases h
        · cases h
      case return_ =>
        dsimp only at h
        split at h
        · split at h
          · split at h
            · cases h
            · cases h
          · cases h
        · cases h
    · exact (pm_noend hk h).elim
  next => cases h
theorem pm_E_rt (X : pm_X) : ∀ (n j pc : Nat) (L : pm_L) (S : List Value) (u : Nat × Nat) (H : pm_H) (v : Value) (H' : pm_H), pm_E X n j pc L S u H = some (some v, H') → ((∃ x, v = .int x) ∧ pm_rt j ≠ some .long) ∨ ((∃ x, v = .long x) ∧ pm_rt j = some .long) := by
  intro n
  induction n with
  | zero => intro j pc L S u H v H' h; cases h
  | succ n ih =>
    intro j pc L S u H v H' h
    unfold pm_E at h
    split at h
    next => cases h
    next => exact ih _ _ _ _ _ _ _ _ h
    next j' as S' hst =>
      split at h
      next => cases h
      next => exact ih _ _ _ _ _ _ _ _ h
    next w hst =>
      cases h
      exact pm_stR hst
theorem pm_int {X : pm_X} {j : Nat} {as : List Value} {H H' : pm_H} {v : Value} (h : pm_V0 X j as H = some (some v, H')) (hr : pm_rt j ≠ some .long) : ∃ x, v = .int x := by
  obtain ⟨n, hn⟩ := pm_V_to h
  rcases pm_E_rt X n _ _ _ _ _ _ _ _ hn with ⟨h1, -⟩ | ⟨-, h1⟩
  · exact h1
  · exact absurd h1 hr
theorem pm_lng {X : pm_X} {j : Nat} {as : List Value} {H H' : pm_H} {v : Value} (h : pm_V0 X j as H = some (some v, H')) (hr : pm_rt j = some .long) : ∃ x, v = .long x := by
  obtain ⟨n, hn⟩ := pm_V_to h
  rcases pm_E_rt X n _ _ _ _ _ _ _ _ hn with ⟨-, h1⟩ | ⟨h1, -⟩
  · exact absurd hr h1
  · exact h1
theorem lg_self (x : Int64) : lg_cmp x x = 0 := by
  unfold lg_cmp
  rw [if_neg (by simp [Int64.lt_irrefl]), if_pos rfl]
theorem law_sub {a : Nat} (ha : a ≤ 3584) : (nI a - nI 7).toInt = (a : Int) - 7 := by
  by_cases h : a < 7
  · have : a = 0 ∨ a = 1 ∨ a = 2 ∨ a = 3 ∨ a = 4 ∨ a = 5 ∨ a = 6 := by omega
    rcases this with rfl | rfl | rfl | rfl | rfl | rfl | rfl <;> decide
  · have e : nI a - nI 7 = nI (a - 7) := by
      have e1 : nI (a - 7) + nI 7 = nI a := by rw [nI_add, show a - 7 + 7 = a by omega]
      rw [← e1, Int32.add_sub_cancel]
    rw [e, nI_toInt (by omega)]
    omega
theorem law_lt {a b : Nat} (ha : a ≤ 3584) (hb : b ≤ 4000) : (nI a - nI 7 < nI b) ↔ a < b + 7 := by
  rw [Int32.lt_iff_toInt_lt, law_sub ha, nI_toInt (by omega)]
  omega
theorem law_0 {X : pm_X} {U : pm_U} {i : Nat} {u : Nat × Nat} (hx : X.1 < 2 ^ 31) (hi : i + 7 ≤ X.1) (hu : u.1 ≤ pm_mc 0 ∧ u.2 ≤ pm_ms 0) (h : Inv U) : ∃ U', Inv U' ∧ pm_V X 0 236 [some (.ref 0), some (.ref 1), some (.ref 76), some (.int (nI i))] [] u (pm_hp U) = pm_V X 0 1888 [some (.ref 0), some (.ref 1), some (.ref 76), some (.int (nI i))] [] u (pm_hp U') := by
  obtain ⟨v, U1, U2, h1, h2, h3⟩ := ok_row (X := X) h (X.2 (i + 1)) (X.2 (i + 2))
  obtain ⟨x, rfl⟩ := pm_int h1 (by decide)
  refine ⟨U2, h3, ?_⟩
  rw [v0_236, v0_237, v0_238, v0_239, v0_240, nI_add, v0_241 hx (by omega), v0_242, v0_243, v0_244, v0_245, nI_add, v0_246 hx (by omega), v0_247 hu rfl, h1, pm_bd_some]
  show pm_V X 0 250 [some (.ref 0), some (.ref 1), some (.ref 76), some (.int (nI i))] [.int x] u (pm_hp U1) = _
  rw [v0_250, v0_251, v0_252, v0_253, v0_254, nI_add, v0_255 hx (by omega), v0_256, v0_257, v0_258, v0_259, nI_add, v0_260 hx (by omega), v0_261 hu rfl, h2, pm_bd_some]
  show pm_V X 0 264 [some (.ref 0), some (.ref 1), some (.ref 76), some (.int (nI i))] [.int x, .int x] u (pm_hp U2) = _
  rw [v0_264, if_pos rfl]
theorem law_1 {X : pm_X} {U : pm_U} {i : Nat} {u : Nat × Nat} (hx : X.1 < 2 ^ 31) (hi : i + 7 ≤ X.1) (hu : u.1 ≤ pm_mc 0 ∧ u.2 ≤ pm_ms 0) (h : Inv U) : ∃ U', Inv U' ∧ pm_V X 0 269 [some (.ref 0), some (.ref 1), some (.ref 76), some (.int (nI i))] [] u (pm_hp U) = pm_V X 0 1888 [some (.ref 0), some (.ref 1), some (.ref 76), some (.int (nI i))] [] u (pm_hp U') := by
  obtain ⟨v, U1, U2, h1, h2, h3⟩ := ok_lay (X := X) h (X.2 (i + 1)) (X.2 (i + 2)) (X.2 (i + 3))
  obtain ⟨x, rfl⟩ := pm_int h1 (by decide)
  refine ⟨U2, h3, ?_⟩
  rw [v0_269, v0_270, v0_271, v0_272, v0_273, nI_add, v0_274 hx (by omega), v0_275, v0_276, v0_277, v0_278, nI_add, v0_279 hx (by omega), v0_280, v0_281, v0_282, v0_283, nI_add, v0_284 hx (by omega), v0_285 hu rfl, h1, pm_bd_some]
  show pm_V X 0 288 [some (.ref 0), some (.ref 1), some (.ref 76), some (.int (nI i))] [.int x] u (pm_hp U1) = _
  rw [v0_288, v0_289, v0_290, v0_291, v0_292, nI_add, v0_293 hx (by omega), v0_294, v0_295, v0_296, v0_297, nI_add, v0_298 hx (by omega), v0_299, v0_300, v0_301, v0_302, nI_add, v0_303 hx (by omega), v0_304 hu rfl, h2, pm_bd_some]
  show pm_V X 0 307 [some (.ref 0), some (.ref 1), some (.ref 76), some (.int (nI i))] [.int x, .int x] u (pm_hp U2) = _
  rw [v0_307, if_pos rfl]
theorem law_2 {X : pm_X} {U : pm_U} {i : Nat} {u : Nat × Nat} (hx : X.1 < 2 ^ 31) (hi : i + 7 ≤ X.1) (hu : u.1 ≤ pm_mc 0 ∧ u.2 ≤ pm_ms 0) (h : Inv U) : ∃ U', Inv U' ∧ pm_V X 0 312 [some (.ref 0), some (.ref 1), some (.ref 76), some (.int (nI i))] [] u (pm_hp U) = pm_V X 0 1888 [some (.ref 0), some (.ref 1), some (.ref 76), some (.int (nI i))] [] u (pm_hp U') := by
  obtain ⟨v, U1, U2, h1, h2, h3⟩ := ok_at (X := X) h (X.2 (i + 1)) (X.2 (i + 2))
  obtain ⟨x, rfl⟩ := pm_int h1 (by decide)
  refine ⟨U2, h3, ?_⟩
  rw [v0_312, v0_313, v0_314, v0_315, v0_316, nI_add, v0_317 hx (by omega), v0_318, v0_319, v0_320, v0_321, nI_add, v0_322 hx (by omega), v0_323 hu rfl, h1, pm_bd_some]
  show pm_V X 0 326 [some (.ref 0), some (.ref 1), some (.ref 76), some (.int (nI i))] [.int x] u (pm_hp U1) = _
  rw [v0_326, v0_327, v0_328, v0_329, v0_330, nI_add, v0_331 hx (by omega), v0_332, v0_333, v0_334, v0_335, nI_add, v0_336 hx (by omega), v0_337 hu rfl, h2, pm_bd_some]
  show pm_V X 0 340 [some (.ref 0), some (.ref 1), some (.ref 76), some (.int (nI i))] [.int x, .int x] u (pm_hp U2) = _
  rw [v0_340, if_pos rfl]
theorem law_3 {X : pm_X} {U : pm_U} {i : Nat} {u : Nat × Nat} (hx : X.1 < 2 ^ 31) (hi : i + 7 ≤ X.1) (hu : u.1 ≤ pm_mc 0 ∧ u.2 ≤ pm_ms 0) (h : Inv U) : ∃ U', Inv U' ∧ pm_V X 0 345 [some (.ref 0), some (.ref 1), some (.ref 76), some (.int (nI i))] [] u (pm_hp U) = pm_V X 0 1888 [some (.ref 0), some (.ref 1), some (.ref 76), some (.int (nI i))] [] u (pm_hp U') := by
  obtain ⟨v, U1, U2, h1, h2, h3⟩ := ok_tear (X := X) h (X.2 (i + 1))
  obtain ⟨x, rfl⟩ := pm_int h1 (by decide)
  refine ⟨U2, h3, ?_⟩
  rw [v0_345, v0_346, v0_347, v0_348, v0_349, nI_add, v0_350 hx (by omega), v0_351 hu rfl, h1, pm_bd_some]
  show pm_V X 0 354 [some (.ref 0), some (.ref 1), some (.ref 76), some (.int (nI i))] [.int x] u (pm_hp U1) = _
  rw [v0_354, v0_355, v0_356, v0_357, v0_358, nI_add, v0_359 hx (by omega), v0_360 hu rfl, h2, pm_bd_some]
  show pm_V X 0 363 [some (.ref 0), some (.ref 1), some (.ref 76), some (.int (nI i))] [.int x, .int x] u (pm_hp U2) = _
  rw [v0_363, if_pos rfl]
theorem law_4 {X : pm_X} {U : pm_U} {i : Nat} {u : Nat × Nat} (hx : X.1 < 2 ^ 31) (hi : i + 7 ≤ X.1) (hu : u.1 ≤ pm_mc 0 ∧ u.2 ≤ pm_ms 0) (h : Inv U) : ∃ U', Inv U' ∧ pm_V X 0 368 [some (.ref 0), some (.ref 1), some (.ref 76), some (.int (nI i))] [] u (pm_hp U) = pm_V X 0 1888 [some (.ref 0), some (.ref 1), some (.ref 76), some (.int (nI i))] [] u (pm_hp U') := by
  obtain ⟨v, U1, U2, h1, h2, h3⟩ := ok_copy (X := X) h (X.2 (i + 1)) (X.2 (i + 2)) (X.2 (i + 3)) (X.2 (i + 4)) (X.2 (i + 5))
  obtain ⟨x, rfl⟩ := pm_int h1 (by decide)
  refine ⟨U2, h3, ?_⟩
  rw [v0_368, v0_369, v0_370, v0_371, v0_372, nI_add, v0_373 hx (by omega), v0_374, v0_375, v0_376, v0_377, nI_add, v0_378 hx (by omega), v0_379, v0_380, v0_381, v0_382, nI_add, v0_383 hx (by omega), v0_384, v0_385, v0_386, v0_387, nI_add, v0_388 hx (by omega), v0_389, v0_390, v0_391, v0_392, nI_add, v0_393 hx (by omega), v0_394 hu rfl, h1, pm_bd_some]
  show pm_V X 0 397 [some (.ref 0), some (.ref 1), some (.ref 76), some (.int (nI i))] [.int x] u (pm_hp U1) = _
  rw [v0_397, v0_398, v0_399, v0_400, v0_401, nI_add, v0_402 hx (by omega), v0_403, v0_404, v0_405, v0_406, nI_add, v0_407 hx (by omega), v0_408, v0_409, v0_410, v0_411, nI_add, v0_412 hx (by omega), v0_413, v0_414, v0_415, v0_416, nI_add, v0_417 hx (by omega), v0_418, v0_419, v0_420, v0_421, nI_add, v0_422 hx (by omega), v0_423 hu rfl, h2, pm_bd_some]
  show pm_V X 0 426 [some (.ref 0), some (.ref 1), some (.ref 76), some (.int (nI i))] [.int x, .int x] u (pm_hp U2) = _
  rw [v0_426, if_pos rfl]
theorem law_5 {X : pm_X} {U : pm_U} {i : Nat} {u : Nat × Nat} (hx : X.1 < 2 ^ 31) (hi : i + 7 ≤ X.1) (hu : u.1 ≤ pm_mc 0 ∧ u.2 ≤ pm_ms 0) (h : Inv U) : ∃ U', Inv U' ∧ pm_V X 0 431 [some (.ref 0), some (.ref 1), some (.ref 76), some (.int (nI i))] [] u (pm_hp U) = pm_V X 0 1888 [some (.ref 0), some (.ref 1), some (.ref 76), some (.int (nI i))] [] u (pm_hp U') := by
  obtain ⟨v, U1, U2, h1, h2, h3⟩ := ok_mean (X := X) h (X.2 (i + 1))
  obtain ⟨x, rfl⟩ := pm_int h1 (by decide)
  refine ⟨U2, h3, ?_⟩
  rw [v0_431, v0_432, v0_433, v0_434, v0_435, nI_add, v0_436 hx (by omega), v0_437 hu rfl, h1, pm_bd_some]
  show pm_V X 0 440 [some (.ref 0), some (.ref 1), some (.ref 76), some (.int (nI i))] [.int x] u (pm_hp U1) = _
  rw [v0_440, v0_441, v0_442, v0_443, v0_444, nI_add, v0_445 hx (by omega), v0_446 hu rfl, h2, pm_bd_some]
  show pm_V X 0 449 [some (.ref 0), some (.ref 1), some (.ref 76), some (.int (nI i))] [.int x, .int x] u (pm_hp U2) = _
  rw [v0_449, if_pos rfl]
theorem law_6 {X : pm_X} {U : pm_U} {i : Nat} {u : Nat × Nat} (hx : X.1 < 2 ^ 31) (hi : i + 7 ≤ X.1) (hu : u.1 ≤ pm_mc 0 ∧ u.2 ≤ pm_ms 0) (h : Inv U) : ∃ U', Inv U' ∧ pm_V X 0 454 [some (.ref 0), some (.ref 1), some (.ref 76), some (.int (nI i))] [] u (pm_hp U) = pm_V X 0 1888 [some (.ref 0), some (.ref 1), some (.ref 76), some (.int (nI i))] [] u (pm_hp U') := by
  obtain ⟨v, U1, U2, h1, h2, h3⟩ := ok_text (X := X) h (X.2 (i + 1)) (X.2 (i + 2))
  obtain ⟨x, rfl⟩ := pm_int h1 (by decide)
  refine ⟨U2, h3, ?_⟩
  rw [v0_454, v0_455, v0_456, v0_457, v0_458, nI_add, v0_459 hx (by omega), v0_460, v0_461, v0_462, v0_463, nI_add, v0_464 hx (by omega), v0_465 hu rfl, h1, pm_bd_some]
  show pm_V X 0 468 [some (.ref 0), some (.ref 1), some (.ref 76), some (.int (nI i))] [.int x] u (pm_hp U1) = _
  rw [v0_468, v0_469, v0_470, v0_471, v0_472, nI_add, v0_473 hx (by omega), v0_474, v0_475, v0_476, v0_477, nI_add, v0_478 hx (by omega), v0_479 hu rfl, h2, pm_bd_some]
  show pm_V X 0 482 [some (.ref 0), some (.ref 1), some (.ref 76), some (.int (nI i))] [.int x, .int x] u (pm_hp U2) = _
  rw [v0_482, if_pos rfl]
theorem law_7 {X : pm_X} {U : pm_U} {i : Nat} {u : Nat × Nat} (hx : X.1 < 2 ^ 31) (hi : i + 7 ≤ X.1) (hu : u.1 ≤ pm_mc 0 ∧ u.2 ≤ pm_ms 0) (h : Inv U) : ∃ U', Inv U' ∧ pm_V X 0 487 [some (.ref 0), some (.ref 1), some (.ref 76), some (.int (nI i))] [] u (pm_hp U) = pm_V X 0 1888 [some (.ref 0), some (.ref 1), some (.ref 76), some (.int (nI i))] [] u (pm_hp U') := by
  obtain ⟨v, U1, U2, h1, h2, h3⟩ := ok_put (X := X) h (X.2 (i + 1)) (X.2 (i + 2)) (X.2 (i + 3))
  obtain ⟨x, rfl⟩ := pm_int h1 (by decide)
  refine ⟨U2, h3, ?_⟩
  rw [v0_487, v0_488, v0_489, v0_490, v0_491, nI_add, v0_492 hx (by omega), v0_493, v0_494, v0_495, v0_496, nI_add, v0_497 hx (by omega), v0_498, v0_499, v0_500, v0_501, nI_add, v0_502 hx (by omega), v0_503 hu rfl, h1, pm_bd_some]
  show pm_V X 0 506 [some (.ref 0), some (.ref 1), some (.ref 76), some (.int (nI i))] [.int x] u (pm_hp U1) = _
  rw [v0_506, v0_507, v0_508, v0_509, v0_510, nI_add, v0_511 hx (by omega), v0_512, v0_513, v0_514, v0_515, nI_add, v0_516 hx (by omega), v0_517, v0_518, v0_519, v0_520, nI_add, v0_521 hx (by omega), v0_522 hu rfl, h2, pm_bd_some]
  show pm_V X 0 525 [some (.ref 0), some (.ref 1), some (.ref 76), some (.int (nI i))] [.int x, .int x] u (pm_hp U2) = _
  rw [v0_525, if_pos rfl]
theorem law_8 {X : pm_X} {U : pm_U} {i : Nat} {u : Nat × Nat} (hx : X.1 < 2 ^ 31) (hi : i + 7 ≤ X.1) (hu : u.1 ≤ pm_mc 0 ∧ u.2 ≤ pm_ms 0) (h : Inv U) : ∃ U', Inv U' ∧ pm_V X 0 530 [some (.ref 0), some (.ref 1), some (.ref 76), some (.int (nI i))] [] u (pm_hp U) = pm_V X 0 1888 [some (.ref 0), some (.ref 1), some (.ref 76), some (.int (nI i))] [] u (pm_hp U') := by
  by_cases hz : X.2 (i + 2) = 0
  · obtain ⟨v, U1, U2, h1, h2, h3⟩ := ok_fault (X := X) h (X.2 (i + 1)) (nI 0)
    obtain ⟨x, rfl⟩ := pm_int h1 (by decide)
    refine ⟨U2, h3, ?_⟩
    rw [v0_530, v0_531, v0_532, v0_533, v0_534, nI_add, v0_535 hx (by omega), v0_536, v0_537, v0_538, v0_539, nI_add, v0_540 hx (by omega), v0_541, if_pos hz, v0_548, v0_549 hu rfl, h1, pm_bd_some]
    show pm_V X 0 552 [some (.ref 0), some (.ref 1), some (.ref 76), some (.int (nI i))] [.int x] u (pm_hp U1) = _
    rw [v0_552, v0_553, v0_554, v0_555, v0_556, nI_add, v0_557 hx (by omega), v0_558, v0_559, v0_560, v0_561, nI_add, v0_562 hx (by omega), v0_563, if_pos hz, v0_570, v0_571 hu rfl, h2, pm_bd_some]
    show pm_V X 0 574 [some (.ref 0), some (.ref 1), some (.ref 76), some (.int (nI i))] [.int x, .int x] u (pm_hp U2) = _
    rw [v0_574, if_pos rfl]
  · obtain ⟨v, U1, U2, h1, h2, h3⟩ := ok_fault (X := X) h (X.2 (i + 1)) (nI 1)
    obtain ⟨x, rfl⟩ := pm_int h1 (by decide)
    refine ⟨U2, h3, ?_⟩
    rw [v0_530, v0_531, v0_532, v0_533, v0_534, nI_add, v0_535 hx (by omega), v0_536, v0_537, v0_538, v0_539, nI_add, v0_540 hx (by omega), v0_541, if_neg hz, v0_544, v0_545, v0_549 hu rfl, h1, pm_bd_some]
    show pm_V X 0 552 [some (.ref 0), some (.ref 1), some (.ref 76), some (.int (nI i))] [.int x] u (pm_hp U1) = _
    rw [v0_552, v0_553, v0_554, v0_555, v0_556, nI_add, v0_557 hx (by omega), v0_558, v0_559, v0_560, v0_561, nI_add, v0_562 hx (by omega), v0_563, if_neg hz, v0_566, v0_567, v0_571 hu rfl, h2, pm_bd_some]
    show pm_V X 0 574 [some (.ref 0), some (.ref 1), some (.ref 76), some (.int (nI i))] [.int x, .int x] u (pm_hp U2) = _
    rw [v0_574, if_pos rfl]
theorem law_9 {X : pm_X} {U : pm_U} {i : Nat} {u : Nat × Nat} (hx : X.1 < 2 ^ 31) (hi : i + 7 ≤ X.1) (hu : u.1 ≤ pm_mc 0 ∧ u.2 ≤ pm_ms 0) (h : Inv U) : ∃ U', Inv U' ∧ pm_V X 0 579 [some (.ref 0), some (.ref 1), some (.ref 76), some (.int (nI i))] [] u (pm_hp U) = pm_V X 0 1888 [some (.ref 0), some (.ref 1), some (.ref 76), some (.int (nI i))] [] u (pm_hp U') := by
  obtain ⟨v, U1, U2, h1, h2, h3⟩ := ok_rule (X := X) h (X.2 (i + 1)) (X.2 (i + 2))
  obtain ⟨x, rfl⟩ := pm_int h1 (by decide)
  refine ⟨U2, h3, ?_⟩
  rw [v0_579, v0_580, v0_581, v0_582, v0_583, nI_add, v0_584 hx (by omega), v0_585, v0_586, v0_587, v0_588, nI_add, v0_589 hx (by omega), v0_590 hu rfl, h1, pm_bd_some]
  show pm_V X 0 593 [some (.ref 0), some (.ref 1), some (.ref 76), some (.int (nI i))] [.int x] u (pm_hp U1) = _
  rw [v0_593, v0_594, v0_595, v0_596, v0_597, nI_add, v0_598 hx (by omega), v0_599, v0_600, v0_601, v0_602, nI_add, v0_603 hx (by omega), v0_604 hu rfl, h2, pm_bd_some]
  show pm_V X 0 607 [some (.ref 0), some (.ref 1), some (.ref 76), some (.int (nI i))] [.int x, .int x] u (pm_hp U2) = _
  rw [v0_607, if_pos rfl]
theorem law_10 {X : pm_X} {U : pm_U} {i : Nat} {u : Nat × Nat} (hx : X.1 < 2 ^ 31) (hi : i + 7 ≤ X.1) (hu : u.1 ≤ pm_mc 0 ∧ u.2 ≤ pm_ms 0) (h : Inv U) : ∃ U', Inv U' ∧ pm_V X 0 612 [some (.ref 0), some (.ref 1), some (.ref 76), some (.int (nI i))] [] u (pm_hp U) = pm_V X 0 1888 [some (.ref 0), some (.ref 1), some (.ref 76), some (.int (nI i))] [] u (pm_hp U') := by
  obtain ⟨v, U1, U2, h1, h2, h3⟩ := ok_numbered (X := X) h (X.2 (i + 1)) (X.2 (i + 2))
  obtain ⟨x, rfl⟩ := pm_int h1 (by decide)
  refine ⟨U2, h3, ?_⟩
  rw [v0_612, v0_613, v0_614, v0_615, v0_616, nI_add, v0_617 hx (by omega), v0_618, v0_619, v0_620, v0_621, nI_add, v0_622 hx (by omega), v0_623 hu rfl, h1, pm_bd_some]
  show pm_V X 0 626 [some (.ref 0), some (.ref 1), some (.ref 76), some (.int (nI i))] [.int x] u (pm_hp U1) = _
  rw [v0_626, v0_627, v0_628, v0_629, v0_630, nI_add, v0_631 hx (by omega), v0_632, v0_633, v0_634, v0_635, nI_add, v0_636 hx (by omega), v0_637 hu rfl, h2, pm_bd_some]
  show pm_V X 0 640 [some (.ref 0), some (.ref 1), some (.ref 76), some (.int (nI i))] [.int x, .int x] u (pm_hp U2) = _
  rw [v0_640, if_pos rfl]
theorem law_11 {X : pm_X} {U : pm_U} {i : Nat} {u : Nat × Nat} (hx : X.1 < 2 ^ 31) (hi : i + 7 ≤ X.1) (hu : u.1 ≤ pm_mc 0 ∧ u.2 ≤ pm_ms 0) (h : Inv U) : ∃ U', Inv U' ∧ pm_V X 0 645 [some (.ref 0), some (.ref 1), some (.ref 76), some (.int (nI i))] [] u (pm_hp U) = pm_V X 0 1888 [some (.ref 0), some (.ref 1), some (.ref 76), some (.int (nI i))] [] u (pm_hp U') := by
  obtain ⟨v, U1, U2, h1, h2, h3⟩ := ok_page (X := X) h (X.2 (i + 1)) (X.2 (i + 2))
  obtain ⟨x, rfl⟩ := pm_int h1 (by decide)
  refine ⟨U2, h3, ?_⟩
  rw [v0_645, v0_646, v0_647, v0_648, v0_649, nI_add, v0_650 hx (by omega), v0_651, v0_652, v0_653, v0_654, nI_add, v0_655 hx (by omega), v0_656 hu rfl, h1, pm_bd_some]
  show pm_V X 0 659 [some (.ref 0), some (.ref 1), some (.ref 76), some (.int (nI i))] [.int x] u (pm_hp U1) = _
  rw [v0_659, v0_660, v0_661, v0_662, v0_663, nI_add, v0_664 hx (by omega), v0_665, v0_666, v0_667, v0_668, nI_add, v0_669 hx (by omega), v0_670 hu rfl, h2, pm_bd_some]
  show pm_V X 0 673 [some (.ref 0), some (.ref 1), some (.ref 76), some (.int (nI i))] [.int x, .int x] u (pm_hp U2) = _
  rw [v0_673, if_pos rfl]
theorem law_12 {X : pm_X} {U : pm_U} {i : Nat} {u : Nat × Nat} (hx : X.1 < 2 ^ 31) (hi : i + 7 ≤ X.1) (hu : u.1 ≤ pm_mc 0 ∧ u.2 ≤ pm_ms 0) (h : Inv U) : ∃ U', Inv U' ∧ pm_V X 0 678 [some (.ref 0), some (.ref 1), some (.ref 76), some (.int (nI i))] [] u (pm_hp U) = pm_V X 0 1888 [some (.ref 0), some (.ref 1), some (.ref 76), some (.int (nI i))] [] u (pm_hp U') := by
  obtain ⟨v, U1, U2, h1, h2, h3⟩ := ok_clause (X := X) h (X.2 (i + 1)) (X.2 (i + 2))
  obtain ⟨x, rfl⟩ := pm_int h1 (by decide)
  refine ⟨U2, h3, ?_⟩
  rw [v0_678, v0_679, v0_680, v0_681, v0_682, nI_add, v0_683 hx (by omega), v0_684, v0_685, v0_686, v0_687, nI_add, v0_688 hx (by omega), v0_689 hu rfl, h1, pm_bd_some]
  show pm_V X 0 692 [some (.ref 0), some (.ref 1), some (.ref 76), some (.int (nI i))] [.int x] u (pm_hp U1) = _
  rw [v0_692, v0_693, v0_694, v0_695, v0_696, nI_add, v0_697 hx (by omega), v0_698, v0_699, v0_700, v0_701, nI_add, v0_702 hx (by omega), v0_703 hu rfl, h2, pm_bd_some]
  show pm_V X 0 706 [some (.ref 0), some (.ref 1), some (.ref 76), some (.int (nI i))] [.int x, .int x] u (pm_hp U2) = _
  rw [v0_706, if_pos rfl]
theorem law_13 {X : pm_X} {U : pm_U} {i : Nat} {u : Nat × Nat} (hx : X.1 < 2 ^ 31) (hi : i + 7 ≤ X.1) (hu : u.1 ≤ pm_mc 0 ∧ u.2 ≤ pm_ms 0) (h : Inv U) : ∃ U', Inv U' ∧ pm_V X 0 711 [some (.ref 0), some (.ref 1), some (.ref 76), some (.int (nI i))] [] u (pm_hp U) = pm_V X 0 1888 [some (.ref 0), some (.ref 1), some (.ref 76), some (.int (nI i))] [] u (pm_hp U') := by
  obtain ⟨v, U1, U2, h1, h2, h3⟩ := ok_mark (X := X) h (X.2 (i + 1)) (X.2 (i + 2)) (X.2 (i + 3))
  obtain ⟨x, rfl⟩ := pm_int h1 (by decide)
  refine ⟨U2, h3, ?_⟩
  rw [v0_711, v0_712, v0_713, v0_714, v0_715, nI_add, v0_716 hx (by omega), v0_717, v0_718, v0_719, v0_720, nI_add, v0_721 hx (by omega), v0_722, v0_723, v0_724, v0_725, nI_add, v0_726 hx (by omega), v0_727 hu rfl, h1, pm_bd_some]
  show pm_V X 0 730 [some (.ref 0), some (.ref 1), some (.ref 76), some (.int (nI i))] [.int x] u (pm_hp U1) = _
  rw [v0_730, v0_731, v0_732, v0_733, v0_734, nI_add, v0_735 hx (by omega), v0_736, v0_737, v0_738, v0_739, nI_add, v0_740 hx (by omega), v0_741, v0_742, v0_743, v0_744, nI_add, v0_745 hx (by omega), v0_746 hu rfl, h2, pm_bd_some]
  show pm_V X 0 749 [some (.ref 0), some (.ref 1), some (.ref 76), some (.int (nI i))] [.int x, .int x] u (pm_hp U2) = _
  rw [v0_749, if_pos rfl]
theorem law_14 {X : pm_X} {U : pm_U} {i : Nat} {u : Nat × Nat} (hx : X.1 < 2 ^ 31) (hi : i + 7 ≤ X.1) (hu : u.1 ≤ pm_mc 0 ∧ u.2 ≤ pm_ms 0) (h : Inv U) : ∃ U', Inv U' ∧ pm_V X 0 754 [some (.ref 0), some (.ref 1), some (.ref 76), some (.int (nI i))] [] u (pm_hp U) = pm_V X 0 1888 [some (.ref 0), some (.ref 1), some (.ref 76), some (.int (nI i))] [] u (pm_hp U') := by
  obtain ⟨v, U1, U2, h1, h2, h3⟩ := ok_line (X := X) h (X.2 (i + 1)) (X.2 (i + 2))
  obtain ⟨x, rfl⟩ := pm_int h1 (by decide)
  refine ⟨U2, h3, ?_⟩
  rw [v0_754, v0_755, v0_756, v0_757, v0_758, nI_add, v0_759 hx (by omega), v0_760, v0_761, v0_762, v0_763, nI_add, v0_764 hx (by omega), v0_765 hu rfl, h1, pm_bd_some]
  show pm_V X 0 768 [some (.ref 0), some (.ref 1), some (.ref 76), some (.int (nI i))] [.int x] u (pm_hp U1) = _
  rw [v0_768, v0_769, v0_770, v0_771, v0_772, nI_add, v0_773 hx (by omega), v0_774, v0_775, v0_776, v0_777, nI_add, v0_778 hx (by omega), v0_779 hu rfl, h2, pm_bd_some]
  show pm_V X 0 782 [some (.ref 0), some (.ref 1), some (.ref 76), some (.int (nI i))] [.int x, .int x] u (pm_hp U2) = _
  rw [v0_782, if_pos rfl]
theorem law_15 {X : pm_X} {U : pm_U} {i : Nat} {u : Nat × Nat} (hx : X.1 < 2 ^ 31) (hi : i + 7 ≤ X.1) (hu : u.1 ≤ pm_mc 0 ∧ u.2 ≤ pm_ms 0) (h : Inv U) : ∃ U', Inv U' ∧ pm_V X 0 787 [some (.ref 0), some (.ref 1), some (.ref 76), some (.int (nI i))] [] u (pm_hp U) = pm_V X 0 1888 [some (.ref 0), some (.ref 1), some (.ref 76), some (.int (nI i))] [] u (pm_hp U') := by
  obtain ⟨v, U1, U2, h1, h2, h3⟩ := ok_expects (X := X) h (X.2 (i + 1)) (X.2 (i + 2))
  obtain ⟨x, rfl⟩ := pm_int h1 (by decide)
  refine ⟨U2, h3, ?_⟩
  rw [v0_787, v0_788, v0_789, v0_790, v0_791, nI_add, v0_792 hx (by omega), v0_793, v0_794, v0_795, v0_796, nI_add, v0_797 hx (by omega), v0_798 hu rfl, h1, pm_bd_some]
  show pm_V X 0 801 [some (.ref 0), some (.ref 1), some (.ref 76), some (.int (nI i))] [.int x] u (pm_hp U1) = _
  rw [v0_801, v0_802, v0_803, v0_804, v0_805, nI_add, v0_806 hx (by omega), v0_807, v0_808, v0_809, v0_810, nI_add, v0_811 hx (by omega), v0_812 hu rfl, h2, pm_bd_some]
  show pm_V X 0 815 [some (.ref 0), some (.ref 1), some (.ref 76), some (.int (nI i))] [.int x, .int x] u (pm_hp U2) = _
  rw [v0_815, if_pos rfl]
theorem law_16 {X : pm_X} {U : pm_U} {i : Nat} {u : Nat × Nat} (hx : X.1 < 2 ^ 31) (hi : i + 7 ≤ X.1) (hu : u.1 ≤ pm_mc 0 ∧ u.2 ≤ pm_ms 0) (h : Inv U) : ∃ U', Inv U' ∧ pm_V X 0 820 [some (.ref 0), some (.ref 1), some (.ref 76), some (.int (nI i))] [] u (pm_hp U) = pm_V X 0 1888 [some (.ref 0), some (.ref 1), some (.ref 76), some (.int (nI i))] [] u (pm_hp U') := by
  obtain ⟨v, U1, U2, h1, h2, h3⟩ := ok_days (X := X) h (X.2 (i + 1)) (X.2 (i + 2)) (X.2 (i + 3))
  obtain ⟨x, rfl⟩ := pm_int h1 (by decide)
  refine ⟨U2, h3, ?_⟩
  rw [v0_820, v0_821, v0_822, v0_823, v0_824, nI_add, v0_825 hx (by omega), v0_826, v0_827, v0_828, v0_829, nI_add, v0_830 hx (by omega), v0_831, v0_832, v0_833, v0_834, nI_add, v0_835 hx (by omega), v0_836 hu rfl, h1, pm_bd_some]
  show pm_V X 0 839 [some (.ref 0), some (.ref 1), some (.ref 76), some (.int (nI i))] [.int x] u (pm_hp U1) = _
  rw [v0_839, v0_840, v0_841, v0_842, v0_843, nI_add, v0_844 hx (by omega), v0_845, v0_846, v0_847, v0_848, nI_add, v0_849 hx (by omega), v0_850, v0_851, v0_852, v0_853, nI_add, v0_854 hx (by omega), v0_855 hu rfl, h2, pm_bd_some]
  show pm_V X 0 858 [some (.ref 0), some (.ref 1), some (.ref 76), some (.int (nI i))] [.int x, .int x] u (pm_hp U2) = _
  rw [v0_858, if_pos rfl]
theorem law_17 {X : pm_X} {U : pm_U} {i : Nat} {u : Nat × Nat} (hx : X.1 < 2 ^ 31) (hi : i + 7 ≤ X.1) (hu : u.1 ≤ pm_mc 0 ∧ u.2 ≤ pm_ms 0) (h : Inv U) : ∃ U', Inv U' ∧ pm_V X 0 863 [some (.ref 0), some (.ref 1), some (.ref 76), some (.int (nI i))] [] u (pm_hp U) = pm_V X 0 1888 [some (.ref 0), some (.ref 1), some (.ref 76), some (.int (nI i))] [] u (pm_hp U') := by
  obtain ⟨v, U1, U2, h1, h2, h3⟩ := ok_write (X := X) h (X.2 (i + 1)) (X.2 (i + 2)) (X.2 (i + 3))
  obtain ⟨x, rfl⟩ := pm_int h1 (by decide)
  refine ⟨U2, h3, ?_⟩
  rw [v0_863, v0_864, v0_865, v0_866, v0_867, nI_add, v0_868 hx (by omega), v0_869, v0_870, v0_871, v0_872, nI_add, v0_873 hx (by omega), v0_874, v0_875, v0_876, v0_877, nI_add, v0_878 hx (by omega), v0_879 hu rfl, h1, pm_bd_some]
  show pm_V X 0 882 [some (.ref 0), some (.ref 1), some (.ref 76), some (.int (nI i))] [.int x] u (pm_hp U1) = _
  rw [v0_882, v0_883, v0_884, v0_885, v0_886, nI_add, v0_887 hx (by omega), v0_888, v0_889, v0_890, v0_891, nI_add, v0_892 hx (by omega), v0_893, v0_894, v0_895, v0_896, nI_add, v0_897 hx (by omega), v0_898 hu rfl, h2, pm_bd_some]
  show pm_V X 0 901 [some (.ref 0), some (.ref 1), some (.ref 76), some (.int (nI i))] [.int x, .int x] u (pm_hp U2) = _
  rw [v0_901, if_pos rfl]
theorem law_18 {X : pm_X} {U : pm_U} {i : Nat} {u : Nat × Nat} (hx : X.1 < 2 ^ 31) (hi : i + 7 ≤ X.1) (hu : u.1 ≤ pm_mc 0 ∧ u.2 ≤ pm_ms 0) (h : Inv U) : ∃ U', Inv U' ∧ pm_V X 0 906 [some (.ref 0), some (.ref 1), some (.ref 76), some (.int (nI i))] [] u (pm_hp U) = pm_V X 0 1888 [some (.ref 0), some (.ref 1), some (.ref 76), some (.int (nI i))] [] u (pm_hp U') := by
  obtain ⟨v, U1, U2, h1, h2, h3⟩ := ok_fewest (X := X) h (X.2 (i + 1)) (X.2 (i + 2))
  obtain ⟨x, rfl⟩ := pm_int h1 (by decide)
  refine ⟨U2, h3, ?_⟩
  rw [v0_906, v0_907, v0_908, v0_909, v0_910, nI_add, v0_911 hx (by omega), v0_912, v0_913, v0_914, v0_915, nI_add, v0_916 hx (by omega), v0_917 hu rfl, h1, pm_bd_some]
  show pm_V X 0 920 [some (.ref 0), some (.ref 1), some (.ref 76), some (.int (nI i))] [.int x] u (pm_hp U1) = _
  rw [v0_920, v0_921, v0_922, v0_923, v0_924, nI_add, v0_925 hx (by omega), v0_926, v0_927, v0_928, v0_929, nI_add, v0_930 hx (by omega), v0_931 hu rfl, h2, pm_bd_some]
  show pm_V X 0 934 [some (.ref 0), some (.ref 1), some (.ref 76), some (.int (nI i))] [.int x, .int x] u (pm_hp U2) = _
  rw [v0_934, if_pos rfl]
theorem law_19 {X : pm_X} {U : pm_U} {i : Nat} {u : Nat × Nat} (hx : X.1 < 2 ^ 31) (hi : i + 7 ≤ X.1) (hu : u.1 ≤ pm_mc 0 ∧ u.2 ≤ pm_ms 0) (h : Inv U) : ∃ U', Inv U' ∧ pm_V X 0 939 [some (.ref 0), some (.ref 1), some (.ref 76), some (.int (nI i))] [] u (pm_hp U) = pm_V X 0 1888 [some (.ref 0), some (.ref 1), some (.ref 76), some (.int (nI i))] [] u (pm_hp U') := by
  obtain ⟨v, U1, U2, h1, h2, h3⟩ := ok_many (X := X) h (X.2 (i + 1)) (X.2 (i + 2))
  obtain ⟨x, rfl⟩ := pm_int h1 (by decide)
  refine ⟨U2, h3, ?_⟩
  rw [v0_939, v0_940, v0_941, v0_942, v0_943, nI_add, v0_944 hx (by omega), v0_945, v0_946, v0_947, v0_948, nI_add, v0_949 hx (by omega), v0_950 hu rfl, h1, pm_bd_some]
  show pm_V X 0 953 [some (.ref 0), some (.ref 1), some (.ref 76), some (.int (nI i))] [.int x] u (pm_hp U1) = _
  rw [v0_953, v0_954, v0_955, v0_956, v0_957, nI_add, v0_958 hx (by omega), v0_959, v0_960, v0_961, v0_962, nI_add, v0_963 hx (by omega), v0_964 hu rfl, h2, pm_bd_some]
  show pm_V X 0 967 [some (.ref 0), some (.ref 1), some (.ref 76), some (.int (nI i))] [.int x, .int x] u (pm_hp U2) = _
  rw [v0_967, if_pos rfl]
theorem law_20 {X : pm_X} {U : pm_U} {i : Nat} {u : Nat × Nat} (hx : X.1 < 2 ^ 31) (hi : i + 7 ≤ X.1) (hu : u.1 ≤ pm_mc 0 ∧ u.2 ≤ pm_ms 0) (h : Inv U) : ∃ U', Inv U' ∧ pm_V X 0 972 [some (.ref 0), some (.ref 1), some (.ref 76), some (.int (nI i))] [] u (pm_hp U) = pm_V X 0 1888 [some (.ref 0), some (.ref 1), some (.ref 76), some (.int (nI i))] [] u (pm_hp U') := by
  obtain ⟨v, U1, U2, h1, h2, h3⟩ := ok_open (X := X) h (X.2 (i + 1)) (X.2 (i + 2))
  obtain ⟨x, rfl⟩ := pm_int h1 (by decide)
  refine ⟨U2, h3, ?_⟩
  rw [v0_972, v0_973, v0_974, v0_975, v0_976, nI_add, v0_977 hx (by omega), v0_978, v0_979, v0_980, v0_981, nI_add, v0_982 hx (by omega), v0_983 hu rfl, h1, pm_bd_some]
  show pm_V X 0 986 [some (.ref 0), some (.ref 1), some (.ref 76), some (.int (nI i))] [.int x] u (pm_hp U1) = _
  rw [v0_986, v0_987, v0_988, v0_989, v0_990, nI_add, v0_991 hx (by omega), v0_992, v0_993, v0_994, v0_995, nI_add, v0_996 hx (by omega), v0_997 hu rfl, h2, pm_bd_some]
  show pm_V X 0 1000 [some (.ref 0), some (.ref 1), some (.ref 76), some (.int (nI i))] [.int x, .int x] u (pm_hp U2) = _
  rw [v0_1000, if_pos rfl]
theorem law_21 {X : pm_X} {U : pm_U} {i : Nat} {u : Nat × Nat} (hx : X.1 < 2 ^ 31) (hi : i + 7 ≤ X.1) (hu : u.1 ≤ pm_mc 0 ∧ u.2 ≤ pm_ms 0) (h : Inv U) : ∃ U', Inv U' ∧ pm_V X 0 1005 [some (.ref 0), some (.ref 1), some (.ref 76), some (.int (nI i))] [] u (pm_hp U) = pm_V X 0 1888 [some (.ref 0), some (.ref 1), some (.ref 76), some (.int (nI i))] [] u (pm_hp U') := by
  obtain ⟨v, U1, U2, h1, h2, h3⟩ := ok_read (X := X) h 
  obtain ⟨x, rfl⟩ := pm_int h1 (by decide)
  refine ⟨U2, h3, ?_⟩
  rw [v0_1005, v0_1006 hu rfl, h1, pm_bd_some]
  show pm_V X 0 1009 [some (.ref 0), some (.ref 1), some (.ref 76), some (.int (nI i))] [.int x] u (pm_hp U1) = _
  rw [v0_1009, v0_1010 hu rfl, h2, pm_bd_some]
  show pm_V X 0 1013 [some (.ref 0), some (.ref 1), some (.ref 76), some (.int (nI i))] [.int x, .int x] u (pm_hp U2) = _
  rw [v0_1013, if_pos rfl]
theorem law_22 {X : pm_X} {U : pm_U} {i : Nat} {u : Nat × Nat} (hx : X.1 < 2 ^ 31) (hi : i + 7 ≤ X.1) (hu : u.1 ≤ pm_mc 0 ∧ u.2 ≤ pm_ms 0) (h : Inv U) : ∃ U', Inv U' ∧ pm_V X 0 1018 [some (.ref 0), some (.ref 1), some (.ref 76), some (.int (nI i))] [] u (pm_hp U) = pm_V X 0 1888 [some (.ref 0), some (.ref 1), some (.ref 76), some (.int (nI i))] [] u (pm_hp U') := by
  obtain ⟨v, U1, U2, h1, h2, h3⟩ := ok_keep (X := X) h (X.2 (i + 1))
  obtain ⟨x, rfl⟩ := pm_int h1 (by decide)
  refine ⟨U2, h3, ?_⟩
  rw [v0_1018, v0_1019, v0_1020, v0_1021, v0_1022, nI_add, v0_1023 hx (by omega), v0_1024 hu rfl, h1, pm_bd_some]
  show pm_V X 0 1027 [some (.ref 0), some (.ref 1), some (.ref 76), some (.int (nI i))] [.int x] u (pm_hp U1) = _
  rw [v0_1027, v0_1028, v0_1029, v0_1030, v0_1031, nI_add, v0_1032 hx (by omega), v0_1033 hu rfl, h2, pm_bd_some]
  show pm_V X 0 1036 [some (.ref 0), some (.ref 1), some (.ref 76), some (.int (nI i))] [.int x, .int x] u (pm_hp U2) = _
  rw [v0_1036, if_pos rfl]
theorem law_23 {X : pm_X} {U : pm_U} {i : Nat} {u : Nat × Nat} (hx : X.1 < 2 ^ 31) (hi : i + 7 ≤ X.1) (hu : u.1 ≤ pm_mc 0 ∧ u.2 ≤ pm_ms 0) (h : Inv U) : ∃ U', Inv U' ∧ pm_V X 0 1041 [some (.ref 0), some (.ref 1), some (.ref 76), some (.int (nI i))] [] u (pm_hp U) = pm_V X 0 1888 [some (.ref 0), some (.ref 1), some (.ref 76), some (.int (nI i))] [] u (pm_hp U') := by
  obtain ⟨v, U1, U2, h1, h2, h3⟩ := ok_on (X := X) h (X.2 (i + 1))
  obtain ⟨x, rfl⟩ := pm_int h1 (by decide)
  refine ⟨U2, h3, ?_⟩
  rw [v0_1041, v0_1042, v0_1043, v0_1044, v0_1045, nI_add, v0_1046 hx (by omega), v0_1047 hu rfl, h1, pm_bd_some]
  show pm_V X 0 1050 [some (.ref 0), some (.ref 1), some (.ref 76), some (.int (nI i))] [.int x] u (pm_hp U1) = _
  rw [v0_1050, v0_1051, v0_1052, v0_1053, v0_1054, nI_add, v0_1055 hx (by omega), v0_1056 hu rfl, h2, pm_bd_some]
  show pm_V X 0 1059 [some (.ref 0), some (.ref 1), some (.ref 76), some (.int (nI i))] [.int x, .int x] u (pm_hp U2) = _
  rw [v0_1059, if_pos rfl]
theorem law_24 {X : pm_X} {U : pm_U} {i : Nat} {u : Nat × Nat} (hx : X.1 < 2 ^ 31) (hi : i + 7 ≤ X.1) (hu : u.1 ≤ pm_mc 0 ∧ u.2 ≤ pm_ms 0) (h : Inv U) : ∃ U', Inv U' ∧ pm_V X 0 1064 [some (.ref 0), some (.ref 1), some (.ref 76), some (.int (nI i))] [] u (pm_hp U) = pm_V X 0 1888 [some (.ref 0), some (.ref 1), some (.ref 76), some (.int (nI i))] [] u (pm_hp U') := by
  obtain ⟨v, U1, U2, h1, h2, h3⟩ := ok_worlds (X := X) h (X.2 (i + 1)) (X.2 (i + 2)) (X.2 (i + 3)) (X.2 (i + 4)) (X.2 (i + 5))
  obtain ⟨x, rfl⟩ := pm_int h1 (by decide)
  refine ⟨U2, h3, ?_⟩
  rw [v0_1064, v0_1065, v0_1066, v0_1067, v0_1068, nI_add, v0_1069 hx (by omega), v0_1070, v0_1071, v0_1072, v0_1073, nI_add, v0_1074 hx (by omega), v0_1075, v0_1076, v0_1077, v0_1078, nI_add, v0_1079 hx (by omega), v0_1080, v0_1081, v0_1082, v0_1083, nI_add, v0_1084 hx (by omega), v0_1085, v0_1086, v0_1087, v0_1088, nI_add, v0_1089 hx (by omega), v0_1090 hu rfl, h1, pm_bd_some]
  show pm_V X 0 1093 [some (.ref 0), some (.ref 1), some (.ref 76), some (.int (nI i))] [.int x] u (pm_hp U1) = _
  rw [v0_1093, v0_1094, v0_1095, v0_1096, v0_1097, nI_add, v0_1098 hx (by omega), v0_1099, v0_1100, v0_1101, v0_1102, nI_add, v0_1103 hx (by omega), v0_1104, v0_1105, v0_1106, v0_1107, nI_add, v0_1108 hx (by omega), v0_1109, v0_1110, v0_1111, v0_1112, nI_add, v0_1113 hx (by omega), v0_1114, v0_1115, v0_1116, v0_1117, nI_add, v0_1118 hx (by omega), v0_1119 hu rfl, h2, pm_bd_some]
  show pm_V X 0 1122 [some (.ref 0), some (.ref 1), some (.ref 76), some (.int (nI i))] [.int x, .int x] u (pm_hp U2) = _
  rw [v0_1122, if_pos rfl]
theorem law_25 {X : pm_X} {U : pm_U} {i : Nat} {u : Nat × Nat} (hx : X.1 < 2 ^ 31) (hi : i + 7 ≤ X.1) (hu : u.1 ≤ pm_mc 0 ∧ u.2 ≤ pm_ms 0) (h : Inv U) : ∃ U', Inv U' ∧ pm_V X 0 1127 [some (.ref 0), some (.ref 1), some (.ref 76), some (.int (nI i))] [] u (pm_hp U) = pm_V X 0 1888 [some (.ref 0), some (.ref 1), some (.ref 76), some (.int (nI i))] [] u (pm_hp U') := by
  obtain ⟨v, U1, U2, h1, h2, h3⟩ := ok_sure (X := X) h (X.2 (i + 1)) (X.2 (i + 2)) (X.2 (i + 3)) (X.2 (i + 4)) (X.2 (i + 5))
  obtain ⟨x, rfl⟩ := pm_int h1 (by decide)
  refine ⟨U2, h3, ?_⟩
  rw [v0_1127, v0_1128, v0_1129, v0_1130, v0_1131, nI_add, v0_1132 hx (by omega), v0_1133, v0_1134, v0_1135, v0_1136, nI_add, v0_1137 hx (by omega), v0_1138, v0_1139, v0_1140, v0_1141, nI_add, v0_1142 hx (by omega), v0_1143, v0_1144, v0_1145, v0_1146, nI_add, v0_1147 hx (by omega), v0_1148, v0_1149, v0_1150, v0_1151, nI_add, v0_1152 hx (by omega), v0_1153 hu rfl, h1, pm_bd_some]
  show pm_V X 0 1156 [some (.ref 0), some (.ref 1), some (.ref 76), some (.int (nI i))] [.int x] u (pm_hp U1) = _
  rw [v0_1156, v0_1157, v0_1158, v0_1159, v0_1160, nI_add, v0_1161 hx (by omega), v0_1162, v0_1163, v0_1164, v0_1165, nI_add, v0_1166 hx (by omega), v0_1167, v0_1168, v0_1169, v0_1170, nI_add, v0_1171 hx (by omega), v0_1172, v0_1173, v0_1174, v0_1175, nI_add, v0_1176 hx (by omega), v0_1177, v0_1178, v0_1179, v0_1180, nI_add, v0_1181 hx (by omega), v0_1182 hu rfl, h2, pm_bd_some]
  show pm_V X 0 1185 [some (.ref 0), some (.ref 1), some (.ref 76), some (.int (nI i))] [.int x, .int x] u (pm_hp U2) = _
  rw [v0_1185, if_pos rfl]
theorem law_26 {X : pm_X} {U : pm_U} {i : Nat} {u : Nat × Nat} (hx : X.1 < 2 ^ 31) (hi : i + 7 ≤ X.1) (hu : u.1 ≤ pm_mc 0 ∧ u.2 ≤ pm_ms 0) (h : Inv U) : ∃ U', Inv U' ∧ pm_V X 0 1190 [some (.ref 0), some (.ref 1), some (.ref 76), some (.int (nI i))] [] u (pm_hp U) = pm_V X 0 1888 [some (.ref 0), some (.ref 1), some (.ref 76), some (.int (nI i))] [] u (pm_hp U') := by
  obtain ⟨v, U1, U2, h1, h2, h3⟩ := ok_can (X := X) h (X.2 (i + 1)) (X.2 (i + 2)) (X.2 (i + 3)) (X.2 (i + 4)) (X.2 (i + 5)) (X.2 (i + 6))
  obtain ⟨x, rfl⟩ := pm_int h1 (by decide)
  refine ⟨U2, h3, ?_⟩
  rw [v0_1190, v0_1191, v0_1192, v0_1193, v0_1194, nI_add, v0_1195 hx (by omega), v0_1196, v0_1197, v0_1198, v0_1199, nI_add, v0_1200 hx (by omega), v0_1201, v0_1202, v0_1203, v0_1204, nI_add, v0_1205 hx (by omega), v0_1206, v0_1207, v0_1208, v0_1209, nI_add, v0_1210 hx (by omega), v0_1211, v0_1212, v0_1213, v0_1214, nI_add, v0_1215 hx (by omega), v0_1216, v0_1217, v0_1218, v0_1220, nI_add, v0_1221 hx (by omega), v0_1222 hu rfl, h1, pm_bd_some]
  show pm_V X 0 1225 [some (.ref 0), some (.ref 1), some (.ref 76), some (.int (nI i))] [.int x] u (pm_hp U1) = _
  rw [v0_1225, v0_1226, v0_1227, v0_1228, v0_1229, nI_add, v0_1230 hx (by omega), v0_1231, v0_1232, v0_1233, v0_1234, nI_add, v0_1235 hx (by omega), v0_1236, v0_1237, v0_1238, v0_1239, nI_add, v0_1240 hx (by omega), v0_1241, v0_1242, v0_1243, v0_1244, nI_add, v0_1245 hx (by omega), v0_1246, v0_1247, v0_1248, v0_1249, nI_add, v0_1250 hx (by omega), v0_1251, v0_1252, v0_1253, v0_1255, nI_add, v0_1256 hx (by omega), v0_1257 hu rfl, h2, pm_bd_some]
  show pm_V X 0 1260 [some (.ref 0), some (.ref 1), some (.ref 76), some (.int (nI i))] [.int x, .int x] u (pm_hp U2) = _
  rw [v0_1260, if_pos rfl]
theorem law_27 {X : pm_X} {U : pm_U} {i : Nat} {u : Nat × Nat} (hx : X.1 < 2 ^ 31) (hi : i + 7 ≤ X.1) (hu : u.1 ≤ pm_mc 0 ∧ u.2 ≤ pm_ms 0) (h : Inv U) : ∃ U', Inv U' ∧ pm_V X 0 1265 [some (.ref 0), some (.ref 1), some (.ref 76), some (.int (nI i))] [] u (pm_hp U) = pm_V X 0 1888 [some (.ref 0), some (.ref 1), some (.ref 76), some (.int (nI i))] [] u (pm_hp U') := by
  obtain ⟨v, U1, U2, h1, h2, h3⟩ := ok_rules (X := X) h (X.2 (i + 1)) (X.2 (i + 2))
  obtain ⟨x, rfl⟩ := pm_int h1 (by decide)
  refine ⟨U2, h3, ?_⟩
  rw [v0_1265, v0_1266, v0_1267, v0_1268, v0_1269, nI_add, v0_1270 hx (by omega), v0_1271, v0_1272, v0_1273, v0_1274, nI_add, v0_1275 hx (by omega), v0_1276 hu rfl, h1, pm_bd_some]
  show pm_V X 0 1279 [some (.ref 0), some (.ref 1), some (.ref 76), some (.int (nI i))] [.int x] u (pm_hp U1) = _
  rw [v0_1279, v0_1280, v0_1281, v0_1282, v0_1283, nI_add, v0_1284 hx (by omega), v0_1285, v0_1286, v0_1287, v0_1288, nI_add, v0_1289 hx (by omega), v0_1290 hu rfl, h2, pm_bd_some]
  show pm_V X 0 1293 [some (.ref 0), some (.ref 1), some (.ref 76), some (.int (nI i))] [.int x, .int x] u (pm_hp U2) = _
  rw [v0_1293, if_pos rfl]
theorem law_28 {X : pm_X} {U : pm_U} {i : Nat} {u : Nat × Nat} (hx : X.1 < 2 ^ 31) (hi : i + 7 ≤ X.1) (hu : u.1 ≤ pm_mc 0 ∧ u.2 ≤ pm_ms 0) (h : Inv U) : ∃ U', Inv U' ∧ pm_V X 0 1298 [some (.ref 0), some (.ref 1), some (.ref 76), some (.int (nI i))] [] u (pm_hp U) = pm_V X 0 1888 [some (.ref 0), some (.ref 1), some (.ref 76), some (.int (nI i))] [] u (pm_hp U') := by
  obtain ⟨v, U1, U2, h1, h2, h3⟩ := ok_agree (X := X) h (X.2 (i + 1)) (X.2 (i + 2))
  obtain ⟨x, rfl⟩ := pm_int h1 (by decide)
  refine ⟨U2, h3, ?_⟩
  rw [v0_1298, v0_1299, v0_1300, v0_1301, v0_1302, nI_add, v0_1303 hx (by omega), v0_1304, v0_1305, v0_1306, v0_1307, nI_add, v0_1308 hx (by omega), v0_1309 hu rfl, h1, pm_bd_some]
  show pm_V X 0 1312 [some (.ref 0), some (.ref 1), some (.ref 76), some (.int (nI i))] [.int x] u (pm_hp U1) = _
  rw [v0_1312, v0_1313, v0_1314, v0_1315, v0_1316, nI_add, v0_1317 hx (by omega), v0_1318, v0_1319, v0_1320, v0_1321, nI_add, v0_1322 hx (by omega), v0_1323 hu rfl, h2, pm_bd_some]
  show pm_V X 0 1326 [some (.ref 0), some (.ref 1), some (.ref 76), some (.int (nI i))] [.int x, .int x] u (pm_hp U2) = _
  rw [v0_1326, if_pos rfl]
theorem law_29 {X : pm_X} {U : pm_U} {i : Nat} {u : Nat × Nat} (hx : X.1 < 2 ^ 31) (hi : i + 7 ≤ X.1) (hu : u.1 ≤ pm_mc 0 ∧ u.2 ≤ pm_ms 0) (h : Inv U) : ∃ U', Inv U' ∧ pm_V X 0 1331 [some (.ref 0), some (.ref 1), some (.ref 76), some (.int (nI i))] [] u (pm_hp U) = pm_V X 0 1888 [some (.ref 0), some (.ref 1), some (.ref 76), some (.int (nI i))] [] u (pm_hp U') := by
  obtain ⟨v, U1, U2, h1, h2, h3⟩ := ok_ask (X := X) h (X.2 (i + 1)) (X.2 (i + 2))
  obtain ⟨x, rfl⟩ := pm_int h1 (by decide)
  refine ⟨U2, h3, ?_⟩
  rw [v0_1331, v0_1332, v0_1333, v0_1334, v0_1335, nI_add, v0_1336 hx (by omega), v0_1337, v0_1338, v0_1339, v0_1340, nI_add, v0_1341 hx (by omega), v0_1342 hu rfl, h1, pm_bd_some]
  show pm_V X 0 1345 [some (.ref 0), some (.ref 1), some (.ref 76), some (.int (nI i))] [.int x] u (pm_hp U1) = _
  rw [v0_1345, v0_1346, v0_1347, v0_1348, v0_1349, nI_add, v0_1350 hx (by omega), v0_1351, v0_1352, v0_1353, v0_1354, nI_add, v0_1355 hx (by omega), v0_1356 hu rfl, h2, pm_bd_some]
  show pm_V X 0 1359 [some (.ref 0), some (.ref 1), some (.ref 76), some (.int (nI i))] [.int x, .int x] u (pm_hp U2) = _
  rw [v0_1359, if_pos rfl]
theorem law_30 {X : pm_X} {U : pm_U} {i : Nat} {u : Nat × Nat} (hx : X.1 < 2 ^ 31) (hi : i + 7 ≤ X.1) (hu : u.1 ≤ pm_mc 0 ∧ u.2 ≤ pm_ms 0) (h : Inv U) : ∃ U', Inv U' ∧ pm_V X 0 1364 [some (.ref 0), some (.ref 1), some (.ref 76), some (.int (nI i))] [] u (pm_hp U) = pm_V X 0 1888 [some (.ref 0), some (.ref 1), some (.ref 76), some (.int (nI i))] [] u (pm_hp U') := by
  obtain ⟨v, U1, U2, h1, h2, h3⟩ := ok_likely (X := X) h (X.2 (i + 1)) (X.2 (i + 2)) (X.2 (i + 3)) (X.2 (i + 4))
  obtain ⟨x, rfl⟩ := pm_int h1 (by decide)
  refine ⟨U2, h3, ?_⟩
  rw [v0_1364, v0_1365, v0_1366, v0_1367, v0_1368, nI_add, v0_1369 hx (by omega), v0_1370, v0_1371, v0_1372, v0_1373, nI_add, v0_1374 hx (by omega), v0_1375, v0_1376, v0_1377, v0_1378, nI_add, v0_1379 hx (by omega), v0_1380, v0_1381, v0_1382, v0_1383, nI_add, v0_1384 hx (by omega), v0_1385 hu rfl, h1, pm_bd_some]
  show pm_V X 0 1388 [some (.ref 0), some (.ref 1), some (.ref 76), some (.int (nI i))] [.int x] u (pm_hp U1) = _
  rw [v0_1388, v0_1389, v0_1390, v0_1391, v0_1392, nI_add, v0_1393 hx (by omega), v0_1394, v0_1395, v0_1396, v0_1397, nI_add, v0_1398 hx (by omega), v0_1399, v0_1400, v0_1401, v0_1402, nI_add, v0_1403 hx (by omega), v0_1404, v0_1405, v0_1406, v0_1407, nI_add, v0_1408 hx (by omega), v0_1409 hu rfl, h2, pm_bd_some]
  show pm_V X 0 1412 [some (.ref 0), some (.ref 1), some (.ref 76), some (.int (nI i))] [.int x, .int x] u (pm_hp U2) = _
  rw [v0_1412, if_pos rfl]
theorem law_31 {X : pm_X} {U : pm_U} {i : Nat} {u : Nat × Nat} (hx : X.1 < 2 ^ 31) (hi : i + 7 ≤ X.1) (hu : u.1 ≤ pm_mc 0 ∧ u.2 ≤ pm_ms 0) (h : Inv U) : ∃ U', Inv U' ∧ pm_V X 0 1417 [some (.ref 0), some (.ref 1), some (.ref 76), some (.int (nI i))] [] u (pm_hp U) = pm_V X 0 1888 [some (.ref 0), some (.ref 1), some (.ref 76), some (.int (nI i))] [] u (pm_hp U') := by
  obtain ⟨v, U1, U2, h1, h2, h3⟩ := ok_left (X := X) h (X.2 (i + 1)) (X.2 (i + 2))
  obtain ⟨x, rfl⟩ := pm_int h1 (by decide)
  refine ⟨U2, h3, ?_⟩
  rw [v0_1417, v0_1418, v0_1419, v0_1420, v0_1421, nI_add, v0_1422 hx (by omega), v0_1423, v0_1424, v0_1425, v0_1426, nI_add, v0_1427 hx (by omega), v0_1428 hu rfl, h1, pm_bd_some]
  show pm_V X 0 1431 [some (.ref 0), some (.ref 1), some (.ref 76), some (.int (nI i))] [.int x] u (pm_hp U1) = _
  rw [v0_1431, v0_1432, v0_1433, v0_1434, v0_1435, nI_add, v0_1436 hx (by omega), v0_1437, v0_1438, v0_1439, v0_1440, nI_add, v0_1441 hx (by omega), v0_1442 hu rfl, h2, pm_bd_some]
  show pm_V X 0 1445 [some (.ref 0), some (.ref 1), some (.ref 76), some (.int (nI i))] [.int x, .int x] u (pm_hp U2) = _
  rw [v0_1445, if_pos rfl]
theorem law_32 {X : pm_X} {U : pm_U} {i : Nat} {u : Nat × Nat} (hx : X.1 < 2 ^ 31) (hi : i + 7 ≤ X.1) (hu : u.1 ≤ pm_mc 0 ∧ u.2 ≤ pm_ms 0) (h : Inv U) : ∃ U', Inv U' ∧ pm_V X 0 1450 [some (.ref 0), some (.ref 1), some (.ref 76), some (.int (nI i))] [] u (pm_hp U) = pm_V X 0 1888 [some (.ref 0), some (.ref 1), some (.ref 76), some (.int (nI i))] [] u (pm_hp U') := by
  obtain ⟨v, U1, U2, h1, h2, h3⟩ := ok_changed (X := X) h (X.2 (i + 1)) (X.2 (i + 2)) (X.2 (i + 3)) (X.2 (i + 4))
  obtain ⟨x, rfl⟩ := pm_int h1 (by decide)
  refine ⟨U2, h3, ?_⟩
  rw [v0_1450, v0_1451, v0_1452, v0_1453, v0_1454, nI_add, v0_1455 hx (by omega), v0_1456, v0_1457, v0_1458, v0_1459, nI_add, v0_1460 hx (by omega), v0_1461, v0_1462, v0_1463, v0_1464, nI_add, v0_1465 hx (by omega), v0_1466, v0_1467, v0_1468, v0_1469, nI_add, v0_1470 hx (by omega), v0_1471 hu rfl, h1, pm_bd_some]
  show pm_V X 0 1474 [some (.ref 0), some (.ref 1), some (.ref 76), some (.int (nI i))] [.int x] u (pm_hp U1) = _
  rw [v0_1474, v0_1475, v0_1476, v0_1477, v0_1478, nI_add, v0_1479 hx (by omega), v0_1480, v0_1481, v0_1482, v0_1483, nI_add, v0_1484 hx (by omega), v0_1485, v0_1486, v0_1487, v0_1488, nI_add, v0_1489 hx (by omega), v0_1490, v0_1491, v0_1492, v0_1493, nI_add, v0_1494 hx (by omega), v0_1495 hu rfl, h2, pm_bd_some]
  show pm_V X 0 1498 [some (.ref 0), some (.ref 1), some (.ref 76), some (.int (nI i))] [.int x, .int x] u (pm_hp U2) = _
  rw [v0_1498, if_pos rfl]
theorem law_33 {X : pm_X} {U : pm_U} {i : Nat} {u : Nat × Nat} (hx : X.1 < 2 ^ 31) (hi : i + 7 ≤ X.1) (hu : u.1 ≤ pm_mc 0 ∧ u.2 ≤ pm_ms 0) (h : Inv U) : ∃ U', Inv U' ∧ pm_V X 0 1503 [some (.ref 0), some (.ref 1), some (.ref 76), some (.int (nI i))] [] u (pm_hp U) = pm_V X 0 1888 [some (.ref 0), some (.ref 1), some (.ref 76), some (.int (nI i))] [] u (pm_hp U') := by
  obtain ⟨v, U1, U2, h1, h2, h3⟩ := ok_when (X := X) h (X.2 (i + 1)) (X.2 (i + 2)) (X.2 (i + 3)) (X.2 (i + 4))
  obtain ⟨x, rfl⟩ := pm_int h1 (by decide)
  refine ⟨U2, h3, ?_⟩
  rw [v0_1503, v0_1504, v0_1505, v0_1506, v0_1507, nI_add, v0_1508 hx (by omega), v0_1509, v0_1510, v0_1511, v0_1512, nI_add, v0_1513 hx (by omega), v0_1514, v0_1515, v0_1516, v0_1517, nI_add, v0_1518 hx (by omega), v0_1519, v0_1520, v0_1521, v0_1522, nI_add, v0_1523 hx (by omega), v0_1524 hu rfl, h1, pm_bd_some]
  show pm_V X 0 1527 [some (.ref 0), some (.ref 1), some (.ref 76), some (.int (nI i))] [.int x] u (pm_hp U1) = _
  rw [v0_1527, v0_1528, v0_1529, v0_1530, v0_1531, nI_add, v0_1532 hx (by omega), v0_1533, v0_1534, v0_1535, v0_1536, nI_add, v0_1537 hx (by omega), v0_1538, v0_1539, v0_1540, v0_1541, nI_add, v0_1542 hx (by omega), v0_1543, v0_1544, v0_1545, v0_1546, nI_add, v0_1547 hx (by omega), v0_1548 hu rfl, h2, pm_bd_some]
  show pm_V X 0 1551 [some (.ref 0), some (.ref 1), some (.ref 76), some (.int (nI i))] [.int x, .int x] u (pm_hp U2) = _
  rw [v0_1551, if_pos rfl]
theorem law_34 {X : pm_X} {U : pm_U} {i : Nat} {u : Nat × Nat} (hx : X.1 < 2 ^ 31) (hi : i + 7 ≤ X.1) (hu : u.1 ≤ pm_mc 0 ∧ u.2 ≤ pm_ms 0) (h : Inv U) : ∃ U', Inv U' ∧ pm_V X 0 1556 [some (.ref 0), some (.ref 1), some (.ref 76), some (.int (nI i))] [] u (pm_hp U) = pm_V X 0 1888 [some (.ref 0), some (.ref 1), some (.ref 76), some (.int (nI i))] [] u (pm_hp U') := by
  obtain ⟨v, U1, U2, h1, h2, h3⟩ := ok_joined (X := X) h (X.2 (i + 1)) (X.2 (i + 2)) (X.2 (i + 3)) (X.2 (i + 4))
  obtain ⟨x, rfl⟩ := pm_int h1 (by decide)
  refine ⟨U2, h3, ?_⟩
  rw [v0_1556, v0_1557, v0_1558, v0_1559, v0_1560, nI_add, v0_1561 hx (by omega), v0_1562, v0_1563, v0_1564, v0_1565, nI_add, v0_1566 hx (by omega), v0_1567, v0_1568, v0_1569, v0_1570, nI_add, v0_1571 hx (by omega), v0_1572, v0_1573, v0_1574, v0_1575, nI_add, v0_1576 hx (by omega), v0_1577 hu rfl, h1, pm_bd_some]
  show pm_V X 0 1580 [some (.ref 0), some (.ref 1), some (.ref 76), some (.int (nI i))] [.int x] u (pm_hp U1) = _
  rw [v0_1580, v0_1581, v0_1582, v0_1583, v0_1584, nI_add, v0_1585 hx (by omega), v0_1586, v0_1587, v0_1588, v0_1589, nI_add, v0_1590 hx (by omega), v0_1591, v0_1592, v0_1593, v0_1594, nI_add, v0_1595 hx (by omega), v0_1596, v0_1597, v0_1598, v0_1599, nI_add, v0_1600 hx (by omega), v0_1601 hu rfl, h2, pm_bd_some]
  show pm_V X 0 1604 [some (.ref 0), some (.ref 1), some (.ref 76), some (.int (nI i))] [.int x, .int x] u (pm_hp U2) = _
  rw [v0_1604, if_pos rfl]
theorem law_35 {X : pm_X} {U : pm_U} {i : Nat} {u : Nat × Nat} (hx : X.1 < 2 ^ 31) (hi : i + 7 ≤ X.1) (hu : u.1 ≤ pm_mc 0 ∧ u.2 ≤ pm_ms 0) (h : Inv U) : ∃ U', Inv U' ∧ pm_V X 0 1609 [some (.ref 0), some (.ref 1), some (.ref 76), some (.int (nI i))] [] u (pm_hp U) = pm_V X 0 1888 [some (.ref 0), some (.ref 1), some (.ref 76), some (.int (nI i))] [] u (pm_hp U') := by
  obtain ⟨v, U1, U2, h1, h2, h3⟩ := ok_follows (X := X) h (X.2 (i + 1)) (X.2 (i + 2)) (X.2 (i + 3))
  obtain ⟨x, rfl⟩ := pm_int h1 (by decide)
  refine ⟨U2, h3, ?_⟩
  rw [v0_1609, v0_1610, v0_1611, v0_1612, v0_1613, nI_add, v0_1614 hx (by omega), v0_1615, v0_1616, v0_1617, v0_1618, nI_add, v0_1619 hx (by omega), v0_1620, v0_1621, v0_1622, v0_1623, nI_add, v0_1624 hx (by omega), v0_1625 hu rfl, h1, pm_bd_some]
  show pm_V X 0 1628 [some (.ref 0), some (.ref 1), some (.ref 76), some (.int (nI i))] [.int x] u (pm_hp U1) = _
  rw [v0_1628, v0_1629, v0_1630, v0_1631, v0_1632, nI_add, v0_1633 hx (by omega), v0_1634, v0_1635, v0_1636, v0_1637, nI_add, v0_1638 hx (by omega), v0_1639, v0_1640, v0_1641, v0_1642, nI_add, v0_1643 hx (by omega), v0_1644 hu rfl, h2, pm_bd_some]
  show pm_V X 0 1647 [some (.ref 0), some (.ref 1), some (.ref 76), some (.int (nI i))] [.int x, .int x] u (pm_hp U2) = _
  rw [v0_1647, if_pos rfl]
theorem law_36 {X : pm_X} {U : pm_U} {i : Nat} {u : Nat × Nat} (hx : X.1 < 2 ^ 31) (hi : i + 7 ≤ X.1) (hu : u.1 ≤ pm_mc 0 ∧ u.2 ≤ pm_ms 0) (h : Inv U) : ∃ U', Inv U' ∧ pm_V X 0 1652 [some (.ref 0), some (.ref 1), some (.ref 76), some (.int (nI i))] [] u (pm_hp U) = pm_V X 0 1888 [some (.ref 0), some (.ref 1), some (.ref 76), some (.int (nI i))] [] u (pm_hp U') := by
  obtain ⟨v, U1, U2, h1, h2, h3⟩ := ok_know (X := X) h (X.2 (i + 1)) (X.2 (i + 2))
  obtain ⟨x, rfl⟩ := pm_int h1 (by decide)
  refine ⟨U2, h3, ?_⟩
  rw [v0_1652, v0_1653, v0_1654, v0_1655, v0_1656, nI_add, v0_1657 hx (by omega), v0_1658, v0_1659, v0_1660, v0_1661, nI_add, v0_1662 hx (by omega), v0_1663 hu rfl, h1, pm_bd_some]
  show pm_V X 0 1666 [some (.ref 0), some (.ref 1), some (.ref 76), some (.int (nI i))] [.int x] u (pm_hp U1) = _
  rw [v0_1666, v0_1667, v0_1668, v0_1669, v0_1670, nI_add, v0_1671 hx (by omega), v0_1672, v0_1673, v0_1674, v0_1675, nI_add, v0_1676 hx (by omega), v0_1677 hu rfl, h2, pm_bd_some]
  show pm_V X 0 1680 [some (.ref 0), some (.ref 1), some (.ref 76), some (.int (nI i))] [.int x, .int x] u (pm_hp U2) = _
  rw [v0_1680, if_pos rfl]
theorem law_37 {X : pm_X} {U : pm_U} {i : Nat} {u : Nat × Nat} (hx : X.1 < 2 ^ 31) (hi : i + 7 ≤ X.1) (hu : u.1 ≤ pm_mc 0 ∧ u.2 ≤ pm_ms 0) (h : Inv U) : ∃ U', Inv U' ∧ pm_V X 0 1685 [some (.ref 0), some (.ref 1), some (.ref 76), some (.int (nI i))] [] u (pm_hp U) = pm_V X 0 1888 [some (.ref 0), some (.ref 1), some (.ref 76), some (.int (nI i))] [] u (pm_hp U') := by
  obtain ⟨v, U1, U2, h1, h2, h3⟩ := ok_forget (X := X) h (X.2 (i + 1))
  obtain ⟨x, rfl⟩ := pm_int h1 (by decide)
  refine ⟨U2, h3, ?_⟩
  rw [v0_1685, v0_1686, v0_1687, v0_1688, v0_1689, nI_add, v0_1690 hx (by omega), v0_1691 hu rfl, h1, pm_bd_some]
  show pm_V X 0 1694 [some (.ref 0), some (.ref 1), some (.ref 76), some (.int (nI i))] [.int x] u (pm_hp U1) = _
  rw [v0_1694, v0_1695, v0_1696, v0_1697, v0_1698, nI_add, v0_1699 hx (by omega), v0_1700 hu rfl, h2, pm_bd_some]
  show pm_V X 0 1703 [some (.ref 0), some (.ref 1), some (.ref 76), some (.int (nI i))] [.int x, .int x] u (pm_hp U2) = _
  rw [v0_1703, if_pos rfl]
theorem law_38 {X : pm_X} {U : pm_U} {i : Nat} {u : Nat × Nat} (hx : X.1 < 2 ^ 31) (hi : i + 7 ≤ X.1) (hu : u.1 ≤ pm_mc 0 ∧ u.2 ≤ pm_ms 0) (h : Inv U) : ∃ U', Inv U' ∧ pm_V X 0 1708 [some (.ref 0), some (.ref 1), some (.ref 76), some (.int (nI i))] [] u (pm_hp U) = pm_V X 0 1888 [some (.ref 0), some (.ref 1), some (.ref 76), some (.int (nI i))] [] u (pm_hp U') := by
  obtain ⟨v, U1, U2, h1, h2, h3⟩ := ok_forbids (X := X) h (X.2 (i + 1)) (X.2 (i + 2))
  obtain ⟨x, rfl⟩ := pm_int h1 (by decide)
  refine ⟨U2, h3, ?_⟩
  rw [v0_1708, v0_1709, v0_1710, v0_1711, v0_1712, nI_add, v0_1713 hx (by omega), v0_1714, v0_1715, v0_1716, v0_1717, nI_add, v0_1718 hx (by omega), v0_1719 hu rfl, h1, pm_bd_some]
  show pm_V X 0 1722 [some (.ref 0), some (.ref 1), some (.ref 76), some (.int (nI i))] [.int x] u (pm_hp U1) = _
  rw [v0_1722, v0_1723, v0_1724, v0_1725, v0_1726, nI_add, v0_1727 hx (by omega), v0_1728, v0_1729, v0_1730, v0_1731, nI_add, v0_1732 hx (by omega), v0_1733 hu rfl, h2, pm_bd_some]
  show pm_V X 0 1736 [some (.ref 0), some (.ref 1), some (.ref 76), some (.int (nI i))] [.int x, .int x] u (pm_hp U2) = _
  rw [v0_1736, if_pos rfl]
theorem law_39 {X : pm_X} {U : pm_U} {i : Nat} {u : Nat × Nat} (hx : X.1 < 2 ^ 31) (hi : i + 7 ≤ X.1) (hu : u.1 ≤ pm_mc 0 ∧ u.2 ≤ pm_ms 0) (h : Inv U) : ∃ U', Inv U' ∧ pm_V X 0 1741 [some (.ref 0), some (.ref 1), some (.ref 76), some (.int (nI i))] [] u (pm_hp U) = pm_V X 0 1888 [some (.ref 0), some (.ref 1), some (.ref 76), some (.int (nI i))] [] u (pm_hp U') := by
  obtain ⟨v, U1, U2, h1, h2, h3⟩ := ok_suspects (X := X) h (X.2 (i + 1)) (X.2 (i + 2))
  obtain ⟨x, rfl⟩ := pm_int h1 (by decide)
  refine ⟨U2, h3, ?_⟩
  rw [v0_1741, v0_1742, v0_1743, v0_1744, v0_1745, nI_add, v0_1746 hx (by omega), v0_1747, v0_1748, v0_1749, v0_1750, nI_add, v0_1751 hx (by omega), v0_1752 hu rfl, h1, pm_bd_some]
  show pm_V X 0 1755 [some (.ref 0), some (.ref 1), some (.ref 76), some (.int (nI i))] [.int x] u (pm_hp U1) = _
  rw [v0_1755, v0_1756, v0_1757, v0_1758, v0_1759, nI_add, v0_1760 hx (by omega), v0_1761, v0_1762, v0_1763, v0_1764, nI_add, v0_1765 hx (by omega), v0_1766 hu rfl, h2, pm_bd_some]
  show pm_V X 0 1769 [some (.ref 0), some (.ref 1), some (.ref 76), some (.int (nI i))] [.int x, .int x] u (pm_hp U2) = _
  rw [v0_1769, if_pos rfl]
theorem law_40 {X : pm_X} {U : pm_U} {i : Nat} {u : Nat × Nat} (hx : X.1 < 2 ^ 31) (hi : i + 7 ≤ X.1) (hu : u.1 ≤ pm_mc 0 ∧ u.2 ≤ pm_ms 0) (h : Inv U) : ∃ U', Inv U' ∧ pm_V X 0 1774 [some (.ref 0), some (.ref 1), some (.ref 76), some (.int (nI i))] [] u (pm_hp U) = pm_V X 0 1888 [some (.ref 0), some (.ref 1), some (.ref 76), some (.int (nI i))] [] u (pm_hp U') := by
  obtain ⟨v, U1, U2, h1, h2, h3⟩ := ok_asked (X := X) h 
  obtain ⟨x, rfl⟩ := pm_int h1 (by decide)
  refine ⟨U2, h3, ?_⟩
  rw [v0_1774, v0_1775 hu rfl, h1, pm_bd_some]
  show pm_V X 0 1778 [some (.ref 0), some (.ref 1), some (.ref 76), some (.int (nI i))] [.int x] u (pm_hp U1) = _
  rw [v0_1778, v0_1779 hu rfl, h2, pm_bd_some]
  show pm_V X 0 1782 [some (.ref 0), some (.ref 1), some (.ref 76), some (.int (nI i))] [.int x, .int x] u (pm_hp U2) = _
  rw [v0_1782, if_pos rfl]
theorem law_41 {X : pm_X} {U : pm_U} {i : Nat} {u : Nat × Nat} (hx : X.1 < 2 ^ 31) (hi : i + 7 ≤ X.1) (hu : u.1 ≤ pm_mc 0 ∧ u.2 ≤ pm_ms 0) (h : Inv U) : ∃ U', Inv U' ∧ pm_V X 0 1787 [some (.ref 0), some (.ref 1), some (.ref 76), some (.int (nI i))] [] u (pm_hp U) = pm_V X 0 1888 [some (.ref 0), some (.ref 1), some (.ref 76), some (.int (nI i))] [] u (pm_hp U') := by
  obtain ⟨v, U1, U2, h1, h2, h3⟩ := ok_upper (X := X) h 
  obtain ⟨x, rfl⟩ := pm_lng h1 (by decide)
  refine ⟨U2, h3, ?_⟩
  rw [v0_1787, v0_1788 hu rfl, h1, pm_bd_some]
  show pm_V X 0 1791 [some (.ref 0), some (.ref 1), some (.ref 76), some (.int (nI i))] [.long x] u (pm_hp U1) = _
  rw [v0_1791, v0_1792 hu rfl, h2, pm_bd_some]
  show pm_V X 0 1795 [some (.ref 0), some (.ref 1), some (.ref 76), some (.int (nI i))] [.long x, .long x] u (pm_hp U2) = _
  rw [v0_1795, v0_1796, lg_self, if_pos rfl]
theorem law_42 {X : pm_X} {U : pm_U} {i : Nat} {u : Nat × Nat} (hx : X.1 < 2 ^ 31) (hi : i + 7 ≤ X.1) (hu : u.1 ≤ pm_mc 0 ∧ u.2 ≤ pm_ms 0) (h : Inv U) : ∃ U', Inv U' ∧ pm_V X 0 1801 [some (.ref 0), some (.ref 1), some (.ref 76), some (.int (nI i))] [] u (pm_hp U) = pm_V X 0 1888 [some (.ref 0), some (.ref 1), some (.ref 76), some (.int (nI i))] [] u (pm_hp U') := by
  obtain ⟨v, U1, U2, h1, h2, h3⟩ := ok_lower (X := X) h 
  obtain ⟨x, rfl⟩ := pm_lng h1 (by decide)
  refine ⟨U2, h3, ?_⟩
  rw [v0_1801, v0_1802 hu rfl, h1, pm_bd_some]
  show pm_V X 0 1805 [some (.ref 0), some (.ref 1), some (.ref 76), some (.int (nI i))] [.long x] u (pm_hp U1) = _
  rw [v0_1805, v0_1806 hu rfl, h2, pm_bd_some]
  show pm_V X 0 1809 [some (.ref 0), some (.ref 1), some (.ref 76), some (.int (nI i))] [.long x, .long x] u (pm_hp U2) = _
  rw [v0_1809, v0_1810, lg_self, if_pos rfl]
theorem law_43 {X : pm_X} {U : pm_U} {i : Nat} {u : Nat × Nat} (hx : X.1 < 2 ^ 31) (hi : i + 7 ≤ X.1) (hu : u.1 ≤ pm_mc 0 ∧ u.2 ≤ pm_ms 0) (h : Inv U) : ∃ U', Inv U' ∧ pm_V X 0 1815 [some (.ref 0), some (.ref 1), some (.ref 76), some (.int (nI i))] [] u (pm_hp U) = pm_V X 0 1888 [some (.ref 0), some (.ref 1), some (.ref 76), some (.int (nI i))] [] u (pm_hp U') := by
  obtain ⟨v, U1, U2, h1, h2, h3⟩ := ok_count (X := X) h (X.2 (i + 1))
  obtain ⟨x, rfl⟩ := pm_int h1 (by decide)
  refine ⟨U2, h3, ?_⟩
  rw [v0_1815, v0_1816, v0_1817, v0_1818, v0_1819, nI_add, v0_1820 hx (by omega), v0_1821 hu rfl, h1, pm_bd_some]
  show pm_V X 0 1824 [some (.ref 0), some (.ref 1), some (.ref 76), some (.int (nI i))] [.int x] u (pm_hp U1) = _
  rw [v0_1824, v0_1825, v0_1826, v0_1827, v0_1828, nI_add, v0_1829 hx (by omega), v0_1830 hu rfl, h2, pm_bd_some]
  show pm_V X 0 1833 [some (.ref 0), some (.ref 1), some (.ref 76), some (.int (nI i))] [.int x, .int x] u (pm_hp U2) = _
  rw [v0_1833, if_pos rfl]
theorem law_44 {X : pm_X} {U : pm_U} {i : Nat} {u : Nat × Nat} (hx : X.1 < 2 ^ 31) (hi : i + 7 ≤ X.1) (hu : u.1 ≤ pm_mc 0 ∧ u.2 ≤ pm_ms 0) (h : Inv U) : ∃ U', Inv U' ∧ pm_V X 0 1838 [some (.ref 0), some (.ref 1), some (.ref 76), some (.int (nI i))] [] u (pm_hp U) = pm_V X 0 1888 [some (.ref 0), some (.ref 1), some (.ref 76), some (.int (nI i))] [] u (pm_hp U') := by
  obtain ⟨v, U1, U2, h1, h2, h3⟩ := ok_finding (X := X) h 
  obtain ⟨x, rfl⟩ := pm_int h1 (by decide)
  refine ⟨U2, h3, ?_⟩
  rw [v0_1838, v0_1839 hu rfl, h1, pm_bd_some]
  show pm_V X 0 1842 [some (.ref 0), some (.ref 1), some (.ref 76), some (.int (nI i))] [.int x] u (pm_hp U1) = _
  rw [v0_1842, v0_1843 hu rfl, h2, pm_bd_some]
  show pm_V X 0 1846 [some (.ref 0), some (.ref 1), some (.ref 76), some (.int (nI i))] [.int x, .int x] u (pm_hp U2) = _
  rw [v0_1846, if_pos rfl]
theorem law_45 {X : pm_X} {U : pm_U} {i : Nat} {u : Nat × Nat} (hx : X.1 < 2 ^ 31) (hi : i + 7 ≤ X.1) (hu : u.1 ≤ pm_mc 0 ∧ u.2 ≤ pm_ms 0) (h : Inv U) : ∃ U', Inv U' ∧ pm_V X 0 1851 [some (.ref 0), some (.ref 1), some (.ref 76), some (.int (nI i))] [] u (pm_hp U) = pm_V X 0 1888 [some (.ref 0), some (.ref 1), some (.ref 76), some (.int (nI i))] [] u (pm_hp U') := by
  obtain ⟨v, U1, U2, h1, h2, h3⟩ := ok_findings (X := X) h (X.2 (i + 1))
  obtain ⟨x, rfl⟩ := pm_int h1 (by decide)
  refine ⟨U2, h3, ?_⟩
  rw [v0_1851, v0_1852, v0_1853, v0_1854, v0_1855, nI_add, v0_1856 hx (by omega), v0_1857 hu rfl, h1, pm_bd_some]
  show pm_V X 0 1860 [some (.ref 0), some (.ref 1), some (.ref 76), some (.int (nI i))] [.int x] u (pm_hp U1) = _
  rw [v0_1860, v0_1861, v0_1862, v0_1863, v0_1864, nI_add, v0_1865 hx (by omega), v0_1866 hu rfl, h2, pm_bd_some]
  show pm_V X 0 1869 [some (.ref 0), some (.ref 1), some (.ref 76), some (.int (nI i))] [.int x, .int x] u (pm_hp U2) = _
  rw [v0_1869, if_pos rfl]
theorem law_46 {X : pm_X} {U : pm_U} {i : Nat} {u : Nat × Nat} (hx : X.1 < 2 ^ 31) (hi : i + 7 ≤ X.1) (hu : u.1 ≤ pm_mc 0 ∧ u.2 ≤ pm_ms 0) (h : Inv U) : ∃ U', Inv U' ∧ pm_V X 0 1874 [some (.ref 0), some (.ref 1), some (.ref 76), some (.int (nI i))] [] u (pm_hp U) = pm_V X 0 1888 [some (.ref 0), some (.ref 1), some (.ref 76), some (.int (nI i))] [] u (pm_hp U') := by
  obtain ⟨v, U1, U2, h1, h2, h3⟩ := ok_digest (X := X) h 
  obtain ⟨x, rfl⟩ := pm_lng h1 (by decide)
  refine ⟨U2, h3, ?_⟩
  rw [v0_1874, v0_1875 hu rfl, h1, pm_bd_some]
  show pm_V X 0 1878 [some (.ref 0), some (.ref 1), some (.ref 76), some (.int (nI i))] [.long x] u (pm_hp U1) = _
  rw [v0_1878, v0_1879 hu rfl, h2, pm_bd_some]
  show pm_V X 0 1882 [some (.ref 0), some (.ref 1), some (.ref 76), some (.int (nI i))] [.long x, .long x] u (pm_hp U2) = _
  rw [v0_1882, v0_1883, lg_self, if_pos rfl]
theorem law_head {X : pm_X} {i : Nat} {u : Nat × Nat} {H : pm_H} (hx : X.1 ≤ 3584) (hi : i ≤ 4000) (hu : u.1 ≤ pm_mc 0 ∧ u.2 ≤ pm_ms 0) : pm_V X 0 18 [some (.ref 0), some (.ref 1), some (.ref 76), some (.int (nI i))] [] u H = if X.1 < i + 7 then some (some (.int 1), H) else pm_V X 0 33 [some (.ref 0), some (.ref 1), some (.ref 76), some (.int (nI i))] [.int (X.2 i &&& nI 63)] u H := by
  rw [v0_18, v0_19, v0_20, v0_21, v0_23, v0_24]
  by_cases h : X.1 < i + 7
  · rw [if_pos ((law_lt hx hi).mpr h), if_pos h, v0_1894, v0_1895 (Or.inr (by decide)) hu]
    rfl
  · rw [if_neg (fun q => h ((law_lt hx hi).mp q)), if_neg h, v0_27, v0_28, v0_29 (by omega) (by omega), v0_30, v0_32]
theorem law_step {X : pm_X} {U : pm_U} {i : Nat} {u : Nat × Nat} {s : Int32} (hx : X.1 < 2 ^ 31) (hi : i + 7 ≤ X.1) (hu : u.1 ≤ pm_mc 0 ∧ u.2 ≤ pm_ms 0) (h : Inv U) : ∃ U', Inv U' ∧ pm_V X 0 33 [some (.ref 0), some (.ref 1), some (.ref 76), some (.int (nI i))] [.int s] u (pm_hp U) = pm_V X 0 1888 [some (.ref 0), some (.ref 1), some (.ref 76), some (.int (nI i))] [] u (pm_hp U') := by
  rcases nI_case (a := s) (N := 47) (by omega) with h0 | ⟨r, hr, rfl⟩
  · refine ⟨U, h, v0_33_d ?_⟩
    rw [Int32.le_iff_toInt_le, Int32.lt_iff_toInt_lt, nI_toInt (by omega)] at h0
    have e0 : (0 : Int32).toInt = 0 := rfl
    rw [e0] at h0
    omega
  · rcases Nat.lt_or_ge r 23 with hr23 | hr23
    · rcases Nat.lt_or_ge r 11 with hr11 | hr11
      · rcases Nat.lt_or_ge r 5 with hr5 | hr5
        · rcases Nat.lt_or_ge r 2 with hr2 | hr2
          · rcases Nat.lt_or_ge r 1 with hr1 | hr1
            · have : r = 0 := by omega
              subst this
              rw [v0_33_0]
              exact law_0 hx hi hu h
            · have : r = 1 := by omega
              subst this
              rw [v0_33_1]
              exact law_1 hx hi hu h
          · rcases Nat.lt_or_ge r 3 with hr3 | hr3
            · have : r = 2 := by omega
              subst this
              rw [v0_33_2]
              exact law_2 hx hi hu h
            · rcases Nat.lt_or_ge r 4 with hr4 | hr4
              · have : r = 3 := by omega
                subst this
                rw [v0_33_3]
                exact law_3 hx hi hu h
              · have : r = 4 := by omega
                subst this
                rw [v0_33_4]
                exact law_4 hx hi hu h
        · rcases Nat.lt_or_ge r 8 with hr8 | hr8
          · rcases Nat.lt_or_ge r 6 with hr6 | hr6
            · have : r = 5 := by omega
              subst this
              rw [v0_33_5]
              exact law_5 hx hi hu h
            · rcases Nat.lt_or_ge r 7 with hr7 | hr7
              · have : r = 6 := by omega
                subst this
                rw [v0_33_6]
                exact law_6 hx hi hu h
              · have : r = 7 := by omega
                subst this
                rw [v0_33_7]
                exact law_7 hx hi hu h
          · rcases Nat.lt_or_ge r 9 with hr9 | hr9
            · have : r = 8 := by omega
              subst this
              rw [v0_33_8]
              exact law_8 hx hi hu h
            · rcases Nat.lt_or_ge r 10 with hr10 | hr10
              · have : r = 9 := by omega
                subst this
                rw [v0_33_9]
                exact law_9 hx hi hu h
              · have : r = 10 := by omega
                subst this
                rw [v0_33_10]
                exact law_10 hx hi hu h
      · rcases Nat.lt_or_ge r 17 with hr17 | hr17
        · rcases Nat.lt_or_ge r 14 with hr14 | hr14
          · rcases Nat.lt_or_ge r 12 with hr12 | hr12
            · have : r = 11 := by omega
              subst this
              rw [v0_33_11]
              exact law_11 hx hi hu h
            · rcases Nat.lt_or_ge r 13 with hr13 | hr13
              · have : r = 12 := by omega
                subst this
                rw [v0_33_12]
                exact law_12 hx hi hu h
              · have : r = 13 := by omega
                subst this
                rw [v0_33_13]
                exact law_13 hx hi hu h
          · rcases Nat.lt_or_ge r 15 with hr15 | hr15
            · have : r = 14 := by omega
              subst this
              rw [v0_33_14]
              exact law_14 hx hi hu h
            · rcases Nat.lt_or_ge r 16 with hr16 | hr16
              · have : r = 15 := by omega
                subst this
                rw [v0_33_15]
                exact law_15 hx hi hu h
              · have : r = 16 := by omega
                subst this
                rw [v0_33_16]
                exact law_16 hx hi hu h
        · rcases Nat.lt_or_ge r 20 with hr20 | hr20
          · rcases Nat.lt_or_ge r 18 with hr18 | hr18
            · have : r = 17 := by omega
              subst this
              rw [v0_33_17]
              exact law_17 hx hi hu h
            · rcases Nat.lt_or_ge r 19 with hr19 | hr19
              · have : r = 18 := by omega
                subst this
                rw [v0_33_18]
                exact law_18 hx hi hu h
              · have : r = 19 := by omega
                subst this
                rw [v0_33_19]
                exact law_19 hx hi hu h
          · rcases Nat.lt_or_ge r 21 with hr21 | hr21
            · have : r = 20 := by omega
              subst this
              rw [v0_33_20]
              exact law_20 hx hi hu h
            · rcases Nat.lt_or_ge r 22 with hr22 | hr22
              · have : r = 21 := by omega
                subst this
                rw [v0_33_21]
                exact law_21 hx hi hu h
              · have : r = 22 := by omega
                subst this
                rw [v0_33_22]
                exact law_22 hx hi hu h
    · rcases Nat.lt_or_ge r 35 with hr35 | hr35
      · rcases Nat.lt_or_ge r 29 with hr29 | hr29
        · rcases Nat.lt_or_ge r 26 with hr26 | hr26
          · rcases Nat.lt_or_ge r 24 with hr24 | hr24
            · have : r = 23 := by omega
              subst this
              rw [v0_33_23]
              exact law_23 hx hi hu h
            · rcases Nat.lt_or_ge r 25 with hr25 | hr25
              · have : r = 24 := by omega
                subst this
                rw [v0_33_24]
                exact law_24 hx hi hu h
              · have : r = 25 := by omega
                subst this
                rw [v0_33_25]
                exact law_25 hx hi hu h
          · rcases Nat.lt_or_ge r 27 with hr27 | hr27
            · have : r = 26 := by omega
              subst this
              rw [v0_33_26]
              exact law_26 hx hi hu h
            · rcases Nat.lt_or_ge r 28 with hr28 | hr28
              · have : r = 27 := by omega
                subst this
                rw [v0_33_27]
                exact law_27 hx hi hu h
              · have : r = 28 := by omega
                subst this
                rw [v0_33_28]
                exact law_28 hx hi hu h
        · rcases Nat.lt_or_ge r 32 with hr32 | hr32
          · rcases Nat.lt_or_ge r 30 with hr30 | hr30
            · have : r = 29 := by omega
              subst this
              rw [v0_33_29]
              exact law_29 hx hi hu h
            · rcases Nat.lt_or_ge r 31 with hr31 | hr31
              · have : r = 30 := by omega
                subst this
                rw [v0_33_30]
                exact law_30 hx hi hu h
              · have : r = 31 := by omega
                subst this
                rw [v0_33_31]
                exact law_31 hx hi hu h
          · rcases Nat.lt_or_ge r 33 with hr33 | hr33
            · have : r = 32 := by omega
              subst this
              rw [v0_33_32]
              exact law_32 hx hi hu h
            · rcases Nat.lt_or_ge r 34 with hr34 | hr34
              · have : r = 33 := by omega
                subst this
                rw [v0_33_33]
                exact law_33 hx hi hu h
              · have : r = 34 := by omega
                subst this
                rw [v0_33_34]
                exact law_34 hx hi hu h
      · rcases Nat.lt_or_ge r 41 with hr41 | hr41
        · rcases Nat.lt_or_ge r 38 with hr38 | hr38
          · rcases Nat.lt_or_ge r 36 with hr36 | hr36
            · have : r = 35 := by omega
              subst this
              rw [v0_33_35]
              exact law_35 hx hi hu h
            · rcases Nat.lt_or_ge r 37 with hr37 | hr37
              · have : r = 36 := by omega
                subst this
                rw [v0_33_36]
                exact law_36 hx hi hu h
              · have : r = 37 := by omega
                subst this
                rw [v0_33_37]
                exact law_37 hx hi hu h
          · rcases Nat.lt_or_ge r 39 with hr39 | hr39
            · have : r = 38 := by omega
              subst this
              rw [v0_33_38]
              exact law_38 hx hi hu h
            · rcases Nat.lt_or_ge r 40 with hr40 | hr40
              · have : r = 39 := by omega
                subst this
                rw [v0_33_39]
                exact law_39 hx hi hu h
              · have : r = 40 := by omega
                subst this
                rw [v0_33_40]
                exact law_40 hx hi hu h
        · rcases Nat.lt_or_ge r 44 with hr44 | hr44
          · rcases Nat.lt_or_ge r 42 with hr42 | hr42
            · have : r = 41 := by omega
              subst this
              rw [v0_33_41]
              exact law_41 hx hi hu h
            · rcases Nat.lt_or_ge r 43 with hr43 | hr43
              · have : r = 42 := by omega
                subst this
                rw [v0_33_42]
                exact law_42 hx hi hu h
              · have : r = 43 := by omega
                subst this
                rw [v0_33_43]
                exact law_43 hx hi hu h
          · rcases Nat.lt_or_ge r 45 with hr45 | hr45
            · have : r = 44 := by omega
              subst this
              rw [v0_33_44]
              exact law_44 hx hi hu h
            · rcases Nat.lt_or_ge r 46 with hr46 | hr46
              · have : r = 45 := by omega
                subst this
                rw [v0_33_45]
                exact law_45 hx hi hu h
              · have : r = 46 := by omega
                subst this
                rw [v0_33_46]
                exact law_46 hx hi hu h
theorem law_loop {X : pm_X} {u : Nat × Nat} (hx : X.1 ≤ 3584) (hu : u.1 ≤ pm_mc 0 ∧ u.2 ≤ pm_ms 0) : ∀ (c i : Nat) (U : pm_U), Inv U → i ≤ 4000 → X.1 < i + c → ∃ H', pm_V X 0 18 [some (.ref 0), some (.ref 1), some (.ref 76), some (.int (nI i))] [] u (pm_hp U) = some (some (.int 1), H') := by
  intro c
  induction c with
  | zero =>
    intro i U h hi hc
    rw [law_head hx hi hu, if_pos (by omega)]
    exact ⟨_, rfl⟩
  | succ c ih =>
    intro i U h hi hc
    rw [law_head hx hi hu]
    by_cases h7 : X.1 < i + 7
    · rw [if_pos h7]
      exact ⟨_, rfl⟩
    · rw [if_neg h7]
      obtain ⟨U', h1, h2⟩ := law_step (X := X) (i := i) (u := u) (s := X.2 i &&& nI 63) (by omega) (by omega) hu h
      rw [h2, v0_1888, nI_add, v0_1891]
      exact ih (i + 7) U' h1 (by omega) (by omega)
theorem pm_goal : pm_Goal := by
  intro X hX
  obtain ⟨H', h⟩ := law_loop (X := X) (u := (702, 40067)) hX (by decide +kernel) 4000 0 U0 inv0 (by omega) (by omega)
  have e : pm_V0 X 0 [.ref 0] pm_H0 = some (some (.int 1), H') := by rw [pm_first', h]
  obtain ⟨n, hn⟩ := pm_V_to (show pm_V X 0 0 (pm_in [.ref 0] (pm_ml 0)) [] (0, 0) pm_H0 = some (some (.int 1), H') from e)
  exact ⟨n, H', hn⟩
