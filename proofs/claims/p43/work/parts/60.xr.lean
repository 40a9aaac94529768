/-! signs told: exactly -/
