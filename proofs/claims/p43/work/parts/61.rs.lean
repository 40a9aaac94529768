/-! the reference: signs told, exactly -/
