/-! the reference: signs read, exactly -/
