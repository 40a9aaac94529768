/-! the reference in any state: signs -/
