/-! the reference in any state: rows -/
