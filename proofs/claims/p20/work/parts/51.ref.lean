/-! the reference in any state: the parser -/
