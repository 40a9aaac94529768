/-! the law: its own methods, told and untold -/
